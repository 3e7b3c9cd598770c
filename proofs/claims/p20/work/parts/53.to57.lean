-- part 53
section
noncomputable section
def mF (f a b c k : Int) : Prop := (c = 275 ∧ k = f) ∨ (a ≤ c ∧ c ≤ b)
def mF2 (f c1 c2 c k : Int) : Prop := (c = 275 ∧ k = f) ∨ c = c1 ∨ c = c2
def mTape (c k : Int) : Prop := (c = 275 ∧ k = 9) ∨ c = 281
theorem mT_hi {S : Int → Int → Prop} {w w' : eW} (hS : ∀ c k, S c k → mTy c k = (1, 0)) (f : e_fr S w w') (h : e_Has mTy w) : e_Has mTy w' := h.fr hS f
theorem hT_lo {S : Int → Int → Prop} {w w' : eW} (hS : ∀ c k, S c k → hTy c k = (1, 0)) (f : e_fr S w w') (h : e_Has hTy w) : e_Has hTy w' := h.fr hS f
theorem c_271 {d : Nat} (hd : 22 ≤ d) {w : eW} (hT : e_Has mTy w) {a j : Int} : e_Ok 20 elay ecode eI d 271 (0, [(0, (1, 275)), (1, (0, a)), (2, (0, j))], [], w) (fun r w' => ∃ z : Int, r = [(0, z)] ∧ w = w' ∧ ((z = 1 ∧ (0 ≤ a ∧ a < w 275 10) ∧ 0 ≤ j ∧ j < w 286 a) ∨ (z = 0 ∧ True))) := by
  obtain ⟨d, rfl⟩ : ∃ e, d = e + 1 := ⟨d - 1, by omega⟩
  refine e_Ok.run (t' := (2, [(0, (1, 275)), (1, (0, a)), (2, (0, j))], [(0, a), (1, 275)], w)) 2 rfl ?_
  refine e_Ok.callV rfl (by first | exact e_dq hd rfl | omega) rfl rfl rfl rfl (c_270 (by first | exact e_dq hd rfl | omega) hT) (fun r1 w2 h3 => ?_)
  have h4 := e_Has.get hT (c := 275) (k := 10) (lo := 0) (hi := 4) rfl (by decide)
  obtain ⟨z5, rfl, rfl, q6⟩ := h3
  obtain ⟨rfl, q6⟩ | ⟨rfl, q6⟩ := q6
  · show e_Ok 20 elay ecode eI (d + 1) 271 (5, [(0, (1, 275)), (1, (0, a)), (2, (0, j))], [(0, 1)], w) _
    refine e_Ok.if1 rfl (fun h7 => ?_) (fun h7 => ?_)
    · replace h7 : (1 : Int) = 0 := h7
      exfalso; omega
    · replace h7 : (1 : Int) ≠ 0 := (show ¬ ((1 : Int) = 0) from h7)
      refine e_Ok.run (t' := (12, [(0, (1, 275)), (1, (0, a)), (2, (0, j))], [(1, 275), (4, 0), (4, j)], w)) 4 rfl ?_
      refine e_Ok.getr (z := 286) rfl (el_o rfl) rfl rfl (e_Has.eq hT rfl) ⟨by decide, by decide⟩ ?_
      refine e_Ok.run (t' := (16, [(0, (1, 275)), (1, (0, a)), (2, (0, j))], [(0, a), (1, 286), (4, 0), (4, j)], w)) 1 rfl ?_
      have h8 := (e_Has.get hT (c := 286) (k := a) (lo := 0) (hi := 6) rfl (by decide))
      refine e_Ok.ald (z := w 286 a) rfl (el_o rfl) rfl (by omega) rfl (by first | exact e_bq h8 (by decide) (by decide) | omega) ?_
      refine e_Ok.run (t' := (18, [(0, (1, 275)), (1, (0, a)), (2, (0, j))], [(0, 1), (0, w 286 a), (4, 0), (4, j)], w)) 1 rfl ?_
      refine e_Ok.sub' (z := w 286 a - 1) rfl (by first | with_reducible rfl | exact Int.add_comm _ _ | omega) (by omega) ?_
      refine e_Ok.run (t' := (20, [(0, (1, 275)), (1, (0, a)), (2, (0, j))], [(4, w 286 a - 1), (4, 0), (4, j)], w)) 1 rfl ?_
      refine e_Ok.callS rfl (by first | exact e_dq hd rfl | omega) rfl rfl (c_266) (fun r9 w10 h11 => ?_)
      obtain ⟨z12, rfl, rfl, q13⟩ := h11
      obtain ⟨rfl, q13⟩ | ⟨rfl, q13⟩ := q13
      · show e_Ok 20 elay ecode eI (d + 1) 271 (23, [(0, (1, 275)), (1, (0, a)), (2, (0, j))], [(0, 1)], w) _
        refine e_Ok.if1 rfl (fun h14 => ?_) (fun h14 => ?_)
        · replace h14 : (1 : Int) = 0 := h14
          exfalso; omega
        · replace h14 : (1 : Int) ≠ 0 := (show ¬ ((1 : Int) = 0) from h14)
          refine e_Ok.run (t' := (31, [(0, (1, 275)), (1, (0, a)), (2, (0, j))], [(0, 1)], w)) 2 rfl ?_
          refine e_Ok.rets rfl rfl ?_
          exact ⟨_, rfl, rfl, Or.inl ⟨rfl, by omega, by omega⟩⟩
      · show e_Ok 20 elay ecode eI (d + 1) 271 (23, [(0, (1, 275)), (1, (0, a)), (2, (0, j))], [(0, 0)], w) _
        refine e_Ok.if1 rfl (fun h15 => ?_) (fun h15 => ?_)
        · replace h15 : (0 : Int) = 0 := h15
          refine e_Ok.run (t' := (31, [(0, (1, 275)), (1, (0, a)), (2, (0, j))], [(0, 0)], w)) 1 rfl ?_
          refine e_Ok.rets rfl rfl ?_
          exact ⟨_, rfl, rfl, Or.inr ⟨rfl, trivial⟩⟩
        · replace h15 : (0 : Int) ≠ 0 := (show ¬ ((0 : Int) = 0) from h15)
          exfalso; omega
  · show e_Ok 20 elay ecode eI (d + 1) 271 (5, [(0, (1, 275)), (1, (0, a)), (2, (0, j))], [(0, 0)], w) _
    refine e_Ok.if1 rfl (fun h16 => ?_) (fun h16 => ?_)
    · replace h16 : (0 : Int) = 0 := h16
      refine e_Ok.run (t' := (31, [(0, (1, 275)), (1, (0, a)), (2, (0, j))], [(0, 0)], w)) 1 rfl ?_
      refine e_Ok.rets rfl rfl ?_
      exact ⟨_, rfl, rfl, Or.inr ⟨rfl, trivial⟩⟩
    · replace h16 : (0 : Int) ≠ 0 := (show ¬ ((0 : Int) = 0) from h16)
      exfalso; omega
theorem c_272 {d : Nat} (hd : 21 ≤ d) {w : eW} {x y : Int} : e_Ok 20 elay ecode eI d 272 (0, [(0, (0, x)), (1, (0, y))], [], w) (fun r w' => ∃ z : Int, r = [(0, z)] ∧ w = w' ∧ ((z = 1 ∧ (-16000 ≤ x ∧ x ≤ 16000) ∧ -16000 ≤ y ∧ y ≤ 16000) ∨ (z = 0 ∧ True))) := by
  obtain ⟨d, rfl⟩ : ∃ e, d = e + 1 := ⟨d - 1, by omega⟩
  refine e_Ok.run (t' := (8, [(0, (0, x)), (1, (0, y))], [(4, 16000), (4, (-16000)), (4, x)], w)) 4 rfl ?_
  refine e_Ok.callS rfl (by first | exact e_dq hd rfl | omega) rfl rfl (c_266) (fun r1 w2 h3 => ?_)
  obtain ⟨z4, rfl, rfl, q5⟩ := h3
  obtain ⟨rfl, q5⟩ | ⟨rfl, q5⟩ := q5
  · show e_Ok 20 elay ecode eI (d + 1) 272 (11, [(0, (0, x)), (1, (0, y))], [(0, 1)], w) _
    refine e_Ok.if1 rfl (fun h6 => ?_) (fun h6 => ?_)
    · replace h6 : (1 : Int) = 0 := h6
      exfalso; omega
    · replace h6 : (1 : Int) ≠ 0 := (show ¬ ((1 : Int) = 0) from h6)
      refine e_Ok.run (t' := (22, [(0, (0, x)), (1, (0, y))], [(4, 16000), (4, (-16000)), (4, y)], w)) 4 rfl ?_
      refine e_Ok.callS rfl (by first | exact e_dq hd rfl | omega) rfl rfl (c_266) (fun r7 w8 h9 => ?_)
      obtain ⟨z10, rfl, rfl, q11⟩ := h9
      obtain ⟨rfl, q11⟩ | ⟨rfl, q11⟩ := q11
      · show e_Ok 20 elay ecode eI (d + 1) 272 (25, [(0, (0, x)), (1, (0, y))], [(0, 1)], w) _
        refine e_Ok.if1 rfl (fun h12 => ?_) (fun h12 => ?_)
        · replace h12 : (1 : Int) = 0 := h12
          exfalso; omega
        · replace h12 : (1 : Int) ≠ 0 := (show ¬ ((1 : Int) = 0) from h12)
          refine e_Ok.run (t' := (33, [(0, (0, x)), (1, (0, y))], [(0, 1)], w)) 2 rfl ?_
          refine e_Ok.rets rfl rfl ?_
          exact ⟨_, rfl, rfl, Or.inl ⟨rfl, by omega, by omega⟩⟩
      · show e_Ok 20 elay ecode eI (d + 1) 272 (25, [(0, (0, x)), (1, (0, y))], [(0, 0)], w) _
        refine e_Ok.if1 rfl (fun h13 => ?_) (fun h13 => ?_)
        · replace h13 : (0 : Int) = 0 := h13
          refine e_Ok.run (t' := (33, [(0, (0, x)), (1, (0, y))], [(0, 0)], w)) 1 rfl ?_
          refine e_Ok.rets rfl rfl ?_
          exact ⟨_, rfl, rfl, Or.inr ⟨rfl, trivial⟩⟩
        · replace h13 : (0 : Int) ≠ 0 := (show ¬ ((0 : Int) = 0) from h13)
          exfalso; omega
  · show e_Ok 20 elay ecode eI (d + 1) 272 (11, [(0, (0, x)), (1, (0, y))], [(0, 0)], w) _
    refine e_Ok.if1 rfl (fun h14 => ?_) (fun h14 => ?_)
    · replace h14 : (0 : Int) = 0 := h14
      refine e_Ok.run (t' := (33, [(0, (0, x)), (1, (0, y))], [(0, 0)], w)) 1 rfl ?_
      refine e_Ok.rets rfl rfl ?_
      exact ⟨_, rfl, rfl, Or.inr ⟨rfl, trivial⟩⟩
    · replace h14 : (0 : Int) ≠ 0 := (show ¬ ((0 : Int) = 0) from h14)
      exfalso; omega
theorem c_273 {d : Nat} (hd : 22 ≤ d) {w : eW} {x y u v : Int} (hu : -2147483648 ≤ u ∧ u ≤ 2147483647) (hv : -2147483648 ≤ v ∧ v ≤ 2147483647) : e_Ok 20 elay ecode eI d 273 (0, [(0, (0, x)), (1, (0, y)), (2, (0, u)), (3, (0, v))], [], w) (fun r w' => ∃ z : Int, r = [(0, z)] ∧ w = w' ∧ ((z = 1 ∧ (-16000 ≤ x ∧ x ≤ 16000) ∧ (-16000 ≤ y ∧ y ≤ 16000) ∧ (0 ≤ u ∧ u ≤ 32000) ∧ 0 ≤ v ∧ v ≤ 32000) ∨ (z = 0 ∧ True))) := by
  obtain ⟨d, rfl⟩ : ∃ e, d = e + 1 := ⟨d - 1, by omega⟩
  refine e_Ok.run (t' := (2, [(0, (0, x)), (1, (0, y)), (2, (0, u)), (3, (0, v))], [(0, y), (0, x)], w)) 2 rfl ?_
  refine e_Ok.callS rfl (by first | exact e_dq hd rfl | omega) rfl rfl (c_272 (by first | exact e_dq hd rfl | omega)) (fun r1 w2 h3 => ?_)
  obtain ⟨z4, rfl, rfl, q5⟩ := h3
  obtain ⟨rfl, q5⟩ | ⟨rfl, q5⟩ := q5
  · show e_Ok 20 elay ecode eI (d + 1) 273 (5, [(0, (0, x)), (1, (0, y)), (2, (0, u)), (3, (0, v))], [(0, 1)], w) _
    refine e_Ok.if1 rfl (fun h6 => ?_) (fun h6 => ?_)
    · replace h6 : (1 : Int) = 0 := h6
      exfalso; omega
    · replace h6 : (1 : Int) ≠ 0 := (show ¬ ((1 : Int) = 0) from h6)
      refine e_Ok.run (t' := (9, [(0, (0, x)), (1, (0, y)), (2, (0, u)), (3, (0, v))], [(0, u)], w)) 1 rfl ?_
      refine e_Ok.if1 rfl (fun h7 => ?_) (fun h7 => ?_)
      · replace h7 : (u : Int) < 0 := h7
        refine e_Ok.run (t' := (45, [(0, (0, x)), (1, (0, y)), (2, (0, u)), (3, (0, v))], [(0, 0)], w)) 1 rfl ?_
        refine e_Ok.rets rfl rfl ?_
        exact ⟨_, rfl, rfl, Or.inr ⟨rfl, trivial⟩⟩
      · replace h7 : (u : Int) ≥ 0 := Int.not_lt.mp (show ¬ ((u : Int) < 0) from h7)
        refine e_Ok.run (t' := (13, [(0, (0, x)), (1, (0, y)), (2, (0, u)), (3, (0, v))], [(0, v)], w)) 1 rfl ?_
        refine e_Ok.if1 rfl (fun h8 => ?_) (fun h8 => ?_)
        · replace h8 : (v : Int) < 0 := h8
          refine e_Ok.run (t' := (45, [(0, (0, x)), (1, (0, y)), (2, (0, u)), (3, (0, v))], [(0, 0)], w)) 1 rfl ?_
          refine e_Ok.rets rfl rfl ?_
          exact ⟨_, rfl, rfl, Or.inr ⟨rfl, trivial⟩⟩
        · replace h8 : (v : Int) ≥ 0 := Int.not_lt.mp (show ¬ ((v : Int) < 0) from h8)
          refine e_Ok.run (t' := (20, [(0, (0, x)), (1, (0, y)), (2, (0, u)), (3, (0, v))], [(4, u), (4, x)], w)) 4 rfl ?_
          refine e_Ok.addL (z := x + u) rfl (by first | with_reducible rfl | exact Int.add_comm _ _ | omega) (by omega) ?_
          refine e_Ok.run (t' := (24, [(0, (0, x)), (1, (0, y)), (2, (0, u)), (3, (0, v))], [(4, 16000), (4, x + u)], w)) 1 rfl ?_
          refine e_Ok.lcmp rfl (fun z10 z10a z10b z10c => ?_)
          refine e_Ok.if1 rfl (fun h11 => ?_) (fun h11 => ?_)
          · replace h11 : (z10 : Int) > 0 := h11
            refine e_Ok.run (t' := (45, [(0, (0, x)), (1, (0, y)), (2, (0, u)), (3, (0, v))], [(0, 0)], w)) 1 rfl ?_
            refine e_Ok.rets rfl rfl ?_
            exact ⟨_, rfl, rfl, Or.inr ⟨rfl, trivial⟩⟩
          · replace h11 : (z10 : Int) ≤ 0 := Int.not_lt.mp (show ¬ ((z10 : Int) > 0) from h11)
            refine e_Ok.run (t' := (32, [(0, (0, x)), (1, (0, y)), (2, (0, u)), (3, (0, v))], [(4, v), (4, y)], w)) 4 rfl ?_
            refine e_Ok.addL (z := y + v) rfl (by first | with_reducible rfl | exact Int.add_comm _ _ | omega) (by omega) ?_
            refine e_Ok.run (t' := (36, [(0, (0, x)), (1, (0, y)), (2, (0, u)), (3, (0, v))], [(4, 16000), (4, y + v)], w)) 1 rfl ?_
            refine e_Ok.lcmp rfl (fun z13 z13a z13b z13c => ?_)
            refine e_Ok.if1 rfl (fun h14 => ?_) (fun h14 => ?_)
            · replace h14 : (z13 : Int) > 0 := h14
              refine e_Ok.run (t' := (45, [(0, (0, x)), (1, (0, y)), (2, (0, u)), (3, (0, v))], [(0, 0)], w)) 1 rfl ?_
              refine e_Ok.rets rfl rfl ?_
              exact ⟨_, rfl, rfl, Or.inr ⟨rfl, trivial⟩⟩
            · replace h14 : (z13 : Int) ≤ 0 := Int.not_lt.mp (show ¬ ((z13 : Int) > 0) from h14)
              refine e_Ok.run (t' := (45, [(0, (0, x)), (1, (0, y)), (2, (0, u)), (3, (0, v))], [(0, 1)], w)) 2 rfl ?_
              refine e_Ok.rets rfl rfl ?_
              exact ⟨_, rfl, rfl, Or.inl ⟨rfl, by omega, by omega, by omega, by omega⟩⟩
  · show e_Ok 20 elay ecode eI (d + 1) 273 (5, [(0, (0, x)), (1, (0, y)), (2, (0, u)), (3, (0, v))], [(0, 0)], w) _
    refine e_Ok.if1 rfl (fun h15 => ?_) (fun h15 => ?_)
    · replace h15 : (0 : Int) = 0 := h15
      refine e_Ok.run (t' := (45, [(0, (0, x)), (1, (0, y)), (2, (0, u)), (3, (0, v))], [(0, 0)], w)) 1 rfl ?_
      refine e_Ok.rets rfl rfl ?_
      exact ⟨_, rfl, rfl, Or.inr ⟨rfl, trivial⟩⟩
    · replace h15 : (0 : Int) ≠ 0 := (show ¬ ((0 : Int) = 0) from h15)
      exfalso; omega
theorem c_278 {d : Nat} (hd : 23 ≤ d) {w : eW} (hT : e_Has mTy w) {p1 p2 p3 p4 : Int} (g1 : (-2147483648) ≤ p1 ∧ p1 ≤ 2147483647) (g2 : (-2147483648) ≤ p2 ∧ p2 ≤ 2147483647) (g3 : (-2147483648) ≤ p3 ∧ p3 ≤ 2147483647) (g4 : (-2147483648) ≤ p4 ∧ p4 ≤ 2147483647) : e_Ok 20 elay ecode eI d 278 (0, [(0, (1, 275)), (1, (0, p1)), (2, (0, p2)), (3, (0, p3)), (4, (0, p4))], [], w) (fun r w' => ∃ z : Int, r = [(0, z)] ∧ e_fr (mF 10 282 285) w w' ∧ e_Has mTy w' ∧ (((-8000 ≤ p1 ∧ p1 ≤ 8000 ∧ -8000 ≤ p2 ∧ p2 ≤ 8000 ∧ 0 ≤ p3 ∧ p3 ≤ 4095 ∧ 0 ≤ p4 ∧ p4 ≤ 800 ∧ w 275 3 = 0 ∧ w 275 10 < 4) ∧ w' 275 10 = w 275 10 + 1) ∨ (¬ (-8000 ≤ p1 ∧ p1 ≤ 8000 ∧ -8000 ≤ p2 ∧ p2 ≤ 8000 ∧ 0 ≤ p3 ∧ p3 ≤ 4095 ∧ 0 ≤ p4 ∧ p4 ≤ 800 ∧ w 275 3 = 0 ∧ w 275 10 < 4) ∧ w' 275 10 = w 275 10))) := by
  obtain ⟨d, rfl⟩ : ∃ e, d = e + 1 := ⟨d - 1, by omega⟩
  have ho := e_Has.get hT (c := 275) (k := 3) (lo := 0) (hi := 1) rfl (by decide)
  have hr := e_Has.get hT (c := 275) (k := 10) (lo := 0) (hi := 4) rfl (by decide)
  refine e_Ok.run (t' := (8, [(0, (1, 275)), (1, (0, p1)), (2, (0, p2)), (3, (0, p3)), (4, (0, p4))], [(4, 8000), (4, (-8000)), (4, p1)], w)) 4 rfl ?_
  refine e_Ok.callS rfl (by first | exact e_dq hd rfl | omega) rfl rfl (c_266) (fun r1 w2 h3 => ?_)
  obtain ⟨z4, rfl, rfl, q5⟩ := h3
  obtain ⟨rfl, q5⟩ | ⟨rfl, q5⟩ := q5
  · show e_Ok 20 elay ecode eI (d + 1) 278 (11, [(0, (1, 275)), (1, (0, p1)), (2, (0, p2)), (3, (0, p3)), (4, (0, p4))], [(0, 1)], w) _
    refine e_Ok.if1 rfl (fun h6 => ?_) (fun h6 => ?_)
    · replace h6 : (1 : Int) = 0 := h6
      exfalso; omega
    · replace h6 : (1 : Int) ≠ 0 := (show ¬ ((1 : Int) = 0) from h6)
      refine e_Ok.run (t' := (22, [(0, (1, 275)), (1, (0, p1)), (2, (0, p2)), (3, (0, p3)), (4, (0, p4))], [(4, 8000), (4, (-8000)), (4, p2)], w)) 4 rfl ?_
      refine e_Ok.callS rfl (by first | exact e_dq hd rfl | omega) rfl rfl (c_266) (fun r7 w8 h9 => ?_)
      obtain ⟨z10, rfl, rfl, q11⟩ := h9
      obtain ⟨rfl, q11⟩ | ⟨rfl, q11⟩ := q11
      · show e_Ok 20 elay ecode eI (d + 1) 278 (25, [(0, (1, 275)), (1, (0, p1)), (2, (0, p2)), (3, (0, p3)), (4, (0, p4))], [(0, 1)], w) _
        refine e_Ok.if1 rfl (fun h12 => ?_) (fun h12 => ?_)
        · replace h12 : (1 : Int) = 0 := h12
          exfalso; omega
        · replace h12 : (1 : Int) ≠ 0 := (show ¬ ((1 : Int) = 0) from h12)
          refine e_Ok.run (t' := (34, [(0, (1, 275)), (1, (0, p1)), (2, (0, p2)), (3, (0, p3)), (4, (0, p4))], [(4, 4095), (4, 0), (4, p3)], w)) 4 rfl ?_
          refine e_Ok.callS rfl (by first | exact e_dq hd rfl | omega) rfl rfl (c_266) (fun r13 w14 h15 => ?_)
          obtain ⟨z16, rfl, rfl, q17⟩ := h15
          obtain ⟨rfl, q17⟩ | ⟨rfl, q17⟩ := q17
          · show e_Ok 20 elay ecode eI (d + 1) 278 (37, [(0, (1, 275)), (1, (0, p1)), (2, (0, p2)), (3, (0, p3)), (4, (0, p4))], [(0, 1)], w) _
            refine e_Ok.if1 rfl (fun h18 => ?_) (fun h18 => ?_)
            · replace h18 : (1 : Int) = 0 := h18
              exfalso; omega
            · replace h18 : (1 : Int) ≠ 0 := (show ¬ ((1 : Int) = 0) from h18)
              refine e_Ok.run (t' := (47, [(0, (1, 275)), (1, (0, p1)), (2, (0, p2)), (3, (0, p3)), (4, (0, p4))], [(4, 800), (4, 0), (4, p4)], w)) 4 rfl ?_
              refine e_Ok.callS rfl (by first | exact e_dq hd rfl | omega) rfl rfl (c_266) (fun r19 w20 h21 => ?_)
              obtain ⟨z22, rfl, rfl, q23⟩ := h21
              obtain ⟨rfl, q23⟩ | ⟨rfl, q23⟩ := q23
              · show e_Ok 20 elay ecode eI (d + 1) 278 (50, [(0, (1, 275)), (1, (0, p1)), (2, (0, p2)), (3, (0, p3)), (4, (0, p4))], [(0, 1)], w) _
                refine e_Ok.if1 rfl (fun h24 => ?_) (fun h24 => ?_)
                · replace h24 : (1 : Int) ≠ 0 := h24
                  refine e_Ok.run (t' := (56, [(0, (1, 275)), (1, (0, p1)), (2, (0, p2)), (3, (0, p3)), (4, (0, p4))], [(1, 275)], w)) 1 rfl ?_
                  refine e_Ok.getf (z := w 275 3) rfl (el_o rfl) rfl rfl rfl (by omega) ?_
                  refine e_Ok.if1 rfl (fun h25 => ?_) (fun h25 => ?_)
                  · replace h25 : (w 275 3 : Int) = 0 := h25
                    refine e_Ok.run (t' := (66, [(0, (1, 275)), (1, (0, p1)), (2, (0, p2)), (3, (0, p3)), (4, (0, p4))], [(1, 275)], w)) 1 rfl ?_
                    refine e_Ok.getf (z := w 275 10) rfl (el_o rfl) rfl rfl rfl (by omega) ?_
                    refine e_Ok.run (t' := (70, [(0, (1, 275)), (1, (0, p1)), (2, (0, p2)), (3, (0, p3)), (4, (0, p4))], [(0, 4), (0, w 275 10)], w)) 1 rfl ?_
                    refine e_Ok.if2 rfl (fun h26 => ?_) (fun h26 => ?_)
                    · replace h26 : (w 275 10 : Int) ≠ 4 := h26
                      refine e_Ok.run (t' := (77, [(0, (1, 275)), (1, (0, p1)), (2, (0, p2)), (3, (0, p3)), (4, (0, p4))], [(1, 275)], w)) 1 rfl ?_
                      refine e_Ok.getr (z := 282) rfl (el_o rfl) rfl rfl (e_Has.eq hT rfl) ⟨by decide, by decide⟩ ?_
                      refine e_Ok.run (t' := (81, [(0, (1, 275)), (1, (0, p1)), (2, (0, p2)), (3, (0, p3)), (4, (0, p4))], [(1, 275), (1, 282)], w)) 1 rfl ?_
                      refine e_Ok.getf (z := w 275 10) rfl (el_o rfl) rfl rfl rfl (by omega) ?_
                      refine e_Ok.run (t' := (85, [(0, (1, 275)), (1, (0, p1)), (2, (0, p2)), (3, (0, p3)), (4, (0, p4))], [(0, p1), (0, w 275 10), (1, 282)], w)) 1 rfl ?_
                      refine e_Ok.ast rfl (el_o rfl) rfl rfl (by omega) ?_
                      generalize hw27 : e_up w 282 (w 275 10) p1 = w27
                      have f28 : e_fr (mF 10 282 285) w w27 := e_fr.up (e_fr.refl w) hw27 (by first | exact Or.inr ⟨(by decide), (by decide)⟩ | (unfold mF; omega))
                      have hT29 : e_Has mTy w27 := e_Has.upr hT hw27 rfl (by omega)
                      refine e_Ok.run (t' := (87, [(0, (1, 275)), (1, (0, p1)), (2, (0, p2)), (3, (0, p3)), (4, (0, p4))], [(1, 275)], w27)) 1 rfl ?_
                      refine e_Ok.getr (z := 283) rfl (el_o rfl) rfl rfl (e_uq hw27 (Or.inl (by first | decide | exact e_neo (by decide) | exact e_ne1 (by decide) | exact e_ne2 (by decide) | omega)) (e_Has.eq hT rfl)) ⟨by decide, by decide⟩ ?_
                      refine e_Ok.run (t' := (91, [(0, (1, 275)), (1, (0, p1)), (2, (0, p2)), (3, (0, p3)), (4, (0, p4))], [(1, 275), (1, 283)], w27)) 1 rfl ?_
                      refine e_Ok.getf (z := w 275 10) rfl (el_o rfl) rfl rfl (e_uq hw27 (Or.inl (by first | decide | exact e_neo (by decide) | exact e_ne1 (by decide) | exact e_ne2 (by decide) | omega)) rfl) (by omega) ?_
                      refine e_Ok.run (t' := (95, [(0, (1, 275)), (1, (0, p1)), (2, (0, p2)), (3, (0, p3)), (4, (0, p4))], [(0, p2), (0, w 275 10), (1, 283)], w27)) 1 rfl ?_
                      refine e_Ok.ast rfl (el_o rfl) rfl rfl (by omega) ?_
                      generalize hw30 : e_up w27 283 (w 275 10) p2 = w30
                      have f31 : e_fr (mF 10 282 285) w w30 := e_fr.up f28 hw30 (by first | exact Or.inr ⟨(by decide), (by decide)⟩ | (unfold mF; omega))
                      have hT32 : e_Has mTy w30 := e_Has.upr hT29 hw30 rfl (by omega)
                      refine e_Ok.run (t' := (97, [(0, (1, 275)), (1, (0, p1)), (2, (0, p2)), (3, (0, p3)), (4, (0, p4))], [(1, 275)], w30)) 1 rfl ?_
                      refine e_Ok.getr (z := 284) rfl (el_o rfl) rfl rfl (e_uq hw30 (Or.inl (by first | decide | exact e_neo (by decide) | exact e_ne1 (by decide) | exact e_ne2 (by decide) | omega)) (e_uq hw27 (Or.inl (by first | decide | exact e_neo (by decide) | exact e_ne1 (by decide) | exact e_ne2 (by decide) | omega)) (e_Has.eq hT rfl))) ⟨by decide, by decide⟩ ?_
                      refine e_Ok.run (t' := (101, [(0, (1, 275)), (1, (0, p1)), (2, (0, p2)), (3, (0, p3)), (4, (0, p4))], [(1, 275), (1, 284)], w30)) 1 rfl ?_
                      refine e_Ok.getf (z := w 275 10) rfl (el_o rfl) rfl rfl (e_uq hw30 (Or.inl (by first | decide | exact e_neo (by decide) | exact e_ne1 (by decide) | exact e_ne2 (by decide) | omega)) (e_uq hw27 (Or.inl (by first | decide | exact e_neo (by decide) | exact e_ne1 (by decide) | exact e_ne2 (by decide) | omega)) rfl)) (by omega) ?_
                      refine e_Ok.run (t' := (105, [(0, (1, 275)), (1, (0, p1)), (2, (0, p2)), (3, (0, p3)), (4, (0, p4))], [(0, p3), (0, w 275 10), (1, 284)], w30)) 1 rfl ?_
                      refine e_Ok.ast rfl (el_o rfl) rfl rfl (by omega) ?_
                      generalize hw33 : e_up w30 284 (w 275 10) p3 = w33
                      have f34 : e_fr (mF 10 282 285) w w33 := e_fr.up f31 hw33 (by first | exact Or.inr ⟨(by decide), (by decide)⟩ | (unfold mF; omega))
                      have hT35 : e_Has mTy w33 := e_Has.upr hT32 hw33 rfl (by omega)
                      refine e_Ok.run (t' := (107, [(0, (1, 275)), (1, (0, p1)), (2, (0, p2)), (3, (0, p3)), (4, (0, p4))], [(1, 275)], w33)) 1 rfl ?_
                      refine e_Ok.getr (z := 285) rfl (el_o rfl) rfl rfl (e_uq hw33 (Or.inl (by first | decide | exact e_neo (by decide) | exact e_ne1 (by decide) | exact e_ne2 (by decide) | omega)) (e_uq hw30 (Or.inl (by first | decide | exact e_neo (by decide) | exact e_ne1 (by decide) | exact e_ne2 (by decide) | omega)) (e_uq hw27 (Or.inl (by first | decide | exact e_neo (by decide) | exact e_ne1 (by decide) | exact e_ne2 (by decide) | omega)) (e_Has.eq hT rfl)))) ⟨by decide, by decide⟩ ?_
                      refine e_Ok.run (t' := (111, [(0, (1, 275)), (1, (0, p1)), (2, (0, p2)), (3, (0, p3)), (4, (0, p4))], [(1, 275), (1, 285)], w33)) 1 rfl ?_
                      refine e_Ok.getf (z := w 275 10) rfl (el_o rfl) rfl rfl (e_uq hw33 (Or.inl (by first | decide | exact e_neo (by decide) | exact e_ne1 (by decide) | exact e_ne2 (by decide) | omega)) (e_uq hw30 (Or.inl (by first | decide | exact e_neo (by decide) | exact e_ne1 (by decide) | exact e_ne2 (by decide) | omega)) (e_uq hw27 (Or.inl (by first | decide | exact e_neo (by decide) | exact e_ne1 (by decide) | exact e_ne2 (by decide) | omega)) rfl))) (by omega) ?_
                      refine e_Ok.run (t' := (116, [(0, (1, 275)), (1, (0, p1)), (2, (0, p2)), (3, (0, p3)), (4, (0, p4))], [(0, p4), (0, w 275 10), (1, 285)], w33)) 1 rfl ?_
                      refine e_Ok.ast rfl (el_o rfl) rfl rfl (by omega) ?_
                      generalize hw36 : e_up w33 285 (w 275 10) p4 = w36
                      have f37 : e_fr (mF 10 282 285) w w36 := e_fr.up f34 hw36 (by first | exact Or.inr ⟨(by decide), (by decide)⟩ | (unfold mF; omega))
                      have hT38 : e_Has mTy w36 := e_Has.upr hT35 hw36 rfl (by omega)
                      refine e_Ok.run (t' := (119, [(0, (1, 275)), (1, (0, p1)), (2, (0, p2)), (3, (0, p3)), (4, (0, p4))], [(1, 275), (1, 275)], w36)) 2 rfl ?_
                      refine e_Ok.getf (z := w 275 10) rfl (el_o rfl) rfl rfl (e_uq hw36 (Or.inl (by first | decide | exact e_neo (by decide) | exact e_ne1 (by decide) | exact e_ne2 (by decide) | omega)) (e_uq hw33 (Or.inl (by first | decide | exact e_neo (by decide) | exact e_ne1 (by decide) | exact e_ne2 (by decide) | omega)) (e_uq hw30 (Or.inl (by first | decide | exact e_neo (by decide) | exact e_ne1 (by decide) | exact e_ne2 (by decide) | omega)) (e_uq hw27 (Or.inl (by first | decide | exact e_neo (by decide) | exact e_ne1 (by decide) | exact e_ne2 (by decide) | omega)) rfl)))) (by omega) ?_
                      refine e_Ok.run (t' := (123, [(0, (1, 275)), (1, (0, p1)), (2, (0, p2)), (3, (0, p3)), (4, (0, p4))], [(0, 1), (0, w 275 10), (1, 275)], w36)) 1 rfl ?_
                      refine e_Ok.add (z := w 275 10 + 1) rfl (by first | with_reducible rfl | exact Int.add_comm _ _ | omega) (by omega) ?_
                      refine e_Ok.putf rfl (el_o rfl) rfl rfl ?_
                      generalize hw39 : e_up w36 275 10 (w 275 10 + 1) = w39
                      have f40 : e_fr (mF 10 282 285) w w39 := e_fr.up f37 hw39 (by first | exact Or.inl ⟨rfl, rfl⟩ | (unfold mF; omega))
                      have hT41 : e_Has mTy w39 := e_Has.upr hT38 hw39 rfl (by omega)
                      refine e_Ok.run (t' := (128, [(0, (1, 275)), (1, (0, p1)), (2, (0, p2)), (3, (0, p3)), (4, (0, p4))], [(1, 275)], w39)) 1 rfl ?_
                      refine e_Ok.getf (z := w 275 10 + 1) rfl (el_o rfl) rfl rfl (e_ue hw39) (by omega) ?_
                      refine e_Ok.run (t' := (132, [(0, (1, 275)), (1, (0, p1)), (2, (0, p2)), (3, (0, p3)), (4, (0, p4))], [(0, 1), (0, w 275 10 + 1)], w39)) 1 rfl ?_
                      refine e_Ok.sub' (z := w 275 10) rfl (by first | with_reducible rfl | exact Int.add_comm _ _ | omega) (by omega) ?_
                      refine e_Ok.rets rfl rfl ?_
                      have e42 : w39 275 10 = w 275 10 + 1 := (e_ue hw39)
                      exact ⟨_, rfl, f40, hT41, by omega⟩
                    · replace h26 : (w 275 10 : Int) = 4 := Classical.not_not.mp (show ¬ ((w 275 10 : Int) ≠ 4) from h26)
                      refine e_Ok.run (t' := (75, [(0, (1, 275)), (1, (0, p1)), (2, (0, p2)), (3, (0, p3)), (4, (0, p4))], [(0, (-3))], w)) 1 rfl ?_
                      refine e_Ok.rets rfl rfl ?_
                      have e43 : w 275 10 = w 275 10 := rfl
                      exact ⟨_, rfl, (e_fr.refl w), hT, by omega⟩
                  · replace h25 : (w 275 3 : Int) ≠ 0 := (show ¬ ((w 275 3 : Int) = 0) from h25)
                    refine e_Ok.run (t' := (64, [(0, (1, 275)), (1, (0, p1)), (2, (0, p2)), (3, (0, p3)), (4, (0, p4))], [(0, (-2))], w)) 1 rfl ?_
                    refine e_Ok.rets rfl rfl ?_
                    have e44 : w 275 10 = w 275 10 := rfl
                    exact ⟨_, rfl, (e_fr.refl w), hT, by omega⟩
                · replace h24 : (1 : Int) = 0 := Classical.not_not.mp (show ¬ ((1 : Int) ≠ 0) from h24)
                  exfalso; omega
              · show e_Ok 20 elay ecode eI (d + 1) 278 (50, [(0, (1, 275)), (1, (0, p1)), (2, (0, p2)), (3, (0, p3)), (4, (0, p4))], [(0, 0)], w) _
                refine e_Ok.if1 rfl (fun h45 => ?_) (fun h45 => ?_)
                · replace h45 : (0 : Int) ≠ 0 := h45
                  exfalso; omega
                · replace h45 : (0 : Int) = 0 := Classical.not_not.mp (show ¬ ((0 : Int) ≠ 0) from h45)
                  refine e_Ok.run (t' := (54, [(0, (1, 275)), (1, (0, p1)), (2, (0, p2)), (3, (0, p3)), (4, (0, p4))], [(0, (-1))], w)) 1 rfl ?_
                  refine e_Ok.rets rfl rfl ?_
                  have e46 : w 275 10 = w 275 10 := rfl
                  exact ⟨_, rfl, (e_fr.refl w), hT, by omega⟩
          · show e_Ok 20 elay ecode eI (d + 1) 278 (37, [(0, (1, 275)), (1, (0, p1)), (2, (0, p2)), (3, (0, p3)), (4, (0, p4))], [(0, 0)], w) _
            refine e_Ok.if1 rfl (fun h47 => ?_) (fun h47 => ?_)
            · replace h47 : (0 : Int) = 0 := h47
              refine e_Ok.run (t' := (54, [(0, (1, 275)), (1, (0, p1)), (2, (0, p2)), (3, (0, p3)), (4, (0, p4))], [(0, (-1))], w)) 1 rfl ?_
              refine e_Ok.rets rfl rfl ?_
              have e48 : w 275 10 = w 275 10 := rfl
              exact ⟨_, rfl, (e_fr.refl w), hT, by omega⟩
            · replace h47 : (0 : Int) ≠ 0 := (show ¬ ((0 : Int) = 0) from h47)
              exfalso; omega
      · show e_Ok 20 elay ecode eI (d + 1) 278 (25, [(0, (1, 275)), (1, (0, p1)), (2, (0, p2)), (3, (0, p3)), (4, (0, p4))], [(0, 0)], w) _
        refine e_Ok.if1 rfl (fun h49 => ?_) (fun h49 => ?_)
        · replace h49 : (0 : Int) = 0 := h49
          refine e_Ok.run (t' := (54, [(0, (1, 275)), (1, (0, p1)), (2, (0, p2)), (3, (0, p3)), (4, (0, p4))], [(0, (-1))], w)) 1 rfl ?_
          refine e_Ok.rets rfl rfl ?_
          have e50 : w 275 10 = w 275 10 := rfl
          exact ⟨_, rfl, (e_fr.refl w), hT, by omega⟩
        · replace h49 : (0 : Int) ≠ 0 := (show ¬ ((0 : Int) = 0) from h49)
          exfalso; omega
  · show e_Ok 20 elay ecode eI (d + 1) 278 (11, [(0, (1, 275)), (1, (0, p1)), (2, (0, p2)), (3, (0, p3)), (4, (0, p4))], [(0, 0)], w) _
    refine e_Ok.if1 rfl (fun h51 => ?_) (fun h51 => ?_)
    · replace h51 : (0 : Int) = 0 := h51
      refine e_Ok.run (t' := (54, [(0, (1, 275)), (1, (0, p1)), (2, (0, p2)), (3, (0, p3)), (4, (0, p4))], [(0, (-1))], w)) 1 rfl ?_
      refine e_Ok.rets rfl rfl ?_
      have e52 : w 275 10 = w 275 10 := rfl
      exact ⟨_, rfl, (e_fr.refl w), hT, by omega⟩
    · replace h51 : (0 : Int) ≠ 0 := (show ¬ ((0 : Int) = 0) from h51)
      exfalso; omega
theorem c_280 {d : Nat} (hd : 23 ≤ d) {w : eW} (hT : e_Has mTy w) {p1 p2 p3 : Int} (g1 : (-2147483648) ≤ p1 ∧ p1 ≤ 2147483647) (g2 : (-2147483648) ≤ p2 ∧ p2 ≤ 2147483647) (g3 : (-2147483648) ≤ p3 ∧ p3 ≤ 2147483647) : e_Ok 20 elay ecode eI d 280 (0, [(0, (1, 275)), (1, (0, p1)), (2, (0, p2)), (3, (0, p3))], [], w) (fun r w' => ∃ z : Int, r = [(0, z)] ∧ e_fr (mF (-1) 293 293) w w' ∧ e_Has mTy w' ∧ True) := by
  obtain ⟨d, rfl⟩ : ∃ e, d = e + 1 := ⟨d - 1, by omega⟩
  refine e_Ok.run (t' := (3, [(0, (1, 275)), (1, (0, p1)), (2, (0, p2)), (3, (0, p3))], [(0, p2), (0, p1), (1, 275)], w)) 3 rfl ?_
  refine e_Ok.callV rfl (by first | exact e_dq hd rfl | omega) rfl rfl rfl rfl (c_271 (by first | exact e_dq hd rfl | omega) hT) (fun r1 w2 h3 => ?_)
  obtain ⟨z4, rfl, rfl, q5⟩ := h3
  have h6 := e_Has.get hT (c := 275) (k := 10) (lo := 0) (hi := 4) rfl (by decide)
  have h7 := e_Has.get hT (c := 286) (k := p1) (lo := 0) (hi := 6) rfl (by decide)
  obtain ⟨rfl, q5⟩ | ⟨rfl, q5⟩ := q5
  · show e_Ok 20 elay ecode eI (d + 1) 280 (6, [(0, (1, 275)), (1, (0, p1)), (2, (0, p2)), (3, (0, p3))], [(0, 1)], w) _
    refine e_Ok.if1 rfl (fun h8 => ?_) (fun h8 => ?_)
    · replace h8 : (1 : Int) = 0 := h8
      exfalso; omega
    · replace h8 : (1 : Int) ≠ 0 := (show ¬ ((1 : Int) = 0) from h8)
      refine e_Ok.run (t' := (15, [(0, (1, 275)), (1, (0, p1)), (2, (0, p2)), (3, (0, p3))], [(4, 800), (4, 0), (4, p3)], w)) 4 rfl ?_
      refine e_Ok.callS rfl (by first | exact e_dq hd rfl | omega) rfl rfl (c_266) (fun r9 w10 h11 => ?_)
      obtain ⟨z12, rfl, rfl, q13⟩ := h11
      obtain ⟨rfl, q13⟩ | ⟨rfl, q13⟩ := q13
      · show e_Ok 20 elay ecode eI (d + 1) 280 (18, [(0, (1, 275)), (1, (0, p1)), (2, (0, p2)), (3, (0, p3))], [(0, 1)], w) _
        refine e_Ok.if1 rfl (fun h14 => ?_) (fun h14 => ?_)
        · replace h14 : (1 : Int) ≠ 0 := h14
          refine e_Ok.run (t' := (24, [(0, (1, 275)), (1, (0, p1)), (2, (0, p2)), (3, (0, p3))], [(1, 275)], w)) 1 rfl ?_
          have h15 := (e_Has.get hT (c := 275) (k := 3) (lo := 0) (hi := 1) rfl (by decide))
          refine e_Ok.getf (z := w 275 3) rfl (el_o rfl) rfl rfl rfl (by first | exact e_bq h15 (by decide) (by decide) | omega) ?_
          refine e_Ok.if1 rfl (fun h16 => ?_) (fun h16 => ?_)
          · replace h16 : (w 275 3 : Int) = 0 := h16
            refine e_Ok.run (t' := (34, [(0, (1, 275)), (1, (0, p1)), (2, (0, p2)), (3, (0, p3))], [(1, 275)], w)) 1 rfl ?_
            refine e_Ok.getr (z := 293) rfl (el_o rfl) rfl rfl (e_Has.eq hT rfl) ⟨by decide, by decide⟩ ?_
            refine e_Ok.run (t' := (40, [(0, (1, 275)), (1, (0, p1)), (2, (0, p2)), (3, (0, p3))], [(0, p1), (0, 6), (1, 293)], w)) 2 rfl ?_
            refine e_Ok.mul (z := 6 * p1) rfl (by first | with_reducible rfl | exact Int.add_comm _ _ | omega) (by omega) ?_
            refine e_Ok.run (t' := (42, [(0, (1, 275)), (1, (0, p1)), (2, (0, p2)), (3, (0, p3))], [(0, p2), (0, 6 * p1), (1, 293)], w)) 1 rfl ?_
            refine e_Ok.add (z := 6 * p1 + p2) rfl (by first | with_reducible rfl | exact Int.add_comm _ _ | omega) (by omega) ?_
            have h17 := (e_Has.get hT (c := 293) (k := 6 * p1 + p2) (lo := 0) (hi := 800) rfl (by decide))
            refine e_Ok.ald (z := w 293 (6 * p1 + p2)) rfl (el_o rfl) rfl (by omega) rfl (by first | exact e_bq h17 (by decide) (by decide) | omega) ?_
            refine e_Ok.run (t' := (47, [(4, (0, w 293 (6 * p1 + p2))), (0, (1, 275)), (1, (0, p1)), (2, (0, p2)), (3, (0, p3))], [(1, 275)], w)) 2 rfl ?_
            refine e_Ok.getr (z := 293) rfl (el_o rfl) rfl rfl (e_Has.eq hT rfl) ⟨by decide, by decide⟩ ?_
            refine e_Ok.run (t' := (53, [(4, (0, w 293 (6 * p1 + p2))), (0, (1, 275)), (1, (0, p1)), (2, (0, p2)), (3, (0, p3))], [(0, p1), (0, 6), (1, 293)], w)) 2 rfl ?_
            refine e_Ok.mul (z := 6 * p1) rfl (by first | with_reducible rfl | exact Int.add_comm _ _ | omega) (by omega) ?_
            refine e_Ok.run (t' := (55, [(4, (0, w 293 (6 * p1 + p2))), (0, (1, 275)), (1, (0, p1)), (2, (0, p2)), (3, (0, p3))], [(0, p2), (0, 6 * p1), (1, 293)], w)) 1 rfl ?_
            refine e_Ok.add (z := 6 * p1 + p2) rfl (by first | with_reducible rfl | exact Int.add_comm _ _ | omega) (by omega) ?_
            refine e_Ok.run (t' := (57, [(4, (0, w 293 (6 * p1 + p2))), (0, (1, 275)), (1, (0, p1)), (2, (0, p2)), (3, (0, p3))], [(0, p3), (0, 6 * p1 + p2), (1, 293)], w)) 1 rfl ?_
            refine e_Ok.ast rfl (el_o rfl) rfl rfl (by omega) ?_
            generalize hw18 : e_up w 293 (6 * p1 + p2) p3 = w18
            have f19 : e_fr (mF (-1) 293 293) w w18 := e_fr.up (e_fr.refl w) hw18 (by first | exact Or.inr ⟨(by decide), (by decide)⟩ | (unfold mF; omega))
            have hT20 : e_Has mTy w18 := e_Has.upr hT hw18 rfl (by omega)
            refine e_Ok.run (t' := (60, [(4, (0, w 293 (6 * p1 + p2))), (0, (1, 275)), (1, (0, p1)), (2, (0, p2)), (3, (0, p3))], [(0, w 293 (6 * p1 + p2))], w18)) 1 rfl ?_
            refine e_Ok.rets rfl rfl ?_
            exact ⟨_, rfl, f19, hT20, trivial⟩
          · replace h16 : (w 275 3 : Int) ≠ 0 := (show ¬ ((w 275 3 : Int) = 0) from h16)
            refine e_Ok.run (t' := (32, [(0, (1, 275)), (1, (0, p1)), (2, (0, p2)), (3, (0, p3))], [(0, (-2))], w)) 1 rfl ?_
            refine e_Ok.rets rfl rfl ?_
            exact ⟨_, rfl, (e_fr.refl w), hT, trivial⟩
        · replace h14 : (1 : Int) = 0 := Classical.not_not.mp (show ¬ ((1 : Int) ≠ 0) from h14)
          exfalso; omega
      · show e_Ok 20 elay ecode eI (d + 1) 280 (18, [(0, (1, 275)), (1, (0, p1)), (2, (0, p2)), (3, (0, p3))], [(0, 0)], w) _
        refine e_Ok.if1 rfl (fun h21 => ?_) (fun h21 => ?_)
        · replace h21 : (0 : Int) ≠ 0 := h21
          exfalso; omega
        · replace h21 : (0 : Int) = 0 := Classical.not_not.mp (show ¬ ((0 : Int) ≠ 0) from h21)
          refine e_Ok.run (t' := (22, [(0, (1, 275)), (1, (0, p1)), (2, (0, p2)), (3, (0, p3))], [(0, (-1))], w)) 1 rfl ?_
          refine e_Ok.rets rfl rfl ?_
          exact ⟨_, rfl, (e_fr.refl w), hT, trivial⟩
  · show e_Ok 20 elay ecode eI (d + 1) 280 (6, [(0, (1, 275)), (1, (0, p1)), (2, (0, p2)), (3, (0, p3))], [(0, 0)], w) _
    refine e_Ok.if1 rfl (fun h22 => ?_) (fun h22 => ?_)
    · replace h22 : (0 : Int) = 0 := h22
      refine e_Ok.run (t' := (22, [(0, (1, 275)), (1, (0, p1)), (2, (0, p2)), (3, (0, p3))], [(0, (-1))], w)) 1 rfl ?_
      refine e_Ok.rets rfl rfl ?_
      exact ⟨_, rfl, (e_fr.refl w), hT, trivial⟩
    · replace h22 : (0 : Int) ≠ 0 := (show ¬ ((0 : Int) = 0) from h22)
      exfalso; omega
theorem c_281 {d : Nat} (hd : 23 ≤ d) {w : eW} (hT : e_Has mTy w) {p1 p2 p3 p4 : Int} (g1 : (-2147483648) ≤ p1 ∧ p1 ≤ 2147483647) (g2 : (-2147483648) ≤ p2 ∧ p2 ≤ 2147483647) (g3 : (-2147483648) ≤ p3 ∧ p3 ≤ 2147483647) (g4 : (-2147483648) ≤ p4 ∧ p4 ≤ 2147483647) : e_Ok 20 elay ecode eI d 281 (0, [(0, (1, 275)), (1, (0, p1)), (2, (0, p2)), (3, (0, p3)), (4, (0, p4))], [], w) (fun r w' => ∃ z : Int, r = [(0, z)] ∧ e_fr (mF (-1) 290 291) w w' ∧ e_Has mTy w' ∧ True) := by
  obtain ⟨d, rfl⟩ : ∃ e, d = e + 1 := ⟨d - 1, by omega⟩
  refine e_Ok.run (t' := (3, [(0, (1, 275)), (1, (0, p1)), (2, (0, p2)), (3, (0, p3)), (4, (0, p4))], [(0, p2), (0, p1), (1, 275)], w)) 3 rfl ?_
  refine e_Ok.callV rfl (by first | exact e_dq hd rfl | omega) rfl rfl rfl rfl (c_271 (by first | exact e_dq hd rfl | omega) hT) (fun r1 w2 h3 => ?_)
  obtain ⟨z4, rfl, rfl, q5⟩ := h3
  have h6 := e_Has.get hT (c := 275) (k := 10) (lo := 0) (hi := 4) rfl (by decide)
  have h7 := e_Has.get hT (c := 286) (k := p1) (lo := 0) (hi := 6) rfl (by decide)
  obtain ⟨rfl, q5⟩ | ⟨rfl, q5⟩ := q5
  · show e_Ok 20 elay ecode eI (d + 1) 281 (6, [(0, (1, 275)), (1, (0, p1)), (2, (0, p2)), (3, (0, p3)), (4, (0, p4))], [(0, 1)], w) _
    refine e_Ok.if1 rfl (fun h8 => ?_) (fun h8 => ?_)
    · replace h8 : (1 : Int) = 0 := h8
      exfalso; omega
    · replace h8 : (1 : Int) ≠ 0 := (show ¬ ((1 : Int) = 0) from h8)
      refine e_Ok.run (t' := (15, [(0, (1, 275)), (1, (0, p1)), (2, (0, p2)), (3, (0, p3)), (4, (0, p4))], [(4, 2000), (4, 1), (4, p3)], w)) 4 rfl ?_
      refine e_Ok.callS rfl (by first | exact e_dq hd rfl | omega) rfl rfl (c_266) (fun r9 w10 h11 => ?_)
      obtain ⟨z12, rfl, rfl, q13⟩ := h11
      obtain ⟨rfl, q13⟩ | ⟨rfl, q13⟩ := q13
      · show e_Ok 20 elay ecode eI (d + 1) 281 (18, [(0, (1, 275)), (1, (0, p1)), (2, (0, p2)), (3, (0, p3)), (4, (0, p4))], [(0, 1)], w) _
        refine e_Ok.if1 rfl (fun h14 => ?_) (fun h14 => ?_)
        · replace h14 : (1 : Int) = 0 := h14
          exfalso; omega
        · replace h14 : (1 : Int) ≠ 0 := (show ¬ ((1 : Int) = 0) from h14)
          refine e_Ok.run (t' := (28, [(0, (1, 275)), (1, (0, p1)), (2, (0, p2)), (3, (0, p3)), (4, (0, p4))], [(4, 2000), (4, 1), (4, p4)], w)) 4 rfl ?_
          refine e_Ok.callS rfl (by first | exact e_dq hd rfl | omega) rfl rfl (c_266) (fun r15 w16 h17 => ?_)
          obtain ⟨z18, rfl, rfl, q19⟩ := h17
          obtain ⟨rfl, q19⟩ | ⟨rfl, q19⟩ := q19
          · show e_Ok 20 elay ecode eI (d + 1) 281 (31, [(0, (1, 275)), (1, (0, p1)), (2, (0, p2)), (3, (0, p3)), (4, (0, p4))], [(0, 1)], w) _
            refine e_Ok.if1 rfl (fun h20 => ?_) (fun h20 => ?_)
            · replace h20 : (1 : Int) ≠ 0 := h20
              refine e_Ok.run (t' := (37, [(0, (1, 275)), (1, (0, p1)), (2, (0, p2)), (3, (0, p3)), (4, (0, p4))], [(1, 275)], w)) 1 rfl ?_
              have h21 := (e_Has.get hT (c := 275) (k := 3) (lo := 0) (hi := 1) rfl (by decide))
              refine e_Ok.getf (z := w 275 3) rfl (el_o rfl) rfl rfl rfl (by first | exact e_bq h21 (by decide) (by decide) | omega) ?_
              refine e_Ok.if1 rfl (fun h22 => ?_) (fun h22 => ?_)
              · replace h22 : (w 275 3 : Int) = 0 := h22
                refine e_Ok.run (t' := (47, [(0, (1, 275)), (1, (0, p1)), (2, (0, p2)), (3, (0, p3)), (4, (0, p4))], [(1, 275)], w)) 1 rfl ?_
                refine e_Ok.getr (z := 290) rfl (el_o rfl) rfl rfl (e_Has.eq hT rfl) ⟨by decide, by decide⟩ ?_
                refine e_Ok.run (t' := (53, [(0, (1, 275)), (1, (0, p1)), (2, (0, p2)), (3, (0, p3)), (4, (0, p4))], [(0, p1), (0, 6), (1, 290)], w)) 2 rfl ?_
                refine e_Ok.mul (z := 6 * p1) rfl (by first | with_reducible rfl | exact Int.add_comm _ _ | omega) (by omega) ?_
                refine e_Ok.run (t' := (55, [(0, (1, 275)), (1, (0, p1)), (2, (0, p2)), (3, (0, p3)), (4, (0, p4))], [(0, p2), (0, 6 * p1), (1, 290)], w)) 1 rfl ?_
                refine e_Ok.add (z := 6 * p1 + p2) rfl (by first | with_reducible rfl | exact Int.add_comm _ _ | omega) (by omega) ?_
                refine e_Ok.run (t' := (57, [(0, (1, 275)), (1, (0, p1)), (2, (0, p2)), (3, (0, p3)), (4, (0, p4))], [(0, p3), (0, 6 * p1 + p2), (1, 290)], w)) 1 rfl ?_
                refine e_Ok.ast rfl (el_o rfl) rfl rfl (by omega) ?_
                generalize hw23 : e_up w 290 (6 * p1 + p2) p3 = w23
                have f24 : e_fr (mF (-1) 290 291) w w23 := e_fr.up (e_fr.refl w) hw23 (by first | exact Or.inr ⟨(by decide), (by decide)⟩ | (unfold mF; omega))
                have hT25 : e_Has mTy w23 := e_Has.upr hT hw23 rfl (by omega)
                refine e_Ok.run (t' := (59, [(0, (1, 275)), (1, (0, p1)), (2, (0, p2)), (3, (0, p3)), (4, (0, p4))], [(1, 275)], w23)) 1 rfl ?_
                refine e_Ok.getr (z := 291) rfl (el_o rfl) rfl rfl (e_uq hw23 (Or.inl (by first | decide | exact e_neo (by decide) | exact e_ne1 (by decide) | exact e_ne2 (by decide) | omega)) (e_Has.eq hT rfl)) ⟨by decide, by decide⟩ ?_
                refine e_Ok.run (t' := (65, [(0, (1, 275)), (1, (0, p1)), (2, (0, p2)), (3, (0, p3)), (4, (0, p4))], [(0, p1), (0, 6), (1, 291)], w23)) 2 rfl ?_
                refine e_Ok.mul (z := 6 * p1) rfl (by first | with_reducible rfl | exact Int.add_comm _ _ | omega) (by omega) ?_
                refine e_Ok.run (t' := (67, [(0, (1, 275)), (1, (0, p1)), (2, (0, p2)), (3, (0, p3)), (4, (0, p4))], [(0, p2), (0, 6 * p1), (1, 291)], w23)) 1 rfl ?_
                refine e_Ok.add (z := 6 * p1 + p2) rfl (by first | with_reducible rfl | exact Int.add_comm _ _ | omega) (by omega) ?_
                refine e_Ok.run (t' := (70, [(0, (1, 275)), (1, (0, p1)), (2, (0, p2)), (3, (0, p3)), (4, (0, p4))], [(0, p4), (0, 6 * p1 + p2), (1, 291)], w23)) 1 rfl ?_
                refine e_Ok.ast rfl (el_o rfl) rfl rfl (by omega) ?_
                generalize hw26 : e_up w23 291 (6 * p1 + p2) p4 = w26
                have f27 : e_fr (mF (-1) 290 291) w w26 := e_fr.up f24 hw26 (by first | exact Or.inr ⟨(by decide), (by decide)⟩ | (unfold mF; omega))
                have hT28 : e_Has mTy w26 := e_Has.upr hT25 hw26 rfl (by omega)
                refine e_Ok.run (t' := (72, [(0, (1, 275)), (1, (0, p1)), (2, (0, p2)), (3, (0, p3)), (4, (0, p4))], [(0, 0)], w26)) 1 rfl ?_
                refine e_Ok.rets rfl rfl ?_
                exact ⟨_, rfl, f27, hT28, trivial⟩
              · replace h22 : (w 275 3 : Int) ≠ 0 := (show ¬ ((w 275 3 : Int) = 0) from h22)
                refine e_Ok.run (t' := (45, [(0, (1, 275)), (1, (0, p1)), (2, (0, p2)), (3, (0, p3)), (4, (0, p4))], [(0, (-2))], w)) 1 rfl ?_
                refine e_Ok.rets rfl rfl ?_
                exact ⟨_, rfl, (e_fr.refl w), hT, trivial⟩
            · replace h20 : (1 : Int) = 0 := Classical.not_not.mp (show ¬ ((1 : Int) ≠ 0) from h20)
              exfalso; omega
          · show e_Ok 20 elay ecode eI (d + 1) 281 (31, [(0, (1, 275)), (1, (0, p1)), (2, (0, p2)), (3, (0, p3)), (4, (0, p4))], [(0, 0)], w) _
            refine e_Ok.if1 rfl (fun h29 => ?_) (fun h29 => ?_)
            · replace h29 : (0 : Int) ≠ 0 := h29
              exfalso; omega
            · replace h29 : (0 : Int) = 0 := Classical.not_not.mp (show ¬ ((0 : Int) ≠ 0) from h29)
              refine e_Ok.run (t' := (35, [(0, (1, 275)), (1, (0, p1)), (2, (0, p2)), (3, (0, p3)), (4, (0, p4))], [(0, (-1))], w)) 1 rfl ?_
              refine e_Ok.rets rfl rfl ?_
              exact ⟨_, rfl, (e_fr.refl w), hT, trivial⟩
      · show e_Ok 20 elay ecode eI (d + 1) 281 (18, [(0, (1, 275)), (1, (0, p1)), (2, (0, p2)), (3, (0, p3)), (4, (0, p4))], [(0, 0)], w) _
        refine e_Ok.if1 rfl (fun h30 => ?_) (fun h30 => ?_)
        · replace h30 : (0 : Int) = 0 := h30
          refine e_Ok.run (t' := (35, [(0, (1, 275)), (1, (0, p1)), (2, (0, p2)), (3, (0, p3)), (4, (0, p4))], [(0, (-1))], w)) 1 rfl ?_
          refine e_Ok.rets rfl rfl ?_
          exact ⟨_, rfl, (e_fr.refl w), hT, trivial⟩
        · replace h30 : (0 : Int) ≠ 0 := (show ¬ ((0 : Int) = 0) from h30)
          exfalso; omega
  · show e_Ok 20 elay ecode eI (d + 1) 281 (6, [(0, (1, 275)), (1, (0, p1)), (2, (0, p2)), (3, (0, p3)), (4, (0, p4))], [(0, 0)], w) _
    refine e_Ok.if1 rfl (fun h31 => ?_) (fun h31 => ?_)
    · replace h31 : (0 : Int) = 0 := h31
      refine e_Ok.run (t' := (35, [(0, (1, 275)), (1, (0, p1)), (2, (0, p2)), (3, (0, p3)), (4, (0, p4))], [(0, (-1))], w)) 1 rfl ?_
      refine e_Ok.rets rfl rfl ?_
      exact ⟨_, rfl, (e_fr.refl w), hT, trivial⟩
    · replace h31 : (0 : Int) ≠ 0 := (show ¬ ((0 : Int) = 0) from h31)
      exfalso; omega
theorem c_282 {d : Nat} (hd : 23 ≤ d) {w : eW} (hT : e_Has mTy w) {p1 p2 p3 p4 p5 : Int} (g1 : 0 ≤ p1 ∧ p1 ≤ 1) (g2 : (-16000) ≤ p2 ∧ p2 ≤ 16000) (g3 : (-16000) ≤ p3 ∧ p3 ≤ 16000) (g4 : (-2147483648) ≤ p4 ∧ p4 ≤ 2147483647) (g5 : (-2147483648) ≤ p5 ∧ p5 ≤ 2147483647) : e_Ok 20 elay ecode eI d 282 (0, [(0, (1, 275)), (1, (0, p1)), (2, (0, p2)), (3, (0, p3)), (4, (0, p4)), (5, (0, p5))], [], w) (fun r w' => ∃ z : Int, r = [(0, z)] ∧ e_fr (mF 23 294 298) w w' ∧ e_Has mTy w' ∧ True) := by
  refine e_Ok.run (t' := (1, [(0, (1, 275)), (1, (0, p1)), (2, (0, p2)), (3, (0, p3)), (4, (0, p4)), (5, (0, p5))], [(1, 275)], w)) 1 rfl ?_
  have h1 := (e_Has.get hT (c := 275) (k := 3) (lo := 0) (hi := 1) rfl (by decide))
  refine e_Ok.getf (z := w 275 3) rfl (el_o rfl) rfl rfl rfl (by first | exact e_bq h1 (by decide) (by decide) | omega) ?_
  refine e_Ok.if1 rfl (fun h2 => ?_) (fun h2 => ?_)
  · replace h2 : (w 275 3 : Int) = 0 := h2
    refine e_Ok.run (t' := (11, [(0, (1, 275)), (1, (0, p1)), (2, (0, p2)), (3, (0, p3)), (4, (0, p4)), (5, (0, p5))], [(1, 275)], w)) 1 rfl ?_
    have h3 := (e_Has.get hT (c := 275) (k := 23) (lo := 0) (hi := 16) rfl (by decide))
    refine e_Ok.getf (z := w 275 23) rfl (el_o rfl) rfl rfl rfl (by first | exact e_bq h3 (by decide) (by decide) | omega) ?_
    refine e_Ok.run (t' := (16, [(0, (1, 275)), (1, (0, p1)), (2, (0, p2)), (3, (0, p3)), (4, (0, p4)), (5, (0, p5))], [(0, 16), (0, w 275 23)], w)) 1 rfl ?_
    refine e_Ok.if2 rfl (fun h4 => ?_) (fun h4 => ?_)
    · replace h4 : (w 275 23 : Int) ≠ 16 := h4
      refine e_Ok.run (t' := (23, [(0, (1, 275)), (1, (0, p1)), (2, (0, p2)), (3, (0, p3)), (4, (0, p4)), (5, (0, p5))], [(1, 275)], w)) 1 rfl ?_
      refine e_Ok.getr (z := 294) rfl (el_o rfl) rfl rfl (e_Has.eq hT rfl) ⟨by decide, by decide⟩ ?_
      refine e_Ok.run (t' := (27, [(0, (1, 275)), (1, (0, p1)), (2, (0, p2)), (3, (0, p3)), (4, (0, p4)), (5, (0, p5))], [(1, 275), (1, 294)], w)) 1 rfl ?_
      refine e_Ok.getf (z := w 275 23) rfl (el_o rfl) rfl rfl rfl (by omega) ?_
      refine e_Ok.run (t' := (31, [(0, (1, 275)), (1, (0, p1)), (2, (0, p2)), (3, (0, p3)), (4, (0, p4)), (5, (0, p5))], [(0, p1), (0, w 275 23), (1, 294)], w)) 1 rfl ?_
      refine e_Ok.ast rfl (el_o rfl) rfl (e_nar_b (by omega)) (by omega) ?_
      generalize hw5 : e_up w 294 (w 275 23) p1 = w5
      have f6 : e_fr (mF 23 294 298) w w5 := e_fr.up (e_fr.refl w) hw5 (by first | exact Or.inr ⟨(by decide), (by decide)⟩ | (unfold mF; omega))
      have hT7 : e_Has mTy w5 := e_Has.upr hT hw5 rfl (by omega)
      refine e_Ok.run (t' := (33, [(0, (1, 275)), (1, (0, p1)), (2, (0, p2)), (3, (0, p3)), (4, (0, p4)), (5, (0, p5))], [(1, 275)], w5)) 1 rfl ?_
      refine e_Ok.getr (z := 295) rfl (el_o rfl) rfl rfl (e_uq hw5 (Or.inl (by first | decide | exact e_neo (by decide) | exact e_ne1 (by decide) | exact e_ne2 (by decide) | omega)) (e_Has.eq hT rfl)) ⟨by decide, by decide⟩ ?_
      refine e_Ok.run (t' := (37, [(0, (1, 275)), (1, (0, p1)), (2, (0, p2)), (3, (0, p3)), (4, (0, p4)), (5, (0, p5))], [(1, 275), (1, 295)], w5)) 1 rfl ?_
      refine e_Ok.getf (z := w 275 23) rfl (el_o rfl) rfl rfl (e_uq hw5 (Or.inl (by first | decide | exact e_neo (by decide) | exact e_ne1 (by decide) | exact e_ne2 (by decide) | omega)) rfl) (by omega) ?_
      refine e_Ok.run (t' := (41, [(0, (1, 275)), (1, (0, p1)), (2, (0, p2)), (3, (0, p3)), (4, (0, p4)), (5, (0, p5))], [(0, p2), (0, w 275 23), (1, 295)], w5)) 1 rfl ?_
      refine e_Ok.ast rfl (el_o rfl) rfl rfl (by omega) ?_
      generalize hw8 : e_up w5 295 (w 275 23) p2 = w8
      have f9 : e_fr (mF 23 294 298) w w8 := e_fr.up f6 hw8 (by first | exact Or.inr ⟨(by decide), (by decide)⟩ | (unfold mF; omega))
      have hT10 : e_Has mTy w8 := e_Has.upr hT7 hw8 rfl (by omega)
      refine e_Ok.run (t' := (43, [(0, (1, 275)), (1, (0, p1)), (2, (0, p2)), (3, (0, p3)), (4, (0, p4)), (5, (0, p5))], [(1, 275)], w8)) 1 rfl ?_
      refine e_Ok.getr (z := 296) rfl (el_o rfl) rfl rfl (e_uq hw8 (Or.inl (by first | decide | exact e_neo (by decide) | exact e_ne1 (by decide) | exact e_ne2 (by decide) | omega)) (e_uq hw5 (Or.inl (by first | decide | exact e_neo (by decide) | exact e_ne1 (by decide) | exact e_ne2 (by decide) | omega)) (e_Has.eq hT rfl))) ⟨by decide, by decide⟩ ?_
      refine e_Ok.run (t' := (47, [(0, (1, 275)), (1, (0, p1)), (2, (0, p2)), (3, (0, p3)), (4, (0, p4)), (5, (0, p5))], [(1, 275), (1, 296)], w8)) 1 rfl ?_
      refine e_Ok.getf (z := w 275 23) rfl (el_o rfl) rfl rfl (e_uq hw8 (Or.inl (by first | decide | exact e_neo (by decide) | exact e_ne1 (by decide) | exact e_ne2 (by decide) | omega)) (e_uq hw5 (Or.inl (by first | decide | exact e_neo (by decide) | exact e_ne1 (by decide) | exact e_ne2 (by decide) | omega)) rfl)) (by omega) ?_
      refine e_Ok.run (t' := (51, [(0, (1, 275)), (1, (0, p1)), (2, (0, p2)), (3, (0, p3)), (4, (0, p4)), (5, (0, p5))], [(0, p3), (0, w 275 23), (1, 296)], w8)) 1 rfl ?_
      refine e_Ok.ast rfl (el_o rfl) rfl rfl (by omega) ?_
      generalize hw11 : e_up w8 296 (w 275 23) p3 = w11
      have f12 : e_fr (mF 23 294 298) w w11 := e_fr.up f9 hw11 (by first | exact Or.inr ⟨(by decide), (by decide)⟩ | (unfold mF; omega))
      have hT13 : e_Has mTy w11 := e_Has.upr hT10 hw11 rfl (by omega)
      refine e_Ok.run (t' := (53, [(0, (1, 275)), (1, (0, p1)), (2, (0, p2)), (3, (0, p3)), (4, (0, p4)), (5, (0, p5))], [(1, 275)], w11)) 1 rfl ?_
      refine e_Ok.getr (z := 297) rfl (el_o rfl) rfl rfl (e_uq hw11 (Or.inl (by first | decide | exact e_neo (by decide) | exact e_ne1 (by decide) | exact e_ne2 (by decide) | omega)) (e_uq hw8 (Or.inl (by first | decide | exact e_neo (by decide) | exact e_ne1 (by decide) | exact e_ne2 (by decide) | omega)) (e_uq hw5 (Or.inl (by first | decide | exact e_neo (by decide) | exact e_ne1 (by decide) | exact e_ne2 (by decide) | omega)) (e_Has.eq hT rfl)))) ⟨by decide, by decide⟩ ?_
      refine e_Ok.run (t' := (57, [(0, (1, 275)), (1, (0, p1)), (2, (0, p2)), (3, (0, p3)), (4, (0, p4)), (5, (0, p5))], [(1, 275), (1, 297)], w11)) 1 rfl ?_
      refine e_Ok.getf (z := w 275 23) rfl (el_o rfl) rfl rfl (e_uq hw11 (Or.inl (by first | decide | exact e_neo (by decide) | exact e_ne1 (by decide) | exact e_ne2 (by decide) | omega)) (e_uq hw8 (Or.inl (by first | decide | exact e_neo (by decide) | exact e_ne1 (by decide) | exact e_ne2 (by decide) | omega)) (e_uq hw5 (Or.inl (by first | decide | exact e_neo (by decide) | exact e_ne1 (by decide) | exact e_ne2 (by decide) | omega)) rfl))) (by omega) ?_
      refine e_Ok.run (t' := (62, [(0, (1, 275)), (1, (0, p1)), (2, (0, p2)), (3, (0, p3)), (4, (0, p4)), (5, (0, p5))], [(0, p4), (0, w 275 23), (1, 297)], w11)) 1 rfl ?_
      refine e_Ok.ast rfl (el_o rfl) rfl rfl (by omega) ?_
      generalize hw14 : e_up w11 297 (w 275 23) p4 = w14
      have f15 : e_fr (mF 23 294 298) w w14 := e_fr.up f12 hw14 (by first | exact Or.inr ⟨(by decide), (by decide)⟩ | (unfold mF; omega))
      have hT16 : e_Has mTy w14 := e_Has.upr hT13 hw14 rfl (by omega)
      refine e_Ok.run (t' := (64, [(0, (1, 275)), (1, (0, p1)), (2, (0, p2)), (3, (0, p3)), (4, (0, p4)), (5, (0, p5))], [(1, 275)], w14)) 1 rfl ?_
      refine e_Ok.getr (z := 298) rfl (el_o rfl) rfl rfl (e_uq hw14 (Or.inl (by first | decide | exact e_neo (by decide) | exact e_ne1 (by decide) | exact e_ne2 (by decide) | omega)) (e_uq hw11 (Or.inl (by first | decide | exact e_neo (by decide) | exact e_ne1 (by decide) | exact e_ne2 (by decide) | omega)) (e_uq hw8 (Or.inl (by first | decide | exact e_neo (by decide) | exact e_ne1 (by decide) | exact e_ne2 (by decide) | omega)) (e_uq hw5 (Or.inl (by first | decide | exact e_neo (by decide) | exact e_ne1 (by decide) | exact e_ne2 (by decide) | omega)) (e_Has.eq hT rfl))))) ⟨by decide, by decide⟩ ?_
      refine e_Ok.run (t' := (68, [(0, (1, 275)), (1, (0, p1)), (2, (0, p2)), (3, (0, p3)), (4, (0, p4)), (5, (0, p5))], [(1, 275), (1, 298)], w14)) 1 rfl ?_
      refine e_Ok.getf (z := w 275 23) rfl (el_o rfl) rfl rfl (e_uq hw14 (Or.inl (by first | decide | exact e_neo (by decide) | exact e_ne1 (by decide) | exact e_ne2 (by decide) | omega)) (e_uq hw11 (Or.inl (by first | decide | exact e_neo (by decide) | exact e_ne1 (by decide) | exact e_ne2 (by decide) | omega)) (e_uq hw8 (Or.inl (by first | decide | exact e_neo (by decide) | exact e_ne1 (by decide) | exact e_ne2 (by decide) | omega)) (e_uq hw5 (Or.inl (by first | decide | exact e_neo (by decide) | exact e_ne1 (by decide) | exact e_ne2 (by decide) | omega)) rfl)))) (by omega) ?_
      refine e_Ok.run (t' := (73, [(0, (1, 275)), (1, (0, p1)), (2, (0, p2)), (3, (0, p3)), (4, (0, p4)), (5, (0, p5))], [(0, p5), (0, w 275 23), (1, 298)], w14)) 1 rfl ?_
      refine e_Ok.ast rfl (el_o rfl) rfl rfl (by omega) ?_
      generalize hw17 : e_up w14 298 (w 275 23) p5 = w17
      have f18 : e_fr (mF 23 294 298) w w17 := e_fr.up f15 hw17 (by first | exact Or.inr ⟨(by decide), (by decide)⟩ | (unfold mF; omega))
      have hT19 : e_Has mTy w17 := e_Has.upr hT16 hw17 rfl (by omega)
      refine e_Ok.run (t' := (76, [(0, (1, 275)), (1, (0, p1)), (2, (0, p2)), (3, (0, p3)), (4, (0, p4)), (5, (0, p5))], [(1, 275), (1, 275)], w17)) 2 rfl ?_
      refine e_Ok.getf (z := w 275 23) rfl (el_o rfl) rfl rfl (e_uq hw17 (Or.inl (by first | decide | exact e_neo (by decide) | exact e_ne1 (by decide) | exact e_ne2 (by decide) | omega)) (e_uq hw14 (Or.inl (by first | decide | exact e_neo (by decide) | exact e_ne1 (by decide) | exact e_ne2 (by decide) | omega)) (e_uq hw11 (Or.inl (by first | decide | exact e_neo (by decide) | exact e_ne1 (by decide) | exact e_ne2 (by decide) | omega)) (e_uq hw8 (Or.inl (by first | decide | exact e_neo (by decide) | exact e_ne1 (by decide) | exact e_ne2 (by decide) | omega)) (e_uq hw5 (Or.inl (by first | decide | exact e_neo (by decide) | exact e_ne1 (by decide) | exact e_ne2 (by decide) | omega)) rfl))))) (by omega) ?_
      refine e_Ok.run (t' := (80, [(0, (1, 275)), (1, (0, p1)), (2, (0, p2)), (3, (0, p3)), (4, (0, p4)), (5, (0, p5))], [(0, 1), (0, w 275 23), (1, 275)], w17)) 1 rfl ?_
      refine e_Ok.add (z := w 275 23 + 1) rfl (by first | with_reducible rfl | exact Int.add_comm _ _ | omega) (by omega) ?_
      refine e_Ok.putf rfl (el_o rfl) rfl rfl ?_
      generalize hw20 : e_up w17 275 23 (w 275 23 + 1) = w20
      have f21 : e_fr (mF 23 294 298) w w20 := e_fr.up f18 hw20 (by first | exact Or.inl ⟨rfl, rfl⟩ | (unfold mF; omega))
      have hT22 : e_Has mTy w20 := e_Has.upr hT19 hw20 rfl (by omega)
      refine e_Ok.run (t' := (85, [(0, (1, 275)), (1, (0, p1)), (2, (0, p2)), (3, (0, p3)), (4, (0, p4)), (5, (0, p5))], [(1, 275)], w20)) 1 rfl ?_
      refine e_Ok.getf (z := w 275 23 + 1) rfl (el_o rfl) rfl rfl (e_ue hw20) (by omega) ?_
      refine e_Ok.run (t' := (89, [(0, (1, 275)), (1, (0, p1)), (2, (0, p2)), (3, (0, p3)), (4, (0, p4)), (5, (0, p5))], [(0, 1), (0, w 275 23 + 1)], w20)) 1 rfl ?_
      refine e_Ok.sub' (z := w 275 23) rfl (by first | with_reducible rfl | exact Int.add_comm _ _ | omega) (by omega) ?_
      refine e_Ok.rets rfl rfl ?_
      exact ⟨_, rfl, f21, hT22, trivial⟩
    · replace h4 : (w 275 23 : Int) = 16 := Classical.not_not.mp (show ¬ ((w 275 23 : Int) ≠ 16) from h4)
      refine e_Ok.run (t' := (21, [(0, (1, 275)), (1, (0, p1)), (2, (0, p2)), (3, (0, p3)), (4, (0, p4)), (5, (0, p5))], [(0, (-3))], w)) 1 rfl ?_
      refine e_Ok.rets rfl rfl ?_
      exact ⟨_, rfl, (e_fr.refl w), hT, trivial⟩
  · replace h2 : (w 275 3 : Int) ≠ 0 := (show ¬ ((w 275 3 : Int) = 0) from h2)
    refine e_Ok.run (t' := (9, [(0, (1, 275)), (1, (0, p1)), (2, (0, p2)), (3, (0, p3)), (4, (0, p4)), (5, (0, p5))], [(0, (-2))], w)) 1 rfl ?_
    refine e_Ok.rets rfl rfl ?_
    exact ⟨_, rfl, (e_fr.refl w), hT, trivial⟩
theorem c_283 {d : Nat} (hd : 25 ≤ d) {w : eW} (hT : e_Has mTy w) {p1 p2 p3 : Int} (g1 : (-2147483648) ≤ p1 ∧ p1 ≤ 2147483647) (g2 : (-2147483648) ≤ p2 ∧ p2 ≤ 2147483647) (g3 : (-2147483648) ≤ p3 ∧ p3 ≤ 2147483647) : e_Ok 20 elay ecode eI d 283 (0, [(0, (1, 275)), (1, (0, p1)), (2, (0, p2)), (3, (0, p3))], [], w) (fun r w' => ∃ z : Int, r = [(0, z)] ∧ e_fr (mF 23 294 298) w w' ∧ e_Has mTy w' ∧ True) := by
  obtain ⟨d, rfl⟩ : ∃ e, d = e + 1 := ⟨d - 1, by omega⟩
  refine e_Ok.run (t' := (2, [(0, (1, 275)), (1, (0, p1)), (2, (0, p2)), (3, (0, p3))], [(0, p2), (0, p1)], w)) 2 rfl ?_
  refine e_Ok.callS rfl (by first | exact e_dq hd rfl | omega) rfl rfl (c_272 (by first | exact e_dq hd rfl | omega)) (fun r1 w2 h3 => ?_)
  obtain ⟨z4, rfl, rfl, q5⟩ := h3
  obtain ⟨rfl, q5⟩ | ⟨rfl, q5⟩ := q5
  · show e_Ok 20 elay ecode eI (d + 1) 283 (5, [(0, (1, 275)), (1, (0, p1)), (2, (0, p2)), (3, (0, p3))], [(0, 1)], w) _
    refine e_Ok.if1 rfl (fun h6 => ?_) (fun h6 => ?_)
    · replace h6 : (1 : Int) = 0 := h6
      exfalso; omega
    · replace h6 : (1 : Int) ≠ 0 := (show ¬ ((1 : Int) = 0) from h6)
      refine e_Ok.run (t' := (14, [(0, (1, 275)), (1, (0, p1)), (2, (0, p2)), (3, (0, p3))], [(4, 8000), (4, 0), (4, p3)], w)) 4 rfl ?_
      refine e_Ok.callS rfl (by first | exact e_dq hd rfl | omega) rfl rfl (c_266) (fun r7 w8 h9 => ?_)
      obtain ⟨z10, rfl, rfl, q11⟩ := h9
      obtain ⟨rfl, q11⟩ | ⟨rfl, q11⟩ := q11
      · show e_Ok 20 elay ecode eI (d + 1) 283 (17, [(0, (1, 275)), (1, (0, p1)), (2, (0, p2)), (3, (0, p3))], [(0, 1)], w) _
        refine e_Ok.if1 rfl (fun h12 => ?_) (fun h12 => ?_)
        · replace h12 : (1 : Int) = 0 := h12
          exfalso; omega
        · replace h12 : (1 : Int) ≠ 0 := (show ¬ ((1 : Int) = 0) from h12)
          refine e_Ok.run (t' := (26, [(0, (1, 275)), (1, (0, p1)), (2, (0, p2)), (3, (0, p3))], [(0, 0), (0, p3), (0, p2), (0, p1), (0, 0), (1, 275)], w)) 6 rfl ?_
          refine e_Ok.callV rfl (by first | exact e_dq hd rfl | omega) rfl rfl rfl rfl (c_282 (by first | exact e_dq hd rfl | omega) hT (by omega) (by omega) (by omega) (by omega) (by omega)) (fun r13 w14 h15 => ?_)
          obtain ⟨z16, rfl, q17, q17T, -⟩ := h15
          have f18 : e_fr (mF 23 294 298) w w14 := e_fr.trans (e_fr.refl w) (e_fr.mono q17 (fun c k q => by exact q))
          show e_Ok 20 elay ecode eI (d + 1) 283 (29, [(0, (1, 275)), (1, (0, p1)), (2, (0, p2)), (3, (0, p3))], [(0, z16)], w14) _
          refine e_Ok.run (t' := (33, [(0, (1, 275)), (1, (0, p1)), (2, (0, p2)), (3, (0, p3))], [(0, z16)], w14)) 1 rfl ?_
          refine e_Ok.rets rfl rfl ?_
          exact ⟨_, rfl, f18, q17T, trivial⟩
      · show e_Ok 20 elay ecode eI (d + 1) 283 (17, [(0, (1, 275)), (1, (0, p1)), (2, (0, p2)), (3, (0, p3))], [(0, 0)], w) _
        refine e_Ok.if1 rfl (fun h19 => ?_) (fun h19 => ?_)
        · replace h19 : (0 : Int) = 0 := h19
          refine e_Ok.run (t' := (33, [(0, (1, 275)), (1, (0, p1)), (2, (0, p2)), (3, (0, p3))], [(0, (-1))], w)) 1 rfl ?_
          refine e_Ok.rets rfl rfl ?_
          exact ⟨_, rfl, (e_fr.refl w), hT, trivial⟩
        · replace h19 : (0 : Int) ≠ 0 := (show ¬ ((0 : Int) = 0) from h19)
          exfalso; omega
  · show e_Ok 20 elay ecode eI (d + 1) 283 (5, [(0, (1, 275)), (1, (0, p1)), (2, (0, p2)), (3, (0, p3))], [(0, 0)], w) _
    refine e_Ok.if1 rfl (fun h20 => ?_) (fun h20 => ?_)
    · replace h20 : (0 : Int) = 0 := h20
      refine e_Ok.run (t' := (33, [(0, (1, 275)), (1, (0, p1)), (2, (0, p2)), (3, (0, p3))], [(0, (-1))], w)) 1 rfl ?_
      refine e_Ok.rets rfl rfl ?_
      exact ⟨_, rfl, (e_fr.refl w), hT, trivial⟩
    · replace h20 : (0 : Int) ≠ 0 := (show ¬ ((0 : Int) = 0) from h20)
      exfalso; omega
theorem c_284 {d : Nat} (hd : 25 ≤ d) {w : eW} (hT : e_Has mTy w) {p1 p2 p3 p4 : Int} (g1 : (-2147483648) ≤ p1 ∧ p1 ≤ 2147483647) (g2 : (-2147483648) ≤ p2 ∧ p2 ≤ 2147483647) (g3 : (-2147483648) ≤ p3 ∧ p3 ≤ 2147483647) (g4 : (-2147483648) ≤ p4 ∧ p4 ≤ 2147483647) : e_Ok 20 elay ecode eI d 284 (0, [(0, (1, 275)), (1, (0, p1)), (2, (0, p2)), (3, (0, p3)), (4, (0, p4))], [], w) (fun r w' => ∃ z : Int, r = [(0, z)] ∧ e_fr (mF 23 294 298) w w' ∧ e_Has mTy w' ∧ True) := by
  obtain ⟨d, rfl⟩ : ∃ e, d = e + 1 := ⟨d - 1, by omega⟩
  refine e_Ok.run (t' := (5, [(0, (1, 275)), (1, (0, p1)), (2, (0, p2)), (3, (0, p3)), (4, (0, p4))], [(0, p4), (0, p3), (0, p2), (0, p1)], w)) 4 rfl ?_
  refine e_Ok.callS rfl (by first | exact e_dq hd rfl | omega) rfl rfl (c_273 (by first | exact e_dq hd rfl | omega) (by omega) (by omega)) (fun r1 w2 h3 => ?_)
  obtain ⟨z4, rfl, rfl, q5⟩ := h3
  obtain ⟨rfl, q5⟩ | ⟨rfl, q5⟩ := q5
  · show e_Ok 20 elay ecode eI (d + 1) 284 (8, [(0, (1, 275)), (1, (0, p1)), (2, (0, p2)), (3, (0, p3)), (4, (0, p4))], [(0, 1)], w) _
    refine e_Ok.if1 rfl (fun h6 => ?_) (fun h6 => ?_)
    · replace h6 : (1 : Int) = 0 := h6
      exfalso; omega
    · replace h6 : (1 : Int) ≠ 0 := (show ¬ ((1 : Int) = 0) from h6)
      refine e_Ok.run (t' := (18, [(0, (1, 275)), (1, (0, p1)), (2, (0, p2)), (3, (0, p3)), (4, (0, p4))], [(0, p4), (0, p3), (0, p2), (0, p1), (0, 1), (1, 275)], w)) 6 rfl ?_
      refine e_Ok.callV rfl (by first | exact e_dq hd rfl | omega) rfl rfl rfl rfl (c_282 (by first | exact e_dq hd rfl | omega) hT (by omega) (by omega) (by omega) (by omega) (by omega)) (fun r7 w8 h9 => ?_)
      obtain ⟨z10, rfl, q11, q11T, -⟩ := h9
      have f12 : e_fr (mF 23 294 298) w w8 := e_fr.trans (e_fr.refl w) (e_fr.mono q11 (fun c k q => by exact q))
      show e_Ok 20 elay ecode eI (d + 1) 284 (21, [(0, (1, 275)), (1, (0, p1)), (2, (0, p2)), (3, (0, p3)), (4, (0, p4))], [(0, z10)], w8) _
      refine e_Ok.run (t' := (25, [(0, (1, 275)), (1, (0, p1)), (2, (0, p2)), (3, (0, p3)), (4, (0, p4))], [(0, z10)], w8)) 1 rfl ?_
      refine e_Ok.rets rfl rfl ?_
      exact ⟨_, rfl, f12, q11T, trivial⟩
  · show e_Ok 20 elay ecode eI (d + 1) 284 (8, [(0, (1, 275)), (1, (0, p1)), (2, (0, p2)), (3, (0, p3)), (4, (0, p4))], [(0, 0)], w) _
    refine e_Ok.if1 rfl (fun h13 => ?_) (fun h13 => ?_)
    · replace h13 : (0 : Int) = 0 := h13
      refine e_Ok.run (t' := (25, [(0, (1, 275)), (1, (0, p1)), (2, (0, p2)), (3, (0, p3)), (4, (0, p4))], [(0, (-1))], w)) 1 rfl ?_
      refine e_Ok.rets rfl rfl ?_
      exact ⟨_, rfl, (e_fr.refl w), hT, trivial⟩
    · replace h13 : (0 : Int) ≠ 0 := (show ¬ ((0 : Int) = 0) from h13)
      exfalso; omega
theorem c_285 {d : Nat} (hd : 23 ≤ d) {w : eW} (hT : e_Has mTy w) {p1 p2 p3 : Int} (g1 : (-2147483648) ≤ p1 ∧ p1 ≤ 2147483647) (g2 : (-2147483648) ≤ p2 ∧ p2 ≤ 2147483647) (g3 : (-2147483648) ≤ p3 ∧ p3 ≤ 2147483647) : e_Ok 20 elay ecode eI d 285 (0, [(0, (1, 275)), (1, (0, p1)), (2, (0, p2)), (3, (0, p3))], [], w) (fun r w' => ∃ z : Int, r = [(0, z)] ∧ e_fr (mF (-1) 299 299) w w' ∧ e_Has mTy w' ∧ True) := by
  obtain ⟨d, rfl⟩ : ∃ e, d = e + 1 := ⟨d - 1, by omega⟩
  refine e_Ok.run (t' := (2, [(0, (1, 275)), (1, (0, p1)), (2, (0, p2)), (3, (0, p3))], [(0, p1), (1, 275)], w)) 2 rfl ?_
  refine e_Ok.callV rfl (by first | exact e_dq hd rfl | omega) rfl rfl rfl rfl (c_270 (by first | exact e_dq hd rfl | omega) hT) (fun r1 w2 h3 => ?_)
  have h4 := e_Has.get hT (c := 275) (k := 10) (lo := 0) (hi := 4) rfl (by decide)
  obtain ⟨z5, rfl, rfl, q6⟩ := h3
  obtain ⟨rfl, q6⟩ | ⟨rfl, q6⟩ := q6
  · show e_Ok 20 elay ecode eI (d + 1) 285 (5, [(0, (1, 275)), (1, (0, p1)), (2, (0, p2)), (3, (0, p3))], [(0, 1)], w) _
    refine e_Ok.if1 rfl (fun h7 => ?_) (fun h7 => ?_)
    · replace h7 : (1 : Int) = 0 := h7
      exfalso; omega
    · replace h7 : (1 : Int) ≠ 0 := (show ¬ ((1 : Int) = 0) from h7)
      refine e_Ok.run (t' := (14, [(0, (1, 275)), (1, (0, p1)), (2, (0, p2)), (3, (0, p3))], [(4, 6), (4, 0), (4, p2)], w)) 4 rfl ?_
      refine e_Ok.callS rfl (by first | exact e_dq hd rfl | omega) rfl rfl (c_266) (fun r8 w9 h10 => ?_)
      obtain ⟨z11, rfl, rfl, q12⟩ := h10
      obtain ⟨rfl, q12⟩ | ⟨rfl, q12⟩ := q12
      · show e_Ok 20 elay ecode eI (d + 1) 285 (17, [(0, (1, 275)), (1, (0, p1)), (2, (0, p2)), (3, (0, p3))], [(0, 1)], w) _
        refine e_Ok.if1 rfl (fun h13 => ?_) (fun h13 => ?_)
        · replace h13 : (1 : Int) = 0 := h13
          exfalso; omega
        · replace h13 : (1 : Int) ≠ 0 := (show ¬ ((1 : Int) = 0) from h13)
          refine e_Ok.run (t' := (24, [(0, (1, 275)), (1, (0, p1)), (2, (0, p2)), (3, (0, p3))], [(1, 275), (4, 0), (4, p3)], w)) 4 rfl ?_
          have h14 := (e_Has.get hT (c := 275) (k := 23) (lo := 0) (hi := 16) rfl (by decide))
          refine e_Ok.getf (z := w 275 23) rfl (el_o rfl) rfl rfl rfl (by first | exact e_bq h14 (by decide) (by decide) | omega) ?_
          refine e_Ok.run (t' := (28, [(0, (1, 275)), (1, (0, p1)), (2, (0, p2)), (3, (0, p3))], [(0, 1), (0, w 275 23), (4, 0), (4, p3)], w)) 1 rfl ?_
          refine e_Ok.sub' (z := w 275 23 - 1) rfl (by first | with_reducible rfl | exact Int.add_comm _ _ | omega) (by omega) ?_
          refine e_Ok.run (t' := (30, [(0, (1, 275)), (1, (0, p1)), (2, (0, p2)), (3, (0, p3))], [(4, w 275 23 - 1), (4, 0), (4, p3)], w)) 1 rfl ?_
          refine e_Ok.callS rfl (by first | exact e_dq hd rfl | omega) rfl rfl (c_266) (fun r15 w16 h17 => ?_)
          obtain ⟨z18, rfl, rfl, q19⟩ := h17
          obtain ⟨rfl, q19⟩ | ⟨rfl, q19⟩ := q19
          · show e_Ok 20 elay ecode eI (d + 1) 285 (33, [(0, (1, 275)), (1, (0, p1)), (2, (0, p2)), (3, (0, p3))], [(0, 1)], w) _
            refine e_Ok.if1 rfl (fun h20 => ?_) (fun h20 => ?_)
            · replace h20 : (1 : Int) ≠ 0 := h20
              refine e_Ok.run (t' := (39, [(0, (1, 275)), (1, (0, p1)), (2, (0, p2)), (3, (0, p3))], [(1, 275)], w)) 1 rfl ?_
              have h21 := (e_Has.get hT (c := 275) (k := 3) (lo := 0) (hi := 1) rfl (by decide))
              refine e_Ok.getf (z := w 275 3) rfl (el_o rfl) rfl rfl rfl (by first | exact e_bq h21 (by decide) (by decide) | omega) ?_
              refine e_Ok.if1 rfl (fun h22 => ?_) (fun h22 => ?_)
              · replace h22 : (w 275 3 : Int) = 0 := h22
                refine e_Ok.run (t' := (51, [(0, (1, 275)), (1, (0, p1)), (2, (0, p2)), (3, (0, p3))], [(0, p1), (0, 112)], w)) 2 rfl ?_
                refine e_Ok.mul (z := 112 * p1) rfl (by first | with_reducible rfl | exact Int.add_comm _ _ | omega) (by omega) ?_
                refine e_Ok.run (t' := (55, [(0, (1, 275)), (1, (0, p1)), (2, (0, p2)), (3, (0, p3))], [(0, p2), (0, 16), (0, 112 * p1)], w)) 2 rfl ?_
                refine e_Ok.mul (z := 16 * p2) rfl (by first | with_reducible rfl | exact Int.add_comm _ _ | omega) (by omega) ?_
                refine e_Ok.add (z := 112 * p1 + 16 * p2) rfl (by first | with_reducible rfl | exact Int.add_comm _ _ | omega) (by omega) ?_
                refine e_Ok.run (t' := (58, [(0, (1, 275)), (1, (0, p1)), (2, (0, p2)), (3, (0, p3))], [(0, p3), (0, 112 * p1 + 16 * p2)], w)) 1 rfl ?_
                refine e_Ok.add (z := 112 * p1 + 16 * p2 + p3) rfl (by first | with_reducible rfl | exact Int.add_comm _ _ | omega) (by omega) ?_
                refine e_Ok.run (t' := (62, [(4, (0, 112 * p1 + 16 * p2 + p3)), (0, (1, 275)), (1, (0, p1)), (2, (0, p2)), (3, (0, p3))], [(1, 275)], w)) 2 rfl ?_
                refine e_Ok.getr (z := 299) rfl (el_o rfl) rfl rfl (e_Has.eq hT rfl) ⟨by decide, by decide⟩ ?_
                refine e_Ok.run (t' := (67, [(4, (0, 112 * p1 + 16 * p2 + p3)), (0, (1, 275)), (1, (0, p1)), (2, (0, p2)), (3, (0, p3))], [(0, 112 * p1 + 16 * p2 + p3), (1, 299)], w)) 1 rfl ?_
                have h23 := (e_Has.get hT (c := 299) (k := 112 * p1 + 16 * p2 + p3) (lo := 0) (hi := 1) rfl (by decide))
                refine e_Ok.ald (z := w 299 (112 * p1 + 16 * p2 + p3)) rfl (el_o rfl) rfl (by omega) rfl (by first | exact e_bq h23 (by decide) (by decide) | omega) ?_
                refine e_Ok.if1 rfl (fun h24 => ?_) (fun h24 => ?_)
                · replace h24 : (w 299 (112 * p1 + 16 * p2 + p3) : Int) = 0 := h24
                  refine e_Ok.run (t' := (79, [(5, (0, 1)), (4, (0, 112 * p1 + 16 * p2 + p3)), (0, (1, 275)), (1, (0, p1)), (2, (0, p2)), (3, (0, p3))], [(1, 275)], w)) 3 rfl ?_
                  refine e_Ok.getr (z := 299) rfl (el_o rfl) rfl rfl (e_Has.eq hT rfl) ⟨by decide, by decide⟩ ?_
                  refine e_Ok.run (t' := (85, [(5, (0, 1)), (4, (0, 112 * p1 + 16 * p2 + p3)), (0, (1, 275)), (1, (0, p1)), (2, (0, p2)), (3, (0, p3))], [(0, 1), (0, 112 * p1 + 16 * p2 + p3), (1, 299)], w)) 2 rfl ?_
                  refine e_Ok.ast rfl (el_o rfl) rfl (e_nar_b (by omega)) (by omega) ?_
                  generalize hw25 : e_up w 299 (112 * p1 + 16 * p2 + p3) 1 = w25
                  have f26 : e_fr (mF (-1) 299 299) w w25 := e_fr.up (e_fr.refl w) hw25 (by first | exact Or.inr ⟨(by decide), (by decide)⟩ | (unfold mF; omega))
                  have hT27 : e_Has mTy w25 := e_Has.upr hT hw25 rfl (by omega)
                  refine e_Ok.run (t' := (88, [(5, (0, 1)), (4, (0, 112 * p1 + 16 * p2 + p3)), (0, (1, 275)), (1, (0, p1)), (2, (0, p2)), (3, (0, p3))], [(0, 1)], w25)) 1 rfl ?_
                  refine e_Ok.rets rfl rfl ?_
                  exact ⟨_, rfl, f26, hT27, trivial⟩
                · replace h24 : (w 299 (112 * p1 + 16 * p2 + p3) : Int) ≠ 0 := (show ¬ ((w 299 (112 * p1 + 16 * p2 + p3) : Int) = 0) from h24)
                  refine e_Ok.run (t' := (79, [(5, (0, 0)), (4, (0, 112 * p1 + 16 * p2 + p3)), (0, (1, 275)), (1, (0, p1)), (2, (0, p2)), (3, (0, p3))], [(1, 275)], w)) 4 rfl ?_
                  refine e_Ok.getr (z := 299) rfl (el_o rfl) rfl rfl (e_Has.eq hT rfl) ⟨by decide, by decide⟩ ?_
                  refine e_Ok.run (t' := (85, [(5, (0, 0)), (4, (0, 112 * p1 + 16 * p2 + p3)), (0, (1, 275)), (1, (0, p1)), (2, (0, p2)), (3, (0, p3))], [(0, 1), (0, 112 * p1 + 16 * p2 + p3), (1, 299)], w)) 2 rfl ?_
                  refine e_Ok.ast rfl (el_o rfl) rfl (e_nar_b (by omega)) (by omega) ?_
                  generalize hw28 : e_up w 299 (112 * p1 + 16 * p2 + p3) 1 = w28
                  have f29 : e_fr (mF (-1) 299 299) w w28 := e_fr.up (e_fr.refl w) hw28 (by first | exact Or.inr ⟨(by decide), (by decide)⟩ | (unfold mF; omega))
                  have hT30 : e_Has mTy w28 := e_Has.upr hT hw28 rfl (by omega)
                  refine e_Ok.run (t' := (88, [(5, (0, 0)), (4, (0, 112 * p1 + 16 * p2 + p3)), (0, (1, 275)), (1, (0, p1)), (2, (0, p2)), (3, (0, p3))], [(0, 0)], w28)) 1 rfl ?_
                  refine e_Ok.rets rfl rfl ?_
                  exact ⟨_, rfl, f29, hT30, trivial⟩
              · replace h22 : (w 275 3 : Int) ≠ 0 := (show ¬ ((w 275 3 : Int) = 0) from h22)
                refine e_Ok.run (t' := (47, [(0, (1, 275)), (1, (0, p1)), (2, (0, p2)), (3, (0, p3))], [(0, (-2))], w)) 1 rfl ?_
                refine e_Ok.rets rfl rfl ?_
                exact ⟨_, rfl, (e_fr.refl w), hT, trivial⟩
            · replace h20 : (1 : Int) = 0 := Classical.not_not.mp (show ¬ ((1 : Int) ≠ 0) from h20)
              exfalso; omega
          · show e_Ok 20 elay ecode eI (d + 1) 285 (33, [(0, (1, 275)), (1, (0, p1)), (2, (0, p2)), (3, (0, p3))], [(0, 0)], w) _
            refine e_Ok.if1 rfl (fun h31 => ?_) (fun h31 => ?_)
            · replace h31 : (0 : Int) ≠ 0 := h31
              exfalso; omega
            · replace h31 : (0 : Int) = 0 := Classical.not_not.mp (show ¬ ((0 : Int) ≠ 0) from h31)
              refine e_Ok.run (t' := (37, [(0, (1, 275)), (1, (0, p1)), (2, (0, p2)), (3, (0, p3))], [(0, (-1))], w)) 1 rfl ?_
              refine e_Ok.rets rfl rfl ?_
              exact ⟨_, rfl, (e_fr.refl w), hT, trivial⟩
      · show e_Ok 20 elay ecode eI (d + 1) 285 (17, [(0, (1, 275)), (1, (0, p1)), (2, (0, p2)), (3, (0, p3))], [(0, 0)], w) _
        refine e_Ok.if1 rfl (fun h32 => ?_) (fun h32 => ?_)
        · replace h32 : (0 : Int) = 0 := h32
          refine e_Ok.run (t' := (37, [(0, (1, 275)), (1, (0, p1)), (2, (0, p2)), (3, (0, p3))], [(0, (-1))], w)) 1 rfl ?_
          refine e_Ok.rets rfl rfl ?_
          exact ⟨_, rfl, (e_fr.refl w), hT, trivial⟩
        · replace h32 : (0 : Int) ≠ 0 := (show ¬ ((0 : Int) = 0) from h32)
          exfalso; omega
  · show e_Ok 20 elay ecode eI (d + 1) 285 (5, [(0, (1, 275)), (1, (0, p1)), (2, (0, p2)), (3, (0, p3))], [(0, 0)], w) _
    refine e_Ok.if1 rfl (fun h33 => ?_) (fun h33 => ?_)
    · replace h33 : (0 : Int) = 0 := h33
      refine e_Ok.run (t' := (37, [(0, (1, 275)), (1, (0, p1)), (2, (0, p2)), (3, (0, p3))], [(0, (-1))], w)) 1 rfl ?_
      refine e_Ok.rets rfl rfl ?_
      exact ⟨_, rfl, (e_fr.refl w), hT, trivial⟩
    · replace h33 : (0 : Int) ≠ 0 := (show ¬ ((0 : Int) = 0) from h33)
      exfalso; omega
set_option maxHeartbeats 4000000 in
theorem c_286 {d : Nat} (hd : 23 ≤ d) {w : eW} (hT : e_Has mTy w) {p1 p2 p3 p4 p5 : Int} (g1 : (-2147483648) ≤ p1 ∧ p1 ≤ 2147483647) (g2 : (-2147483648) ≤ p2 ∧ p2 ≤ 2147483647) (g3 : (-2147483648) ≤ p3 ∧ p3 ≤ 2147483647) (g4 : (-2147483648) ≤ p4 ∧ p4 ≤ 2147483647) (g5 : (-2147483648) ≤ p5 ∧ p5 ≤ 2147483647) : e_Ok 20 elay ecode eI d 286 (0, [(0, (1, 275)), (1, (0, p1)), (2, (0, p2)), (3, (0, p3)), (4, (0, p4)), (5, (0, p5))], [], w) (fun r w' => ∃ z : Int, r = [(0, z)] ∧ e_fr (mF 30 300 306) w w' ∧ e_Has mTy w' ∧ True) := by
  obtain ⟨d, rfl⟩ : ∃ e, d = e + 1 := ⟨d - 1, by omega⟩
  refine e_Ok.run (t' := (2, [(0, (1, 275)), (1, (0, p1)), (2, (0, p2)), (3, (0, p3)), (4, (0, p4)), (5, (0, p5))], [(0, p2), (0, p1)], w)) 2 rfl ?_
  refine e_Ok.callS rfl (by first | exact e_dq hd rfl | omega) rfl rfl (c_272 (by first | exact e_dq hd rfl | omega)) (fun r1 w2 h3 => ?_)
  obtain ⟨z4, rfl, rfl, q5⟩ := h3
  obtain ⟨rfl, q5⟩ | ⟨rfl, q5⟩ := q5
  · show e_Ok 20 elay ecode eI (d + 1) 286 (5, [(0, (1, 275)), (1, (0, p1)), (2, (0, p2)), (3, (0, p3)), (4, (0, p4)), (5, (0, p5))], [(0, 1)], w) _
    refine e_Ok.if1 rfl (fun h6 => ?_) (fun h6 => ?_)
    · replace h6 : (1 : Int) = 0 := h6
      exfalso; omega
    · replace h6 : (1 : Int) ≠ 0 := (show ¬ ((1 : Int) = 0) from h6)
      refine e_Ok.run (t' := (14, [(0, (1, 275)), (1, (0, p1)), (2, (0, p2)), (3, (0, p3)), (4, (0, p4)), (5, (0, p5))], [(4, 3), (4, 0), (4, p3)], w)) 4 rfl ?_
      refine e_Ok.callS rfl (by first | exact e_dq hd rfl | omega) rfl rfl (c_266) (fun r7 w8 h9 => ?_)
      obtain ⟨z10, rfl, rfl, q11⟩ := h9
      obtain ⟨rfl, q11⟩ | ⟨rfl, q11⟩ := q11
      · show e_Ok 20 elay ecode eI (d + 1) 286 (17, [(0, (1, 275)), (1, (0, p1)), (2, (0, p2)), (3, (0, p3)), (4, (0, p4)), (5, (0, p5))], [(0, 1)], w) _
        refine e_Ok.if1 rfl (fun h12 => ?_) (fun h12 => ?_)
        · replace h12 : (1 : Int) = 0 := h12
          exfalso; omega
        · replace h12 : (1 : Int) ≠ 0 := (show ¬ ((1 : Int) = 0) from h12)
          refine e_Ok.run (t' := (27, [(0, (1, 275)), (1, (0, p1)), (2, (0, p2)), (3, (0, p3)), (4, (0, p4)), (5, (0, p5))], [(4, 16000), (4, 0), (4, p4)], w)) 4 rfl ?_
          refine e_Ok.callS rfl (by first | exact e_dq hd rfl | omega) rfl rfl (c_266) (fun r13 w14 h15 => ?_)
          obtain ⟨z16, rfl, rfl, q17⟩ := h15
          obtain ⟨rfl, q17⟩ | ⟨rfl, q17⟩ := q17
          · show e_Ok 20 elay ecode eI (d + 1) 286 (30, [(0, (1, 275)), (1, (0, p1)), (2, (0, p2)), (3, (0, p3)), (4, (0, p4)), (5, (0, p5))], [(0, 1)], w) _
            refine e_Ok.if1 rfl (fun h18 => ?_) (fun h18 => ?_)
            · replace h18 : (1 : Int) = 0 := h18
              exfalso; omega
            · replace h18 : (1 : Int) ≠ 0 := (show ¬ ((1 : Int) = 0) from h18)
              refine e_Ok.run (t' := (40, [(0, (1, 275)), (1, (0, p1)), (2, (0, p2)), (3, (0, p3)), (4, (0, p4)), (5, (0, p5))], [(4, 2000), (4, 0), (4, p5)], w)) 4 rfl ?_
              refine e_Ok.callS rfl (by first | exact e_dq hd rfl | omega) rfl rfl (c_266) (fun r19 w20 h21 => ?_)
              obtain ⟨z22, rfl, rfl, q23⟩ := h21
              obtain ⟨rfl, q23⟩ | ⟨rfl, q23⟩ := q23
              · show e_Ok 20 elay ecode eI (d + 1) 286 (43, [(0, (1, 275)), (1, (0, p1)), (2, (0, p2)), (3, (0, p3)), (4, (0, p4)), (5, (0, p5))], [(0, 1)], w) _
                refine e_Ok.if1 rfl (fun h24 => ?_) (fun h24 => ?_)
                · replace h24 : (1 : Int) ≠ 0 := h24
                  refine e_Ok.run (t' := (50, [(0, (1, 275)), (1, (0, p1)), (2, (0, p2)), (3, (0, p3)), (4, (0, p4)), (5, (0, p5))], [(0, 2), (0, p3)], w)) 2 rfl ?_
                  refine e_Ok.if2 rfl (fun h25 => ?_) (fun h25 => ?_)
                  · replace h25 : (p3 : Int) ≥ 2 := h25
                    refine e_Ok.run (t' := (60, [(0, (1, 275)), (1, (0, p1)), (2, (0, p2)), (3, (0, p3)), (4, (0, p4)), (5, (0, p5))], [(0, p4)], w)) 1 rfl ?_
                    refine e_Ok.neg (z := -p4) rfl (by omega) (by omega) ?_
                    refine e_Ok.run (t' := (65, [(6, (0, -p4)), (0, (1, 275)), (1, (0, p1)), (2, (0, p2)), (3, (0, p3)), (4, (0, p4)), (5, (0, p5))], [(0, 2), (0, p3)], w)) 3 rfl ?_
                    refine e_Ok.remn (fun z26 hz26 => ?_) rfl (by omega) (by omega)
                    replace hz26 : z26 = p3 % 2 := hz26
                    have z26r : 0 ≤ z26 ∧ z26 ≤ 1 := by omega
                    refine e_Ok.if1 rfl (fun h27 => ?_) (fun h27 => ?_)
                    · replace h27 : (z26 : Int) ≠ 0 := h27
                      refine e_Ok.run (t' := (79, [(6, (0, -p4)), (0, (1, 275)), (1, (0, p1)), (2, (0, p2)), (3, (0, p3)), (4, (0, p4)), (5, (0, p5))], [(0, 2), (0, p3), (0, p1)], w)) 3 rfl ?_
                      refine e_Ok.remn (fun z28 hz28 => ?_) rfl (by omega) (by omega)
                      replace hz28 : z28 = p3 % 2 := hz28
                      have z28r : 0 ≤ z28 ∧ z28 ≤ 1 := by omega
                      refine e_Ok.if1 rfl (fun h29 => ?_) (fun h29 => ?_)
                      · replace h29 : (z28 : Int) ≠ 0 := h29
                        refine e_Ok.run (t' := (90, [(6, (0, -p4)), (0, (1, 275)), (1, (0, p1)), (2, (0, p2)), (3, (0, p3)), (4, (0, p4)), (5, (0, p5))], [(0, -p4), (0, p2), (0, p1)], w)) 2 rfl ?_
                        refine e_Ok.add (z := p2 - p4) rfl (by first | with_reducible rfl | exact Int.add_comm _ _ | omega) (by omega) ?_
                        refine e_Ok.callS rfl (by first | exact e_dq hd rfl | omega) rfl rfl (c_272 (by first | exact e_dq hd rfl | omega)) (fun r30 w31 h32 => ?_)
                        obtain ⟨z33, rfl, rfl, q34⟩ := h32
                        obtain ⟨rfl, q34⟩ | ⟨rfl, q34⟩ := q34
                        · show e_Ok 20 elay ecode eI (d + 1) 286 (94, [(6, (0, -p4)), (0, (1, 275)), (1, (0, p1)), (2, (0, p2)), (3, (0, p3)), (4, (0, p4)), (5, (0, p5))], [(0, 1)], w) _
                          refine e_Ok.if1 rfl (fun h35 => ?_) (fun h35 => ?_)
                          · replace h35 : (1 : Int) ≠ 0 := h35
                            refine e_Ok.run (t' := (100, [(6, (0, -p4)), (0, (1, 275)), (1, (0, p1)), (2, (0, p2)), (3, (0, p3)), (4, (0, p4)), (5, (0, p5))], [(1, 275)], w)) 1 rfl ?_
                            have h36 := (e_Has.get hT (c := 275) (k := 3) (lo := 0) (hi := 1) rfl (by decide))
                            refine e_Ok.getf (z := w 275 3) rfl (el_o rfl) rfl rfl rfl (by first | exact e_bq h36 (by decide) (by decide) | omega) ?_
                            refine e_Ok.if1 rfl (fun h37 => ?_) (fun h37 => ?_)
                            · replace h37 : (w 275 3 : Int) = 0 := h37
                              refine e_Ok.run (t' := (110, [(6, (0, -p4)), (0, (1, 275)), (1, (0, p1)), (2, (0, p2)), (3, (0, p3)), (4, (0, p4)), (5, (0, p5))], [(1, 275)], w)) 1 rfl ?_
                              have h38 := (e_Has.get hT (c := 275) (k := 30) (lo := 0) (hi := 4) rfl (by decide))
                              refine e_Ok.getf (z := w 275 30) rfl (el_o rfl) rfl rfl rfl (by first | exact e_bq h38 (by decide) (by decide) | omega) ?_
                              refine e_Ok.run (t' := (114, [(6, (0, -p4)), (0, (1, 275)), (1, (0, p1)), (2, (0, p2)), (3, (0, p3)), (4, (0, p4)), (5, (0, p5))], [(0, 4), (0, w 275 30)], w)) 1 rfl ?_
                              refine e_Ok.if2 rfl (fun h39 => ?_) (fun h39 => ?_)
                              · replace h39 : (w 275 30 : Int) ≠ 4 := h39
                                refine e_Ok.run (t' := (121, [(6, (0, -p4)), (0, (1, 275)), (1, (0, p1)), (2, (0, p2)), (3, (0, p3)), (4, (0, p4)), (5, (0, p5))], [(1, 275)], w)) 1 rfl ?_
                                refine e_Ok.getr (z := 300) rfl (el_o rfl) rfl rfl (e_Has.eq hT rfl) ⟨by decide, by decide⟩ ?_
                                refine e_Ok.run (t' := (125, [(6, (0, -p4)), (0, (1, 275)), (1, (0, p1)), (2, (0, p2)), (3, (0, p3)), (4, (0, p4)), (5, (0, p5))], [(1, 275), (1, 300)], w)) 1 rfl ?_
                                refine e_Ok.getf (z := w 275 30) rfl (el_o rfl) rfl rfl rfl (by omega) ?_
                                refine e_Ok.run (t' := (129, [(6, (0, -p4)), (0, (1, 275)), (1, (0, p1)), (2, (0, p2)), (3, (0, p3)), (4, (0, p4)), (5, (0, p5))], [(0, p1), (0, w 275 30), (1, 300)], w)) 1 rfl ?_
                                refine e_Ok.ast rfl (el_o rfl) rfl rfl (by omega) ?_
                                generalize hw40 : e_up w 300 (w 275 30) p1 = w40
                                have f41 : e_fr (mF 30 300 306) w w40 := e_fr.up (e_fr.refl w) hw40 (by first | exact Or.inr ⟨(by decide), (by decide)⟩ | (unfold mF; omega))
                                have hT42 : e_Has mTy w40 := e_Has.upr hT hw40 rfl (by omega)
                                refine e_Ok.run (t' := (131, [(6, (0, -p4)), (0, (1, 275)), (1, (0, p1)), (2, (0, p2)), (3, (0, p3)), (4, (0, p4)), (5, (0, p5))], [(1, 275)], w40)) 1 rfl ?_
                                refine e_Ok.getr (z := 301) rfl (el_o rfl) rfl rfl (e_uq hw40 (Or.inl (by first | decide | exact e_neo (by decide) | exact e_ne1 (by decide) | exact e_ne2 (by decide) | omega)) (e_Has.eq hT rfl)) ⟨by decide, by decide⟩ ?_
                                refine e_Ok.run (t' := (135, [(6, (0, -p4)), (0, (1, 275)), (1, (0, p1)), (2, (0, p2)), (3, (0, p3)), (4, (0, p4)), (5, (0, p5))], [(1, 275), (1, 301)], w40)) 1 rfl ?_
                                refine e_Ok.getf (z := w 275 30) rfl (el_o rfl) rfl rfl (e_uq hw40 (Or.inl (by first | decide | exact e_neo (by decide) | exact e_ne1 (by decide) | exact e_ne2 (by decide) | omega)) rfl) (by omega) ?_
                                refine e_Ok.run (t' := (139, [(6, (0, -p4)), (0, (1, 275)), (1, (0, p1)), (2, (0, p2)), (3, (0, p3)), (4, (0, p4)), (5, (0, p5))], [(0, p2), (0, w 275 30), (1, 301)], w40)) 1 rfl ?_
                                refine e_Ok.ast rfl (el_o rfl) rfl rfl (by omega) ?_
                                generalize hw43 : e_up w40 301 (w 275 30) p2 = w43
                                have f44 : e_fr (mF 30 300 306) w w43 := e_fr.up f41 hw43 (by first | exact Or.inr ⟨(by decide), (by decide)⟩ | (unfold mF; omega))
                                have hT45 : e_Has mTy w43 := e_Has.upr hT42 hw43 rfl (by omega)
                                refine e_Ok.run (t' := (141, [(6, (0, -p4)), (0, (1, 275)), (1, (0, p1)), (2, (0, p2)), (3, (0, p3)), (4, (0, p4)), (5, (0, p5))], [(1, 275)], w43)) 1 rfl ?_
                                refine e_Ok.getr (z := 302) rfl (el_o rfl) rfl rfl (e_uq hw43 (Or.inl (by first | decide | exact e_neo (by decide) | exact e_ne1 (by decide) | exact e_ne2 (by decide) | omega)) (e_uq hw40 (Or.inl (by first | decide | exact e_neo (by decide) | exact e_ne1 (by decide) | exact e_ne2 (by decide) | omega)) (e_Has.eq hT rfl))) ⟨by decide, by decide⟩ ?_
                                refine e_Ok.run (t' := (145, [(6, (0, -p4)), (0, (1, 275)), (1, (0, p1)), (2, (0, p2)), (3, (0, p3)), (4, (0, p4)), (5, (0, p5))], [(1, 275), (1, 302)], w43)) 1 rfl ?_
                                refine e_Ok.getf (z := w 275 30) rfl (el_o rfl) rfl rfl (e_uq hw43 (Or.inl (by first | decide | exact e_neo (by decide) | exact e_ne1 (by decide) | exact e_ne2 (by decide) | omega)) (e_uq hw40 (Or.inl (by first | decide | exact e_neo (by decide) | exact e_ne1 (by decide) | exact e_ne2 (by decide) | omega)) rfl)) (by omega) ?_
                                refine e_Ok.run (t' := (149, [(6, (0, -p4)), (0, (1, 275)), (1, (0, p1)), (2, (0, p2)), (3, (0, p3)), (4, (0, p4)), (5, (0, p5))], [(0, p3), (0, w 275 30), (1, 302)], w43)) 1 rfl ?_
                                refine e_Ok.ast rfl (el_o rfl) rfl rfl (by omega) ?_
                                generalize hw46 : e_up w43 302 (w 275 30) p3 = w46
                                have f47 : e_fr (mF 30 300 306) w w46 := e_fr.up f44 hw46 (by first | exact Or.inr ⟨(by decide), (by decide)⟩ | (unfold mF; omega))
                                have hT48 : e_Has mTy w46 := e_Has.upr hT45 hw46 rfl (by omega)
                                refine e_Ok.run (t' := (151, [(6, (0, -p4)), (0, (1, 275)), (1, (0, p1)), (2, (0, p2)), (3, (0, p3)), (4, (0, p4)), (5, (0, p5))], [(1, 275)], w46)) 1 rfl ?_
                                refine e_Ok.getr (z := 303) rfl (el_o rfl) rfl rfl (e_uq hw46 (Or.inl (by first | decide | exact e_neo (by decide) | exact e_ne1 (by decide) | exact e_ne2 (by decide) | omega)) (e_uq hw43 (Or.inl (by first | decide | exact e_neo (by decide) | exact e_ne1 (by decide) | exact e_ne2 (by decide) | omega)) (e_uq hw40 (Or.inl (by first | decide | exact e_neo (by decide) | exact e_ne1 (by decide) | exact e_ne2 (by decide) | omega)) (e_Has.eq hT rfl)))) ⟨by decide, by decide⟩ ?_
                                refine e_Ok.run (t' := (155, [(6, (0, -p4)), (0, (1, 275)), (1, (0, p1)), (2, (0, p2)), (3, (0, p3)), (4, (0, p4)), (5, (0, p5))], [(1, 275), (1, 303)], w46)) 1 rfl ?_
                                refine e_Ok.getf (z := w 275 30) rfl (el_o rfl) rfl rfl (e_uq hw46 (Or.inl (by first | decide | exact e_neo (by decide) | exact e_ne1 (by decide) | exact e_ne2 (by decide) | omega)) (e_uq hw43 (Or.inl (by first | decide | exact e_neo (by decide) | exact e_ne1 (by decide) | exact e_ne2 (by decide) | omega)) (e_uq hw40 (Or.inl (by first | decide | exact e_neo (by decide) | exact e_ne1 (by decide) | exact e_ne2 (by decide) | omega)) rfl))) (by omega) ?_
                                refine e_Ok.run (t' := (160, [(6, (0, -p4)), (0, (1, 275)), (1, (0, p1)), (2, (0, p2)), (3, (0, p3)), (4, (0, p4)), (5, (0, p5))], [(0, p4), (0, w 275 30), (1, 303)], w46)) 1 rfl ?_
                                refine e_Ok.ast rfl (el_o rfl) rfl rfl (by omega) ?_
                                generalize hw49 : e_up w46 303 (w 275 30) p4 = w49
                                have f50 : e_fr (mF 30 300 306) w w49 := e_fr.up f47 hw49 (by first | exact Or.inr ⟨(by decide), (by decide)⟩ | (unfold mF; omega))
                                have hT51 : e_Has mTy w49 := e_Has.upr hT48 hw49 rfl (by omega)
                                refine e_Ok.run (t' := (162, [(6, (0, -p4)), (0, (1, 275)), (1, (0, p1)), (2, (0, p2)), (3, (0, p3)), (4, (0, p4)), (5, (0, p5))], [(1, 275)], w49)) 1 rfl ?_
                                refine e_Ok.getr (z := 304) rfl (el_o rfl) rfl rfl (e_uq hw49 (Or.inl (by first | decide | exact e_neo (by decide) | exact e_ne1 (by decide) | exact e_ne2 (by decide) | omega)) (e_uq hw46 (Or.inl (by first | decide | exact e_neo (by decide) | exact e_ne1 (by decide) | exact e_ne2 (by decide) | omega)) (e_uq hw43 (Or.inl (by first | decide | exact e_neo (by decide) | exact e_ne1 (by decide) | exact e_ne2 (by decide) | omega)) (e_uq hw40 (Or.inl (by first | decide | exact e_neo (by decide) | exact e_ne1 (by decide) | exact e_ne2 (by decide) | omega)) (e_Has.eq hT rfl))))) ⟨by decide, by decide⟩ ?_
                                refine e_Ok.run (t' := (166, [(6, (0, -p4)), (0, (1, 275)), (1, (0, p1)), (2, (0, p2)), (3, (0, p3)), (4, (0, p4)), (5, (0, p5))], [(1, 275), (1, 304)], w49)) 1 rfl ?_
                                refine e_Ok.getf (z := w 275 30) rfl (el_o rfl) rfl rfl (e_uq hw49 (Or.inl (by first | decide | exact e_neo (by decide) | exact e_ne1 (by decide) | exact e_ne2 (by decide) | omega)) (e_uq hw46 (Or.inl (by first | decide | exact e_neo (by decide) | exact e_ne1 (by decide) | exact e_ne2 (by decide) | omega)) (e_uq hw43 (Or.inl (by first | decide | exact e_neo (by decide) | exact e_ne1 (by decide) | exact e_ne2 (by decide) | omega)) (e_uq hw40 (Or.inl (by first | decide | exact e_neo (by decide) | exact e_ne1 (by decide) | exact e_ne2 (by decide) | omega)) rfl)))) (by omega) ?_
                                refine e_Ok.run (t' := (170, [(6, (0, -p4)), (0, (1, 275)), (1, (0, p1)), (2, (0, p2)), (3, (0, p3)), (4, (0, p4)), (5, (0, p5))], [(0, 0), (0, w 275 30), (1, 304)], w49)) 1 rfl ?_
                                refine e_Ok.ast rfl (el_o rfl) rfl rfl (by omega) ?_
                                generalize hw52 : e_up w49 304 (w 275 30) 0 = w52
                                have f53 : e_fr (mF 30 300 306) w w52 := e_fr.up f50 hw52 (by first | exact Or.inr ⟨(by decide), (by decide)⟩ | (unfold mF; omega))
                                have hT54 : e_Has mTy w52 := e_Has.upr hT51 hw52 rfl (by omega)
                                refine e_Ok.run (t' := (172, [(6, (0, -p4)), (0, (1, 275)), (1, (0, p1)), (2, (0, p2)), (3, (0, p3)), (4, (0, p4)), (5, (0, p5))], [(1, 275)], w52)) 1 rfl ?_
                                refine e_Ok.getr (z := 306) rfl (el_o rfl) rfl rfl (e_uq hw52 (Or.inl (by first | decide | exact e_neo (by decide) | exact e_ne1 (by decide) | exact e_ne2 (by decide) | omega)) (e_uq hw49 (Or.inl (by first | decide | exact e_neo (by decide) | exact e_ne1 (by decide) | exact e_ne2 (by decide) | omega)) (e_uq hw46 (Or.inl (by first | decide | exact e_neo (by decide) | exact e_ne1 (by decide) | exact e_ne2 (by decide) | omega)) (e_uq hw43 (Or.inl (by first | decide | exact e_neo (by decide) | exact e_ne1 (by decide) | exact e_ne2 (by decide) | omega)) (e_uq hw40 (Or.inl (by first | decide | exact e_neo (by decide) | exact e_ne1 (by decide) | exact e_ne2 (by decide) | omega)) (e_Has.eq hT rfl)))))) ⟨by decide, by decide⟩ ?_
                                refine e_Ok.run (t' := (176, [(6, (0, -p4)), (0, (1, 275)), (1, (0, p1)), (2, (0, p2)), (3, (0, p3)), (4, (0, p4)), (5, (0, p5))], [(1, 275), (1, 306)], w52)) 1 rfl ?_
                                refine e_Ok.getf (z := w 275 30) rfl (el_o rfl) rfl rfl (e_uq hw52 (Or.inl (by first | decide | exact e_neo (by decide) | exact e_ne1 (by decide) | exact e_ne2 (by decide) | omega)) (e_uq hw49 (Or.inl (by first | decide | exact e_neo (by decide) | exact e_ne1 (by decide) | exact e_ne2 (by decide) | omega)) (e_uq hw46 (Or.inl (by first | decide | exact e_neo (by decide) | exact e_ne1 (by decide) | exact e_ne2 (by decide) | omega)) (e_uq hw43 (Or.inl (by first | decide | exact e_neo (by decide) | exact e_ne1 (by decide) | exact e_ne2 (by decide) | omega)) (e_uq hw40 (Or.inl (by first | decide | exact e_neo (by decide) | exact e_ne1 (by decide) | exact e_ne2 (by decide) | omega)) rfl))))) (by omega) ?_
                                refine e_Ok.run (t' := (180, [(6, (0, -p4)), (0, (1, 275)), (1, (0, p1)), (2, (0, p2)), (3, (0, p3)), (4, (0, p4)), (5, (0, p5))], [(0, (-1)), (0, w 275 30), (1, 306)], w52)) 1 rfl ?_
                                refine e_Ok.ast rfl (el_o rfl) rfl rfl (by omega) ?_
                                generalize hw55 : e_up w52 306 (w 275 30) (-1) = w55
                                have f56 : e_fr (mF 30 300 306) w w55 := e_fr.up f53 hw55 (by first | exact Or.inr ⟨(by decide), (by decide)⟩ | (unfold mF; omega))
                                have hT57 : e_Has mTy w55 := e_Has.upr hT54 hw55 rfl (by omega)
                                refine e_Ok.run (t' := (182, [(6, (0, -p4)), (0, (1, 275)), (1, (0, p1)), (2, (0, p2)), (3, (0, p3)), (4, (0, p4)), (5, (0, p5))], [(1, 275)], w55)) 1 rfl ?_
                                refine e_Ok.getr (z := 305) rfl (el_o rfl) rfl rfl (e_uq hw55 (Or.inl (by first | decide | exact e_neo (by decide) | exact e_ne1 (by decide) | exact e_ne2 (by decide) | omega)) (e_uq hw52 (Or.inl (by first | decide | exact e_neo (by decide) | exact e_ne1 (by decide) | exact e_ne2 (by decide) | omega)) (e_uq hw49 (Or.inl (by first | decide | exact e_neo (by decide) | exact e_ne1 (by decide) | exact e_ne2 (by decide) | omega)) (e_uq hw46 (Or.inl (by first | decide | exact e_neo (by decide) | exact e_ne1 (by decide) | exact e_ne2 (by decide) | omega)) (e_uq hw43 (Or.inl (by first | decide | exact e_neo (by decide) | exact e_ne1 (by decide) | exact e_ne2 (by decide) | omega)) (e_uq hw40 (Or.inl (by first | decide | exact e_neo (by decide) | exact e_ne1 (by decide) | exact e_ne2 (by decide) | omega)) (e_Has.eq hT rfl))))))) ⟨by decide, by decide⟩ ?_
                                refine e_Ok.run (t' := (186, [(6, (0, -p4)), (0, (1, 275)), (1, (0, p1)), (2, (0, p2)), (3, (0, p3)), (4, (0, p4)), (5, (0, p5))], [(1, 275), (1, 305)], w55)) 1 rfl ?_
                                refine e_Ok.getf (z := w 275 30) rfl (el_o rfl) rfl rfl (e_uq hw55 (Or.inl (by first | decide | exact e_neo (by decide) | exact e_ne1 (by decide) | exact e_ne2 (by decide) | omega)) (e_uq hw52 (Or.inl (by first | decide | exact e_neo (by decide) | exact e_ne1 (by decide) | exact e_ne2 (by decide) | omega)) (e_uq hw49 (Or.inl (by first | decide | exact e_neo (by decide) | exact e_ne1 (by decide) | exact e_ne2 (by decide) | omega)) (e_uq hw46 (Or.inl (by first | decide | exact e_neo (by decide) | exact e_ne1 (by decide) | exact e_ne2 (by decide) | omega)) (e_uq hw43 (Or.inl (by first | decide | exact e_neo (by decide) | exact e_ne1 (by decide) | exact e_ne2 (by decide) | omega)) (e_uq hw40 (Or.inl (by first | decide | exact e_neo (by decide) | exact e_ne1 (by decide) | exact e_ne2 (by decide) | omega)) rfl)))))) (by omega) ?_
                                refine e_Ok.run (t' := (191, [(6, (0, -p4)), (0, (1, 275)), (1, (0, p1)), (2, (0, p2)), (3, (0, p3)), (4, (0, p4)), (5, (0, p5))], [(0, p5), (0, w 275 30), (1, 305)], w55)) 1 rfl ?_
                                refine e_Ok.ast rfl (el_o rfl) rfl rfl (by omega) ?_
                                generalize hw58 : e_up w55 305 (w 275 30) p5 = w58
                                have f59 : e_fr (mF 30 300 306) w w58 := e_fr.up f56 hw58 (by first | exact Or.inr ⟨(by decide), (by decide)⟩ | (unfold mF; omega))
                                have hT60 : e_Has mTy w58 := e_Has.upr hT57 hw58 rfl (by omega)
                                refine e_Ok.run (t' := (194, [(6, (0, -p4)), (0, (1, 275)), (1, (0, p1)), (2, (0, p2)), (3, (0, p3)), (4, (0, p4)), (5, (0, p5))], [(1, 275), (1, 275)], w58)) 2 rfl ?_
                                refine e_Ok.getf (z := w 275 30) rfl (el_o rfl) rfl rfl (e_uq hw58 (Or.inl (by first | decide | exact e_neo (by decide) | exact e_ne1 (by decide) | exact e_ne2 (by decide) | omega)) (e_uq hw55 (Or.inl (by first | decide | exact e_neo (by decide) | exact e_ne1 (by decide) | exact e_ne2 (by decide) | omega)) (e_uq hw52 (Or.inl (by first | decide | exact e_neo (by decide) | exact e_ne1 (by decide) | exact e_ne2 (by decide) | omega)) (e_uq hw49 (Or.inl (by first | decide | exact e_neo (by decide) | exact e_ne1 (by decide) | exact e_ne2 (by decide) | omega)) (e_uq hw46 (Or.inl (by first | decide | exact e_neo (by decide) | exact e_ne1 (by decide) | exact e_ne2 (by decide) | omega)) (e_uq hw43 (Or.inl (by first | decide | exact e_neo (by decide) | exact e_ne1 (by decide) | exact e_ne2 (by decide) | omega)) (e_uq hw40 (Or.inl (by first | decide | exact e_neo (by decide) | exact e_ne1 (by decide) | exact e_ne2 (by decide) | omega)) rfl))))))) (by omega) ?_
                                refine e_Ok.run (t' := (198, [(6, (0, -p4)), (0, (1, 275)), (1, (0, p1)), (2, (0, p2)), (3, (0, p3)), (4, (0, p4)), (5, (0, p5))], [(0, 1), (0, w 275 30), (1, 275)], w58)) 1 rfl ?_
                                refine e_Ok.add (z := w 275 30 + 1) rfl (by first | with_reducible rfl | exact Int.add_comm _ _ | omega) (by omega) ?_
                                refine e_Ok.putf rfl (el_o rfl) rfl rfl ?_
                                generalize hw61 : e_up w58 275 30 (w 275 30 + 1) = w61
                                have f62 : e_fr (mF 30 300 306) w w61 := e_fr.up f59 hw61 (by first | exact Or.inl ⟨rfl, rfl⟩ | (unfold mF; omega))
                                have hT63 : e_Has mTy w61 := e_Has.upr hT60 hw61 rfl (by omega)
                                refine e_Ok.run (t' := (203, [(6, (0, -p4)), (0, (1, 275)), (1, (0, p1)), (2, (0, p2)), (3, (0, p3)), (4, (0, p4)), (5, (0, p5))], [(1, 275)], w61)) 1 rfl ?_
                                refine e_Ok.getf (z := w 275 30 + 1) rfl (el_o rfl) rfl rfl (e_ue hw61) (by omega) ?_
                                refine e_Ok.run (t' := (207, [(6, (0, -p4)), (0, (1, 275)), (1, (0, p1)), (2, (0, p2)), (3, (0, p3)), (4, (0, p4)), (5, (0, p5))], [(0, 1), (0, w 275 30 + 1)], w61)) 1 rfl ?_
                                refine e_Ok.sub' (z := w 275 30) rfl (by first | with_reducible rfl | exact Int.add_comm _ _ | omega) (by omega) ?_
                                refine e_Ok.rets rfl rfl ?_
                                exact ⟨_, rfl, f62, hT63, trivial⟩
                              · replace h39 : (w 275 30 : Int) = 4 := Classical.not_not.mp (show ¬ ((w 275 30 : Int) ≠ 4) from h39)
                                refine e_Ok.run (t' := (119, [(6, (0, -p4)), (0, (1, 275)), (1, (0, p1)), (2, (0, p2)), (3, (0, p3)), (4, (0, p4)), (5, (0, p5))], [(0, (-3))], w)) 1 rfl ?_
                                refine e_Ok.rets rfl rfl ?_
                                exact ⟨_, rfl, (e_fr.refl w), hT, trivial⟩
                            · replace h37 : (w 275 3 : Int) ≠ 0 := (show ¬ ((w 275 3 : Int) = 0) from h37)
                              refine e_Ok.run (t' := (108, [(6, (0, -p4)), (0, (1, 275)), (1, (0, p1)), (2, (0, p2)), (3, (0, p3)), (4, (0, p4)), (5, (0, p5))], [(0, (-2))], w)) 1 rfl ?_
                              refine e_Ok.rets rfl rfl ?_
                              exact ⟨_, rfl, (e_fr.refl w), hT, trivial⟩
                          · replace h35 : (1 : Int) = 0 := Classical.not_not.mp (show ¬ ((1 : Int) ≠ 0) from h35)
                            exfalso; omega
                        · show e_Ok 20 elay ecode eI (d + 1) 286 (94, [(6, (0, -p4)), (0, (1, 275)), (1, (0, p1)), (2, (0, p2)), (3, (0, p3)), (4, (0, p4)), (5, (0, p5))], [(0, 0)], w) _
                          refine e_Ok.if1 rfl (fun h64 => ?_) (fun h64 => ?_)
                          · replace h64 : (0 : Int) ≠ 0 := h64
                            exfalso; omega
                          · replace h64 : (0 : Int) = 0 := Classical.not_not.mp (show ¬ ((0 : Int) ≠ 0) from h64)
                            refine e_Ok.run (t' := (98, [(6, (0, -p4)), (0, (1, 275)), (1, (0, p1)), (2, (0, p2)), (3, (0, p3)), (4, (0, p4)), (5, (0, p5))], [(0, (-1))], w)) 1 rfl ?_
                            refine e_Ok.rets rfl rfl ?_
                            exact ⟨_, rfl, (e_fr.refl w), hT, trivial⟩
                      · replace h29 : (z28 : Int) = 0 := Classical.not_not.mp (show ¬ ((z28 : Int) ≠ 0) from h29)
                        refine e_Ok.run (t' := (91, [(6, (0, -p4)), (0, (1, 275)), (1, (0, p1)), (2, (0, p2)), (3, (0, p3)), (4, (0, p4)), (5, (0, p5))], [(0, p2), (0, p1)], w)) 2 rfl ?_
                        refine e_Ok.callS rfl (by first | exact e_dq hd rfl | omega) rfl rfl (c_272 (by first | exact e_dq hd rfl | omega)) (fun r65 w66 h67 => ?_)
                        obtain ⟨z68, rfl, rfl, q69⟩ := h67
                        obtain ⟨rfl, q69⟩ | ⟨rfl, q69⟩ := q69
                        · show e_Ok 20 elay ecode eI (d + 1) 286 (94, [(6, (0, -p4)), (0, (1, 275)), (1, (0, p1)), (2, (0, p2)), (3, (0, p3)), (4, (0, p4)), (5, (0, p5))], [(0, 1)], w) _
                          refine e_Ok.if1 rfl (fun h70 => ?_) (fun h70 => ?_)
                          · replace h70 : (1 : Int) ≠ 0 := h70
                            refine e_Ok.run (t' := (100, [(6, (0, -p4)), (0, (1, 275)), (1, (0, p1)), (2, (0, p2)), (3, (0, p3)), (4, (0, p4)), (5, (0, p5))], [(1, 275)], w)) 1 rfl ?_
                            have h71 := (e_Has.get hT (c := 275) (k := 3) (lo := 0) (hi := 1) rfl (by decide))
                            refine e_Ok.getf (z := w 275 3) rfl (el_o rfl) rfl rfl rfl (by first | exact e_bq h71 (by decide) (by decide) | omega) ?_
                            refine e_Ok.if1 rfl (fun h72 => ?_) (fun h72 => ?_)
                            · replace h72 : (w 275 3 : Int) = 0 := h72
                              refine e_Ok.run (t' := (110, [(6, (0, -p4)), (0, (1, 275)), (1, (0, p1)), (2, (0, p2)), (3, (0, p3)), (4, (0, p4)), (5, (0, p5))], [(1, 275)], w)) 1 rfl ?_
                              have h73 := (e_Has.get hT (c := 275) (k := 30) (lo := 0) (hi := 4) rfl (by decide))
                              refine e_Ok.getf (z := w 275 30) rfl (el_o rfl) rfl rfl rfl (by first | exact e_bq h73 (by decide) (by decide) | omega) ?_
                              refine e_Ok.run (t' := (114, [(6, (0, -p4)), (0, (1, 275)), (1, (0, p1)), (2, (0, p2)), (3, (0, p3)), (4, (0, p4)), (5, (0, p5))], [(0, 4), (0, w 275 30)], w)) 1 rfl ?_
                              refine e_Ok.if2 rfl (fun h74 => ?_) (fun h74 => ?_)
                              · replace h74 : (w 275 30 : Int) ≠ 4 := h74
                                refine e_Ok.run (t' := (121, [(6, (0, -p4)), (0, (1, 275)), (1, (0, p1)), (2, (0, p2)), (3, (0, p3)), (4, (0, p4)), (5, (0, p5))], [(1, 275)], w)) 1 rfl ?_
                                refine e_Ok.getr (z := 300) rfl (el_o rfl) rfl rfl (e_Has.eq hT rfl) ⟨by decide, by decide⟩ ?_
                                refine e_Ok.run (t' := (125, [(6, (0, -p4)), (0, (1, 275)), (1, (0, p1)), (2, (0, p2)), (3, (0, p3)), (4, (0, p4)), (5, (0, p5))], [(1, 275), (1, 300)], w)) 1 rfl ?_
                                refine e_Ok.getf (z := w 275 30) rfl (el_o rfl) rfl rfl rfl (by omega) ?_
                                refine e_Ok.run (t' := (129, [(6, (0, -p4)), (0, (1, 275)), (1, (0, p1)), (2, (0, p2)), (3, (0, p3)), (4, (0, p4)), (5, (0, p5))], [(0, p1), (0, w 275 30), (1, 300)], w)) 1 rfl ?_
                                refine e_Ok.ast rfl (el_o rfl) rfl rfl (by omega) ?_
                                generalize hw75 : e_up w 300 (w 275 30) p1 = w75
                                have f76 : e_fr (mF 30 300 306) w w75 := e_fr.up (e_fr.refl w) hw75 (by first | exact Or.inr ⟨(by decide), (by decide)⟩ | (unfold mF; omega))
                                have hT77 : e_Has mTy w75 := e_Has.upr hT hw75 rfl (by omega)
                                refine e_Ok.run (t' := (131, [(6, (0, -p4)), (0, (1, 275)), (1, (0, p1)), (2, (0, p2)), (3, (0, p3)), (4, (0, p4)), (5, (0, p5))], [(1, 275)], w75)) 1 rfl ?_
                                refine e_Ok.getr (z := 301) rfl (el_o rfl) rfl rfl (e_uq hw75 (Or.inl (by first | decide | exact e_neo (by decide) | exact e_ne1 (by decide) | exact e_ne2 (by decide) | omega)) (e_Has.eq hT rfl)) ⟨by decide, by decide⟩ ?_
                                refine e_Ok.run (t' := (135, [(6, (0, -p4)), (0, (1, 275)), (1, (0, p1)), (2, (0, p2)), (3, (0, p3)), (4, (0, p4)), (5, (0, p5))], [(1, 275), (1, 301)], w75)) 1 rfl ?_
                                refine e_Ok.getf (z := w 275 30) rfl (el_o rfl) rfl rfl (e_uq hw75 (Or.inl (by first | decide | exact e_neo (by decide) | exact e_ne1 (by decide) | exact e_ne2 (by decide) | omega)) rfl) (by omega) ?_
                                refine e_Ok.run (t' := (139, [(6, (0, -p4)), (0, (1, 275)), (1, (0, p1)), (2, (0, p2)), (3, (0, p3)), (4, (0, p4)), (5, (0, p5))], [(0, p2), (0, w 275 30), (1, 301)], w75)) 1 rfl ?_
                                refine e_Ok.ast rfl (el_o rfl) rfl rfl (by omega) ?_
                                generalize hw78 : e_up w75 301 (w 275 30) p2 = w78
                                have f79 : e_fr (mF 30 300 306) w w78 := e_fr.up f76 hw78 (by first | exact Or.inr ⟨(by decide), (by decide)⟩ | (unfold mF; omega))
                                have hT80 : e_Has mTy w78 := e_Has.upr hT77 hw78 rfl (by omega)
                                refine e_Ok.run (t' := (141, [(6, (0, -p4)), (0, (1, 275)), (1, (0, p1)), (2, (0, p2)), (3, (0, p3)), (4, (0, p4)), (5, (0, p5))], [(1, 275)], w78)) 1 rfl ?_
                                refine e_Ok.getr (z := 302) rfl (el_o rfl) rfl rfl (e_uq hw78 (Or.inl (by first | decide | exact e_neo (by decide) | exact e_ne1 (by decide) | exact e_ne2 (by decide) | omega)) (e_uq hw75 (Or.inl (by first | decide | exact e_neo (by decide) | exact e_ne1 (by decide) | exact e_ne2 (by decide) | omega)) (e_Has.eq hT rfl))) ⟨by decide, by decide⟩ ?_
                                refine e_Ok.run (t' := (145, [(6, (0, -p4)), (0, (1, 275)), (1, (0, p1)), (2, (0, p2)), (3, (0, p3)), (4, (0, p4)), (5, (0, p5))], [(1, 275), (1, 302)], w78)) 1 rfl ?_
                                refine e_Ok.getf (z := w 275 30) rfl (el_o rfl) rfl rfl (e_uq hw78 (Or.inl (by first | decide | exact e_neo (by decide) | exact e_ne1 (by decide) | exact e_ne2 (by decide) | omega)) (e_uq hw75 (Or.inl (by first | decide | exact e_neo (by decide) | exact e_ne1 (by decide) | exact e_ne2 (by decide) | omega)) rfl)) (by omega) ?_
                                refine e_Ok.run (t' := (149, [(6, (0, -p4)), (0, (1, 275)), (1, (0, p1)), (2, (0, p2)), (3, (0, p3)), (4, (0, p4)), (5, (0, p5))], [(0, p3), (0, w 275 30), (1, 302)], w78)) 1 rfl ?_
                                refine e_Ok.ast rfl (el_o rfl) rfl rfl (by omega) ?_
                                generalize hw81 : e_up w78 302 (w 275 30) p3 = w81
                                have f82 : e_fr (mF 30 300 306) w w81 := e_fr.up f79 hw81 (by first | exact Or.inr ⟨(by decide), (by decide)⟩ | (unfold mF; omega))
                                have hT83 : e_Has mTy w81 := e_Has.upr hT80 hw81 rfl (by omega)
                                refine e_Ok.run (t' := (151, [(6, (0, -p4)), (0, (1, 275)), (1, (0, p1)), (2, (0, p2)), (3, (0, p3)), (4, (0, p4)), (5, (0, p5))], [(1, 275)], w81)) 1 rfl ?_
                                refine e_Ok.getr (z := 303) rfl (el_o rfl) rfl rfl (e_uq hw81 (Or.inl (by first | decide | exact e_neo (by decide) | exact e_ne1 (by decide) | exact e_ne2 (by decide) | omega)) (e_uq hw78 (Or.inl (by first | decide | exact e_neo (by decide) | exact e_ne1 (by decide) | exact e_ne2 (by decide) | omega)) (e_uq hw75 (Or.inl (by first | decide | exact e_neo (by decide) | exact e_ne1 (by decide) | exact e_ne2 (by decide) | omega)) (e_Has.eq hT rfl)))) ⟨by decide, by decide⟩ ?_
                                refine e_Ok.run (t' := (155, [(6, (0, -p4)), (0, (1, 275)), (1, (0, p1)), (2, (0, p2)), (3, (0, p3)), (4, (0, p4)), (5, (0, p5))], [(1, 275), (1, 303)], w81)) 1 rfl ?_
                                refine e_Ok.getf (z := w 275 30) rfl (el_o rfl) rfl rfl (e_uq hw81 (Or.inl (by first | decide | exact e_neo (by decide) | exact e_ne1 (by decide) | exact e_ne2 (by decide) | omega)) (e_uq hw78 (Or.inl (by first | decide | exact e_neo (by decide) | exact e_ne1 (by decide) | exact e_ne2 (by decide) | omega)) (e_uq hw75 (Or.inl (by first | decide | exact e_neo (by decide) | exact e_ne1 (by decide) | exact e_ne2 (by decide) | omega)) rfl))) (by omega) ?_
                                refine e_Ok.run (t' := (160, [(6, (0, -p4)), (0, (1, 275)), (1, (0, p1)), (2, (0, p2)), (3, (0, p3)), (4, (0, p4)), (5, (0, p5))], [(0, p4), (0, w 275 30), (1, 303)], w81)) 1 rfl ?_
                                refine e_Ok.ast rfl (el_o rfl) rfl rfl (by omega) ?_
                                generalize hw84 : e_up w81 303 (w 275 30) p4 = w84
                                have f85 : e_fr (mF 30 300 306) w w84 := e_fr.up f82 hw84 (by first | exact Or.inr ⟨(by decide), (by decide)⟩ | (unfold mF; omega))
                                have hT86 : e_Has mTy w84 := e_Has.upr hT83 hw84 rfl (by omega)
                                refine e_Ok.run (t' := (162, [(6, (0, -p4)), (0, (1, 275)), (1, (0, p1)), (2, (0, p2)), (3, (0, p3)), (4, (0, p4)), (5, (0, p5))], [(1, 275)], w84)) 1 rfl ?_
                                refine e_Ok.getr (z := 304) rfl (el_o rfl) rfl rfl (e_uq hw84 (Or.inl (by first | decide | exact e_neo (by decide) | exact e_ne1 (by decide) | exact e_ne2 (by decide) | omega)) (e_uq hw81 (Or.inl (by first | decide | exact e_neo (by decide) | exact e_ne1 (by decide) | exact e_ne2 (by decide) | omega)) (e_uq hw78 (Or.inl (by first | decide | exact e_neo (by decide) | exact e_ne1 (by decide) | exact e_ne2 (by decide) | omega)) (e_uq hw75 (Or.inl (by first | decide | exact e_neo (by decide) | exact e_ne1 (by decide) | exact e_ne2 (by decide) | omega)) (e_Has.eq hT rfl))))) ⟨by decide, by decide⟩ ?_
                                refine e_Ok.run (t' := (166, [(6, (0, -p4)), (0, (1, 275)), (1, (0, p1)), (2, (0, p2)), (3, (0, p3)), (4, (0, p4)), (5, (0, p5))], [(1, 275), (1, 304)], w84)) 1 rfl ?_
                                refine e_Ok.getf (z := w 275 30) rfl (el_o rfl) rfl rfl (e_uq hw84 (Or.inl (by first | decide | exact e_neo (by decide) | exact e_ne1 (by decide) | exact e_ne2 (by decide) | omega)) (e_uq hw81 (Or.inl (by first | decide | exact e_neo (by decide) | exact e_ne1 (by decide) | exact e_ne2 (by decide) | omega)) (e_uq hw78 (Or.inl (by first | decide | exact e_neo (by decide) | exact e_ne1 (by decide) | exact e_ne2 (by decide) | omega)) (e_uq hw75 (Or.inl (by first | decide | exact e_neo (by decide) | exact e_ne1 (by decide) | exact e_ne2 (by decide) | omega)) rfl)))) (by omega) ?_
                                refine e_Ok.run (t' := (170, [(6, (0, -p4)), (0, (1, 275)), (1, (0, p1)), (2, (0, p2)), (3, (0, p3)), (4, (0, p4)), (5, (0, p5))], [(0, 0), (0, w 275 30), (1, 304)], w84)) 1 rfl ?_
                                refine e_Ok.ast rfl (el_o rfl) rfl rfl (by omega) ?_
                                generalize hw87 : e_up w84 304 (w 275 30) 0 = w87
                                have f88 : e_fr (mF 30 300 306) w w87 := e_fr.up f85 hw87 (by first | exact Or.inr ⟨(by decide), (by decide)⟩ | (unfold mF; omega))
                                have hT89 : e_Has mTy w87 := e_Has.upr hT86 hw87 rfl (by omega)
                                refine e_Ok.run (t' := (172, [(6, (0, -p4)), (0, (1, 275)), (1, (0, p1)), (2, (0, p2)), (3, (0, p3)), (4, (0, p4)), (5, (0, p5))], [(1, 275)], w87)) 1 rfl ?_
                                refine e_Ok.getr (z := 306) rfl (el_o rfl) rfl rfl (e_uq hw87 (Or.inl (by first | decide | exact e_neo (by decide) | exact e_ne1 (by decide) | exact e_ne2 (by decide) | omega)) (e_uq hw84 (Or.inl (by first | decide | exact e_neo (by decide) | exact e_ne1 (by decide) | exact e_ne2 (by decide) | omega)) (e_uq hw81 (Or.inl (by first | decide | exact e_neo (by decide) | exact e_ne1 (by decide) | exact e_ne2 (by decide) | omega)) (e_uq hw78 (Or.inl (by first | decide | exact e_neo (by decide) | exact e_ne1 (by decide) | exact e_ne2 (by decide) | omega)) (e_uq hw75 (Or.inl (by first | decide | exact e_neo (by decide) | exact e_ne1 (by decide) | exact e_ne2 (by decide) | omega)) (e_Has.eq hT rfl)))))) ⟨by decide, by decide⟩ ?_
                                refine e_Ok.run (t' := (176, [(6, (0, -p4)), (0, (1, 275)), (1, (0, p1)), (2, (0, p2)), (3, (0, p3)), (4, (0, p4)), (5, (0, p5))], [(1, 275), (1, 306)], w87)) 1 rfl ?_
                                refine e_Ok.getf (z := w 275 30) rfl (el_o rfl) rfl rfl (e_uq hw87 (Or.inl (by first | decide | exact e_neo (by decide) | exact e_ne1 (by decide) | exact e_ne2 (by decide) | omega)) (e_uq hw84 (Or.inl (by first | decide | exact e_neo (by decide) | exact e_ne1 (by decide) | exact e_ne2 (by decide) | omega)) (e_uq hw81 (Or.inl (by first | decide | exact e_neo (by decide) | exact e_ne1 (by decide) | exact e_ne2 (by decide) | omega)) (e_uq hw78 (Or.inl (by first | decide | exact e_neo (by decide) | exact e_ne1 (by decide) | exact e_ne2 (by decide) | omega)) (e_uq hw75 (Or.inl (by first | decide | exact e_neo (by decide) | exact e_ne1 (by decide) | exact e_ne2 (by decide) | omega)) rfl))))) (by omega) ?_
                                refine e_Ok.run (t' := (180, [(6, (0, -p4)), (0, (1, 275)), (1, (0, p1)), (2, (0, p2)), (3, (0, p3)), (4, (0, p4)), (5, (0, p5))], [(0, (-1)), (0, w 275 30), (1, 306)], w87)) 1 rfl ?_
                                refine e_Ok.ast rfl (el_o rfl) rfl rfl (by omega) ?_
                                generalize hw90 : e_up w87 306 (w 275 30) (-1) = w90
                                have f91 : e_fr (mF 30 300 306) w w90 := e_fr.up f88 hw90 (by first | exact Or.inr ⟨(by decide), (by decide)⟩ | (unfold mF; omega))
                                have hT92 : e_Has mTy w90 := e_Has.upr hT89 hw90 rfl (by omega)
                                refine e_Ok.run (t' := (182, [(6, (0, -p4)), (0, (1, 275)), (1, (0, p1)), (2, (0, p2)), (3, (0, p3)), (4, (0, p4)), (5, (0, p5))], [(1, 275)], w90)) 1 rfl ?_
                                refine e_Ok.getr (z := 305) rfl (el_o rfl) rfl rfl (e_uq hw90 (Or.inl (by first | decide | exact e_neo (by decide) | exact e_ne1 (by decide) | exact e_ne2 (by decide) | omega)) (e_uq hw87 (Or.inl (by first | decide | exact e_neo (by decide) | exact e_ne1 (by decide) | exact e_ne2 (by decide) | omega)) (e_uq hw84 (Or.inl (by first | decide | exact e_neo (by decide) | exact e_ne1 (by decide) | exact e_ne2 (by decide) | omega)) (e_uq hw81 (Or.inl (by first | decide | exact e_neo (by decide) | exact e_ne1 (by decide) | exact e_ne2 (by decide) | omega)) (e_uq hw78 (Or.inl (by first | decide | exact e_neo (by decide) | exact e_ne1 (by decide) | exact e_ne2 (by decide) | omega)) (e_uq hw75 (Or.inl (by first | decide | exact e_neo (by decide) | exact e_ne1 (by decide) | exact e_ne2 (by decide) | omega)) (e_Has.eq hT rfl))))))) ⟨by decide, by decide⟩ ?_
                                refine e_Ok.run (t' := (186, [(6, (0, -p4)), (0, (1, 275)), (1, (0, p1)), (2, (0, p2)), (3, (0, p3)), (4, (0, p4)), (5, (0, p5))], [(1, 275), (1, 305)], w90)) 1 rfl ?_
                                refine e_Ok.getf (z := w 275 30) rfl (el_o rfl) rfl rfl (e_uq hw90 (Or.inl (by first | decide | exact e_neo (by decide) | exact e_ne1 (by decide) | exact e_ne2 (by decide) | omega)) (e_uq hw87 (Or.inl (by first | decide | exact e_neo (by decide) | exact e_ne1 (by decide) | exact e_ne2 (by decide) | omega)) (e_uq hw84 (Or.inl (by first | decide | exact e_neo (by decide) | exact e_ne1 (by decide) | exact e_ne2 (by decide) | omega)) (e_uq hw81 (Or.inl (by first | decide | exact e_neo (by decide) | exact e_ne1 (by decide) | exact e_ne2 (by decide) | omega)) (e_uq hw78 (Or.inl (by first | decide | exact e_neo (by decide) | exact e_ne1 (by decide) | exact e_ne2 (by decide) | omega)) (e_uq hw75 (Or.inl (by first | decide | exact e_neo (by decide) | exact e_ne1 (by decide) | exact e_ne2 (by decide) | omega)) rfl)))))) (by omega) ?_
                                refine e_Ok.run (t' := (191, [(6, (0, -p4)), (0, (1, 275)), (1, (0, p1)), (2, (0, p2)), (3, (0, p3)), (4, (0, p4)), (5, (0, p5))], [(0, p5), (0, w 275 30), (1, 305)], w90)) 1 rfl ?_
                                refine e_Ok.ast rfl (el_o rfl) rfl rfl (by omega) ?_
                                generalize hw93 : e_up w90 305 (w 275 30) p5 = w93
                                have f94 : e_fr (mF 30 300 306) w w93 := e_fr.up f91 hw93 (by first | exact Or.inr ⟨(by decide), (by decide)⟩ | (unfold mF; omega))
                                have hT95 : e_Has mTy w93 := e_Has.upr hT92 hw93 rfl (by omega)
                                refine e_Ok.run (t' := (194, [(6, (0, -p4)), (0, (1, 275)), (1, (0, p1)), (2, (0, p2)), (3, (0, p3)), (4, (0, p4)), (5, (0, p5))], [(1, 275), (1, 275)], w93)) 2 rfl ?_
                                refine e_Ok.getf (z := w 275 30) rfl (el_o rfl) rfl rfl (e_uq hw93 (Or.inl (by first | decide | exact e_neo (by decide) | exact e_ne1 (by decide) | exact e_ne2 (by decide) | omega)) (e_uq hw90 (Or.inl (by first | decide | exact e_neo (by decide) | exact e_ne1 (by decide) | exact e_ne2 (by decide) | omega)) (e_uq hw87 (Or.inl (by first | decide | exact e_neo (by decide) | exact e_ne1 (by decide) | exact e_ne2 (by decide) | omega)) (e_uq hw84 (Or.inl (by first | decide | exact e_neo (by decide) | exact e_ne1 (by decide) | exact e_ne2 (by decide) | omega)) (e_uq hw81 (Or.inl (by first | decide | exact e_neo (by decide) | exact e_ne1 (by decide) | exact e_ne2 (by decide) | omega)) (e_uq hw78 (Or.inl (by first | decide | exact e_neo (by decide) | exact e_ne1 (by decide) | exact e_ne2 (by decide) | omega)) (e_uq hw75 (Or.inl (by first | decide | exact e_neo (by decide) | exact e_ne1 (by decide) | exact e_ne2 (by decide) | omega)) rfl))))))) (by omega) ?_
                                refine e_Ok.run (t' := (198, [(6, (0, -p4)), (0, (1, 275)), (1, (0, p1)), (2, (0, p2)), (3, (0, p3)), (4, (0, p4)), (5, (0, p5))], [(0, 1), (0, w 275 30), (1, 275)], w93)) 1 rfl ?_
                                refine e_Ok.add (z := w 275 30 + 1) rfl (by first | with_reducible rfl | exact Int.add_comm _ _ | omega) (by omega) ?_
                                refine e_Ok.putf rfl (el_o rfl) rfl rfl ?_
                                generalize hw96 : e_up w93 275 30 (w 275 30 + 1) = w96
                                have f97 : e_fr (mF 30 300 306) w w96 := e_fr.up f94 hw96 (by first | exact Or.inl ⟨rfl, rfl⟩ | (unfold mF; omega))
                                have hT98 : e_Has mTy w96 := e_Has.upr hT95 hw96 rfl (by omega)
                                refine e_Ok.run (t' := (203, [(6, (0, -p4)), (0, (1, 275)), (1, (0, p1)), (2, (0, p2)), (3, (0, p3)), (4, (0, p4)), (5, (0, p5))], [(1, 275)], w96)) 1 rfl ?_
                                refine e_Ok.getf (z := w 275 30 + 1) rfl (el_o rfl) rfl rfl (e_ue hw96) (by omega) ?_
                                refine e_Ok.run (t' := (207, [(6, (0, -p4)), (0, (1, 275)), (1, (0, p1)), (2, (0, p2)), (3, (0, p3)), (4, (0, p4)), (5, (0, p5))], [(0, 1), (0, w 275 30 + 1)], w96)) 1 rfl ?_
                                refine e_Ok.sub' (z := w 275 30) rfl (by first | with_reducible rfl | exact Int.add_comm _ _ | omega) (by omega) ?_
                                refine e_Ok.rets rfl rfl ?_
                                exact ⟨_, rfl, f97, hT98, trivial⟩
                              · replace h74 : (w 275 30 : Int) = 4 := Classical.not_not.mp (show ¬ ((w 275 30 : Int) ≠ 4) from h74)
                                refine e_Ok.run (t' := (119, [(6, (0, -p4)), (0, (1, 275)), (1, (0, p1)), (2, (0, p2)), (3, (0, p3)), (4, (0, p4)), (5, (0, p5))], [(0, (-3))], w)) 1 rfl ?_
                                refine e_Ok.rets rfl rfl ?_
                                exact ⟨_, rfl, (e_fr.refl w), hT, trivial⟩
                            · replace h72 : (w 275 3 : Int) ≠ 0 := (show ¬ ((w 275 3 : Int) = 0) from h72)
                              refine e_Ok.run (t' := (108, [(6, (0, -p4)), (0, (1, 275)), (1, (0, p1)), (2, (0, p2)), (3, (0, p3)), (4, (0, p4)), (5, (0, p5))], [(0, (-2))], w)) 1 rfl ?_
                              refine e_Ok.rets rfl rfl ?_
                              exact ⟨_, rfl, (e_fr.refl w), hT, trivial⟩
                          · replace h70 : (1 : Int) = 0 := Classical.not_not.mp (show ¬ ((1 : Int) ≠ 0) from h70)
                            exfalso; omega
                        · show e_Ok 20 elay ecode eI (d + 1) 286 (94, [(6, (0, -p4)), (0, (1, 275)), (1, (0, p1)), (2, (0, p2)), (3, (0, p3)), (4, (0, p4)), (5, (0, p5))], [(0, 0)], w) _
                          refine e_Ok.if1 rfl (fun h99 => ?_) (fun h99 => ?_)
                          · replace h99 : (0 : Int) ≠ 0 := h99
                            exfalso; omega
                          · replace h99 : (0 : Int) = 0 := Classical.not_not.mp (show ¬ ((0 : Int) ≠ 0) from h99)
                            refine e_Ok.run (t' := (98, [(6, (0, -p4)), (0, (1, 275)), (1, (0, p1)), (2, (0, p2)), (3, (0, p3)), (4, (0, p4)), (5, (0, p5))], [(0, (-1))], w)) 1 rfl ?_
                            refine e_Ok.rets rfl rfl ?_
                            exact ⟨_, rfl, (e_fr.refl w), hT, trivial⟩
                    · replace h27 : (z26 : Int) = 0 := Classical.not_not.mp (show ¬ ((z26 : Int) ≠ 0) from h27)
                      refine e_Ok.run (t' := (72, [(6, (0, -p4)), (0, (1, 275)), (1, (0, p1)), (2, (0, p2)), (3, (0, p3)), (4, (0, p4)), (5, (0, p5))], [(0, -p4), (0, p1)], w)) 2 rfl ?_
                      refine e_Ok.add (z := p1 - p4) rfl (by first | with_reducible rfl | exact Int.add_comm _ _ | omega) (by omega) ?_
                      refine e_Ok.run (t' := (79, [(6, (0, -p4)), (0, (1, 275)), (1, (0, p1)), (2, (0, p2)), (3, (0, p3)), (4, (0, p4)), (5, (0, p5))], [(0, 2), (0, p3), (0, p1 - p4)], w)) 3 rfl ?_
                      refine e_Ok.remn (fun z100 hz100 => ?_) rfl (by omega) (by omega)
                      replace hz100 : z100 = p3 % 2 := hz100
                      have z100r : 0 ≤ z100 ∧ z100 ≤ 1 := by omega
                      refine e_Ok.if1 rfl (fun h101 => ?_) (fun h101 => ?_)
                      · replace h101 : (z100 : Int) ≠ 0 := h101
                        refine e_Ok.run (t' := (90, [(6, (0, -p4)), (0, (1, 275)), (1, (0, p1)), (2, (0, p2)), (3, (0, p3)), (4, (0, p4)), (5, (0, p5))], [(0, -p4), (0, p2), (0, p1 - p4)], w)) 2 rfl ?_
                        refine e_Ok.add (z := p2 - p4) rfl (by first | with_reducible rfl | exact Int.add_comm _ _ | omega) (by omega) ?_
                        refine e_Ok.callS rfl (by first | exact e_dq hd rfl | omega) rfl rfl (c_272 (by first | exact e_dq hd rfl | omega)) (fun r102 w103 h104 => ?_)
                        obtain ⟨z105, rfl, rfl, q106⟩ := h104
                        obtain ⟨rfl, q106⟩ | ⟨rfl, q106⟩ := q106
                        · show e_Ok 20 elay ecode eI (d + 1) 286 (94, [(6, (0, -p4)), (0, (1, 275)), (1, (0, p1)), (2, (0, p2)), (3, (0, p3)), (4, (0, p4)), (5, (0, p5))], [(0, 1)], w) _
                          refine e_Ok.if1 rfl (fun h107 => ?_) (fun h107 => ?_)
                          · replace h107 : (1 : Int) ≠ 0 := h107
                            refine e_Ok.run (t' := (100, [(6, (0, -p4)), (0, (1, 275)), (1, (0, p1)), (2, (0, p2)), (3, (0, p3)), (4, (0, p4)), (5, (0, p5))], [(1, 275)], w)) 1 rfl ?_
                            have h108 := (e_Has.get hT (c := 275) (k := 3) (lo := 0) (hi := 1) rfl (by decide))
                            refine e_Ok.getf (z := w 275 3) rfl (el_o rfl) rfl rfl rfl (by first | exact e_bq h108 (by decide) (by decide) | omega) ?_
                            refine e_Ok.if1 rfl (fun h109 => ?_) (fun h109 => ?_)
                            · replace h109 : (w 275 3 : Int) = 0 := h109
                              refine e_Ok.run (t' := (110, [(6, (0, -p4)), (0, (1, 275)), (1, (0, p1)), (2, (0, p2)), (3, (0, p3)), (4, (0, p4)), (5, (0, p5))], [(1, 275)], w)) 1 rfl ?_
                              have h110 := (e_Has.get hT (c := 275) (k := 30) (lo := 0) (hi := 4) rfl (by decide))
                              refine e_Ok.getf (z := w 275 30) rfl (el_o rfl) rfl rfl rfl (by first | exact e_bq h110 (by decide) (by decide) | omega) ?_
                              refine e_Ok.run (t' := (114, [(6, (0, -p4)), (0, (1, 275)), (1, (0, p1)), (2, (0, p2)), (3, (0, p3)), (4, (0, p4)), (5, (0, p5))], [(0, 4), (0, w 275 30)], w)) 1 rfl ?_
                              refine e_Ok.if2 rfl (fun h111 => ?_) (fun h111 => ?_)
                              · replace h111 : (w 275 30 : Int) ≠ 4 := h111
                                refine e_Ok.run (t' := (121, [(6, (0, -p4)), (0, (1, 275)), (1, (0, p1)), (2, (0, p2)), (3, (0, p3)), (4, (0, p4)), (5, (0, p5))], [(1, 275)], w)) 1 rfl ?_
                                refine e_Ok.getr (z := 300) rfl (el_o rfl) rfl rfl (e_Has.eq hT rfl) ⟨by decide, by decide⟩ ?_
                                refine e_Ok.run (t' := (125, [(6, (0, -p4)), (0, (1, 275)), (1, (0, p1)), (2, (0, p2)), (3, (0, p3)), (4, (0, p4)), (5, (0, p5))], [(1, 275), (1, 300)], w)) 1 rfl ?_
                                refine e_Ok.getf (z := w 275 30) rfl (el_o rfl) rfl rfl rfl (by omega) ?_
                                refine e_Ok.run (t' := (129, [(6, (0, -p4)), (0, (1, 275)), (1, (0, p1)), (2, (0, p2)), (3, (0, p3)), (4, (0, p4)), (5, (0, p5))], [(0, p1), (0, w 275 30), (1, 300)], w)) 1 rfl ?_
                                refine e_Ok.ast rfl (el_o rfl) rfl rfl (by omega) ?_
                                generalize hw112 : e_up w 300 (w 275 30) p1 = w112
                                have f113 : e_fr (mF 30 300 306) w w112 := e_fr.up (e_fr.refl w) hw112 (by first | exact Or.inr ⟨(by decide), (by decide)⟩ | (unfold mF; omega))
                                have hT114 : e_Has mTy w112 := e_Has.upr hT hw112 rfl (by omega)
                                refine e_Ok.run (t' := (131, [(6, (0, -p4)), (0, (1, 275)), (1, (0, p1)), (2, (0, p2)), (3, (0, p3)), (4, (0, p4)), (5, (0, p5))], [(1, 275)], w112)) 1 rfl ?_
                                refine e_Ok.getr (z := 301) rfl (el_o rfl) rfl rfl (e_uq hw112 (Or.inl (by first | decide | exact e_neo (by decide) | exact e_ne1 (by decide) | exact e_ne2 (by decide) | omega)) (e_Has.eq hT rfl)) ⟨by decide, by decide⟩ ?_
                                refine e_Ok.run (t' := (135, [(6, (0, -p4)), (0, (1, 275)), (1, (0, p1)), (2, (0, p2)), (3, (0, p3)), (4, (0, p4)), (5, (0, p5))], [(1, 275), (1, 301)], w112)) 1 rfl ?_
                                refine e_Ok.getf (z := w 275 30) rfl (el_o rfl) rfl rfl (e_uq hw112 (Or.inl (by first | decide | exact e_neo (by decide) | exact e_ne1 (by decide) | exact e_ne2 (by decide) | omega)) rfl) (by omega) ?_
                                refine e_Ok.run (t' := (139, [(6, (0, -p4)), (0, (1, 275)), (1, (0, p1)), (2, (0, p2)), (3, (0, p3)), (4, (0, p4)), (5, (0, p5))], [(0, p2), (0, w 275 30), (1, 301)], w112)) 1 rfl ?_
                                refine e_Ok.ast rfl (el_o rfl) rfl rfl (by omega) ?_
                                generalize hw115 : e_up w112 301 (w 275 30) p2 = w115
                                have f116 : e_fr (mF 30 300 306) w w115 := e_fr.up f113 hw115 (by first | exact Or.inr ⟨(by decide), (by decide)⟩ | (unfold mF; omega))
                                have hT117 : e_Has mTy w115 := e_Has.upr hT114 hw115 rfl (by omega)
                                refine e_Ok.run (t' := (141, [(6, (0, -p4)), (0, (1, 275)), (1, (0, p1)), (2, (0, p2)), (3, (0, p3)), (4, (0, p4)), (5, (0, p5))], [(1, 275)], w115)) 1 rfl ?_
                                refine e_Ok.getr (z := 302) rfl (el_o rfl) rfl rfl (e_uq hw115 (Or.inl (by first | decide | exact e_neo (by decide) | exact e_ne1 (by decide) | exact e_ne2 (by decide) | omega)) (e_uq hw112 (Or.inl (by first | decide | exact e_neo (by decide) | exact e_ne1 (by decide) | exact e_ne2 (by decide) | omega)) (e_Has.eq hT rfl))) ⟨by decide, by decide⟩ ?_
                                refine e_Ok.run (t' := (145, [(6, (0, -p4)), (0, (1, 275)), (1, (0, p1)), (2, (0, p2)), (3, (0, p3)), (4, (0, p4)), (5, (0, p5))], [(1, 275), (1, 302)], w115)) 1 rfl ?_
                                refine e_Ok.getf (z := w 275 30) rfl (el_o rfl) rfl rfl (e_uq hw115 (Or.inl (by first | decide | exact e_neo (by decide) | exact e_ne1 (by decide) | exact e_ne2 (by decide) | omega)) (e_uq hw112 (Or.inl (by first | decide | exact e_neo (by decide) | exact e_ne1 (by decide) | exact e_ne2 (by decide) | omega)) rfl)) (by omega) ?_
                                refine e_Ok.run (t' := (149, [(6, (0, -p4)), (0, (1, 275)), (1, (0, p1)), (2, (0, p2)), (3, (0, p3)), (4, (0, p4)), (5, (0, p5))], [(0, p3), (0, w 275 30), (1, 302)], w115)) 1 rfl ?_
                                refine e_Ok.ast rfl (el_o rfl) rfl rfl (by omega) ?_
                                generalize hw118 : e_up w115 302 (w 275 30) p3 = w118
                                have f119 : e_fr (mF 30 300 306) w w118 := e_fr.up f116 hw118 (by first | exact Or.inr ⟨(by decide), (by decide)⟩ | (unfold mF; omega))
                                have hT120 : e_Has mTy w118 := e_Has.upr hT117 hw118 rfl (by omega)
                                refine e_Ok.run (t' := (151, [(6, (0, -p4)), (0, (1, 275)), (1, (0, p1)), (2, (0, p2)), (3, (0, p3)), (4, (0, p4)), (5, (0, p5))], [(1, 275)], w118)) 1 rfl ?_
                                refine e_Ok.getr (z := 303) rfl (el_o rfl) rfl rfl (e_uq hw118 (Or.inl (by first | decide | exact e_neo (by decide) | exact e_ne1 (by decide) | exact e_ne2 (by decide) | omega)) (e_uq hw115 (Or.inl (by first | decide | exact e_neo (by decide) | exact e_ne1 (by decide) | exact e_ne2 (by decide) | omega)) (e_uq hw112 (Or.inl (by first | decide | exact e_neo (by decide) | exact e_ne1 (by decide) | exact e_ne2 (by decide) | omega)) (e_Has.eq hT rfl)))) ⟨by decide, by decide⟩ ?_
                                refine e_Ok.run (t' := (155, [(6, (0, -p4)), (0, (1, 275)), (1, (0, p1)), (2, (0, p2)), (3, (0, p3)), (4, (0, p4)), (5, (0, p5))], [(1, 275), (1, 303)], w118)) 1 rfl ?_
                                refine e_Ok.getf (z := w 275 30) rfl (el_o rfl) rfl rfl (e_uq hw118 (Or.inl (by first | decide | exact e_neo (by decide) | exact e_ne1 (by decide) | exact e_ne2 (by decide) | omega)) (e_uq hw115 (Or.inl (by first | decide | exact e_neo (by decide) | exact e_ne1 (by decide) | exact e_ne2 (by decide) | omega)) (e_uq hw112 (Or.inl (by first | decide | exact e_neo (by decide) | exact e_ne1 (by decide) | exact e_ne2 (by decide) | omega)) rfl))) (by omega) ?_
                                refine e_Ok.run (t' := (160, [(6, (0, -p4)), (0, (1, 275)), (1, (0, p1)), (2, (0, p2)), (3, (0, p3)), (4, (0, p4)), (5, (0, p5))], [(0, p4), (0, w 275 30), (1, 303)], w118)) 1 rfl ?_
                                refine e_Ok.ast rfl (el_o rfl) rfl rfl (by omega) ?_
                                generalize hw121 : e_up w118 303 (w 275 30) p4 = w121
                                have f122 : e_fr (mF 30 300 306) w w121 := e_fr.up f119 hw121 (by first | exact Or.inr ⟨(by decide), (by decide)⟩ | (unfold mF; omega))
                                have hT123 : e_Has mTy w121 := e_Has.upr hT120 hw121 rfl (by omega)
                                refine e_Ok.run (t' := (162, [(6, (0, -p4)), (0, (1, 275)), (1, (0, p1)), (2, (0, p2)), (3, (0, p3)), (4, (0, p4)), (5, (0, p5))], [(1, 275)], w121)) 1 rfl ?_
                                refine e_Ok.getr (z := 304) rfl (el_o rfl) rfl rfl (e_uq hw121 (Or.inl (by first | decide | exact e_neo (by decide) | exact e_ne1 (by decide) | exact e_ne2 (by decide) | omega)) (e_uq hw118 (Or.inl (by first | decide | exact e_neo (by decide) | exact e_ne1 (by decide) | exact e_ne2 (by decide) | omega)) (e_uq hw115 (Or.inl (by first | decide | exact e_neo (by decide) | exact e_ne1 (by decide) | exact e_ne2 (by decide) | omega)) (e_uq hw112 (Or.inl (by first | decide | exact e_neo (by decide) | exact e_ne1 (by decide) | exact e_ne2 (by decide) | omega)) (e_Has.eq hT rfl))))) ⟨by decide, by decide⟩ ?_
                                refine e_Ok.run (t' := (166, [(6, (0, -p4)), (0, (1, 275)), (1, (0, p1)), (2, (0, p2)), (3, (0, p3)), (4, (0, p4)), (5, (0, p5))], [(1, 275), (1, 304)], w121)) 1 rfl ?_
                                refine e_Ok.getf (z := w 275 30) rfl (el_o rfl) rfl rfl (e_uq hw121 (Or.inl (by first | decide | exact e_neo (by decide) | exact e_ne1 (by decide) | exact e_ne2 (by decide) | omega)) (e_uq hw118 (Or.inl (by first | decide | exact e_neo (by decide) | exact e_ne1 (by decide) | exact e_ne2 (by decide) | omega)) (e_uq hw115 (Or.inl (by first | decide | exact e_neo (by decide) | exact e_ne1 (by decide) | exact e_ne2 (by decide) | omega)) (e_uq hw112 (Or.inl (by first | decide | exact e_neo (by decide) | exact e_ne1 (by decide) | exact e_ne2 (by decide) | omega)) rfl)))) (by omega) ?_
                                refine e_Ok.run (t' := (170, [(6, (0, -p4)), (0, (1, 275)), (1, (0, p1)), (2, (0, p2)), (3, (0, p3)), (4, (0, p4)), (5, (0, p5))], [(0, 0), (0, w 275 30), (1, 304)], w121)) 1 rfl ?_
                                refine e_Ok.ast rfl (el_o rfl) rfl rfl (by omega) ?_
                                generalize hw124 : e_up w121 304 (w 275 30) 0 = w124
                                have f125 : e_fr (mF 30 300 306) w w124 := e_fr.up f122 hw124 (by first | exact Or.inr ⟨(by decide), (by decide)⟩ | (unfold mF; omega))
                                have hT126 : e_Has mTy w124 := e_Has.upr hT123 hw124 rfl (by omega)
                                refine e_Ok.run (t' := (172, [(6, (0, -p4)), (0, (1, 275)), (1, (0, p1)), (2, (0, p2)), (3, (0, p3)), (4, (0, p4)), (5, (0, p5))], [(1, 275)], w124)) 1 rfl ?_
                                refine e_Ok.getr (z := 306) rfl (el_o rfl) rfl rfl (e_uq hw124 (Or.inl (by first | decide | exact e_neo (by decide) | exact e_ne1 (by decide) | exact e_ne2 (by decide) | omega)) (e_uq hw121 (Or.inl (by first | decide | exact e_neo (by decide) | exact e_ne1 (by decide) | exact e_ne2 (by decide) | omega)) (e_uq hw118 (Or.inl (by first | decide | exact e_neo (by decide) | exact e_ne1 (by decide) | exact e_ne2 (by decide) | omega)) (e_uq hw115 (Or.inl (by first | decide | exact e_neo (by decide) | exact e_ne1 (by decide) | exact e_ne2 (by decide) | omega)) (e_uq hw112 (Or.inl (by first | decide | exact e_neo (by decide) | exact e_ne1 (by decide) | exact e_ne2 (by decide) | omega)) (e_Has.eq hT rfl)))))) ⟨by decide, by decide⟩ ?_
                                refine e_Ok.run (t' := (176, [(6, (0, -p4)), (0, (1, 275)), (1, (0, p1)), (2, (0, p2)), (3, (0, p3)), (4, (0, p4)), (5, (0, p5))], [(1, 275), (1, 306)], w124)) 1 rfl ?_
                                refine e_Ok.getf (z := w 275 30) rfl (el_o rfl) rfl rfl (e_uq hw124 (Or.inl (by first | decide | exact e_neo (by decide) | exact e_ne1 (by decide) | exact e_ne2 (by decide) | omega)) (e_uq hw121 (Or.inl (by first | decide | exact e_neo (by decide) | exact e_ne1 (by decide) | exact e_ne2 (by decide) | omega)) (e_uq hw118 (Or.inl (by first | decide | exact e_neo (by decide) | exact e_ne1 (by decide) | exact e_ne2 (by decide) | omega)) (e_uq hw115 (Or.inl (by first | decide | exact e_neo (by decide) | exact e_ne1 (by decide) | exact e_ne2 (by decide) | omega)) (e_uq hw112 (Or.inl (by first | decide | exact e_neo (by decide) | exact e_ne1 (by decide) | exact e_ne2 (by decide) | omega)) rfl))))) (by omega) ?_
                                refine e_Ok.run (t' := (180, [(6, (0, -p4)), (0, (1, 275)), (1, (0, p1)), (2, (0, p2)), (3, (0, p3)), (4, (0, p4)), (5, (0, p5))], [(0, (-1)), (0, w 275 30), (1, 306)], w124)) 1 rfl ?_
                                refine e_Ok.ast rfl (el_o rfl) rfl rfl (by omega) ?_
                                generalize hw127 : e_up w124 306 (w 275 30) (-1) = w127
                                have f128 : e_fr (mF 30 300 306) w w127 := e_fr.up f125 hw127 (by first | exact Or.inr ⟨(by decide), (by decide)⟩ | (unfold mF; omega))
                                have hT129 : e_Has mTy w127 := e_Has.upr hT126 hw127 rfl (by omega)
                                refine e_Ok.run (t' := (182, [(6, (0, -p4)), (0, (1, 275)), (1, (0, p1)), (2, (0, p2)), (3, (0, p3)), (4, (0, p4)), (5, (0, p5))], [(1, 275)], w127)) 1 rfl ?_
                                refine e_Ok.getr (z := 305) rfl (el_o rfl) rfl rfl (e_uq hw127 (Or.inl (by first | decide | exact e_neo (by decide) | exact e_ne1 (by decide) | exact e_ne2 (by decide) | omega)) (e_uq hw124 (Or.inl (by first | decide | exact e_neo (by decide) | exact e_ne1 (by decide) | exact e_ne2 (by decide) | omega)) (e_uq hw121 (Or.inl (by first | decide | exact e_neo (by decide) | exact e_ne1 (by decide) | exact e_ne2 (by decide) | omega)) (e_uq hw118 (Or.inl (by first | decide | exact e_neo (by decide) | exact e_ne1 (by decide) | exact e_ne2 (by decide) | omega)) (e_uq hw115 (Or.inl (by first | decide | exact e_neo (by decide) | exact e_ne1 (by decide) | exact e_ne2 (by decide) | omega)) (e_uq hw112 (Or.inl (by first | decide | exact e_neo (by decide) | exact e_ne1 (by decide) | exact e_ne2 (by decide) | omega)) (e_Has.eq hT rfl))))))) ⟨by decide, by decide⟩ ?_
                                refine e_Ok.run (t' := (186, [(6, (0, -p4)), (0, (1, 275)), (1, (0, p1)), (2, (0, p2)), (3, (0, p3)), (4, (0, p4)), (5, (0, p5))], [(1, 275), (1, 305)], w127)) 1 rfl ?_
                                refine e_Ok.getf (z := w 275 30) rfl (el_o rfl) rfl rfl (e_uq hw127 (Or.inl (by first | decide | exact e_neo (by decide) | exact e_ne1 (by decide) | exact e_ne2 (by decide) | omega)) (e_uq hw124 (Or.inl (by first | decide | exact e_neo (by decide) | exact e_ne1 (by decide) | exact e_ne2 (by decide) | omega)) (e_uq hw121 (Or.inl (by first | decide | exact e_neo (by decide) | exact e_ne1 (by decide) | exact e_ne2 (by decide) | omega)) (e_uq hw118 (Or.inl (by first | decide | exact e_neo (by decide) | exact e_ne1 (by decide) | exact e_ne2 (by decide) | omega)) (e_uq hw115 (Or.inl (by first | decide | exact e_neo (by decide) | exact e_ne1 (by decide) | exact e_ne2 (by decide) | omega)) (e_uq hw112 (Or.inl (by first | decide | exact e_neo (by decide) | exact e_ne1 (by decide) | exact e_ne2 (by decide) | omega)) rfl)))))) (by omega) ?_
                                refine e_Ok.run (t' := (191, [(6, (0, -p4)), (0, (1, 275)), (1, (0, p1)), (2, (0, p2)), (3, (0, p3)), (4, (0, p4)), (5, (0, p5))], [(0, p5), (0, w 275 30), (1, 305)], w127)) 1 rfl ?_
                                refine e_Ok.ast rfl (el_o rfl) rfl rfl (by omega) ?_
                                generalize hw130 : e_up w127 305 (w 275 30) p5 = w130
                                have f131 : e_fr (mF 30 300 306) w w130 := e_fr.up f128 hw130 (by first | exact Or.inr ⟨(by decide), (by decide)⟩ | (unfold mF; omega))
                                have hT132 : e_Has mTy w130 := e_Has.upr hT129 hw130 rfl (by omega)
                                refine e_Ok.run (t' := (194, [(6, (0, -p4)), (0, (1, 275)), (1, (0, p1)), (2, (0, p2)), (3, (0, p3)), (4, (0, p4)), (5, (0, p5))], [(1, 275), (1, 275)], w130)) 2 rfl ?_
                                refine e_Ok.getf (z := w 275 30) rfl (el_o rfl) rfl rfl (e_uq hw130 (Or.inl (by first | decide | exact e_neo (by decide) | exact e_ne1 (by decide) | exact e_ne2 (by decide) | omega)) (e_uq hw127 (Or.inl (by first | decide | exact e_neo (by decide) | exact e_ne1 (by decide) | exact e_ne2 (by decide) | omega)) (e_uq hw124 (Or.inl (by first | decide | exact e_neo (by decide) | exact e_ne1 (by decide) | exact e_ne2 (by decide) | omega)) (e_uq hw121 (Or.inl (by first | decide | exact e_neo (by decide) | exact e_ne1 (by decide) | exact e_ne2 (by decide) | omega)) (e_uq hw118 (Or.inl (by first | decide | exact e_neo (by decide) | exact e_ne1 (by decide) | exact e_ne2 (by decide) | omega)) (e_uq hw115 (Or.inl (by first | decide | exact e_neo (by decide) | exact e_ne1 (by decide) | exact e_ne2 (by decide) | omega)) (e_uq hw112 (Or.inl (by first | decide | exact e_neo (by decide) | exact e_ne1 (by decide) | exact e_ne2 (by decide) | omega)) rfl))))))) (by omega) ?_
                                refine e_Ok.run (t' := (198, [(6, (0, -p4)), (0, (1, 275)), (1, (0, p1)), (2, (0, p2)), (3, (0, p3)), (4, (0, p4)), (5, (0, p5))], [(0, 1), (0, w 275 30), (1, 275)], w130)) 1 rfl ?_
                                refine e_Ok.add (z := w 275 30 + 1) rfl (by first | with_reducible rfl | exact Int.add_comm _ _ | omega) (by omega) ?_
                                refine e_Ok.putf rfl (el_o rfl) rfl rfl ?_
                                generalize hw133 : e_up w130 275 30 (w 275 30 + 1) = w133
                                have f134 : e_fr (mF 30 300 306) w w133 := e_fr.up f131 hw133 (by first | exact Or.inl ⟨rfl, rfl⟩ | (unfold mF; omega))
                                have hT135 : e_Has mTy w133 := e_Has.upr hT132 hw133 rfl (by omega)
                                refine e_Ok.run (t' := (203, [(6, (0, -p4)), (0, (1, 275)), (1, (0, p1)), (2, (0, p2)), (3, (0, p3)), (4, (0, p4)), (5, (0, p5))], [(1, 275)], w133)) 1 rfl ?_
                                refine e_Ok.getf (z := w 275 30 + 1) rfl (el_o rfl) rfl rfl (e_ue hw133) (by omega) ?_
                                refine e_Ok.run (t' := (207, [(6, (0, -p4)), (0, (1, 275)), (1, (0, p1)), (2, (0, p2)), (3, (0, p3)), (4, (0, p4)), (5, (0, p5))], [(0, 1), (0, w 275 30 + 1)], w133)) 1 rfl ?_
                                refine e_Ok.sub' (z := w 275 30) rfl (by first | with_reducible rfl | exact Int.add_comm _ _ | omega) (by omega) ?_
                                refine e_Ok.rets rfl rfl ?_
                                exact ⟨_, rfl, f134, hT135, trivial⟩
                              · replace h111 : (w 275 30 : Int) = 4 := Classical.not_not.mp (show ¬ ((w 275 30 : Int) ≠ 4) from h111)
                                refine e_Ok.run (t' := (119, [(6, (0, -p4)), (0, (1, 275)), (1, (0, p1)), (2, (0, p2)), (3, (0, p3)), (4, (0, p4)), (5, (0, p5))], [(0, (-3))], w)) 1 rfl ?_
                                refine e_Ok.rets rfl rfl ?_
                                exact ⟨_, rfl, (e_fr.refl w), hT, trivial⟩
                            · replace h109 : (w 275 3 : Int) ≠ 0 := (show ¬ ((w 275 3 : Int) = 0) from h109)
                              refine e_Ok.run (t' := (108, [(6, (0, -p4)), (0, (1, 275)), (1, (0, p1)), (2, (0, p2)), (3, (0, p3)), (4, (0, p4)), (5, (0, p5))], [(0, (-2))], w)) 1 rfl ?_
                              refine e_Ok.rets rfl rfl ?_
                              exact ⟨_, rfl, (e_fr.refl w), hT, trivial⟩
                          · replace h107 : (1 : Int) = 0 := Classical.not_not.mp (show ¬ ((1 : Int) ≠ 0) from h107)
                            exfalso; omega
                        · show e_Ok 20 elay ecode eI (d + 1) 286 (94, [(6, (0, -p4)), (0, (1, 275)), (1, (0, p1)), (2, (0, p2)), (3, (0, p3)), (4, (0, p4)), (5, (0, p5))], [(0, 0)], w) _
                          refine e_Ok.if1 rfl (fun h136 => ?_) (fun h136 => ?_)
                          · replace h136 : (0 : Int) ≠ 0 := h136
                            exfalso; omega
                          · replace h136 : (0 : Int) = 0 := Classical.not_not.mp (show ¬ ((0 : Int) ≠ 0) from h136)
                            refine e_Ok.run (t' := (98, [(6, (0, -p4)), (0, (1, 275)), (1, (0, p1)), (2, (0, p2)), (3, (0, p3)), (4, (0, p4)), (5, (0, p5))], [(0, (-1))], w)) 1 rfl ?_
                            refine e_Ok.rets rfl rfl ?_
                            exact ⟨_, rfl, (e_fr.refl w), hT, trivial⟩
                      · replace h101 : (z100 : Int) = 0 := Classical.not_not.mp (show ¬ ((z100 : Int) ≠ 0) from h101)
                        refine e_Ok.run (t' := (91, [(6, (0, -p4)), (0, (1, 275)), (1, (0, p1)), (2, (0, p2)), (3, (0, p3)), (4, (0, p4)), (5, (0, p5))], [(0, p2), (0, p1 - p4)], w)) 2 rfl ?_
                        refine e_Ok.callS rfl (by first | exact e_dq hd rfl | omega) rfl rfl (c_272 (by first | exact e_dq hd rfl | omega)) (fun r137 w138 h139 => ?_)
                        obtain ⟨z140, rfl, rfl, q141⟩ := h139
                        obtain ⟨rfl, q141⟩ | ⟨rfl, q141⟩ := q141
                        · show e_Ok 20 elay ecode eI (d + 1) 286 (94, [(6, (0, -p4)), (0, (1, 275)), (1, (0, p1)), (2, (0, p2)), (3, (0, p3)), (4, (0, p4)), (5, (0, p5))], [(0, 1)], w) _
                          refine e_Ok.if1 rfl (fun h142 => ?_) (fun h142 => ?_)
                          · replace h142 : (1 : Int) ≠ 0 := h142
                            refine e_Ok.run (t' := (100, [(6, (0, -p4)), (0, (1, 275)), (1, (0, p1)), (2, (0, p2)), (3, (0, p3)), (4, (0, p4)), (5, (0, p5))], [(1, 275)], w)) 1 rfl ?_
                            have h143 := (e_Has.get hT (c := 275) (k := 3) (lo := 0) (hi := 1) rfl (by decide))
                            refine e_Ok.getf (z := w 275 3) rfl (el_o rfl) rfl rfl rfl (by first | exact e_bq h143 (by decide) (by decide) | omega) ?_
                            refine e_Ok.if1 rfl (fun h144 => ?_) (fun h144 => ?_)
                            · replace h144 : (w 275 3 : Int) = 0 := h144
                              refine e_Ok.run (t' := (110, [(6, (0, -p4)), (0, (1, 275)), (1, (0, p1)), (2, (0, p2)), (3, (0, p3)), (4, (0, p4)), (5, (0, p5))], [(1, 275)], w)) 1 rfl ?_
                              have h145 := (e_Has.get hT (c := 275) (k := 30) (lo := 0) (hi := 4) rfl (by decide))
                              refine e_Ok.getf (z := w 275 30) rfl (el_o rfl) rfl rfl rfl (by first | exact e_bq h145 (by decide) (by decide) | omega) ?_
                              refine e_Ok.run (t' := (114, [(6, (0, -p4)), (0, (1, 275)), (1, (0, p1)), (2, (0, p2)), (3, (0, p3)), (4, (0, p4)), (5, (0, p5))], [(0, 4), (0, w 275 30)], w)) 1 rfl ?_
                              refine e_Ok.if2 rfl (fun h146 => ?_) (fun h146 => ?_)
                              · replace h146 : (w 275 30 : Int) ≠ 4 := h146
                                refine e_Ok.run (t' := (121, [(6, (0, -p4)), (0, (1, 275)), (1, (0, p1)), (2, (0, p2)), (3, (0, p3)), (4, (0, p4)), (5, (0, p5))], [(1, 275)], w)) 1 rfl ?_
                                refine e_Ok.getr (z := 300) rfl (el_o rfl) rfl rfl (e_Has.eq hT rfl) ⟨by decide, by decide⟩ ?_
                                refine e_Ok.run (t' := (125, [(6, (0, -p4)), (0, (1, 275)), (1, (0, p1)), (2, (0, p2)), (3, (0, p3)), (4, (0, p4)), (5, (0, p5))], [(1, 275), (1, 300)], w)) 1 rfl ?_
                                refine e_Ok.getf (z := w 275 30) rfl (el_o rfl) rfl rfl rfl (by omega) ?_
                                refine e_Ok.run (t' := (129, [(6, (0, -p4)), (0, (1, 275)), (1, (0, p1)), (2, (0, p2)), (3, (0, p3)), (4, (0, p4)), (5, (0, p5))], [(0, p1), (0, w 275 30), (1, 300)], w)) 1 rfl ?_
                                refine e_Ok.ast rfl (el_o rfl) rfl rfl (by omega) ?_
                                generalize hw147 : e_up w 300 (w 275 30) p1 = w147
                                have f148 : e_fr (mF 30 300 306) w w147 := e_fr.up (e_fr.refl w) hw147 (by first | exact Or.inr ⟨(by decide), (by decide)⟩ | (unfold mF; omega))
                                have hT149 : e_Has mTy w147 := e_Has.upr hT hw147 rfl (by omega)
                                refine e_Ok.run (t' := (131, [(6, (0, -p4)), (0, (1, 275)), (1, (0, p1)), (2, (0, p2)), (3, (0, p3)), (4, (0, p4)), (5, (0, p5))], [(1, 275)], w147)) 1 rfl ?_
                                refine e_Ok.getr (z := 301) rfl (el_o rfl) rfl rfl (e_uq hw147 (Or.inl (by first | decide | exact e_neo (by decide) | exact e_ne1 (by decide) | exact e_ne2 (by decide) | omega)) (e_Has.eq hT rfl)) ⟨by decide, by decide⟩ ?_
                                refine e_Ok.run (t' := (135, [(6, (0, -p4)), (0, (1, 275)), (1, (0, p1)), (2, (0, p2)), (3, (0, p3)), (4, (0, p4)), (5, (0, p5))], [(1, 275), (1, 301)], w147)) 1 rfl ?_
                                refine e_Ok.getf (z := w 275 30) rfl (el_o rfl) rfl rfl (e_uq hw147 (Or.inl (by first | decide | exact e_neo (by decide) | exact e_ne1 (by decide) | exact e_ne2 (by decide) | omega)) rfl) (by omega) ?_
                                refine e_Ok.run (t' := (139, [(6, (0, -p4)), (0, (1, 275)), (1, (0, p1)), (2, (0, p2)), (3, (0, p3)), (4, (0, p4)), (5, (0, p5))], [(0, p2), (0, w 275 30), (1, 301)], w147)) 1 rfl ?_
                                refine e_Ok.ast rfl (el_o rfl) rfl rfl (by omega) ?_
                                generalize hw150 : e_up w147 301 (w 275 30) p2 = w150
                                have f151 : e_fr (mF 30 300 306) w w150 := e_fr.up f148 hw150 (by first | exact Or.inr ⟨(by decide), (by decide)⟩ | (unfold mF; omega))
                                have hT152 : e_Has mTy w150 := e_Has.upr hT149 hw150 rfl (by omega)
                                refine e_Ok.run (t' := (141, [(6, (0, -p4)), (0, (1, 275)), (1, (0, p1)), (2, (0, p2)), (3, (0, p3)), (4, (0, p4)), (5, (0, p5))], [(1, 275)], w150)) 1 rfl ?_
                                refine e_Ok.getr (z := 302) rfl (el_o rfl) rfl rfl (e_uq hw150 (Or.inl (by first | decide | exact e_neo (by decide) | exact e_ne1 (by decide) | exact e_ne2 (by decide) | omega)) (e_uq hw147 (Or.inl (by first | decide | exact e_neo (by decide) | exact e_ne1 (by decide) | exact e_ne2 (by decide) | omega)) (e_Has.eq hT rfl))) ⟨by decide, by decide⟩ ?_
                                refine e_Ok.run (t' := (145, [(6, (0, -p4)), (0, (1, 275)), (1, (0, p1)), (2, (0, p2)), (3, (0, p3)), (4, (0, p4)), (5, (0, p5))], [(1, 275), (1, 302)], w150)) 1 rfl ?_
                                refine e_Ok.getf (z := w 275 30) rfl (el_o rfl) rfl rfl (e_uq hw150 (Or.inl (by first | decide | exact e_neo (by decide) | exact e_ne1 (by decide) | exact e_ne2 (by decide) | omega)) (e_uq hw147 (Or.inl (by first | decide | exact e_neo (by decide) | exact e_ne1 (by decide) | exact e_ne2 (by decide) | omega)) rfl)) (by omega) ?_
                                refine e_Ok.run (t' := (149, [(6, (0, -p4)), (0, (1, 275)), (1, (0, p1)), (2, (0, p2)), (3, (0, p3)), (4, (0, p4)), (5, (0, p5))], [(0, p3), (0, w 275 30), (1, 302)], w150)) 1 rfl ?_
                                refine e_Ok.ast rfl (el_o rfl) rfl rfl (by omega) ?_
                                generalize hw153 : e_up w150 302 (w 275 30) p3 = w153
                                have f154 : e_fr (mF 30 300 306) w w153 := e_fr.up f151 hw153 (by first | exact Or.inr ⟨(by decide), (by decide)⟩ | (unfold mF; omega))
                                have hT155 : e_Has mTy w153 := e_Has.upr hT152 hw153 rfl (by omega)
                                refine e_Ok.run (t' := (151, [(6, (0, -p4)), (0, (1, 275)), (1, (0, p1)), (2, (0, p2)), (3, (0, p3)), (4, (0, p4)), (5, (0, p5))], [(1, 275)], w153)) 1 rfl ?_
                                refine e_Ok.getr (z := 303) rfl (el_o rfl) rfl rfl (e_uq hw153 (Or.inl (by first | decide | exact e_neo (by decide) | exact e_ne1 (by decide) | exact e_ne2 (by decide) | omega)) (e_uq hw150 (Or.inl (by first | decide | exact e_neo (by decide) | exact e_ne1 (by decide) | exact e_ne2 (by decide) | omega)) (e_uq hw147 (Or.inl (by first | decide | exact e_neo (by decide) | exact e_ne1 (by decide) | exact e_ne2 (by decide) | omega)) (e_Has.eq hT rfl)))) ⟨by decide, by decide⟩ ?_
                                refine e_Ok.run (t' := (155, [(6, (0, -p4)), (0, (1, 275)), (1, (0, p1)), (2, (0, p2)), (3, (0, p3)), (4, (0, p4)), (5, (0, p5))], [(1, 275), (1, 303)], w153)) 1 rfl ?_
                                refine e_Ok.getf (z := w 275 30) rfl (el_o rfl) rfl rfl (e_uq hw153 (Or.inl (by first | decide | exact e_neo (by decide) | exact e_ne1 (by decide) | exact e_ne2 (by decide) | omega)) (e_uq hw150 (Or.inl (by first | decide | exact e_neo (by decide) | exact e_ne1 (by decide) | exact e_ne2 (by decide) | omega)) (e_uq hw147 (Or.inl (by first | decide | exact e_neo (by decide) | exact e_ne1 (by decide) | exact e_ne2 (by decide) | omega)) rfl))) (by omega) ?_
                                refine e_Ok.run (t' := (160, [(6, (0, -p4)), (0, (1, 275)), (1, (0, p1)), (2, (0, p2)), (3, (0, p3)), (4, (0, p4)), (5, (0, p5))], [(0, p4), (0, w 275 30), (1, 303)], w153)) 1 rfl ?_
                                refine e_Ok.ast rfl (el_o rfl) rfl rfl (by omega) ?_
                                generalize hw156 : e_up w153 303 (w 275 30) p4 = w156
                                have f157 : e_fr (mF 30 300 306) w w156 := e_fr.up f154 hw156 (by first | exact Or.inr ⟨(by decide), (by decide)⟩ | (unfold mF; omega))
                                have hT158 : e_Has mTy w156 := e_Has.upr hT155 hw156 rfl (by omega)
                                refine e_Ok.run (t' := (162, [(6, (0, -p4)), (0, (1, 275)), (1, (0, p1)), (2, (0, p2)), (3, (0, p3)), (4, (0, p4)), (5, (0, p5))], [(1, 275)], w156)) 1 rfl ?_
                                refine e_Ok.getr (z := 304) rfl (el_o rfl) rfl rfl (e_uq hw156 (Or.inl (by first | decide | exact e_neo (by decide) | exact e_ne1 (by decide) | exact e_ne2 (by decide) | omega)) (e_uq hw153 (Or.inl (by first | decide | exact e_neo (by decide) | exact e_ne1 (by decide) | exact e_ne2 (by decide) | omega)) (e_uq hw150 (Or.inl (by first | decide | exact e_neo (by decide) | exact e_ne1 (by decide) | exact e_ne2 (by decide) | omega)) (e_uq hw147 (Or.inl (by first | decide | exact e_neo (by decide) | exact e_ne1 (by decide) | exact e_ne2 (by decide) | omega)) (e_Has.eq hT rfl))))) ⟨by decide, by decide⟩ ?_
                                refine e_Ok.run (t' := (166, [(6, (0, -p4)), (0, (1, 275)), (1, (0, p1)), (2, (0, p2)), (3, (0, p3)), (4, (0, p4)), (5, (0, p5))], [(1, 275), (1, 304)], w156)) 1 rfl ?_
                                refine e_Ok.getf (z := w 275 30) rfl (el_o rfl) rfl rfl (e_uq hw156 (Or.inl (by first | decide | exact e_neo (by decide) | exact e_ne1 (by decide) | exact e_ne2 (by decide) | omega)) (e_uq hw153 (Or.inl (by first | decide | exact e_neo (by decide) | exact e_ne1 (by decide) | exact e_ne2 (by decide) | omega)) (e_uq hw150 (Or.inl (by first | decide | exact e_neo (by decide) | exact e_ne1 (by decide) | exact e_ne2 (by decide) | omega)) (e_uq hw147 (Or.inl (by first | decide | exact e_neo (by decide) | exact e_ne1 (by decide) | exact e_ne2 (by decide) | omega)) rfl)))) (by omega) ?_
                                refine e_Ok.run (t' := (170, [(6, (0, -p4)), (0, (1, 275)), (1, (0, p1)), (2, (0, p2)), (3, (0, p3)), (4, (0, p4)), (5, (0, p5))], [(0, 0), (0, w 275 30), (1, 304)], w156)) 1 rfl ?_
                                refine e_Ok.ast rfl (el_o rfl) rfl rfl (by omega) ?_
                                generalize hw159 : e_up w156 304 (w 275 30) 0 = w159
                                have f160 : e_fr (mF 30 300 306) w w159 := e_fr.up f157 hw159 (by first | exact Or.inr ⟨(by decide), (by decide)⟩ | (unfold mF; omega))
                                have hT161 : e_Has mTy w159 := e_Has.upr hT158 hw159 rfl (by omega)
                                refine e_Ok.run (t' := (172, [(6, (0, -p4)), (0, (1, 275)), (1, (0, p1)), (2, (0, p2)), (3, (0, p3)), (4, (0, p4)), (5, (0, p5))], [(1, 275)], w159)) 1 rfl ?_
                                refine e_Ok.getr (z := 306) rfl (el_o rfl) rfl rfl (e_uq hw159 (Or.inl (by first | decide | exact e_neo (by decide) | exact e_ne1 (by decide) | exact e_ne2 (by decide) | omega)) (e_uq hw156 (Or.inl (by first | decide | exact e_neo (by decide) | exact e_ne1 (by decide) | exact e_ne2 (by decide) | omega)) (e_uq hw153 (Or.inl (by first | decide | exact e_neo (by decide) | exact e_ne1 (by decide) | exact e_ne2 (by decide) | omega)) (e_uq hw150 (Or.inl (by first | decide | exact e_neo (by decide) | exact e_ne1 (by decide) | exact e_ne2 (by decide) | omega)) (e_uq hw147 (Or.inl (by first | decide | exact e_neo (by decide) | exact e_ne1 (by decide) | exact e_ne2 (by decide) | omega)) (e_Has.eq hT rfl)))))) ⟨by decide, by decide⟩ ?_
                                refine e_Ok.run (t' := (176, [(6, (0, -p4)), (0, (1, 275)), (1, (0, p1)), (2, (0, p2)), (3, (0, p3)), (4, (0, p4)), (5, (0, p5))], [(1, 275), (1, 306)], w159)) 1 rfl ?_
                                refine e_Ok.getf (z := w 275 30) rfl (el_o rfl) rfl rfl (e_uq hw159 (Or.inl (by first | decide | exact e_neo (by decide) | exact e_ne1 (by decide) | exact e_ne2 (by decide) | omega)) (e_uq hw156 (Or.inl (by first | decide | exact e_neo (by decide) | exact e_ne1 (by decide) | exact e_ne2 (by decide) | omega)) (e_uq hw153 (Or.inl (by first | decide | exact e_neo (by decide) | exact e_ne1 (by decide) | exact e_ne2 (by decide) | omega)) (e_uq hw150 (Or.inl (by first | decide | exact e_neo (by decide) | exact e_ne1 (by decide) | exact e_ne2 (by decide) | omega)) (e_uq hw147 (Or.inl (by first | decide | exact e_neo (by decide) | exact e_ne1 (by decide) | exact e_ne2 (by decide) | omega)) rfl))))) (by omega) ?_
                                refine e_Ok.run (t' := (180, [(6, (0, -p4)), (0, (1, 275)), (1, (0, p1)), (2, (0, p2)), (3, (0, p3)), (4, (0, p4)), (5, (0, p5))], [(0, (-1)), (0, w 275 30), (1, 306)], w159)) 1 rfl ?_
                                refine e_Ok.ast rfl (el_o rfl) rfl rfl (by omega) ?_
                                generalize hw162 : e_up w159 306 (w 275 30) (-1) = w162
                                have f163 : e_fr (mF 30 300 306) w w162 := e_fr.up f160 hw162 (by first | exact Or.inr ⟨(by decide), (by decide)⟩ | (unfold mF; omega))
                                have hT164 : e_Has mTy w162 := e_Has.upr hT161 hw162 rfl (by omega)
                                refine e_Ok.run (t' := (182, [(6, (0, -p4)), (0, (1, 275)), (1, (0, p1)), (2, (0, p2)), (3, (0, p3)), (4, (0, p4)), (5, (0, p5))], [(1, 275)], w162)) 1 rfl ?_
                                refine e_Ok.getr (z := 305) rfl (el_o rfl) rfl rfl (e_uq hw162 (Or.inl (by first | decide | exact e_neo (by decide) | exact e_ne1 (by decide) | exact e_ne2 (by decide) | omega)) (e_uq hw159 (Or.inl (by first | decide | exact e_neo (by decide) | exact e_ne1 (by decide) | exact e_ne2 (by decide) | omega)) (e_uq hw156 (Or.inl (by first | decide | exact e_neo (by decide) | exact e_ne1 (by decide) | exact e_ne2 (by decide) | omega)) (e_uq hw153 (Or.inl (by first | decide | exact e_neo (by decide) | exact e_ne1 (by decide) | exact e_ne2 (by decide) | omega)) (e_uq hw150 (Or.inl (by first | decide | exact e_neo (by decide) | exact e_ne1 (by decide) | exact e_ne2 (by decide) | omega)) (e_uq hw147 (Or.inl (by first | decide | exact e_neo (by decide) | exact e_ne1 (by decide) | exact e_ne2 (by decide) | omega)) (e_Has.eq hT rfl))))))) ⟨by decide, by decide⟩ ?_
                                refine e_Ok.run (t' := (186, [(6, (0, -p4)), (0, (1, 275)), (1, (0, p1)), (2, (0, p2)), (3, (0, p3)), (4, (0, p4)), (5, (0, p5))], [(1, 275), (1, 305)], w162)) 1 rfl ?_
                                refine e_Ok.getf (z := w 275 30) rfl (el_o rfl) rfl rfl (e_uq hw162 (Or.inl (by first | decide | exact e_neo (by decide) | exact e_ne1 (by decide) | exact e_ne2 (by decide) | omega)) (e_uq hw159 (Or.inl (by first | decide | exact e_neo (by decide) | exact e_ne1 (by decide) | exact e_ne2 (by decide) | omega)) (e_uq hw156 (Or.inl (by first | decide | exact e_neo (by decide) | exact e_ne1 (by decide) | exact e_ne2 (by decide) | omega)) (e_uq hw153 (Or.inl (by first | decide | exact e_neo (by decide) | exact e_ne1 (by decide) | exact e_ne2 (by decide) | omega)) (e_uq hw150 (Or.inl (by first | decide | exact e_neo (by decide) | exact e_ne1 (by decide) | exact e_ne2 (by decide) | omega)) (e_uq hw147 (Or.inl (by first | decide | exact e_neo (by decide) | exact e_ne1 (by decide) | exact e_ne2 (by decide) | omega)) rfl)))))) (by omega) ?_
                                refine e_Ok.run (t' := (191, [(6, (0, -p4)), (0, (1, 275)), (1, (0, p1)), (2, (0, p2)), (3, (0, p3)), (4, (0, p4)), (5, (0, p5))], [(0, p5), (0, w 275 30), (1, 305)], w162)) 1 rfl ?_
                                refine e_Ok.ast rfl (el_o rfl) rfl rfl (by omega) ?_
                                generalize hw165 : e_up w162 305 (w 275 30) p5 = w165
                                have f166 : e_fr (mF 30 300 306) w w165 := e_fr.up f163 hw165 (by first | exact Or.inr ⟨(by decide), (by decide)⟩ | (unfold mF; omega))
                                have hT167 : e_Has mTy w165 := e_Has.upr hT164 hw165 rfl (by omega)
                                refine e_Ok.run (t' := (194, [(6, (0, -p4)), (0, (1, 275)), (1, (0, p1)), (2, (0, p2)), (3, (0, p3)), (4, (0, p4)), (5, (0, p5))], [(1, 275), (1, 275)], w165)) 2 rfl ?_
                                refine e_Ok.getf (z := w 275 30) rfl (el_o rfl) rfl rfl (e_uq hw165 (Or.inl (by first | decide | exact e_neo (by decide) | exact e_ne1 (by decide) | exact e_ne2 (by decide) | omega)) (e_uq hw162 (Or.inl (by first | decide | exact e_neo (by decide) | exact e_ne1 (by decide) | exact e_ne2 (by decide) | omega)) (e_uq hw159 (Or.inl (by first | decide | exact e_neo (by decide) | exact e_ne1 (by decide) | exact e_ne2 (by decide) | omega)) (e_uq hw156 (Or.inl (by first | decide | exact e_neo (by decide) | exact e_ne1 (by decide) | exact e_ne2 (by decide) | omega)) (e_uq hw153 (Or.inl (by first | decide | exact e_neo (by decide) | exact e_ne1 (by decide) | exact e_ne2 (by decide) | omega)) (e_uq hw150 (Or.inl (by first | decide | exact e_neo (by decide) | exact e_ne1 (by decide) | exact e_ne2 (by decide) | omega)) (e_uq hw147 (Or.inl (by first | decide | exact e_neo (by decide) | exact e_ne1 (by decide) | exact e_ne2 (by decide) | omega)) rfl))))))) (by omega) ?_
                                refine e_Ok.run (t' := (198, [(6, (0, -p4)), (0, (1, 275)), (1, (0, p1)), (2, (0, p2)), (3, (0, p3)), (4, (0, p4)), (5, (0, p5))], [(0, 1), (0, w 275 30), (1, 275)], w165)) 1 rfl ?_
                                refine e_Ok.add (z := w 275 30 + 1) rfl (by first | with_reducible rfl | exact Int.add_comm _ _ | omega) (by omega) ?_
                                refine e_Ok.putf rfl (el_o rfl) rfl rfl ?_
                                generalize hw168 : e_up w165 275 30 (w 275 30 + 1) = w168
                                have f169 : e_fr (mF 30 300 306) w w168 := e_fr.up f166 hw168 (by first | exact Or.inl ⟨rfl, rfl⟩ | (unfold mF; omega))
                                have hT170 : e_Has mTy w168 := e_Has.upr hT167 hw168 rfl (by omega)
                                refine e_Ok.run (t' := (203, [(6, (0, -p4)), (0, (1, 275)), (1, (0, p1)), (2, (0, p2)), (3, (0, p3)), (4, (0, p4)), (5, (0, p5))], [(1, 275)], w168)) 1 rfl ?_
                                refine e_Ok.getf (z := w 275 30 + 1) rfl (el_o rfl) rfl rfl (e_ue hw168) (by omega) ?_
                                refine e_Ok.run (t' := (207, [(6, (0, -p4)), (0, (1, 275)), (1, (0, p1)), (2, (0, p2)), (3, (0, p3)), (4, (0, p4)), (5, (0, p5))], [(0, 1), (0, w 275 30 + 1)], w168)) 1 rfl ?_
                                refine e_Ok.sub' (z := w 275 30) rfl (by first | with_reducible rfl | exact Int.add_comm _ _ | omega) (by omega) ?_
                                refine e_Ok.rets rfl rfl ?_
                                exact ⟨_, rfl, f169, hT170, trivial⟩
                              · replace h146 : (w 275 30 : Int) = 4 := Classical.not_not.mp (show ¬ ((w 275 30 : Int) ≠ 4) from h146)
                                refine e_Ok.run (t' := (119, [(6, (0, -p4)), (0, (1, 275)), (1, (0, p1)), (2, (0, p2)), (3, (0, p3)), (4, (0, p4)), (5, (0, p5))], [(0, (-3))], w)) 1 rfl ?_
                                refine e_Ok.rets rfl rfl ?_
                                exact ⟨_, rfl, (e_fr.refl w), hT, trivial⟩
                            · replace h144 : (w 275 3 : Int) ≠ 0 := (show ¬ ((w 275 3 : Int) = 0) from h144)
                              refine e_Ok.run (t' := (108, [(6, (0, -p4)), (0, (1, 275)), (1, (0, p1)), (2, (0, p2)), (3, (0, p3)), (4, (0, p4)), (5, (0, p5))], [(0, (-2))], w)) 1 rfl ?_
                              refine e_Ok.rets rfl rfl ?_
                              exact ⟨_, rfl, (e_fr.refl w), hT, trivial⟩
                          · replace h142 : (1 : Int) = 0 := Classical.not_not.mp (show ¬ ((1 : Int) ≠ 0) from h142)
                            exfalso; omega
                        · show e_Ok 20 elay ecode eI (d + 1) 286 (94, [(6, (0, -p4)), (0, (1, 275)), (1, (0, p1)), (2, (0, p2)), (3, (0, p3)), (4, (0, p4)), (5, (0, p5))], [(0, 0)], w) _
                          refine e_Ok.if1 rfl (fun h171 => ?_) (fun h171 => ?_)
                          · replace h171 : (0 : Int) ≠ 0 := h171
                            exfalso; omega
                          · replace h171 : (0 : Int) = 0 := Classical.not_not.mp (show ¬ ((0 : Int) ≠ 0) from h171)
                            refine e_Ok.run (t' := (98, [(6, (0, -p4)), (0, (1, 275)), (1, (0, p1)), (2, (0, p2)), (3, (0, p3)), (4, (0, p4)), (5, (0, p5))], [(0, (-1))], w)) 1 rfl ?_
                            refine e_Ok.rets rfl rfl ?_
                            exact ⟨_, rfl, (e_fr.refl w), hT, trivial⟩
                  · replace h25 : (p3 : Int) < 2 := Int.not_le.mp (show ¬ ((p3 : Int) ≥ 2) from h25)
                    refine e_Ok.run (t' := (65, [(6, (0, p4)), (0, (1, 275)), (1, (0, p1)), (2, (0, p2)), (3, (0, p3)), (4, (0, p4)), (5, (0, p5))], [(0, 2), (0, p3)], w)) 5 rfl ?_
                    refine e_Ok.remn (fun z172 hz172 => ?_) rfl (by omega) (by omega)
                    replace hz172 : z172 = p3 % 2 := hz172
                    have z172r : 0 ≤ z172 ∧ z172 ≤ 1 := by omega
                    refine e_Ok.if1 rfl (fun h173 => ?_) (fun h173 => ?_)
                    · replace h173 : (z172 : Int) ≠ 0 := h173
                      refine e_Ok.run (t' := (79, [(6, (0, p4)), (0, (1, 275)), (1, (0, p1)), (2, (0, p2)), (3, (0, p3)), (4, (0, p4)), (5, (0, p5))], [(0, 2), (0, p3), (0, p1)], w)) 3 rfl ?_
                      refine e_Ok.remn (fun z174 hz174 => ?_) rfl (by omega) (by omega)
                      replace hz174 : z174 = p3 % 2 := hz174
                      have z174r : 0 ≤ z174 ∧ z174 ≤ 1 := by omega
                      refine e_Ok.if1 rfl (fun h175 => ?_) (fun h175 => ?_)
                      · replace h175 : (z174 : Int) ≠ 0 := h175
                        refine e_Ok.run (t' := (90, [(6, (0, p4)), (0, (1, 275)), (1, (0, p1)), (2, (0, p2)), (3, (0, p3)), (4, (0, p4)), (5, (0, p5))], [(0, p4), (0, p2), (0, p1)], w)) 2 rfl ?_
                        refine e_Ok.add (z := p2 + p4) rfl (by first | with_reducible rfl | exact Int.add_comm _ _ | omega) (by omega) ?_
                        refine e_Ok.callS rfl (by first | exact e_dq hd rfl | omega) rfl rfl (c_272 (by first | exact e_dq hd rfl | omega)) (fun r176 w177 h178 => ?_)
                        obtain ⟨z179, rfl, rfl, q180⟩ := h178
                        obtain ⟨rfl, q180⟩ | ⟨rfl, q180⟩ := q180
                        · show e_Ok 20 elay ecode eI (d + 1) 286 (94, [(6, (0, p4)), (0, (1, 275)), (1, (0, p1)), (2, (0, p2)), (3, (0, p3)), (4, (0, p4)), (5, (0, p5))], [(0, 1)], w) _
                          refine e_Ok.if1 rfl (fun h181 => ?_) (fun h181 => ?_)
                          · replace h181 : (1 : Int) ≠ 0 := h181
                            refine e_Ok.run (t' := (100, [(6, (0, p4)), (0, (1, 275)), (1, (0, p1)), (2, (0, p2)), (3, (0, p3)), (4, (0, p4)), (5, (0, p5))], [(1, 275)], w)) 1 rfl ?_
                            have h182 := (e_Has.get hT (c := 275) (k := 3) (lo := 0) (hi := 1) rfl (by decide))
                            refine e_Ok.getf (z := w 275 3) rfl (el_o rfl) rfl rfl rfl (by first | exact e_bq h182 (by decide) (by decide) | omega) ?_
                            refine e_Ok.if1 rfl (fun h183 => ?_) (fun h183 => ?_)
                            · replace h183 : (w 275 3 : Int) = 0 := h183
                              refine e_Ok.run (t' := (110, [(6, (0, p4)), (0, (1, 275)), (1, (0, p1)), (2, (0, p2)), (3, (0, p3)), (4, (0, p4)), (5, (0, p5))], [(1, 275)], w)) 1 rfl ?_
                              have h184 := (e_Has.get hT (c := 275) (k := 30) (lo := 0) (hi := 4) rfl (by decide))
                              refine e_Ok.getf (z := w 275 30) rfl (el_o rfl) rfl rfl rfl (by first | exact e_bq h184 (by decide) (by decide) | omega) ?_
                              refine e_Ok.run (t' := (114, [(6, (0, p4)), (0, (1, 275)), (1, (0, p1)), (2, (0, p2)), (3, (0, p3)), (4, (0, p4)), (5, (0, p5))], [(0, 4), (0, w 275 30)], w)) 1 rfl ?_
                              refine e_Ok.if2 rfl (fun h185 => ?_) (fun h185 => ?_)
                              · replace h185 : (w 275 30 : Int) ≠ 4 := h185
                                refine e_Ok.run (t' := (121, [(6, (0, p4)), (0, (1, 275)), (1, (0, p1)), (2, (0, p2)), (3, (0, p3)), (4, (0, p4)), (5, (0, p5))], [(1, 275)], w)) 1 rfl ?_
                                refine e_Ok.getr (z := 300) rfl (el_o rfl) rfl rfl (e_Has.eq hT rfl) ⟨by decide, by decide⟩ ?_
                                refine e_Ok.run (t' := (125, [(6, (0, p4)), (0, (1, 275)), (1, (0, p1)), (2, (0, p2)), (3, (0, p3)), (4, (0, p4)), (5, (0, p5))], [(1, 275), (1, 300)], w)) 1 rfl ?_
                                refine e_Ok.getf (z := w 275 30) rfl (el_o rfl) rfl rfl rfl (by omega) ?_
                                refine e_Ok.run (t' := (129, [(6, (0, p4)), (0, (1, 275)), (1, (0, p1)), (2, (0, p2)), (3, (0, p3)), (4, (0, p4)), (5, (0, p5))], [(0, p1), (0, w 275 30), (1, 300)], w)) 1 rfl ?_
                                refine e_Ok.ast rfl (el_o rfl) rfl rfl (by omega) ?_
                                generalize hw186 : e_up w 300 (w 275 30) p1 = w186
                                have f187 : e_fr (mF 30 300 306) w w186 := e_fr.up (e_fr.refl w) hw186 (by first | exact Or.inr ⟨(by decide), (by decide)⟩ | (unfold mF; omega))
                                have hT188 : e_Has mTy w186 := e_Has.upr hT hw186 rfl (by omega)
                                refine e_Ok.run (t' := (131, [(6, (0, p4)), (0, (1, 275)), (1, (0, p1)), (2, (0, p2)), (3, (0, p3)), (4, (0, p4)), (5, (0, p5))], [(1, 275)], w186)) 1 rfl ?_
                                refine e_Ok.getr (z := 301) rfl (el_o rfl) rfl rfl (e_uq hw186 (Or.inl (by first | decide | exact e_neo (by decide) | exact e_ne1 (by decide) | exact e_ne2 (by decide) | omega)) (e_Has.eq hT rfl)) ⟨by decide, by decide⟩ ?_
                                refine e_Ok.run (t' := (135, [(6, (0, p4)), (0, (1, 275)), (1, (0, p1)), (2, (0, p2)), (3, (0, p3)), (4, (0, p4)), (5, (0, p5))], [(1, 275), (1, 301)], w186)) 1 rfl ?_
                                refine e_Ok.getf (z := w 275 30) rfl (el_o rfl) rfl rfl (e_uq hw186 (Or.inl (by first | decide | exact e_neo (by decide) | exact e_ne1 (by decide) | exact e_ne2 (by decide) | omega)) rfl) (by omega) ?_
                                refine e_Ok.run (t' := (139, [(6, (0, p4)), (0, (1, 275)), (1, (0, p1)), (2, (0, p2)), (3, (0, p3)), (4, (0, p4)), (5, (0, p5))], [(0, p2), (0, w 275 30), (1, 301)], w186)) 1 rfl ?_
                                refine e_Ok.ast rfl (el_o rfl) rfl rfl (by omega) ?_
                                generalize hw189 : e_up w186 301 (w 275 30) p2 = w189
                                have f190 : e_fr (mF 30 300 306) w w189 := e_fr.up f187 hw189 (by first | exact Or.inr ⟨(by decide), (by decide)⟩ | (unfold mF; omega))
                                have hT191 : e_Has mTy w189 := e_Has.upr hT188 hw189 rfl (by omega)
                                refine e_Ok.run (t' := (141, [(6, (0, p4)), (0, (1, 275)), (1, (0, p1)), (2, (0, p2)), (3, (0, p3)), (4, (0, p4)), (5, (0, p5))], [(1, 275)], w189)) 1 rfl ?_
                                refine e_Ok.getr (z := 302) rfl (el_o rfl) rfl rfl (e_uq hw189 (Or.inl (by first | decide | exact e_neo (by decide) | exact e_ne1 (by decide) | exact e_ne2 (by decide) | omega)) (e_uq hw186 (Or.inl (by first | decide | exact e_neo (by decide) | exact e_ne1 (by decide) | exact e_ne2 (by decide) | omega)) (e_Has.eq hT rfl))) ⟨by decide, by decide⟩ ?_
                                refine e_Ok.run (t' := (145, [(6, (0, p4)), (0, (1, 275)), (1, (0, p1)), (2, (0, p2)), (3, (0, p3)), (4, (0, p4)), (5, (0, p5))], [(1, 275), (1, 302)], w189)) 1 rfl ?_
                                refine e_Ok.getf (z := w 275 30) rfl (el_o rfl) rfl rfl (e_uq hw189 (Or.inl (by first | decide | exact e_neo (by decide) | exact e_ne1 (by decide) | exact e_ne2 (by decide) | omega)) (e_uq hw186 (Or.inl (by first | decide | exact e_neo (by decide) | exact e_ne1 (by decide) | exact e_ne2 (by decide) | omega)) rfl)) (by omega) ?_
                                refine e_Ok.run (t' := (149, [(6, (0, p4)), (0, (1, 275)), (1, (0, p1)), (2, (0, p2)), (3, (0, p3)), (4, (0, p4)), (5, (0, p5))], [(0, p3), (0, w 275 30), (1, 302)], w189)) 1 rfl ?_
                                refine e_Ok.ast rfl (el_o rfl) rfl rfl (by omega) ?_
                                generalize hw192 : e_up w189 302 (w 275 30) p3 = w192
                                have f193 : e_fr (mF 30 300 306) w w192 := e_fr.up f190 hw192 (by first | exact Or.inr ⟨(by decide), (by decide)⟩ | (unfold mF; omega))
                                have hT194 : e_Has mTy w192 := e_Has.upr hT191 hw192 rfl (by omega)
                                refine e_Ok.run (t' := (151, [(6, (0, p4)), (0, (1, 275)), (1, (0, p1)), (2, (0, p2)), (3, (0, p3)), (4, (0, p4)), (5, (0, p5))], [(1, 275)], w192)) 1 rfl ?_
                                refine e_Ok.getr (z := 303) rfl (el_o rfl) rfl rfl (e_uq hw192 (Or.inl (by first | decide | exact e_neo (by decide) | exact e_ne1 (by decide) | exact e_ne2 (by decide) | omega)) (e_uq hw189 (Or.inl (by first | decide | exact e_neo (by decide) | exact e_ne1 (by decide) | exact e_ne2 (by decide) | omega)) (e_uq hw186 (Or.inl (by first | decide | exact e_neo (by decide) | exact e_ne1 (by decide) | exact e_ne2 (by decide) | omega)) (e_Has.eq hT rfl)))) ⟨by decide, by decide⟩ ?_
                                refine e_Ok.run (t' := (155, [(6, (0, p4)), (0, (1, 275)), (1, (0, p1)), (2, (0, p2)), (3, (0, p3)), (4, (0, p4)), (5, (0, p5))], [(1, 275), (1, 303)], w192)) 1 rfl ?_
                                refine e_Ok.getf (z := w 275 30) rfl (el_o rfl) rfl rfl (e_uq hw192 (Or.inl (by first | decide | exact e_neo (by decide) | exact e_ne1 (by decide) | exact e_ne2 (by decide) | omega)) (e_uq hw189 (Or.inl (by first | decide | exact e_neo (by decide) | exact e_ne1 (by decide) | exact e_ne2 (by decide) | omega)) (e_uq hw186 (Or.inl (by first | decide | exact e_neo (by decide) | exact e_ne1 (by decide) | exact e_ne2 (by decide) | omega)) rfl))) (by omega) ?_
                                refine e_Ok.run (t' := (160, [(6, (0, p4)), (0, (1, 275)), (1, (0, p1)), (2, (0, p2)), (3, (0, p3)), (4, (0, p4)), (5, (0, p5))], [(0, p4), (0, w 275 30), (1, 303)], w192)) 1 rfl ?_
                                refine e_Ok.ast rfl (el_o rfl) rfl rfl (by omega) ?_
                                generalize hw195 : e_up w192 303 (w 275 30) p4 = w195
                                have f196 : e_fr (mF 30 300 306) w w195 := e_fr.up f193 hw195 (by first | exact Or.inr ⟨(by decide), (by decide)⟩ | (unfold mF; omega))
                                have hT197 : e_Has mTy w195 := e_Has.upr hT194 hw195 rfl (by omega)
                                refine e_Ok.run (t' := (162, [(6, (0, p4)), (0, (1, 275)), (1, (0, p1)), (2, (0, p2)), (3, (0, p3)), (4, (0, p4)), (5, (0, p5))], [(1, 275)], w195)) 1 rfl ?_
                                refine e_Ok.getr (z := 304) rfl (el_o rfl) rfl rfl (e_uq hw195 (Or.inl (by first | decide | exact e_neo (by decide) | exact e_ne1 (by decide) | exact e_ne2 (by decide) | omega)) (e_uq hw192 (Or.inl (by first | decide | exact e_neo (by decide) | exact e_ne1 (by decide) | exact e_ne2 (by decide) | omega)) (e_uq hw189 (Or.inl (by first | decide | exact e_neo (by decide) | exact e_ne1 (by decide) | exact e_ne2 (by decide) | omega)) (e_uq hw186 (Or.inl (by first | decide | exact e_neo (by decide) | exact e_ne1 (by decide) | exact e_ne2 (by decide) | omega)) (e_Has.eq hT rfl))))) ⟨by decide, by decide⟩ ?_
                                refine e_Ok.run (t' := (166, [(6, (0, p4)), (0, (1, 275)), (1, (0, p1)), (2, (0, p2)), (3, (0, p3)), (4, (0, p4)), (5, (0, p5))], [(1, 275), (1, 304)], w195)) 1 rfl ?_
                                refine e_Ok.getf (z := w 275 30) rfl (el_o rfl) rfl rfl (e_uq hw195 (Or.inl (by first | decide | exact e_neo (by decide) | exact e_ne1 (by decide) | exact e_ne2 (by decide) | omega)) (e_uq hw192 (Or.inl (by first | decide | exact e_neo (by decide) | exact e_ne1 (by decide) | exact e_ne2 (by decide) | omega)) (e_uq hw189 (Or.inl (by first | decide | exact e_neo (by decide) | exact e_ne1 (by decide) | exact e_ne2 (by decide) | omega)) (e_uq hw186 (Or.inl (by first | decide | exact e_neo (by decide) | exact e_ne1 (by decide) | exact e_ne2 (by decide) | omega)) rfl)))) (by omega) ?_
                                refine e_Ok.run (t' := (170, [(6, (0, p4)), (0, (1, 275)), (1, (0, p1)), (2, (0, p2)), (3, (0, p3)), (4, (0, p4)), (5, (0, p5))], [(0, 0), (0, w 275 30), (1, 304)], w195)) 1 rfl ?_
                                refine e_Ok.ast rfl (el_o rfl) rfl rfl (by omega) ?_
                                generalize hw198 : e_up w195 304 (w 275 30) 0 = w198
                                have f199 : e_fr (mF 30 300 306) w w198 := e_fr.up f196 hw198 (by first | exact Or.inr ⟨(by decide), (by decide)⟩ | (unfold mF; omega))
                                have hT200 : e_Has mTy w198 := e_Has.upr hT197 hw198 rfl (by omega)
                                refine e_Ok.run (t' := (172, [(6, (0, p4)), (0, (1, 275)), (1, (0, p1)), (2, (0, p2)), (3, (0, p3)), (4, (0, p4)), (5, (0, p5))], [(1, 275)], w198)) 1 rfl ?_
                                refine e_Ok.getr (z := 306) rfl (el_o rfl) rfl rfl (e_uq hw198 (Or.inl (by first | decide | exact e_neo (by decide) | exact e_ne1 (by decide) | exact e_ne2 (by decide) | omega)) (e_uq hw195 (Or.inl (by first | decide | exact e_neo (by decide) | exact e_ne1 (by decide) | exact e_ne2 (by decide) | omega)) (e_uq hw192 (Or.inl (by first | decide | exact e_neo (by decide) | exact e_ne1 (by decide) | exact e_ne2 (by decide) | omega)) (e_uq hw189 (Or.inl (by first | decide | exact e_neo (by decide) | exact e_ne1 (by decide) | exact e_ne2 (by decide) | omega)) (e_uq hw186 (Or.inl (by first | decide | exact e_neo (by decide) | exact e_ne1 (by decide) | exact e_ne2 (by decide) | omega)) (e_Has.eq hT rfl)))))) ⟨by decide, by decide⟩ ?_
                                refine e_Ok.run (t' := (176, [(6, (0, p4)), (0, (1, 275)), (1, (0, p1)), (2, (0, p2)), (3, (0, p3)), (4, (0, p4)), (5, (0, p5))], [(1, 275), (1, 306)], w198)) 1 rfl ?_
                                refine e_Ok.getf (z := w 275 30) rfl (el_o rfl) rfl rfl (e_uq hw198 (Or.inl (by first | decide | exact e_neo (by decide) | exact e_ne1 (by decide) | exact e_ne2 (by decide) | omega)) (e_uq hw195 (Or.inl (by first | decide | exact e_neo (by decide) | exact e_ne1 (by decide) | exact e_ne2 (by decide) | omega)) (e_uq hw192 (Or.inl (by first | decide | exact e_neo (by decide) | exact e_ne1 (by decide) | exact e_ne2 (by decide) | omega)) (e_uq hw189 (Or.inl (by first | decide | exact e_neo (by decide) | exact e_ne1 (by decide) | exact e_ne2 (by decide) | omega)) (e_uq hw186 (Or.inl (by first | decide | exact e_neo (by decide) | exact e_ne1 (by decide) | exact e_ne2 (by decide) | omega)) rfl))))) (by omega) ?_
                                refine e_Ok.run (t' := (180, [(6, (0, p4)), (0, (1, 275)), (1, (0, p1)), (2, (0, p2)), (3, (0, p3)), (4, (0, p4)), (5, (0, p5))], [(0, (-1)), (0, w 275 30), (1, 306)], w198)) 1 rfl ?_
                                refine e_Ok.ast rfl (el_o rfl) rfl rfl (by omega) ?_
                                generalize hw201 : e_up w198 306 (w 275 30) (-1) = w201
                                have f202 : e_fr (mF 30 300 306) w w201 := e_fr.up f199 hw201 (by first | exact Or.inr ⟨(by decide), (by decide)⟩ | (unfold mF; omega))
                                have hT203 : e_Has mTy w201 := e_Has.upr hT200 hw201 rfl (by omega)
                                refine e_Ok.run (t' := (182, [(6, (0, p4)), (0, (1, 275)), (1, (0, p1)), (2, (0, p2)), (3, (0, p3)), (4, (0, p4)), (5, (0, p5))], [(1, 275)], w201)) 1 rfl ?_
                                refine e_Ok.getr (z := 305) rfl (el_o rfl) rfl rfl (e_uq hw201 (Or.inl (by first | decide | exact e_neo (by decide) | exact e_ne1 (by decide) | exact e_ne2 (by decide) | omega)) (e_uq hw198 (Or.inl (by first | decide | exact e_neo (by decide) | exact e_ne1 (by decide) | exact e_ne2 (by decide) | omega)) (e_uq hw195 (Or.inl (by first | decide | exact e_neo (by decide) | exact e_ne1 (by decide) | exact e_ne2 (by decide) | omega)) (e_uq hw192 (Or.inl (by first | decide | exact e_neo (by decide) | exact e_ne1 (by decide) | exact e_ne2 (by decide) | omega)) (e_uq hw189 (Or.inl (by first | decide | exact e_neo (by decide) | exact e_ne1 (by decide) | exact e_ne2 (by decide) | omega)) (e_uq hw186 (Or.inl (by first | decide | exact e_neo (by decide) | exact e_ne1 (by decide) | exact e_ne2 (by decide) | omega)) (e_Has.eq hT rfl))))))) ⟨by decide, by decide⟩ ?_
                                refine e_Ok.run (t' := (186, [(6, (0, p4)), (0, (1, 275)), (1, (0, p1)), (2, (0, p2)), (3, (0, p3)), (4, (0, p4)), (5, (0, p5))], [(1, 275), (1, 305)], w201)) 1 rfl ?_
                                refine e_Ok.getf (z := w 275 30) rfl (el_o rfl) rfl rfl (e_uq hw201 (Or.inl (by first | decide | exact e_neo (by decide) | exact e_ne1 (by decide) | exact e_ne2 (by decide) | omega)) (e_uq hw198 (Or.inl (by first | decide | exact e_neo (by decide) | exact e_ne1 (by decide) | exact e_ne2 (by decide) | omega)) (e_uq hw195 (Or.inl (by first | decide | exact e_neo (by decide) | exact e_ne1 (by decide) | exact e_ne2 (by decide) | omega)) (e_uq hw192 (Or.inl (by first | decide | exact e_neo (by decide) | exact e_ne1 (by decide) | exact e_ne2 (by decide) | omega)) (e_uq hw189 (Or.inl (by first | decide | exact e_neo (by decide) | exact e_ne1 (by decide) | exact e_ne2 (by decide) | omega)) (e_uq hw186 (Or.inl (by first | decide | exact e_neo (by decide) | exact e_ne1 (by decide) | exact e_ne2 (by decide) | omega)) rfl)))))) (by omega) ?_
                                refine e_Ok.run (t' := (191, [(6, (0, p4)), (0, (1, 275)), (1, (0, p1)), (2, (0, p2)), (3, (0, p3)), (4, (0, p4)), (5, (0, p5))], [(0, p5), (0, w 275 30), (1, 305)], w201)) 1 rfl ?_
                                refine e_Ok.ast rfl (el_o rfl) rfl rfl (by omega) ?_
                                generalize hw204 : e_up w201 305 (w 275 30) p5 = w204
                                have f205 : e_fr (mF 30 300 306) w w204 := e_fr.up f202 hw204 (by first | exact Or.inr ⟨(by decide), (by decide)⟩ | (unfold mF; omega))
                                have hT206 : e_Has mTy w204 := e_Has.upr hT203 hw204 rfl (by omega)
                                refine e_Ok.run (t' := (194, [(6, (0, p4)), (0, (1, 275)), (1, (0, p1)), (2, (0, p2)), (3, (0, p3)), (4, (0, p4)), (5, (0, p5))], [(1, 275), (1, 275)], w204)) 2 rfl ?_
                                refine e_Ok.getf (z := w 275 30) rfl (el_o rfl) rfl rfl (e_uq hw204 (Or.inl (by first | decide | exact e_neo (by decide) | exact e_ne1 (by decide) | exact e_ne2 (by decide) | omega)) (e_uq hw201 (Or.inl (by first | decide | exact e_neo (by decide) | exact e_ne1 (by decide) | exact e_ne2 (by decide) | omega)) (e_uq hw198 (Or.inl (by first | decide | exact e_neo (by decide) | exact e_ne1 (by decide) | exact e_ne2 (by decide) | omega)) (e_uq hw195 (Or.inl (by first | decide | exact e_neo (by decide) | exact e_ne1 (by decide) | exact e_ne2 (by decide) | omega)) (e_uq hw192 (Or.inl (by first | decide | exact e_neo (by decide) | exact e_ne1 (by decide) | exact e_ne2 (by decide) | omega)) (e_uq hw189 (Or.inl (by first | decide | exact e_neo (by decide) | exact e_ne1 (by decide) | exact e_ne2 (by decide) | omega)) (e_uq hw186 (Or.inl (by first | decide | exact e_neo (by decide) | exact e_ne1 (by decide) | exact e_ne2 (by decide) | omega)) rfl))))))) (by omega) ?_
                                refine e_Ok.run (t' := (198, [(6, (0, p4)), (0, (1, 275)), (1, (0, p1)), (2, (0, p2)), (3, (0, p3)), (4, (0, p4)), (5, (0, p5))], [(0, 1), (0, w 275 30), (1, 275)], w204)) 1 rfl ?_
                                refine e_Ok.add (z := w 275 30 + 1) rfl (by first | with_reducible rfl | exact Int.add_comm _ _ | omega) (by omega) ?_
                                refine e_Ok.putf rfl (el_o rfl) rfl rfl ?_
                                generalize hw207 : e_up w204 275 30 (w 275 30 + 1) = w207
                                have f208 : e_fr (mF 30 300 306) w w207 := e_fr.up f205 hw207 (by first | exact Or.inl ⟨rfl, rfl⟩ | (unfold mF; omega))
                                have hT209 : e_Has mTy w207 := e_Has.upr hT206 hw207 rfl (by omega)
                                refine e_Ok.run (t' := (203, [(6, (0, p4)), (0, (1, 275)), (1, (0, p1)), (2, (0, p2)), (3, (0, p3)), (4, (0, p4)), (5, (0, p5))], [(1, 275)], w207)) 1 rfl ?_
                                refine e_Ok.getf (z := w 275 30 + 1) rfl (el_o rfl) rfl rfl (e_ue hw207) (by omega) ?_
                                refine e_Ok.run (t' := (207, [(6, (0, p4)), (0, (1, 275)), (1, (0, p1)), (2, (0, p2)), (3, (0, p3)), (4, (0, p4)), (5, (0, p5))], [(0, 1), (0, w 275 30 + 1)], w207)) 1 rfl ?_
                                refine e_Ok.sub' (z := w 275 30) rfl (by first | with_reducible rfl | exact Int.add_comm _ _ | omega) (by omega) ?_
                                refine e_Ok.rets rfl rfl ?_
                                exact ⟨_, rfl, f208, hT209, trivial⟩
                              · replace h185 : (w 275 30 : Int) = 4 := Classical.not_not.mp (show ¬ ((w 275 30 : Int) ≠ 4) from h185)
                                refine e_Ok.run (t' := (119, [(6, (0, p4)), (0, (1, 275)), (1, (0, p1)), (2, (0, p2)), (3, (0, p3)), (4, (0, p4)), (5, (0, p5))], [(0, (-3))], w)) 1 rfl ?_
                                refine e_Ok.rets rfl rfl ?_
                                exact ⟨_, rfl, (e_fr.refl w), hT, trivial⟩
                            · replace h183 : (w 275 3 : Int) ≠ 0 := (show ¬ ((w 275 3 : Int) = 0) from h183)
                              refine e_Ok.run (t' := (108, [(6, (0, p4)), (0, (1, 275)), (1, (0, p1)), (2, (0, p2)), (3, (0, p3)), (4, (0, p4)), (5, (0, p5))], [(0, (-2))], w)) 1 rfl ?_
                              refine e_Ok.rets rfl rfl ?_
                              exact ⟨_, rfl, (e_fr.refl w), hT, trivial⟩
                          · replace h181 : (1 : Int) = 0 := Classical.not_not.mp (show ¬ ((1 : Int) ≠ 0) from h181)
                            exfalso; omega
                        · show e_Ok 20 elay ecode eI (d + 1) 286 (94, [(6, (0, p4)), (0, (1, 275)), (1, (0, p1)), (2, (0, p2)), (3, (0, p3)), (4, (0, p4)), (5, (0, p5))], [(0, 0)], w) _
                          refine e_Ok.if1 rfl (fun h210 => ?_) (fun h210 => ?_)
                          · replace h210 : (0 : Int) ≠ 0 := h210
                            exfalso; omega
                          · replace h210 : (0 : Int) = 0 := Classical.not_not.mp (show ¬ ((0 : Int) ≠ 0) from h210)
                            refine e_Ok.run (t' := (98, [(6, (0, p4)), (0, (1, 275)), (1, (0, p1)), (2, (0, p2)), (3, (0, p3)), (4, (0, p4)), (5, (0, p5))], [(0, (-1))], w)) 1 rfl ?_
                            refine e_Ok.rets rfl rfl ?_
                            exact ⟨_, rfl, (e_fr.refl w), hT, trivial⟩
                      · replace h175 : (z174 : Int) = 0 := Classical.not_not.mp (show ¬ ((z174 : Int) ≠ 0) from h175)
                        refine e_Ok.run (t' := (91, [(6, (0, p4)), (0, (1, 275)), (1, (0, p1)), (2, (0, p2)), (3, (0, p3)), (4, (0, p4)), (5, (0, p5))], [(0, p2), (0, p1)], w)) 2 rfl ?_
                        refine e_Ok.callS rfl (by first | exact e_dq hd rfl | omega) rfl rfl (c_272 (by first | exact e_dq hd rfl | omega)) (fun r211 w212 h213 => ?_)
                        obtain ⟨z214, rfl, rfl, q215⟩ := h213
                        obtain ⟨rfl, q215⟩ | ⟨rfl, q215⟩ := q215
                        · show e_Ok 20 elay ecode eI (d + 1) 286 (94, [(6, (0, p4)), (0, (1, 275)), (1, (0, p1)), (2, (0, p2)), (3, (0, p3)), (4, (0, p4)), (5, (0, p5))], [(0, 1)], w) _
                          refine e_Ok.if1 rfl (fun h216 => ?_) (fun h216 => ?_)
                          · replace h216 : (1 : Int) ≠ 0 := h216
                            refine e_Ok.run (t' := (100, [(6, (0, p4)), (0, (1, 275)), (1, (0, p1)), (2, (0, p2)), (3, (0, p3)), (4, (0, p4)), (5, (0, p5))], [(1, 275)], w)) 1 rfl ?_
                            have h217 := (e_Has.get hT (c := 275) (k := 3) (lo := 0) (hi := 1) rfl (by decide))
                            refine e_Ok.getf (z := w 275 3) rfl (el_o rfl) rfl rfl rfl (by first | exact e_bq h217 (by decide) (by decide) | omega) ?_
                            refine e_Ok.if1 rfl (fun h218 => ?_) (fun h218 => ?_)
                            · replace h218 : (w 275 3 : Int) = 0 := h218
                              refine e_Ok.run (t' := (110, [(6, (0, p4)), (0, (1, 275)), (1, (0, p1)), (2, (0, p2)), (3, (0, p3)), (4, (0, p4)), (5, (0, p5))], [(1, 275)], w)) 1 rfl ?_
                              have h219 := (e_Has.get hT (c := 275) (k := 30) (lo := 0) (hi := 4) rfl (by decide))
                              refine e_Ok.getf (z := w 275 30) rfl (el_o rfl) rfl rfl rfl (by first | exact e_bq h219 (by decide) (by decide) | omega) ?_
                              refine e_Ok.run (t' := (114, [(6, (0, p4)), (0, (1, 275)), (1, (0, p1)), (2, (0, p2)), (3, (0, p3)), (4, (0, p4)), (5, (0, p5))], [(0, 4), (0, w 275 30)], w)) 1 rfl ?_
                              refine e_Ok.if2 rfl (fun h220 => ?_) (fun h220 => ?_)
                              · replace h220 : (w 275 30 : Int) ≠ 4 := h220
                                refine e_Ok.run (t' := (121, [(6, (0, p4)), (0, (1, 275)), (1, (0, p1)), (2, (0, p2)), (3, (0, p3)), (4, (0, p4)), (5, (0, p5))], [(1, 275)], w)) 1 rfl ?_
                                refine e_Ok.getr (z := 300) rfl (el_o rfl) rfl rfl (e_Has.eq hT rfl) ⟨by decide, by decide⟩ ?_
                                refine e_Ok.run (t' := (125, [(6, (0, p4)), (0, (1, 275)), (1, (0, p1)), (2, (0, p2)), (3, (0, p3)), (4, (0, p4)), (5, (0, p5))], [(1, 275), (1, 300)], w)) 1 rfl ?_
                                refine e_Ok.getf (z := w 275 30) rfl (el_o rfl) rfl rfl rfl (by omega) ?_
                                refine e_Ok.run (t' := (129, [(6, (0, p4)), (0, (1, 275)), (1, (0, p1)), (2, (0, p2)), (3, (0, p3)), (4, (0, p4)), (5, (0, p5))], [(0, p1), (0, w 275 30), (1, 300)], w)) 1 rfl ?_
                                refine e_Ok.ast rfl (el_o rfl) rfl rfl (by omega) ?_
                                generalize hw221 : e_up w 300 (w 275 30) p1 = w221
                                have f222 : e_fr (mF 30 300 306) w w221 := e_fr.up (e_fr.refl w) hw221 (by first | exact Or.inr ⟨(by decide), (by decide)⟩ | (unfold mF; omega))
                                have hT223 : e_Has mTy w221 := e_Has.upr hT hw221 rfl (by omega)
                                refine e_Ok.run (t' := (131, [(6, (0, p4)), (0, (1, 275)), (1, (0, p1)), (2, (0, p2)), (3, (0, p3)), (4, (0, p4)), (5, (0, p5))], [(1, 275)], w221)) 1 rfl ?_
                                refine e_Ok.getr (z := 301) rfl (el_o rfl) rfl rfl (e_uq hw221 (Or.inl (by first | decide | exact e_neo (by decide) | exact e_ne1 (by decide) | exact e_ne2 (by decide) | omega)) (e_Has.eq hT rfl)) ⟨by decide, by decide⟩ ?_
                                refine e_Ok.run (t' := (135, [(6, (0, p4)), (0, (1, 275)), (1, (0, p1)), (2, (0, p2)), (3, (0, p3)), (4, (0, p4)), (5, (0, p5))], [(1, 275), (1, 301)], w221)) 1 rfl ?_
                                refine e_Ok.getf (z := w 275 30) rfl (el_o rfl) rfl rfl (e_uq hw221 (Or.inl (by first | decide | exact e_neo (by decide) | exact e_ne1 (by decide) | exact e_ne2 (by decide) | omega)) rfl) (by omega) ?_
                                refine e_Ok.run (t' := (139, [(6, (0, p4)), (0, (1, 275)), (1, (0, p1)), (2, (0, p2)), (3, (0, p3)), (4, (0, p4)), (5, (0, p5))], [(0, p2), (0, w 275 30), (1, 301)], w221)) 1 rfl ?_
                                refine e_Ok.ast rfl (el_o rfl) rfl rfl (by omega) ?_
                                generalize hw224 : e_up w221 301 (w 275 30) p2 = w224
                                have f225 : e_fr (mF 30 300 306) w w224 := e_fr.up f222 hw224 (by first | exact Or.inr ⟨(by decide), (by decide)⟩ | (unfold mF; omega))
                                have hT226 : e_Has mTy w224 := e_Has.upr hT223 hw224 rfl (by omega)
                                refine e_Ok.run (t' := (141, [(6, (0, p4)), (0, (1, 275)), (1, (0, p1)), (2, (0, p2)), (3, (0, p3)), (4, (0, p4)), (5, (0, p5))], [(1, 275)], w224)) 1 rfl ?_
                                refine e_Ok.getr (z := 302) rfl (el_o rfl) rfl rfl (e_uq hw224 (Or.inl (by first | decide | exact e_neo (by decide) | exact e_ne1 (by decide) | exact e_ne2 (by decide) | omega)) (e_uq hw221 (Or.inl (by first | decide | exact e_neo (by decide) | exact e_ne1 (by decide) | exact e_ne2 (by decide) | omega)) (e_Has.eq hT rfl))) ⟨by decide, by decide⟩ ?_
                                refine e_Ok.run (t' := (145, [(6, (0, p4)), (0, (1, 275)), (1, (0, p1)), (2, (0, p2)), (3, (0, p3)), (4, (0, p4)), (5, (0, p5))], [(1, 275), (1, 302)], w224)) 1 rfl ?_
                                refine e_Ok.getf (z := w 275 30) rfl (el_o rfl) rfl rfl (e_uq hw224 (Or.inl (by first | decide | exact e_neo (by decide) | exact e_ne1 (by decide) | exact e_ne2 (by decide) | omega)) (e_uq hw221 (Or.inl (by first | decide | exact e_neo (by decide) | exact e_ne1 (by decide) | exact e_ne2 (by decide) | omega)) rfl)) (by omega) ?_
                                refine e_Ok.run (t' := (149, [(6, (0, p4)), (0, (1, 275)), (1, (0, p1)), (2, (0, p2)), (3, (0, p3)), (4, (0, p4)), (5, (0, p5))], [(0, p3), (0, w 275 30), (1, 302)], w224)) 1 rfl ?_
                                refine e_Ok.ast rfl (el_o rfl) rfl rfl (by omega) ?_
                                generalize hw227 : e_up w224 302 (w 275 30) p3 = w227
                                have f228 : e_fr (mF 30 300 306) w w227 := e_fr.up f225 hw227 (by first | exact Or.inr ⟨(by decide), (by decide)⟩ | (unfold mF; omega))
                                have hT229 : e_Has mTy w227 := e_Has.upr hT226 hw227 rfl (by omega)
                                refine e_Ok.run (t' := (151, [(6, (0, p4)), (0, (1, 275)), (1, (0, p1)), (2, (0, p2)), (3, (0, p3)), (4, (0, p4)), (5, (0, p5))], [(1, 275)], w227)) 1 rfl ?_
                                refine e_Ok.getr (z := 303) rfl (el_o rfl) rfl rfl (e_uq hw227 (Or.inl (by first | decide | exact e_neo (by decide) | exact e_ne1 (by decide) | exact e_ne2 (by decide) | omega)) (e_uq hw224 (Or.inl (by first | decide | exact e_neo (by decide) | exact e_ne1 (by decide) | exact e_ne2 (by decide) | omega)) (e_uq hw221 (Or.inl (by first | decide | exact e_neo (by decide) | exact e_ne1 (by decide) | exact e_ne2 (by decide) | omega)) (e_Has.eq hT rfl)))) ⟨by decide, by decide⟩ ?_
                                refine e_Ok.run (t' := (155, [(6, (0, p4)), (0, (1, 275)), (1, (0, p1)), (2, (0, p2)), (3, (0, p3)), (4, (0, p4)), (5, (0, p5))], [(1, 275), (1, 303)], w227)) 1 rfl ?_
                                refine e_Ok.getf (z := w 275 30) rfl (el_o rfl) rfl rfl (e_uq hw227 (Or.inl (by first | decide | exact e_neo (by decide) | exact e_ne1 (by decide) | exact e_ne2 (by decide) | omega)) (e_uq hw224 (Or.inl (by first | decide | exact e_neo (by decide) | exact e_ne1 (by decide) | exact e_ne2 (by decide) | omega)) (e_uq hw221 (Or.inl (by first | decide | exact e_neo (by decide) | exact e_ne1 (by decide) | exact e_ne2 (by decide) | omega)) rfl))) (by omega) ?_
                                refine e_Ok.run (t' := (160, [(6, (0, p4)), (0, (1, 275)), (1, (0, p1)), (2, (0, p2)), (3, (0, p3)), (4, (0, p4)), (5, (0, p5))], [(0, p4), (0, w 275 30), (1, 303)], w227)) 1 rfl ?_
                                refine e_Ok.ast rfl (el_o rfl) rfl rfl (by omega) ?_
                                generalize hw230 : e_up w227 303 (w 275 30) p4 = w230
                                have f231 : e_fr (mF 30 300 306) w w230 := e_fr.up f228 hw230 (by first | exact Or.inr ⟨(by decide), (by decide)⟩ | (unfold mF; omega))
                                have hT232 : e_Has mTy w230 := e_Has.upr hT229 hw230 rfl (by omega)
                                refine e_Ok.run (t' := (162, [(6, (0, p4)), (0, (1, 275)), (1, (0, p1)), (2, (0, p2)), (3, (0, p3)), (4, (0, p4)), (5, (0, p5))], [(1, 275)], w230)) 1 rfl ?_
                                refine e_Ok.getr (z := 304) rfl (el_o rfl) rfl rfl (e_uq hw230 (Or.inl (by first | decide | exact e_neo (by decide) | exact e_ne1 (by decide) | exact e_ne2 (by decide) | omega)) (e_uq hw227 (Or.inl (by first | decide | exact e_neo (by decide) | exact e_ne1 (by decide) | exact e_ne2 (by decide) | omega)) (e_uq hw224 (Or.inl (by first | decide | exact e_neo (by decide) | exact e_ne1 (by decide) | exact e_ne2 (by decide) | omega)) (e_uq hw221 (Or.inl (by first | decide | exact e_neo (by decide) | exact e_ne1 (by decide) | exact e_ne2 (by decide) | omega)) (e_Has.eq hT rfl))))) ⟨by decide, by decide⟩ ?_
                                refine e_Ok.run (t' := (166, [(6, (0, p4)), (0, (1, 275)), (1, (0, p1)), (2, (0, p2)), (3, (0, p3)), (4, (0, p4)), (5, (0, p5))], [(1, 275), (1, 304)], w230)) 1 rfl ?_
                                refine e_Ok.getf (z := w 275 30) rfl (el_o rfl) rfl rfl (e_uq hw230 (Or.inl (by first | decide | exact e_neo (by decide) | exact e_ne1 (by decide) | exact e_ne2 (by decide) | omega)) (e_uq hw227 (Or.inl (by first | decide | exact e_neo (by decide) | exact e_ne1 (by decide) | exact e_ne2 (by decide) | omega)) (e_uq hw224 (Or.inl (by first | decide | exact e_neo (by decide) | exact e_ne1 (by decide) | exact e_ne2 (by decide) | omega)) (e_uq hw221 (Or.inl (by first | decide | exact e_neo (by decide) | exact e_ne1 (by decide) | exact e_ne2 (by decide) | omega)) rfl)))) (by omega) ?_
                                refine e_Ok.run (t' := (170, [(6, (0, p4)), (0, (1, 275)), (1, (0, p1)), (2, (0, p2)), (3, (0, p3)), (4, (0, p4)), (5, (0, p5))], [(0, 0), (0, w 275 30), (1, 304)], w230)) 1 rfl ?_
                                refine e_Ok.ast rfl (el_o rfl) rfl rfl (by omega) ?_
                                generalize hw233 : e_up w230 304 (w 275 30) 0 = w233
                                have f234 : e_fr (mF 30 300 306) w w233 := e_fr.up f231 hw233 (by first | exact Or.inr ⟨(by decide), (by decide)⟩ | (unfold mF; omega))
                                have hT235 : e_Has mTy w233 := e_Has.upr hT232 hw233 rfl (by omega)
                                refine e_Ok.run (t' := (172, [(6, (0, p4)), (0, (1, 275)), (1, (0, p1)), (2, (0, p2)), (3, (0, p3)), (4, (0, p4)), (5, (0, p5))], [(1, 275)], w233)) 1 rfl ?_
                                refine e_Ok.getr (z := 306) rfl (el_o rfl) rfl rfl (e_uq hw233 (Or.inl (by first | decide | exact e_neo (by decide) | exact e_ne1 (by decide) | exact e_ne2 (by decide) | omega)) (e_uq hw230 (Or.inl (by first | decide | exact e_neo (by decide) | exact e_ne1 (by decide) | exact e_ne2 (by decide) | omega)) (e_uq hw227 (Or.inl (by first | decide | exact e_neo (by decide) | exact e_ne1 (by decide) | exact e_ne2 (by decide) | omega)) (e_uq hw224 (Or.inl (by first | decide | exact e_neo (by decide) | exact e_ne1 (by decide) | exact e_ne2 (by decide) | omega)) (e_uq hw221 (Or.inl (by first | decide | exact e_neo (by decide) | exact e_ne1 (by decide) | exact e_ne2 (by decide) | omega)) (e_Has.eq hT rfl)))))) ⟨by decide, by decide⟩ ?_
                                refine e_Ok.run (t' := (176, [(6, (0, p4)), (0, (1, 275)), (1, (0, p1)), (2, (0, p2)), (3, (0, p3)), (4, (0, p4)), (5, (0, p5))], [(1, 275), (1, 306)], w233)) 1 rfl ?_
                                refine e_Ok.getf (z := w 275 30) rfl (el_o rfl) rfl rfl (e_uq hw233 (Or.inl (by first | decide | exact e_neo (by decide) | exact e_ne1 (by decide) | exact e_ne2 (by decide) | omega)) (e_uq hw230 (Or.inl (by first | decide | exact e_neo (by decide) | exact e_ne1 (by decide) | exact e_ne2 (by decide) | omega)) (e_uq hw227 (Or.inl (by first | decide | exact e_neo (by decide) | exact e_ne1 (by decide) | exact e_ne2 (by decide) | omega)) (e_uq hw224 (Or.inl (by first | decide | exact e_neo (by decide) | exact e_ne1 (by decide) | exact e_ne2 (by decide) | omega)) (e_uq hw221 (Or.inl (by first | decide | exact e_neo (by decide) | exact e_ne1 (by decide) | exact e_ne2 (by decide) | omega)) rfl))))) (by omega) ?_
                                refine e_Ok.run (t' := (180, [(6, (0, p4)), (0, (1, 275)), (1, (0, p1)), (2, (0, p2)), (3, (0, p3)), (4, (0, p4)), (5, (0, p5))], [(0, (-1)), (0, w 275 30), (1, 306)], w233)) 1 rfl ?_
                                refine e_Ok.ast rfl (el_o rfl) rfl rfl (by omega) ?_
                                generalize hw236 : e_up w233 306 (w 275 30) (-1) = w236
                                have f237 : e_fr (mF 30 300 306) w w236 := e_fr.up f234 hw236 (by first | exact Or.inr ⟨(by decide), (by decide)⟩ | (unfold mF; omega))
                                have hT238 : e_Has mTy w236 := e_Has.upr hT235 hw236 rfl (by omega)
                                refine e_Ok.run (t' := (182, [(6, (0, p4)), (0, (1, 275)), (1, (0, p1)), (2, (0, p2)), (3, (0, p3)), (4, (0, p4)), (5, (0, p5))], [(1, 275)], w236)) 1 rfl ?_
                                refine e_Ok.getr (z := 305) rfl (el_o rfl) rfl rfl (e_uq hw236 (Or.inl (by first | decide | exact e_neo (by decide) | exact e_ne1 (by decide) | exact e_ne2 (by decide) | omega)) (e_uq hw233 (Or.inl (by first | decide | exact e_neo (by decide) | exact e_ne1 (by decide) | exact e_ne2 (by decide) | omega)) (e_uq hw230 (Or.inl (by first | decide | exact e_neo (by decide) | exact e_ne1 (by decide) | exact e_ne2 (by decide) | omega)) (e_uq hw227 (Or.inl (by first | decide | exact e_neo (by decide) | exact e_ne1 (by decide) | exact e_ne2 (by decide) | omega)) (e_uq hw224 (Or.inl (by first | decide | exact e_neo (by decide) | exact e_ne1 (by decide) | exact e_ne2 (by decide) | omega)) (e_uq hw221 (Or.inl (by first | decide | exact e_neo (by decide) | exact e_ne1 (by decide) | exact e_ne2 (by decide) | omega)) (e_Has.eq hT rfl))))))) ⟨by decide, by decide⟩ ?_
                                refine e_Ok.run (t' := (186, [(6, (0, p4)), (0, (1, 275)), (1, (0, p1)), (2, (0, p2)), (3, (0, p3)), (4, (0, p4)), (5, (0, p5))], [(1, 275), (1, 305)], w236)) 1 rfl ?_
                                refine e_Ok.getf (z := w 275 30) rfl (el_o rfl) rfl rfl (e_uq hw236 (Or.inl (by first | decide | exact e_neo (by decide) | exact e_ne1 (by decide) | exact e_ne2 (by decide) | omega)) (e_uq hw233 (Or.inl (by first | decide | exact e_neo (by decide) | exact e_ne1 (by decide) | exact e_ne2 (by decide) | omega)) (e_uq hw230 (Or.inl (by first | decide | exact e_neo (by decide) | exact e_ne1 (by decide) | exact e_ne2 (by decide) | omega)) (e_uq hw227 (Or.inl (by first | decide | exact e_neo (by decide) | exact e_ne1 (by decide) | exact e_ne2 (by decide) | omega)) (e_uq hw224 (Or.inl (by first | decide | exact e_neo (by decide) | exact e_ne1 (by decide) | exact e_ne2 (by decide) | omega)) (e_uq hw221 (Or.inl (by first | decide | exact e_neo (by decide) | exact e_ne1 (by decide) | exact e_ne2 (by decide) | omega)) rfl)))))) (by omega) ?_
                                refine e_Ok.run (t' := (191, [(6, (0, p4)), (0, (1, 275)), (1, (0, p1)), (2, (0, p2)), (3, (0, p3)), (4, (0, p4)), (5, (0, p5))], [(0, p5), (0, w 275 30), (1, 305)], w236)) 1 rfl ?_
                                refine e_Ok.ast rfl (el_o rfl) rfl rfl (by omega) ?_
                                generalize hw239 : e_up w236 305 (w 275 30) p5 = w239
                                have f240 : e_fr (mF 30 300 306) w w239 := e_fr.up f237 hw239 (by first | exact Or.inr ⟨(by decide), (by decide)⟩ | (unfold mF; omega))
                                have hT241 : e_Has mTy w239 := e_Has.upr hT238 hw239 rfl (by omega)
                                refine e_Ok.run (t' := (194, [(6, (0, p4)), (0, (1, 275)), (1, (0, p1)), (2, (0, p2)), (3, (0, p3)), (4, (0, p4)), (5, (0, p5))], [(1, 275), (1, 275)], w239)) 2 rfl ?_
                                refine e_Ok.getf (z := w 275 30) rfl (el_o rfl) rfl rfl (e_uq hw239 (Or.inl (by first | decide | exact e_neo (by decide) | exact e_ne1 (by decide) | exact e_ne2 (by decide) | omega)) (e_uq hw236 (Or.inl (by first | decide | exact e_neo (by decide) | exact e_ne1 (by decide) | exact e_ne2 (by decide) | omega)) (e_uq hw233 (Or.inl (by first | decide | exact e_neo (by decide) | exact e_ne1 (by decide) | exact e_ne2 (by decide) | omega)) (e_uq hw230 (Or.inl (by first | decide | exact e_neo (by decide) | exact e_ne1 (by decide) | exact e_ne2 (by decide) | omega)) (e_uq hw227 (Or.inl (by first | decide | exact e_neo (by decide) | exact e_ne1 (by decide) | exact e_ne2 (by decide) | omega)) (e_uq hw224 (Or.inl (by first | decide | exact e_neo (by decide) | exact e_ne1 (by decide) | exact e_ne2 (by decide) | omega)) (e_uq hw221 (Or.inl (by first | decide | exact e_neo (by decide) | exact e_ne1 (by decide) | exact e_ne2 (by decide) | omega)) rfl))))))) (by omega) ?_
                                refine e_Ok.run (t' := (198, [(6, (0, p4)), (0, (1, 275)), (1, (0, p1)), (2, (0, p2)), (3, (0, p3)), (4, (0, p4)), (5, (0, p5))], [(0, 1), (0, w 275 30), (1, 275)], w239)) 1 rfl ?_
                                refine e_Ok.add (z := w 275 30 + 1) rfl (by first | with_reducible rfl | exact Int.add_comm _ _ | omega) (by omega) ?_
                                refine e_Ok.putf rfl (el_o rfl) rfl rfl ?_
                                generalize hw242 : e_up w239 275 30 (w 275 30 + 1) = w242
                                have f243 : e_fr (mF 30 300 306) w w242 := e_fr.up f240 hw242 (by first | exact Or.inl ⟨rfl, rfl⟩ | (unfold mF; omega))
                                have hT244 : e_Has mTy w242 := e_Has.upr hT241 hw242 rfl (by omega)
                                refine e_Ok.run (t' := (203, [(6, (0, p4)), (0, (1, 275)), (1, (0, p1)), (2, (0, p2)), (3, (0, p3)), (4, (0, p4)), (5, (0, p5))], [(1, 275)], w242)) 1 rfl ?_
                                refine e_Ok.getf (z := w 275 30 + 1) rfl (el_o rfl) rfl rfl (e_ue hw242) (by omega) ?_
                                refine e_Ok.run (t' := (207, [(6, (0, p4)), (0, (1, 275)), (1, (0, p1)), (2, (0, p2)), (3, (0, p3)), (4, (0, p4)), (5, (0, p5))], [(0, 1), (0, w 275 30 + 1)], w242)) 1 rfl ?_
                                refine e_Ok.sub' (z := w 275 30) rfl (by first | with_reducible rfl | exact Int.add_comm _ _ | omega) (by omega) ?_
                                refine e_Ok.rets rfl rfl ?_
                                exact ⟨_, rfl, f243, hT244, trivial⟩
                              · replace h220 : (w 275 30 : Int) = 4 := Classical.not_not.mp (show ¬ ((w 275 30 : Int) ≠ 4) from h220)
                                refine e_Ok.run (t' := (119, [(6, (0, p4)), (0, (1, 275)), (1, (0, p1)), (2, (0, p2)), (3, (0, p3)), (4, (0, p4)), (5, (0, p5))], [(0, (-3))], w)) 1 rfl ?_
                                refine e_Ok.rets rfl rfl ?_
                                exact ⟨_, rfl, (e_fr.refl w), hT, trivial⟩
                            · replace h218 : (w 275 3 : Int) ≠ 0 := (show ¬ ((w 275 3 : Int) = 0) from h218)
                              refine e_Ok.run (t' := (108, [(6, (0, p4)), (0, (1, 275)), (1, (0, p1)), (2, (0, p2)), (3, (0, p3)), (4, (0, p4)), (5, (0, p5))], [(0, (-2))], w)) 1 rfl ?_
                              refine e_Ok.rets rfl rfl ?_
                              exact ⟨_, rfl, (e_fr.refl w), hT, trivial⟩
                          · replace h216 : (1 : Int) = 0 := Classical.not_not.mp (show ¬ ((1 : Int) ≠ 0) from h216)
                            exfalso; omega
                        · show e_Ok 20 elay ecode eI (d + 1) 286 (94, [(6, (0, p4)), (0, (1, 275)), (1, (0, p1)), (2, (0, p2)), (3, (0, p3)), (4, (0, p4)), (5, (0, p5))], [(0, 0)], w) _
                          refine e_Ok.if1 rfl (fun h245 => ?_) (fun h245 => ?_)
                          · replace h245 : (0 : Int) ≠ 0 := h245
                            exfalso; omega
                          · replace h245 : (0 : Int) = 0 := Classical.not_not.mp (show ¬ ((0 : Int) ≠ 0) from h245)
                            refine e_Ok.run (t' := (98, [(6, (0, p4)), (0, (1, 275)), (1, (0, p1)), (2, (0, p2)), (3, (0, p3)), (4, (0, p4)), (5, (0, p5))], [(0, (-1))], w)) 1 rfl ?_
                            refine e_Ok.rets rfl rfl ?_
                            exact ⟨_, rfl, (e_fr.refl w), hT, trivial⟩
                    · replace h173 : (z172 : Int) = 0 := Classical.not_not.mp (show ¬ ((z172 : Int) ≠ 0) from h173)
                      refine e_Ok.run (t' := (72, [(6, (0, p4)), (0, (1, 275)), (1, (0, p1)), (2, (0, p2)), (3, (0, p3)), (4, (0, p4)), (5, (0, p5))], [(0, p4), (0, p1)], w)) 2 rfl ?_
                      refine e_Ok.add (z := p1 + p4) rfl (by first | with_reducible rfl | exact Int.add_comm _ _ | omega) (by omega) ?_
                      refine e_Ok.run (t' := (79, [(6, (0, p4)), (0, (1, 275)), (1, (0, p1)), (2, (0, p2)), (3, (0, p3)), (4, (0, p4)), (5, (0, p5))], [(0, 2), (0, p3), (0, p1 + p4)], w)) 3 rfl ?_
                      refine e_Ok.remn (fun z246 hz246 => ?_) rfl (by omega) (by omega)
                      replace hz246 : z246 = p3 % 2 := hz246
                      have z246r : 0 ≤ z246 ∧ z246 ≤ 1 := by omega
                      refine e_Ok.if1 rfl (fun h247 => ?_) (fun h247 => ?_)
                      · replace h247 : (z246 : Int) ≠ 0 := h247
                        refine e_Ok.run (t' := (90, [(6, (0, p4)), (0, (1, 275)), (1, (0, p1)), (2, (0, p2)), (3, (0, p3)), (4, (0, p4)), (5, (0, p5))], [(0, p4), (0, p2), (0, p1 + p4)], w)) 2 rfl ?_
                        refine e_Ok.add (z := p2 + p4) rfl (by first | with_reducible rfl | exact Int.add_comm _ _ | omega) (by omega) ?_
                        refine e_Ok.callS rfl (by first | exact e_dq hd rfl | omega) rfl rfl (c_272 (by first | exact e_dq hd rfl | omega)) (fun r248 w249 h250 => ?_)
                        obtain ⟨z251, rfl, rfl, q252⟩ := h250
                        obtain ⟨rfl, q252⟩ | ⟨rfl, q252⟩ := q252
                        · show e_Ok 20 elay ecode eI (d + 1) 286 (94, [(6, (0, p4)), (0, (1, 275)), (1, (0, p1)), (2, (0, p2)), (3, (0, p3)), (4, (0, p4)), (5, (0, p5))], [(0, 1)], w) _
                          refine e_Ok.if1 rfl (fun h253 => ?_) (fun h253 => ?_)
                          · replace h253 : (1 : Int) ≠ 0 := h253
                            refine e_Ok.run (t' := (100, [(6, (0, p4)), (0, (1, 275)), (1, (0, p1)), (2, (0, p2)), (3, (0, p3)), (4, (0, p4)), (5, (0, p5))], [(1, 275)], w)) 1 rfl ?_
                            have h254 := (e_Has.get hT (c := 275) (k := 3) (lo := 0) (hi := 1) rfl (by decide))
                            refine e_Ok.getf (z := w 275 3) rfl (el_o rfl) rfl rfl rfl (by first | exact e_bq h254 (by decide) (by decide) | omega) ?_
                            refine e_Ok.if1 rfl (fun h255 => ?_) (fun h255 => ?_)
                            · replace h255 : (w 275 3 : Int) = 0 := h255
                              refine e_Ok.run (t' := (110, [(6, (0, p4)), (0, (1, 275)), (1, (0, p1)), (2, (0, p2)), (3, (0, p3)), (4, (0, p4)), (5, (0, p5))], [(1, 275)], w)) 1 rfl ?_
                              have h256 := (e_Has.get hT (c := 275) (k := 30) (lo := 0) (hi := 4) rfl (by decide))
                              refine e_Ok.getf (z := w 275 30) rfl (el_o rfl) rfl rfl rfl (by first | exact e_bq h256 (by decide) (by decide) | omega) ?_
                              refine e_Ok.run (t' := (114, [(6, (0, p4)), (0, (1, 275)), (1, (0, p1)), (2, (0, p2)), (3, (0, p3)), (4, (0, p4)), (5, (0, p5))], [(0, 4), (0, w 275 30)], w)) 1 rfl ?_
                              refine e_Ok.if2 rfl (fun h257 => ?_) (fun h257 => ?_)
                              · replace h257 : (w 275 30 : Int) ≠ 4 := h257
                                refine e_Ok.run (t' := (121, [(6, (0, p4)), (0, (1, 275)), (1, (0, p1)), (2, (0, p2)), (3, (0, p3)), (4, (0, p4)), (5, (0, p5))], [(1, 275)], w)) 1 rfl ?_
                                refine e_Ok.getr (z := 300) rfl (el_o rfl) rfl rfl (e_Has.eq hT rfl) ⟨by decide, by decide⟩ ?_
                                refine e_Ok.run (t' := (125, [(6, (0, p4)), (0, (1, 275)), (1, (0, p1)), (2, (0, p2)), (3, (0, p3)), (4, (0, p4)), (5, (0, p5))], [(1, 275), (1, 300)], w)) 1 rfl ?_
                                refine e_Ok.getf (z := w 275 30) rfl (el_o rfl) rfl rfl rfl (by omega) ?_
                                refine e_Ok.run (t' := (129, [(6, (0, p4)), (0, (1, 275)), (1, (0, p1)), (2, (0, p2)), (3, (0, p3)), (4, (0, p4)), (5, (0, p5))], [(0, p1), (0, w 275 30), (1, 300)], w)) 1 rfl ?_
                                refine e_Ok.ast rfl (el_o rfl) rfl rfl (by omega) ?_
                                generalize hw258 : e_up w 300 (w 275 30) p1 = w258
                                have f259 : e_fr (mF 30 300 306) w w258 := e_fr.up (e_fr.refl w) hw258 (by first | exact Or.inr ⟨(by decide), (by decide)⟩ | (unfold mF; omega))
                                have hT260 : e_Has mTy w258 := e_Has.upr hT hw258 rfl (by omega)
                                refine e_Ok.run (t' := (131, [(6, (0, p4)), (0, (1, 275)), (1, (0, p1)), (2, (0, p2)), (3, (0, p3)), (4, (0, p4)), (5, (0, p5))], [(1, 275)], w258)) 1 rfl ?_
                                refine e_Ok.getr (z := 301) rfl (el_o rfl) rfl rfl (e_uq hw258 (Or.inl (by first | decide | exact e_neo (by decide) | exact e_ne1 (by decide) | exact e_ne2 (by decide) | omega)) (e_Has.eq hT rfl)) ⟨by decide, by decide⟩ ?_
                                refine e_Ok.run (t' := (135, [(6, (0, p4)), (0, (1, 275)), (1, (0, p1)), (2, (0, p2)), (3, (0, p3)), (4, (0, p4)), (5, (0, p5))], [(1, 275), (1, 301)], w258)) 1 rfl ?_
                                refine e_Ok.getf (z := w 275 30) rfl (el_o rfl) rfl rfl (e_uq hw258 (Or.inl (by first | decide | exact e_neo (by decide) | exact e_ne1 (by decide) | exact e_ne2 (by decide) | omega)) rfl) (by omega) ?_
                                refine e_Ok.run (t' := (139, [(6, (0, p4)), (0, (1, 275)), (1, (0, p1)), (2, (0, p2)), (3, (0, p3)), (4, (0, p4)), (5, (0, p5))], [(0, p2), (0, w 275 30), (1, 301)], w258)) 1 rfl ?_
                                refine e_Ok.ast rfl (el_o rfl) rfl rfl (by omega) ?_
                                generalize hw261 : e_up w258 301 (w 275 30) p2 = w261
                                have f262 : e_fr (mF 30 300 306) w w261 := e_fr.up f259 hw261 (by first | exact Or.inr ⟨(by decide), (by decide)⟩ | (unfold mF; omega))
                                have hT263 : e_Has mTy w261 := e_Has.upr hT260 hw261 rfl (by omega)
                                refine e_Ok.run (t' := (141, [(6, (0, p4)), (0, (1, 275)), (1, (0, p1)), (2, (0, p2)), (3, (0, p3)), (4, (0, p4)), (5, (0, p5))], [(1, 275)], w261)) 1 rfl ?_
                                refine e_Ok.getr (z := 302) rfl (el_o rfl) rfl rfl (e_uq hw261 (Or.inl (by first | decide | exact e_neo (by decide) | exact e_ne1 (by decide) | exact e_ne2 (by decide) | omega)) (e_uq hw258 (Or.inl (by first | decide | exact e_neo (by decide) | exact e_ne1 (by decide) | exact e_ne2 (by decide) | omega)) (e_Has.eq hT rfl))) ⟨by decide, by decide⟩ ?_
                                refine e_Ok.run (t' := (145, [(6, (0, p4)), (0, (1, 275)), (1, (0, p1)), (2, (0, p2)), (3, (0, p3)), (4, (0, p4)), (5, (0, p5))], [(1, 275), (1, 302)], w261)) 1 rfl ?_
                                refine e_Ok.getf (z := w 275 30) rfl (el_o rfl) rfl rfl (e_uq hw261 (Or.inl (by first | decide | exact e_neo (by decide) | exact e_ne1 (by decide) | exact e_ne2 (by decide) | omega)) (e_uq hw258 (Or.inl (by first | decide | exact e_neo (by decide) | exact e_ne1 (by decide) | exact e_ne2 (by decide) | omega)) rfl)) (by omega) ?_
                                refine e_Ok.run (t' := (149, [(6, (0, p4)), (0, (1, 275)), (1, (0, p1)), (2, (0, p2)), (3, (0, p3)), (4, (0, p4)), (5, (0, p5))], [(0, p3), (0, w 275 30), (1, 302)], w261)) 1 rfl ?_
                                refine e_Ok.ast rfl (el_o rfl) rfl rfl (by omega) ?_
                                generalize hw264 : e_up w261 302 (w 275 30) p3 = w264
                                have f265 : e_fr (mF 30 300 306) w w264 := e_fr.up f262 hw264 (by first | exact Or.inr ⟨(by decide), (by decide)⟩ | (unfold mF; omega))
                                have hT266 : e_Has mTy w264 := e_Has.upr hT263 hw264 rfl (by omega)
                                refine e_Ok.run (t' := (151, [(6, (0, p4)), (0, (1, 275)), (1, (0, p1)), (2, (0, p2)), (3, (0, p3)), (4, (0, p4)), (5, (0, p5))], [(1, 275)], w264)) 1 rfl ?_
                                refine e_Ok.getr (z := 303) rfl (el_o rfl) rfl rfl (e_uq hw264 (Or.inl (by first | decide | exact e_neo (by decide) | exact e_ne1 (by decide) | exact e_ne2 (by decide) | omega)) (e_uq hw261 (Or.inl (by first | decide | exact e_neo (by decide) | exact e_ne1 (by decide) | exact e_ne2 (by decide) | omega)) (e_uq hw258 (Or.inl (by first | decide | exact e_neo (by decide) | exact e_ne1 (by decide) | exact e_ne2 (by decide) | omega)) (e_Has.eq hT rfl)))) ⟨by decide, by decide⟩ ?_
                                refine e_Ok.run (t' := (155, [(6, (0, p4)), (0, (1, 275)), (1, (0, p1)), (2, (0, p2)), (3, (0, p3)), (4, (0, p4)), (5, (0, p5))], [(1, 275), (1, 303)], w264)) 1 rfl ?_
                                refine e_Ok.getf (z := w 275 30) rfl (el_o rfl) rfl rfl (e_uq hw264 (Or.inl (by first | decide | exact e_neo (by decide) | exact e_ne1 (by decide) | exact e_ne2 (by decide) | omega)) (e_uq hw261 (Or.inl (by first | decide | exact e_neo (by decide) | exact e_ne1 (by decide) | exact e_ne2 (by decide) | omega)) (e_uq hw258 (Or.inl (by first | decide | exact e_neo (by decide) | exact e_ne1 (by decide) | exact e_ne2 (by decide) | omega)) rfl))) (by omega) ?_
                                refine e_Ok.run (t' := (160, [(6, (0, p4)), (0, (1, 275)), (1, (0, p1)), (2, (0, p2)), (3, (0, p3)), (4, (0, p4)), (5, (0, p5))], [(0, p4), (0, w 275 30), (1, 303)], w264)) 1 rfl ?_
                                refine e_Ok.ast rfl (el_o rfl) rfl rfl (by omega) ?_
                                generalize hw267 : e_up w264 303 (w 275 30) p4 = w267
                                have f268 : e_fr (mF 30 300 306) w w267 := e_fr.up f265 hw267 (by first | exact Or.inr ⟨(by decide), (by decide)⟩ | (unfold mF; omega))
                                have hT269 : e_Has mTy w267 := e_Has.upr hT266 hw267 rfl (by omega)
                                refine e_Ok.run (t' := (162, [(6, (0, p4)), (0, (1, 275)), (1, (0, p1)), (2, (0, p2)), (3, (0, p3)), (4, (0, p4)), (5, (0, p5))], [(1, 275)], w267)) 1 rfl ?_
                                refine e_Ok.getr (z := 304) rfl (el_o rfl) rfl rfl (e_uq hw267 (Or.inl (by first | decide | exact e_neo (by decide) | exact e_ne1 (by decide) | exact e_ne2 (by decide) | omega)) (e_uq hw264 (Or.inl (by first | decide | exact e_neo (by decide) | exact e_ne1 (by decide) | exact e_ne2 (by decide) | omega)) (e_uq hw261 (Or.inl (by first | decide | exact e_neo (by decide) | exact e_ne1 (by decide) | exact e_ne2 (by decide) | omega)) (e_uq hw258 (Or.inl (by first | decide | exact e_neo (by decide) | exact e_ne1 (by decide) | exact e_ne2 (by decide) | omega)) (e_Has.eq hT rfl))))) ⟨by decide, by decide⟩ ?_
                                refine e_Ok.run (t' := (166, [(6, (0, p4)), (0, (1, 275)), (1, (0, p1)), (2, (0, p2)), (3, (0, p3)), (4, (0, p4)), (5, (0, p5))], [(1, 275), (1, 304)], w267)) 1 rfl ?_
                                refine e_Ok.getf (z := w 275 30) rfl (el_o rfl) rfl rfl (e_uq hw267 (Or.inl (by first | decide | exact e_neo (by decide) | exact e_ne1 (by decide) | exact e_ne2 (by decide) | omega)) (e_uq hw264 (Or.inl (by first | decide | exact e_neo (by decide) | exact e_ne1 (by decide) | exact e_ne2 (by decide) | omega)) (e_uq hw261 (Or.inl (by first | decide | exact e_neo (by decide) | exact e_ne1 (by decide) | exact e_ne2 (by decide) | omega)) (e_uq hw258 (Or.inl (by first | decide | exact e_neo (by decide) | exact e_ne1 (by decide) | exact e_ne2 (by decide) | omega)) rfl)))) (by omega) ?_
                                refine e_Ok.run (t' := (170, [(6, (0, p4)), (0, (1, 275)), (1, (0, p1)), (2, (0, p2)), (3, (0, p3)), (4, (0, p4)), (5, (0, p5))], [(0, 0), (0, w 275 30), (1, 304)], w267)) 1 rfl ?_
                                refine e_Ok.ast rfl (el_o rfl) rfl rfl (by omega) ?_
                                generalize hw270 : e_up w267 304 (w 275 30) 0 = w270
                                have f271 : e_fr (mF 30 300 306) w w270 := e_fr.up f268 hw270 (by first | exact Or.inr ⟨(by decide), (by decide)⟩ | (unfold mF; omega))
                                have hT272 : e_Has mTy w270 := e_Has.upr hT269 hw270 rfl (by omega)
                                refine e_Ok.run (t' := (172, [(6, (0, p4)), (0, (1, 275)), (1, (0, p1)), (2, (0, p2)), (3, (0, p3)), (4, (0, p4)), (5, (0, p5))], [(1, 275)], w270)) 1 rfl ?_
                                refine e_Ok.getr (z := 306) rfl (el_o rfl) rfl rfl (e_uq hw270 (Or.inl (by first | decide | exact e_neo (by decide) | exact e_ne1 (by decide) | exact e_ne2 (by decide) | omega)) (e_uq hw267 (Or.inl (by first | decide | exact e_neo (by decide) | exact e_ne1 (by decide) | exact e_ne2 (by decide) | omega)) (e_uq hw264 (Or.inl (by first | decide | exact e_neo (by decide) | exact e_ne1 (by decide) | exact e_ne2 (by decide) | omega)) (e_uq hw261 (Or.inl (by first | decide | exact e_neo (by decide) | exact e_ne1 (by decide) | exact e_ne2 (by decide) | omega)) (e_uq hw258 (Or.inl (by first | decide | exact e_neo (by decide) | exact e_ne1 (by decide) | exact e_ne2 (by decide) | omega)) (e_Has.eq hT rfl)))))) ⟨by decide, by decide⟩ ?_
                                refine e_Ok.run (t' := (176, [(6, (0, p4)), (0, (1, 275)), (1, (0, p1)), (2, (0, p2)), (3, (0, p3)), (4, (0, p4)), (5, (0, p5))], [(1, 275), (1, 306)], w270)) 1 rfl ?_
                                refine e_Ok.getf (z := w 275 30) rfl (el_o rfl) rfl rfl (e_uq hw270 (Or.inl (by first | decide | exact e_neo (by decide) | exact e_ne1 (by decide) | exact e_ne2 (by decide) | omega)) (e_uq hw267 (Or.inl (by first | decide | exact e_neo (by decide) | exact e_ne1 (by decide) | exact e_ne2 (by decide) | omega)) (e_uq hw264 (Or.inl (by first | decide | exact e_neo (by decide) | exact e_ne1 (by decide) | exact e_ne2 (by decide) | omega)) (e_uq hw261 (Or.inl (by first | decide | exact e_neo (by decide) | exact e_ne1 (by decide) | exact e_ne2 (by decide) | omega)) (e_uq hw258 (Or.inl (by first | decide | exact e_neo (by decide) | exact e_ne1 (by decide) | exact e_ne2 (by decide) | omega)) rfl))))) (by omega) ?_
                                refine e_Ok.run (t' := (180, [(6, (0, p4)), (0, (1, 275)), (1, (0, p1)), (2, (0, p2)), (3, (0, p3)), (4, (0, p4)), (5, (0, p5))], [(0, (-1)), (0, w 275 30), (1, 306)], w270)) 1 rfl ?_
                                refine e_Ok.ast rfl (el_o rfl) rfl rfl (by omega) ?_
                                generalize hw273 : e_up w270 306 (w 275 30) (-1) = w273
                                have f274 : e_fr (mF 30 300 306) w w273 := e_fr.up f271 hw273 (by first | exact Or.inr ⟨(by decide), (by decide)⟩ | (unfold mF; omega))
                                have hT275 : e_Has mTy w273 := e_Has.upr hT272 hw273 rfl (by omega)
                                refine e_Ok.run (t' := (182, [(6, (0, p4)), (0, (1, 275)), (1, (0, p1)), (2, (0, p2)), (3, (0, p3)), (4, (0, p4)), (5, (0, p5))], [(1, 275)], w273)) 1 rfl ?_
                                refine e_Ok.getr (z := 305) rfl (el_o rfl) rfl rfl (e_uq hw273 (Or.inl (by first | decide | exact e_neo (by decide) | exact e_ne1 (by decide) | exact e_ne2 (by decide) | omega)) (e_uq hw270 (Or.inl (by first | decide | exact e_neo (by decide) | exact e_ne1 (by decide) | exact e_ne2 (by decide) | omega)) (e_uq hw267 (Or.inl (by first | decide | exact e_neo (by decide) | exact e_ne1 (by decide) | exact e_ne2 (by decide) | omega)) (e_uq hw264 (Or.inl (by first | decide | exact e_neo (by decide) | exact e_ne1 (by decide) | exact e_ne2 (by decide) | omega)) (e_uq hw261 (Or.inl (by first | decide | exact e_neo (by decide) | exact e_ne1 (by decide) | exact e_ne2 (by decide) | omega)) (e_uq hw258 (Or.inl (by first | decide | exact e_neo (by decide) | exact e_ne1 (by decide) | exact e_ne2 (by decide) | omega)) (e_Has.eq hT rfl))))))) ⟨by decide, by decide⟩ ?_
                                refine e_Ok.run (t' := (186, [(6, (0, p4)), (0, (1, 275)), (1, (0, p1)), (2, (0, p2)), (3, (0, p3)), (4, (0, p4)), (5, (0, p5))], [(1, 275), (1, 305)], w273)) 1 rfl ?_
                                refine e_Ok.getf (z := w 275 30) rfl (el_o rfl) rfl rfl (e_uq hw273 (Or.inl (by first | decide | exact e_neo (by decide) | exact e_ne1 (by decide) | exact e_ne2 (by decide) | omega)) (e_uq hw270 (Or.inl (by first | decide | exact e_neo (by decide) | exact e_ne1 (by decide) | exact e_ne2 (by decide) | omega)) (e_uq hw267 (Or.inl (by first | decide | exact e_neo (by decide) | exact e_ne1 (by decide) | exact e_ne2 (by decide) | omega)) (e_uq hw264 (Or.inl (by first | decide | exact e_neo (by decide) | exact e_ne1 (by decide) | exact e_ne2 (by decide) | omega)) (e_uq hw261 (Or.inl (by first | decide | exact e_neo (by decide) | exact e_ne1 (by decide) | exact e_ne2 (by decide) | omega)) (e_uq hw258 (Or.inl (by first | decide | exact e_neo (by decide) | exact e_ne1 (by decide) | exact e_ne2 (by decide) | omega)) rfl)))))) (by omega) ?_
                                refine e_Ok.run (t' := (191, [(6, (0, p4)), (0, (1, 275)), (1, (0, p1)), (2, (0, p2)), (3, (0, p3)), (4, (0, p4)), (5, (0, p5))], [(0, p5), (0, w 275 30), (1, 305)], w273)) 1 rfl ?_
                                refine e_Ok.ast rfl (el_o rfl) rfl rfl (by omega) ?_
                                generalize hw276 : e_up w273 305 (w 275 30) p5 = w276
                                have f277 : e_fr (mF 30 300 306) w w276 := e_fr.up f274 hw276 (by first | exact Or.inr ⟨(by decide), (by decide)⟩ | (unfold mF; omega))
                                have hT278 : e_Has mTy w276 := e_Has.upr hT275 hw276 rfl (by omega)
                                refine e_Ok.run (t' := (194, [(6, (0, p4)), (0, (1, 275)), (1, (0, p1)), (2, (0, p2)), (3, (0, p3)), (4, (0, p4)), (5, (0, p5))], [(1, 275), (1, 275)], w276)) 2 rfl ?_
                                refine e_Ok.getf (z := w 275 30) rfl (el_o rfl) rfl rfl (e_uq hw276 (Or.inl (by first | decide | exact e_neo (by decide) | exact e_ne1 (by decide) | exact e_ne2 (by decide) | omega)) (e_uq hw273 (Or.inl (by first | decide | exact e_neo (by decide) | exact e_ne1 (by decide) | exact e_ne2 (by decide) | omega)) (e_uq hw270 (Or.inl (by first | decide | exact e_neo (by decide) | exact e_ne1 (by decide) | exact e_ne2 (by decide) | omega)) (e_uq hw267 (Or.inl (by first | decide | exact e_neo (by decide) | exact e_ne1 (by decide) | exact e_ne2 (by decide) | omega)) (e_uq hw264 (Or.inl (by first | decide | exact e_neo (by decide) | exact e_ne1 (by decide) | exact e_ne2 (by decide) | omega)) (e_uq hw261 (Or.inl (by first | decide | exact e_neo (by decide) | exact e_ne1 (by decide) | exact e_ne2 (by decide) | omega)) (e_uq hw258 (Or.inl (by first | decide | exact e_neo (by decide) | exact e_ne1 (by decide) | exact e_ne2 (by decide) | omega)) rfl))))))) (by omega) ?_
                                refine e_Ok.run (t' := (198, [(6, (0, p4)), (0, (1, 275)), (1, (0, p1)), (2, (0, p2)), (3, (0, p3)), (4, (0, p4)), (5, (0, p5))], [(0, 1), (0, w 275 30), (1, 275)], w276)) 1 rfl ?_
                                refine e_Ok.add (z := w 275 30 + 1) rfl (by first | with_reducible rfl | exact Int.add_comm _ _ | omega) (by omega) ?_
                                refine e_Ok.putf rfl (el_o rfl) rfl rfl ?_
                                generalize hw279 : e_up w276 275 30 (w 275 30 + 1) = w279
                                have f280 : e_fr (mF 30 300 306) w w279 := e_fr.up f277 hw279 (by first | exact Or.inl ⟨rfl, rfl⟩ | (unfold mF; omega))
                                have hT281 : e_Has mTy w279 := e_Has.upr hT278 hw279 rfl (by omega)
                                refine e_Ok.run (t' := (203, [(6, (0, p4)), (0, (1, 275)), (1, (0, p1)), (2, (0, p2)), (3, (0, p3)), (4, (0, p4)), (5, (0, p5))], [(1, 275)], w279)) 1 rfl ?_
                                refine e_Ok.getf (z := w 275 30 + 1) rfl (el_o rfl) rfl rfl (e_ue hw279) (by omega) ?_
                                refine e_Ok.run (t' := (207, [(6, (0, p4)), (0, (1, 275)), (1, (0, p1)), (2, (0, p2)), (3, (0, p3)), (4, (0, p4)), (5, (0, p5))], [(0, 1), (0, w 275 30 + 1)], w279)) 1 rfl ?_
                                refine e_Ok.sub' (z := w 275 30) rfl (by first | with_reducible rfl | exact Int.add_comm _ _ | omega) (by omega) ?_
                                refine e_Ok.rets rfl rfl ?_
                                exact ⟨_, rfl, f280, hT281, trivial⟩
                              · replace h257 : (w 275 30 : Int) = 4 := Classical.not_not.mp (show ¬ ((w 275 30 : Int) ≠ 4) from h257)
                                refine e_Ok.run (t' := (119, [(6, (0, p4)), (0, (1, 275)), (1, (0, p1)), (2, (0, p2)), (3, (0, p3)), (4, (0, p4)), (5, (0, p5))], [(0, (-3))], w)) 1 rfl ?_
                                refine e_Ok.rets rfl rfl ?_
                                exact ⟨_, rfl, (e_fr.refl w), hT, trivial⟩
                            · replace h255 : (w 275 3 : Int) ≠ 0 := (show ¬ ((w 275 3 : Int) = 0) from h255)
                              refine e_Ok.run (t' := (108, [(6, (0, p4)), (0, (1, 275)), (1, (0, p1)), (2, (0, p2)), (3, (0, p3)), (4, (0, p4)), (5, (0, p5))], [(0, (-2))], w)) 1 rfl ?_
                              refine e_Ok.rets rfl rfl ?_
                              exact ⟨_, rfl, (e_fr.refl w), hT, trivial⟩
                          · replace h253 : (1 : Int) = 0 := Classical.not_not.mp (show ¬ ((1 : Int) ≠ 0) from h253)
                            exfalso; omega
                        · show e_Ok 20 elay ecode eI (d + 1) 286 (94, [(6, (0, p4)), (0, (1, 275)), (1, (0, p1)), (2, (0, p2)), (3, (0, p3)), (4, (0, p4)), (5, (0, p5))], [(0, 0)], w) _
                          refine e_Ok.if1 rfl (fun h282 => ?_) (fun h282 => ?_)
                          · replace h282 : (0 : Int) ≠ 0 := h282
                            exfalso; omega
                          · replace h282 : (0 : Int) = 0 := Classical.not_not.mp (show ¬ ((0 : Int) ≠ 0) from h282)
                            refine e_Ok.run (t' := (98, [(6, (0, p4)), (0, (1, 275)), (1, (0, p1)), (2, (0, p2)), (3, (0, p3)), (4, (0, p4)), (5, (0, p5))], [(0, (-1))], w)) 1 rfl ?_
                            refine e_Ok.rets rfl rfl ?_
                            exact ⟨_, rfl, (e_fr.refl w), hT, trivial⟩
                      · replace h247 : (z246 : Int) = 0 := Classical.not_not.mp (show ¬ ((z246 : Int) ≠ 0) from h247)
                        refine e_Ok.run (t' := (91, [(6, (0, p4)), (0, (1, 275)), (1, (0, p1)), (2, (0, p2)), (3, (0, p3)), (4, (0, p4)), (5, (0, p5))], [(0, p2), (0, p1 + p4)], w)) 2 rfl ?_
                        refine e_Ok.callS rfl (by first | exact e_dq hd rfl | omega) rfl rfl (c_272 (by first | exact e_dq hd rfl | omega)) (fun r283 w284 h285 => ?_)
                        obtain ⟨z286, rfl, rfl, q287⟩ := h285
                        obtain ⟨rfl, q287⟩ | ⟨rfl, q287⟩ := q287
                        · show e_Ok 20 elay ecode eI (d + 1) 286 (94, [(6, (0, p4)), (0, (1, 275)), (1, (0, p1)), (2, (0, p2)), (3, (0, p3)), (4, (0, p4)), (5, (0, p5))], [(0, 1)], w) _
                          refine e_Ok.if1 rfl (fun h288 => ?_) (fun h288 => ?_)
                          · replace h288 : (1 : Int) ≠ 0 := h288
                            refine e_Ok.run (t' := (100, [(6, (0, p4)), (0, (1, 275)), (1, (0, p1)), (2, (0, p2)), (3, (0, p3)), (4, (0, p4)), (5, (0, p5))], [(1, 275)], w)) 1 rfl ?_
                            have h289 := (e_Has.get hT (c := 275) (k := 3) (lo := 0) (hi := 1) rfl (by decide))
                            refine e_Ok.getf (z := w 275 3) rfl (el_o rfl) rfl rfl rfl (by first | exact e_bq h289 (by decide) (by decide) | omega) ?_
                            refine e_Ok.if1 rfl (fun h290 => ?_) (fun h290 => ?_)
                            · replace h290 : (w 275 3 : Int) = 0 := h290
                              refine e_Ok.run (t' := (110, [(6, (0, p4)), (0, (1, 275)), (1, (0, p1)), (2, (0, p2)), (3, (0, p3)), (4, (0, p4)), (5, (0, p5))], [(1, 275)], w)) 1 rfl ?_
                              have h291 := (e_Has.get hT (c := 275) (k := 30) (lo := 0) (hi := 4) rfl (by decide))
                              refine e_Ok.getf (z := w 275 30) rfl (el_o rfl) rfl rfl rfl (by first | exact e_bq h291 (by decide) (by decide) | omega) ?_
                              refine e_Ok.run (t' := (114, [(6, (0, p4)), (0, (1, 275)), (1, (0, p1)), (2, (0, p2)), (3, (0, p3)), (4, (0, p4)), (5, (0, p5))], [(0, 4), (0, w 275 30)], w)) 1 rfl ?_
                              refine e_Ok.if2 rfl (fun h292 => ?_) (fun h292 => ?_)
                              · replace h292 : (w 275 30 : Int) ≠ 4 := h292
                                refine e_Ok.run (t' := (121, [(6, (0, p4)), (0, (1, 275)), (1, (0, p1)), (2, (0, p2)), (3, (0, p3)), (4, (0, p4)), (5, (0, p5))], [(1, 275)], w)) 1 rfl ?_
                                refine e_Ok.getr (z := 300) rfl (el_o rfl) rfl rfl (e_Has.eq hT rfl) ⟨by decide, by decide⟩ ?_
                                refine e_Ok.run (t' := (125, [(6, (0, p4)), (0, (1, 275)), (1, (0, p1)), (2, (0, p2)), (3, (0, p3)), (4, (0, p4)), (5, (0, p5))], [(1, 275), (1, 300)], w)) 1 rfl ?_
                                refine e_Ok.getf (z := w 275 30) rfl (el_o rfl) rfl rfl rfl (by omega) ?_
                                refine e_Ok.run (t' := (129, [(6, (0, p4)), (0, (1, 275)), (1, (0, p1)), (2, (0, p2)), (3, (0, p3)), (4, (0, p4)), (5, (0, p5))], [(0, p1), (0, w 275 30), (1, 300)], w)) 1 rfl ?_
                                refine e_Ok.ast rfl (el_o rfl) rfl rfl (by omega) ?_
                                generalize hw293 : e_up w 300 (w 275 30) p1 = w293
                                have f294 : e_fr (mF 30 300 306) w w293 := e_fr.up (e_fr.refl w) hw293 (by first | exact Or.inr ⟨(by decide), (by decide)⟩ | (unfold mF; omega))
                                have hT295 : e_Has mTy w293 := e_Has.upr hT hw293 rfl (by omega)
                                refine e_Ok.run (t' := (131, [(6, (0, p4)), (0, (1, 275)), (1, (0, p1)), (2, (0, p2)), (3, (0, p3)), (4, (0, p4)), (5, (0, p5))], [(1, 275)], w293)) 1 rfl ?_
                                refine e_Ok.getr (z := 301) rfl (el_o rfl) rfl rfl (e_uq hw293 (Or.inl (by first | decide | exact e_neo (by decide) | exact e_ne1 (by decide) | exact e_ne2 (by decide) | omega)) (e_Has.eq hT rfl)) ⟨by decide, by decide⟩ ?_
                                refine e_Ok.run (t' := (135, [(6, (0, p4)), (0, (1, 275)), (1, (0, p1)), (2, (0, p2)), (3, (0, p3)), (4, (0, p4)), (5, (0, p5))], [(1, 275), (1, 301)], w293)) 1 rfl ?_
                                refine e_Ok.getf (z := w 275 30) rfl (el_o rfl) rfl rfl (e_uq hw293 (Or.inl (by first | decide | exact e_neo (by decide) | exact e_ne1 (by decide) | exact e_ne2 (by decide) | omega)) rfl) (by omega) ?_
                                refine e_Ok.run (t' := (139, [(6, (0, p4)), (0, (1, 275)), (1, (0, p1)), (2, (0, p2)), (3, (0, p3)), (4, (0, p4)), (5, (0, p5))], [(0, p2), (0, w 275 30), (1, 301)], w293)) 1 rfl ?_
                                refine e_Ok.ast rfl (el_o rfl) rfl rfl (by omega) ?_
                                generalize hw296 : e_up w293 301 (w 275 30) p2 = w296
                                have f297 : e_fr (mF 30 300 306) w w296 := e_fr.up f294 hw296 (by first | exact Or.inr ⟨(by decide), (by decide)⟩ | (unfold mF; omega))
                                have hT298 : e_Has mTy w296 := e_Has.upr hT295 hw296 rfl (by omega)
                                refine e_Ok.run (t' := (141, [(6, (0, p4)), (0, (1, 275)), (1, (0, p1)), (2, (0, p2)), (3, (0, p3)), (4, (0, p4)), (5, (0, p5))], [(1, 275)], w296)) 1 rfl ?_
                                refine e_Ok.getr (z := 302) rfl (el_o rfl) rfl rfl (e_uq hw296 (Or.inl (by first | decide | exact e_neo (by decide) | exact e_ne1 (by decide) | exact e_ne2 (by decide) | omega)) (e_uq hw293 (Or.inl (by first | decide | exact e_neo (by decide) | exact e_ne1 (by decide) | exact e_ne2 (by decide) | omega)) (e_Has.eq hT rfl))) ⟨by decide, by decide⟩ ?_
                                refine e_Ok.run (t' := (145, [(6, (0, p4)), (0, (1, 275)), (1, (0, p1)), (2, (0, p2)), (3, (0, p3)), (4, (0, p4)), (5, (0, p5))], [(1, 275), (1, 302)], w296)) 1 rfl ?_
                                refine e_Ok.getf (z := w 275 30) rfl (el_o rfl) rfl rfl (e_uq hw296 (Or.inl (by first | decide | exact e_neo (by decide) | exact e_ne1 (by decide) | exact e_ne2 (by decide) | omega)) (e_uq hw293 (Or.inl (by first | decide | exact e_neo (by decide) | exact e_ne1 (by decide) | exact e_ne2 (by decide) | omega)) rfl)) (by omega) ?_
                                refine e_Ok.run (t' := (149, [(6, (0, p4)), (0, (1, 275)), (1, (0, p1)), (2, (0, p2)), (3, (0, p3)), (4, (0, p4)), (5, (0, p5))], [(0, p3), (0, w 275 30), (1, 302)], w296)) 1 rfl ?_
                                refine e_Ok.ast rfl (el_o rfl) rfl rfl (by omega) ?_
                                generalize hw299 : e_up w296 302 (w 275 30) p3 = w299
                                have f300 : e_fr (mF 30 300 306) w w299 := e_fr.up f297 hw299 (by first | exact Or.inr ⟨(by decide), (by decide)⟩ | (unfold mF; omega))
                                have hT301 : e_Has mTy w299 := e_Has.upr hT298 hw299 rfl (by omega)
                                refine e_Ok.run (t' := (151, [(6, (0, p4)), (0, (1, 275)), (1, (0, p1)), (2, (0, p2)), (3, (0, p3)), (4, (0, p4)), (5, (0, p5))], [(1, 275)], w299)) 1 rfl ?_
                                refine e_Ok.getr (z := 303) rfl (el_o rfl) rfl rfl (e_uq hw299 (Or.inl (by first | decide | exact e_neo (by decide) | exact e_ne1 (by decide) | exact e_ne2 (by decide) | omega)) (e_uq hw296 (Or.inl (by first | decide | exact e_neo (by decide) | exact e_ne1 (by decide) | exact e_ne2 (by decide) | omega)) (e_uq hw293 (Or.inl (by first | decide | exact e_neo (by decide) | exact e_ne1 (by decide) | exact e_ne2 (by decide) | omega)) (e_Has.eq hT rfl)))) ⟨by decide, by decide⟩ ?_
                                refine e_Ok.run (t' := (155, [(6, (0, p4)), (0, (1, 275)), (1, (0, p1)), (2, (0, p2)), (3, (0, p3)), (4, (0, p4)), (5, (0, p5))], [(1, 275), (1, 303)], w299)) 1 rfl ?_
                                refine e_Ok.getf (z := w 275 30) rfl (el_o rfl) rfl rfl (e_uq hw299 (Or.inl (by first | decide | exact e_neo (by decide) | exact e_ne1 (by decide) | exact e_ne2 (by decide) | omega)) (e_uq hw296 (Or.inl (by first | decide | exact e_neo (by decide) | exact e_ne1 (by decide) | exact e_ne2 (by decide) | omega)) (e_uq hw293 (Or.inl (by first | decide | exact e_neo (by decide) | exact e_ne1 (by decide) | exact e_ne2 (by decide) | omega)) rfl))) (by omega) ?_
                                refine e_Ok.run (t' := (160, [(6, (0, p4)), (0, (1, 275)), (1, (0, p1)), (2, (0, p2)), (3, (0, p3)), (4, (0, p4)), (5, (0, p5))], [(0, p4), (0, w 275 30), (1, 303)], w299)) 1 rfl ?_
                                refine e_Ok.ast rfl (el_o rfl) rfl rfl (by omega) ?_
                                generalize hw302 : e_up w299 303 (w 275 30) p4 = w302
                                have f303 : e_fr (mF 30 300 306) w w302 := e_fr.up f300 hw302 (by first | exact Or.inr ⟨(by decide), (by decide)⟩ | (unfold mF; omega))
                                have hT304 : e_Has mTy w302 := e_Has.upr hT301 hw302 rfl (by omega)
                                refine e_Ok.run (t' := (162, [(6, (0, p4)), (0, (1, 275)), (1, (0, p1)), (2, (0, p2)), (3, (0, p3)), (4, (0, p4)), (5, (0, p5))], [(1, 275)], w302)) 1 rfl ?_
                                refine e_Ok.getr (z := 304) rfl (el_o rfl) rfl rfl (e_uq hw302 (Or.inl (by first | decide | exact e_neo (by decide) | exact e_ne1 (by decide) | exact e_ne2 (by decide) | omega)) (e_uq hw299 (Or.inl (by first | decide | exact e_neo (by decide) | exact e_ne1 (by decide) | exact e_ne2 (by decide) | omega)) (e_uq hw296 (Or.inl (by first | decide | exact e_neo (by decide) | exact e_ne1 (by decide) | exact e_ne2 (by decide) | omega)) (e_uq hw293 (Or.inl (by first | decide | exact e_neo (by decide) | exact e_ne1 (by decide) | exact e_ne2 (by decide) | omega)) (e_Has.eq hT rfl))))) ⟨by decide, by decide⟩ ?_
                                refine e_Ok.run (t' := (166, [(6, (0, p4)), (0, (1, 275)), (1, (0, p1)), (2, (0, p2)), (3, (0, p3)), (4, (0, p4)), (5, (0, p5))], [(1, 275), (1, 304)], w302)) 1 rfl ?_
                                refine e_Ok.getf (z := w 275 30) rfl (el_o rfl) rfl rfl (e_uq hw302 (Or.inl (by first | decide | exact e_neo (by decide) | exact e_ne1 (by decide) | exact e_ne2 (by decide) | omega)) (e_uq hw299 (Or.inl (by first | decide | exact e_neo (by decide) | exact e_ne1 (by decide) | exact e_ne2 (by decide) | omega)) (e_uq hw296 (Or.inl (by first | decide | exact e_neo (by decide) | exact e_ne1 (by decide) | exact e_ne2 (by decide) | omega)) (e_uq hw293 (Or.inl (by first | decide | exact e_neo (by decide) | exact e_ne1 (by decide) | exact e_ne2 (by decide) | omega)) rfl)))) (by omega) ?_
                                refine e_Ok.run (t' := (170, [(6, (0, p4)), (0, (1, 275)), (1, (0, p1)), (2, (0, p2)), (3, (0, p3)), (4, (0, p4)), (5, (0, p5))], [(0, 0), (0, w 275 30), (1, 304)], w302)) 1 rfl ?_
                                refine e_Ok.ast rfl (el_o rfl) rfl rfl (by omega) ?_
                                generalize hw305 : e_up w302 304 (w 275 30) 0 = w305
                                have f306 : e_fr (mF 30 300 306) w w305 := e_fr.up f303 hw305 (by first | exact Or.inr ⟨(by decide), (by decide)⟩ | (unfold mF; omega))
                                have hT307 : e_Has mTy w305 := e_Has.upr hT304 hw305 rfl (by omega)
                                refine e_Ok.run (t' := (172, [(6, (0, p4)), (0, (1, 275)), (1, (0, p1)), (2, (0, p2)), (3, (0, p3)), (4, (0, p4)), (5, (0, p5))], [(1, 275)], w305)) 1 rfl ?_
                                refine e_Ok.getr (z := 306) rfl (el_o rfl) rfl rfl (e_uq hw305 (Or.inl (by first | decide | exact e_neo (by decide) | exact e_ne1 (by decide) | exact e_ne2 (by decide) | omega)) (e_uq hw302 (Or.inl (by first | decide | exact e_neo (by decide) | exact e_ne1 (by decide) | exact e_ne2 (by decide) | omega)) (e_uq hw299 (Or.inl (by first | decide | exact e_neo (by decide) | exact e_ne1 (by decide) | exact e_ne2 (by decide) | omega)) (e_uq hw296 (Or.inl (by first | decide | exact e_neo (by decide) | exact e_ne1 (by decide) | exact e_ne2 (by decide) | omega)) (e_uq hw293 (Or.inl (by first | decide | exact e_neo (by decide) | exact e_ne1 (by decide) | exact e_ne2 (by decide) | omega)) (e_Has.eq hT rfl)))))) ⟨by decide, by decide⟩ ?_
                                refine e_Ok.run (t' := (176, [(6, (0, p4)), (0, (1, 275)), (1, (0, p1)), (2, (0, p2)), (3, (0, p3)), (4, (0, p4)), (5, (0, p5))], [(1, 275), (1, 306)], w305)) 1 rfl ?_
                                refine e_Ok.getf (z := w 275 30) rfl (el_o rfl) rfl rfl (e_uq hw305 (Or.inl (by first | decide | exact e_neo (by decide) | exact e_ne1 (by decide) | exact e_ne2 (by decide) | omega)) (e_uq hw302 (Or.inl (by first | decide | exact e_neo (by decide) | exact e_ne1 (by decide) | exact e_ne2 (by decide) | omega)) (e_uq hw299 (Or.inl (by first | decide | exact e_neo (by decide) | exact e_ne1 (by decide) | exact e_ne2 (by decide) | omega)) (e_uq hw296 (Or.inl (by first | decide | exact e_neo (by decide) | exact e_ne1 (by decide) | exact e_ne2 (by decide) | omega)) (e_uq hw293 (Or.inl (by first | decide | exact e_neo (by decide) | exact e_ne1 (by decide) | exact e_ne2 (by decide) | omega)) rfl))))) (by omega) ?_
                                refine e_Ok.run (t' := (180, [(6, (0, p4)), (0, (1, 275)), (1, (0, p1)), (2, (0, p2)), (3, (0, p3)), (4, (0, p4)), (5, (0, p5))], [(0, (-1)), (0, w 275 30), (1, 306)], w305)) 1 rfl ?_
                                refine e_Ok.ast rfl (el_o rfl) rfl rfl (by omega) ?_
                                generalize hw308 : e_up w305 306 (w 275 30) (-1) = w308
                                have f309 : e_fr (mF 30 300 306) w w308 := e_fr.up f306 hw308 (by first | exact Or.inr ⟨(by decide), (by decide)⟩ | (unfold mF; omega))
                                have hT310 : e_Has mTy w308 := e_Has.upr hT307 hw308 rfl (by omega)
                                refine e_Ok.run (t' := (182, [(6, (0, p4)), (0, (1, 275)), (1, (0, p1)), (2, (0, p2)), (3, (0, p3)), (4, (0, p4)), (5, (0, p5))], [(1, 275)], w308)) 1 rfl ?_
                                refine e_Ok.getr (z := 305) rfl (el_o rfl) rfl rfl (e_uq hw308 (Or.inl (by first | decide | exact e_neo (by decide) | exact e_ne1 (by decide) | exact e_ne2 (by decide) | omega)) (e_uq hw305 (Or.inl (by first | decide | exact e_neo (by decide) | exact e_ne1 (by decide) | exact e_ne2 (by decide) | omega)) (e_uq hw302 (Or.inl (by first | decide | exact e_neo (by decide) | exact e_ne1 (by decide) | exact e_ne2 (by decide) | omega)) (e_uq hw299 (Or.inl (by first | decide | exact e_neo (by decide) | exact e_ne1 (by decide) | exact e_ne2 (by decide) | omega)) (e_uq hw296 (Or.inl (by first | decide | exact e_neo (by decide) | exact e_ne1 (by decide) | exact e_ne2 (by decide) | omega)) (e_uq hw293 (Or.inl (by first | decide | exact e_neo (by decide) | exact e_ne1 (by decide) | exact e_ne2 (by decide) | omega)) (e_Has.eq hT rfl))))))) ⟨by decide, by decide⟩ ?_
                                refine e_Ok.run (t' := (186, [(6, (0, p4)), (0, (1, 275)), (1, (0, p1)), (2, (0, p2)), (3, (0, p3)), (4, (0, p4)), (5, (0, p5))], [(1, 275), (1, 305)], w308)) 1 rfl ?_
                                refine e_Ok.getf (z := w 275 30) rfl (el_o rfl) rfl rfl (e_uq hw308 (Or.inl (by first | decide | exact e_neo (by decide) | exact e_ne1 (by decide) | exact e_ne2 (by decide) | omega)) (e_uq hw305 (Or.inl (by first | decide | exact e_neo (by decide) | exact e_ne1 (by decide) | exact e_ne2 (by decide) | omega)) (e_uq hw302 (Or.inl (by first | decide | exact e_neo (by decide) | exact e_ne1 (by decide) | exact e_ne2 (by decide) | omega)) (e_uq hw299 (Or.inl (by first | decide | exact e_neo (by decide) | exact e_ne1 (by decide) | exact e_ne2 (by decide) | omega)) (e_uq hw296 (Or.inl (by first | decide | exact e_neo (by decide) | exact e_ne1 (by decide) | exact e_ne2 (by decide) | omega)) (e_uq hw293 (Or.inl (by first | decide | exact e_neo (by decide) | exact e_ne1 (by decide) | exact e_ne2 (by decide) | omega)) rfl)))))) (by omega) ?_
                                refine e_Ok.run (t' := (191, [(6, (0, p4)), (0, (1, 275)), (1, (0, p1)), (2, (0, p2)), (3, (0, p3)), (4, (0, p4)), (5, (0, p5))], [(0, p5), (0, w 275 30), (1, 305)], w308)) 1 rfl ?_
                                refine e_Ok.ast rfl (el_o rfl) rfl rfl (by omega) ?_
                                generalize hw311 : e_up w308 305 (w 275 30) p5 = w311
                                have f312 : e_fr (mF 30 300 306) w w311 := e_fr.up f309 hw311 (by first | exact Or.inr ⟨(by decide), (by decide)⟩ | (unfold mF; omega))
                                have hT313 : e_Has mTy w311 := e_Has.upr hT310 hw311 rfl (by omega)
                                refine e_Ok.run (t' := (194, [(6, (0, p4)), (0, (1, 275)), (1, (0, p1)), (2, (0, p2)), (3, (0, p3)), (4, (0, p4)), (5, (0, p5))], [(1, 275), (1, 275)], w311)) 2 rfl ?_
                                refine e_Ok.getf (z := w 275 30) rfl (el_o rfl) rfl rfl (e_uq hw311 (Or.inl (by first | decide | exact e_neo (by decide) | exact e_ne1 (by decide) | exact e_ne2 (by decide) | omega)) (e_uq hw308 (Or.inl (by first | decide | exact e_neo (by decide) | exact e_ne1 (by decide) | exact e_ne2 (by decide) | omega)) (e_uq hw305 (Or.inl (by first | decide | exact e_neo (by decide) | exact e_ne1 (by decide) | exact e_ne2 (by decide) | omega)) (e_uq hw302 (Or.inl (by first | decide | exact e_neo (by decide) | exact e_ne1 (by decide) | exact e_ne2 (by decide) | omega)) (e_uq hw299 (Or.inl (by first | decide | exact e_neo (by decide) | exact e_ne1 (by decide) | exact e_ne2 (by decide) | omega)) (e_uq hw296 (Or.inl (by first | decide | exact e_neo (by decide) | exact e_ne1 (by decide) | exact e_ne2 (by decide) | omega)) (e_uq hw293 (Or.inl (by first | decide | exact e_neo (by decide) | exact e_ne1 (by decide) | exact e_ne2 (by decide) | omega)) rfl))))))) (by omega) ?_
                                refine e_Ok.run (t' := (198, [(6, (0, p4)), (0, (1, 275)), (1, (0, p1)), (2, (0, p2)), (3, (0, p3)), (4, (0, p4)), (5, (0, p5))], [(0, 1), (0, w 275 30), (1, 275)], w311)) 1 rfl ?_
                                refine e_Ok.add (z := w 275 30 + 1) rfl (by first | with_reducible rfl | exact Int.add_comm _ _ | omega) (by omega) ?_
                                refine e_Ok.putf rfl (el_o rfl) rfl rfl ?_
                                generalize hw314 : e_up w311 275 30 (w 275 30 + 1) = w314
                                have f315 : e_fr (mF 30 300 306) w w314 := e_fr.up f312 hw314 (by first | exact Or.inl ⟨rfl, rfl⟩ | (unfold mF; omega))
                                have hT316 : e_Has mTy w314 := e_Has.upr hT313 hw314 rfl (by omega)
                                refine e_Ok.run (t' := (203, [(6, (0, p4)), (0, (1, 275)), (1, (0, p1)), (2, (0, p2)), (3, (0, p3)), (4, (0, p4)), (5, (0, p5))], [(1, 275)], w314)) 1 rfl ?_
                                refine e_Ok.getf (z := w 275 30 + 1) rfl (el_o rfl) rfl rfl (e_ue hw314) (by omega) ?_
                                refine e_Ok.run (t' := (207, [(6, (0, p4)), (0, (1, 275)), (1, (0, p1)), (2, (0, p2)), (3, (0, p3)), (4, (0, p4)), (5, (0, p5))], [(0, 1), (0, w 275 30 + 1)], w314)) 1 rfl ?_
                                refine e_Ok.sub' (z := w 275 30) rfl (by first | with_reducible rfl | exact Int.add_comm _ _ | omega) (by omega) ?_
                                refine e_Ok.rets rfl rfl ?_
                                exact ⟨_, rfl, f315, hT316, trivial⟩
                              · replace h292 : (w 275 30 : Int) = 4 := Classical.not_not.mp (show ¬ ((w 275 30 : Int) ≠ 4) from h292)
                                refine e_Ok.run (t' := (119, [(6, (0, p4)), (0, (1, 275)), (1, (0, p1)), (2, (0, p2)), (3, (0, p3)), (4, (0, p4)), (5, (0, p5))], [(0, (-3))], w)) 1 rfl ?_
                                refine e_Ok.rets rfl rfl ?_
                                exact ⟨_, rfl, (e_fr.refl w), hT, trivial⟩
                            · replace h290 : (w 275 3 : Int) ≠ 0 := (show ¬ ((w 275 3 : Int) = 0) from h290)
                              refine e_Ok.run (t' := (108, [(6, (0, p4)), (0, (1, 275)), (1, (0, p1)), (2, (0, p2)), (3, (0, p3)), (4, (0, p4)), (5, (0, p5))], [(0, (-2))], w)) 1 rfl ?_
                              refine e_Ok.rets rfl rfl ?_
                              exact ⟨_, rfl, (e_fr.refl w), hT, trivial⟩
                          · replace h288 : (1 : Int) = 0 := Classical.not_not.mp (show ¬ ((1 : Int) ≠ 0) from h288)
                            exfalso; omega
                        · show e_Ok 20 elay ecode eI (d + 1) 286 (94, [(6, (0, p4)), (0, (1, 275)), (1, (0, p1)), (2, (0, p2)), (3, (0, p3)), (4, (0, p4)), (5, (0, p5))], [(0, 0)], w) _
                          refine e_Ok.if1 rfl (fun h317 => ?_) (fun h317 => ?_)
                          · replace h317 : (0 : Int) ≠ 0 := h317
                            exfalso; omega
                          · replace h317 : (0 : Int) = 0 := Classical.not_not.mp (show ¬ ((0 : Int) ≠ 0) from h317)
                            refine e_Ok.run (t' := (98, [(6, (0, p4)), (0, (1, 275)), (1, (0, p1)), (2, (0, p2)), (3, (0, p3)), (4, (0, p4)), (5, (0, p5))], [(0, (-1))], w)) 1 rfl ?_
                            refine e_Ok.rets rfl rfl ?_
                            exact ⟨_, rfl, (e_fr.refl w), hT, trivial⟩
                · replace h24 : (1 : Int) = 0 := Classical.not_not.mp (show ¬ ((1 : Int) ≠ 0) from h24)
                  exfalso; omega
              · show e_Ok 20 elay ecode eI (d + 1) 286 (43, [(0, (1, 275)), (1, (0, p1)), (2, (0, p2)), (3, (0, p3)), (4, (0, p4)), (5, (0, p5))], [(0, 0)], w) _
                refine e_Ok.if1 rfl (fun h318 => ?_) (fun h318 => ?_)
                · replace h318 : (0 : Int) ≠ 0 := h318
                  exfalso; omega
                · replace h318 : (0 : Int) = 0 := Classical.not_not.mp (show ¬ ((0 : Int) ≠ 0) from h318)
                  refine e_Ok.run (t' := (47, [(0, (1, 275)), (1, (0, p1)), (2, (0, p2)), (3, (0, p3)), (4, (0, p4)), (5, (0, p5))], [(0, (-1))], w)) 1 rfl ?_
                  refine e_Ok.rets rfl rfl ?_
                  exact ⟨_, rfl, (e_fr.refl w), hT, trivial⟩
          · show e_Ok 20 elay ecode eI (d + 1) 286 (30, [(0, (1, 275)), (1, (0, p1)), (2, (0, p2)), (3, (0, p3)), (4, (0, p4)), (5, (0, p5))], [(0, 0)], w) _
            refine e_Ok.if1 rfl (fun h319 => ?_) (fun h319 => ?_)
            · replace h319 : (0 : Int) = 0 := h319
              refine e_Ok.run (t' := (47, [(0, (1, 275)), (1, (0, p1)), (2, (0, p2)), (3, (0, p3)), (4, (0, p4)), (5, (0, p5))], [(0, (-1))], w)) 1 rfl ?_
              refine e_Ok.rets rfl rfl ?_
              exact ⟨_, rfl, (e_fr.refl w), hT, trivial⟩
            · replace h319 : (0 : Int) ≠ 0 := (show ¬ ((0 : Int) = 0) from h319)
              exfalso; omega
      · show e_Ok 20 elay ecode eI (d + 1) 286 (17, [(0, (1, 275)), (1, (0, p1)), (2, (0, p2)), (3, (0, p3)), (4, (0, p4)), (5, (0, p5))], [(0, 0)], w) _
        refine e_Ok.if1 rfl (fun h320 => ?_) (fun h320 => ?_)
        · replace h320 : (0 : Int) = 0 := h320
          refine e_Ok.run (t' := (47, [(0, (1, 275)), (1, (0, p1)), (2, (0, p2)), (3, (0, p3)), (4, (0, p4)), (5, (0, p5))], [(0, (-1))], w)) 1 rfl ?_
          refine e_Ok.rets rfl rfl ?_
          exact ⟨_, rfl, (e_fr.refl w), hT, trivial⟩
        · replace h320 : (0 : Int) ≠ 0 := (show ¬ ((0 : Int) = 0) from h320)
          exfalso; omega
  · show e_Ok 20 elay ecode eI (d + 1) 286 (5, [(0, (1, 275)), (1, (0, p1)), (2, (0, p2)), (3, (0, p3)), (4, (0, p4)), (5, (0, p5))], [(0, 0)], w) _
    refine e_Ok.if1 rfl (fun h321 => ?_) (fun h321 => ?_)
    · replace h321 : (0 : Int) = 0 := h321
      refine e_Ok.run (t' := (47, [(0, (1, 275)), (1, (0, p1)), (2, (0, p2)), (3, (0, p3)), (4, (0, p4)), (5, (0, p5))], [(0, (-1))], w)) 1 rfl ?_
      refine e_Ok.rets rfl rfl ?_
      exact ⟨_, rfl, (e_fr.refl w), hT, trivial⟩
    · replace h321 : (0 : Int) ≠ 0 := (show ¬ ((0 : Int) = 0) from h321)
      exfalso; omega
theorem c_287 {d : Nat} (hd : 23 ≤ d) {w : eW} (hT : e_Has mTy w) {p1 p2 : Int} (g1 : (-2147483648) ≤ p1 ∧ p1 ≤ 2147483647) (g2 : (-2147483648) ≤ p2 ∧ p2 ≤ 2147483647) : e_Ok 20 elay ecode eI d 287 (0, [(0, (1, 275)), (1, (0, p1)), (2, (0, p2))], [], w) (fun r w' => ∃ z : Int, r = [(0, z)] ∧ e_fr (mF (-1) 304 304) w w' ∧ e_Has mTy w' ∧ True) := by
  obtain ⟨d, rfl⟩ : ∃ e, d = e + 1 := ⟨d - 1, by omega⟩
  refine e_Ok.run (t' := (4, [(0, (1, 275)), (1, (0, p1)), (2, (0, p2))], [(1, 275), (4, 0), (4, p1)], w)) 4 rfl ?_
  have h1 := (e_Has.get hT (c := 275) (k := 30) (lo := 0) (hi := 4) rfl (by decide))
  refine e_Ok.getf (z := w 275 30) rfl (el_o rfl) rfl rfl rfl (by first | exact e_bq h1 (by decide) (by decide) | omega) ?_
  refine e_Ok.run (t' := (8, [(0, (1, 275)), (1, (0, p1)), (2, (0, p2))], [(0, 1), (0, w 275 30), (4, 0), (4, p1)], w)) 1 rfl ?_
  refine e_Ok.sub' (z := w 275 30 - 1) rfl (by first | with_reducible rfl | exact Int.add_comm _ _ | omega) (by omega) ?_
  refine e_Ok.run (t' := (10, [(0, (1, 275)), (1, (0, p1)), (2, (0, p2))], [(4, w 275 30 - 1), (4, 0), (4, p1)], w)) 1 rfl ?_
  refine e_Ok.callS rfl (by first | exact e_dq hd rfl | omega) rfl rfl (c_266) (fun r2 w3 h4 => ?_)
  obtain ⟨z5, rfl, rfl, q6⟩ := h4
  obtain ⟨rfl, q6⟩ | ⟨rfl, q6⟩ := q6
  · show e_Ok 20 elay ecode eI (d + 1) 287 (13, [(0, (1, 275)), (1, (0, p1)), (2, (0, p2))], [(0, 1)], w) _
    refine e_Ok.if1 rfl (fun h7 => ?_) (fun h7 => ?_)
    · replace h7 : (1 : Int) = 0 := h7
      exfalso; omega
    · replace h7 : (1 : Int) ≠ 0 := (show ¬ ((1 : Int) = 0) from h7)
      refine e_Ok.run (t' := (22, [(0, (1, 275)), (1, (0, p1)), (2, (0, p2))], [(4, 100), (4, 0), (4, p2)], w)) 4 rfl ?_
      refine e_Ok.callS rfl (by first | exact e_dq hd rfl | omega) rfl rfl (c_266) (fun r8 w9 h10 => ?_)
      obtain ⟨z11, rfl, rfl, q12⟩ := h10
      obtain ⟨rfl, q12⟩ | ⟨rfl, q12⟩ := q12
      · show e_Ok 20 elay ecode eI (d + 1) 287 (25, [(0, (1, 275)), (1, (0, p1)), (2, (0, p2))], [(0, 1)], w) _
        refine e_Ok.if1 rfl (fun h13 => ?_) (fun h13 => ?_)
        · replace h13 : (1 : Int) ≠ 0 := h13
          refine e_Ok.run (t' := (31, [(0, (1, 275)), (1, (0, p1)), (2, (0, p2))], [(1, 275)], w)) 1 rfl ?_
          have h14 := (e_Has.get hT (c := 275) (k := 3) (lo := 0) (hi := 1) rfl (by decide))
          refine e_Ok.getf (z := w 275 3) rfl (el_o rfl) rfl rfl rfl (by first | exact e_bq h14 (by decide) (by decide) | omega) ?_
          refine e_Ok.if1 rfl (fun h15 => ?_) (fun h15 => ?_)
          · replace h15 : (w 275 3 : Int) = 0 := h15
            refine e_Ok.run (t' := (41, [(0, (1, 275)), (1, (0, p1)), (2, (0, p2))], [(1, 275)], w)) 1 rfl ?_
            refine e_Ok.getr (z := 304) rfl (el_o rfl) rfl rfl (e_Has.eq hT rfl) ⟨by decide, by decide⟩ ?_
            refine e_Ok.run (t' := (45, [(0, (1, 275)), (1, (0, p1)), (2, (0, p2))], [(0, p1), (1, 304)], w)) 1 rfl ?_
            have h16 := (e_Has.get hT (c := 304) (k := p1) (lo := 0) (hi := 100) rfl (by decide))
            refine e_Ok.ald (z := w 304 p1) rfl (el_o rfl) rfl (by omega) rfl (by first | exact e_bq h16 (by decide) (by decide) | omega) ?_
            refine e_Ok.run (t' := (48, [(3, (0, w 304 p1)), (0, (1, 275)), (1, (0, p1)), (2, (0, p2))], [(1, 275)], w)) 2 rfl ?_
            refine e_Ok.getr (z := 304) rfl (el_o rfl) rfl rfl (e_Has.eq hT rfl) ⟨by decide, by decide⟩ ?_
            refine e_Ok.run (t' := (53, [(3, (0, w 304 p1)), (0, (1, 275)), (1, (0, p1)), (2, (0, p2))], [(0, p2), (0, p1), (1, 304)], w)) 2 rfl ?_
            refine e_Ok.ast rfl (el_o rfl) rfl rfl (by omega) ?_
            generalize hw17 : e_up w 304 p1 p2 = w17
            have f18 : e_fr (mF (-1) 304 304) w w17 := e_fr.up (e_fr.refl w) hw17 (by first | exact Or.inr ⟨(by decide), (by decide)⟩ | (unfold mF; omega))
            have hT19 : e_Has mTy w17 := e_Has.upr hT hw17 rfl (by omega)
            refine e_Ok.run (t' := (55, [(3, (0, w 304 p1)), (0, (1, 275)), (1, (0, p1)), (2, (0, p2))], [(0, w 304 p1)], w17)) 1 rfl ?_
            refine e_Ok.rets rfl rfl ?_
            exact ⟨_, rfl, f18, hT19, trivial⟩
          · replace h15 : (w 275 3 : Int) ≠ 0 := (show ¬ ((w 275 3 : Int) = 0) from h15)
            refine e_Ok.run (t' := (39, [(0, (1, 275)), (1, (0, p1)), (2, (0, p2))], [(0, (-2))], w)) 1 rfl ?_
            refine e_Ok.rets rfl rfl ?_
            exact ⟨_, rfl, (e_fr.refl w), hT, trivial⟩
        · replace h13 : (1 : Int) = 0 := Classical.not_not.mp (show ¬ ((1 : Int) ≠ 0) from h13)
          exfalso; omega
      · show e_Ok 20 elay ecode eI (d + 1) 287 (25, [(0, (1, 275)), (1, (0, p1)), (2, (0, p2))], [(0, 0)], w) _
        refine e_Ok.if1 rfl (fun h20 => ?_) (fun h20 => ?_)
        · replace h20 : (0 : Int) ≠ 0 := h20
          exfalso; omega
        · replace h20 : (0 : Int) = 0 := Classical.not_not.mp (show ¬ ((0 : Int) ≠ 0) from h20)
          refine e_Ok.run (t' := (29, [(0, (1, 275)), (1, (0, p1)), (2, (0, p2))], [(0, (-1))], w)) 1 rfl ?_
          refine e_Ok.rets rfl rfl ?_
          exact ⟨_, rfl, (e_fr.refl w), hT, trivial⟩
  · show e_Ok 20 elay ecode eI (d + 1) 287 (13, [(0, (1, 275)), (1, (0, p1)), (2, (0, p2))], [(0, 0)], w) _
    refine e_Ok.if1 rfl (fun h21 => ?_) (fun h21 => ?_)
    · replace h21 : (0 : Int) = 0 := h21
      refine e_Ok.run (t' := (29, [(0, (1, 275)), (1, (0, p1)), (2, (0, p2))], [(0, (-1))], w)) 1 rfl ?_
      refine e_Ok.rets rfl rfl ?_
      exact ⟨_, rfl, (e_fr.refl w), hT, trivial⟩
    · replace h21 : (0 : Int) ≠ 0 := (show ¬ ((0 : Int) = 0) from h21)
      exfalso; omega
theorem c_288 {d : Nat} (hd : 23 ≤ d) {w : eW} (hT : e_Has mTy w) {p1 p2 p3 p4 : Int} (g1 : (-2147483648) ≤ p1 ∧ p1 ≤ 2147483647) (g2 : (-2147483648) ≤ p2 ∧ p2 ≤ 2147483647) (g3 : (-2147483648) ≤ p3 ∧ p3 ≤ 2147483647) (g4 : (-2147483648) ≤ p4 ∧ p4 ≤ 2147483647) : e_Ok 20 elay ecode eI d 288 (0, [(0, (1, 275)), (1, (0, p1)), (2, (0, p2)), (3, (0, p3)), (4, (0, p4))], [], w) (fun r w' => ∃ z : Int, r = [(0, z)] ∧ e_fr (mF (-1) 306 308) w w' ∧ e_Has mTy w' ∧ True) := by
  obtain ⟨d, rfl⟩ : ∃ e, d = e + 1 := ⟨d - 1, by omega⟩
  refine e_Ok.run (t' := (4, [(0, (1, 275)), (1, (0, p1)), (2, (0, p2)), (3, (0, p3)), (4, (0, p4))], [(1, 275), (4, 0), (4, p1)], w)) 4 rfl ?_
  have h1 := (e_Has.get hT (c := 275) (k := 30) (lo := 0) (hi := 4) rfl (by decide))
  refine e_Ok.getf (z := w 275 30) rfl (el_o rfl) rfl rfl rfl (by first | exact e_bq h1 (by decide) (by decide) | omega) ?_
  refine e_Ok.run (t' := (8, [(0, (1, 275)), (1, (0, p1)), (2, (0, p2)), (3, (0, p3)), (4, (0, p4))], [(0, 1), (0, w 275 30), (4, 0), (4, p1)], w)) 1 rfl ?_
  refine e_Ok.sub' (z := w 275 30 - 1) rfl (by first | with_reducible rfl | exact Int.add_comm _ _ | omega) (by omega) ?_
  refine e_Ok.run (t' := (10, [(0, (1, 275)), (1, (0, p1)), (2, (0, p2)), (3, (0, p3)), (4, (0, p4))], [(4, w 275 30 - 1), (4, 0), (4, p1)], w)) 1 rfl ?_
  refine e_Ok.callS rfl (by first | exact e_dq hd rfl | omega) rfl rfl (c_266) (fun r2 w3 h4 => ?_)
  obtain ⟨z5, rfl, rfl, q6⟩ := h4
  obtain ⟨rfl, q6⟩ | ⟨rfl, q6⟩ := q6
  · show e_Ok 20 elay ecode eI (d + 1) 288 (13, [(0, (1, 275)), (1, (0, p1)), (2, (0, p2)), (3, (0, p3)), (4, (0, p4))], [(0, 1)], w) _
    refine e_Ok.if1 rfl (fun h7 => ?_) (fun h7 => ?_)
    · replace h7 : (1 : Int) = 0 := h7
      exfalso; omega
    · replace h7 : (1 : Int) ≠ 0 := (show ¬ ((1 : Int) = 0) from h7)
      refine e_Ok.run (t' := (22, [(0, (1, 275)), (1, (0, p1)), (2, (0, p2)), (3, (0, p3)), (4, (0, p4))], [(4, 63), (4, 0), (4, p2)], w)) 4 rfl ?_
      refine e_Ok.callS rfl (by first | exact e_dq hd rfl | omega) rfl rfl (c_266) (fun r8 w9 h10 => ?_)
      obtain ⟨z11, rfl, rfl, q12⟩ := h10
      obtain ⟨rfl, q12⟩ | ⟨rfl, q12⟩ := q12
      · show e_Ok 20 elay ecode eI (d + 1) 288 (25, [(0, (1, 275)), (1, (0, p1)), (2, (0, p2)), (3, (0, p3)), (4, (0, p4))], [(0, 1)], w) _
        refine e_Ok.if1 rfl (fun h13 => ?_) (fun h13 => ?_)
        · replace h13 : (1 : Int) = 0 := h13
          exfalso; omega
        · replace h13 : (1 : Int) ≠ 0 := (show ¬ ((1 : Int) = 0) from h13)
          refine e_Ok.run (t' := (29, [(0, (1, 275)), (1, (0, p1)), (2, (0, p2)), (3, (0, p3)), (4, (0, p4))], [(0, p3)], w)) 1 rfl ?_
          refine e_Ok.if1 rfl (fun h14 => ?_) (fun h14 => ?_)
          · replace h14 : (p3 : Int) < 0 := h14
            refine e_Ok.run (t' := (39, [(0, (1, 275)), (1, (0, p1)), (2, (0, p2)), (3, (0, p3)), (4, (0, p4))], [(0, (-1))], w)) 1 rfl ?_
            refine e_Ok.rets rfl rfl ?_
            exact ⟨_, rfl, (e_fr.refl w), hT, trivial⟩
          · replace h14 : (p3 : Int) ≥ 0 := Int.not_lt.mp (show ¬ ((p3 : Int) < 0) from h14)
            refine e_Ok.run (t' := (35, [(0, (1, 275)), (1, (0, p1)), (2, (0, p2)), (3, (0, p3)), (4, (0, p4))], [(0, p3), (0, p4)], w)) 2 rfl ?_
            refine e_Ok.if2 rfl (fun h15 => ?_) (fun h15 => ?_)
            · replace h15 : (p4 : Int) ≥ p3 := h15
              refine e_Ok.run (t' := (41, [(0, (1, 275)), (1, (0, p1)), (2, (0, p2)), (3, (0, p3)), (4, (0, p4))], [(1, 275)], w)) 1 rfl ?_
              have h16 := (e_Has.get hT (c := 275) (k := 3) (lo := 0) (hi := 1) rfl (by decide))
              refine e_Ok.getf (z := w 275 3) rfl (el_o rfl) rfl rfl rfl (by first | exact e_bq h16 (by decide) (by decide) | omega) ?_
              refine e_Ok.if1 rfl (fun h17 => ?_) (fun h17 => ?_)
              · replace h17 : (w 275 3 : Int) = 0 := h17
                refine e_Ok.run (t' := (51, [(0, (1, 275)), (1, (0, p1)), (2, (0, p2)), (3, (0, p3)), (4, (0, p4))], [(1, 275)], w)) 1 rfl ?_
                refine e_Ok.getr (z := 306) rfl (el_o rfl) rfl rfl (e_Has.eq hT rfl) ⟨by decide, by decide⟩ ?_
                refine e_Ok.run (t' := (56, [(0, (1, 275)), (1, (0, p1)), (2, (0, p2)), (3, (0, p3)), (4, (0, p4))], [(0, p2), (0, p1), (1, 306)], w)) 2 rfl ?_
                refine e_Ok.ast rfl (el_o rfl) rfl rfl (by omega) ?_
                generalize hw18 : e_up w 306 p1 p2 = w18
                have f19 : e_fr (mF (-1) 306 308) w w18 := e_fr.up (e_fr.refl w) hw18 (by first | exact Or.inr ⟨(by decide), (by decide)⟩ | (unfold mF; omega))
                have hT20 : e_Has mTy w18 := e_Has.upr hT hw18 rfl (by omega)
                refine e_Ok.run (t' := (58, [(0, (1, 275)), (1, (0, p1)), (2, (0, p2)), (3, (0, p3)), (4, (0, p4))], [(1, 275)], w18)) 1 rfl ?_
                refine e_Ok.getr (z := 307) rfl (el_o rfl) rfl rfl (e_uq hw18 (Or.inl (by first | decide | exact e_neo (by decide) | exact e_ne1 (by decide) | exact e_ne2 (by decide) | omega)) (e_Has.eq hT rfl)) ⟨by decide, by decide⟩ ?_
                refine e_Ok.run (t' := (63, [(0, (1, 275)), (1, (0, p1)), (2, (0, p2)), (3, (0, p3)), (4, (0, p4))], [(0, p3), (0, p1), (1, 307)], w18)) 2 rfl ?_
                refine e_Ok.ast rfl (el_o rfl) rfl rfl (by omega) ?_
                generalize hw21 : e_up w18 307 p1 p3 = w21
                have f22 : e_fr (mF (-1) 306 308) w w21 := e_fr.up f19 hw21 (by first | exact Or.inr ⟨(by decide), (by decide)⟩ | (unfold mF; omega))
                have hT23 : e_Has mTy w21 := e_Has.upr hT20 hw21 rfl (by omega)
                refine e_Ok.run (t' := (65, [(0, (1, 275)), (1, (0, p1)), (2, (0, p2)), (3, (0, p3)), (4, (0, p4))], [(1, 275)], w21)) 1 rfl ?_
                refine e_Ok.getr (z := 308) rfl (el_o rfl) rfl rfl (e_uq hw21 (Or.inl (by first | decide | exact e_neo (by decide) | exact e_ne1 (by decide) | exact e_ne2 (by decide) | omega)) (e_uq hw18 (Or.inl (by first | decide | exact e_neo (by decide) | exact e_ne1 (by decide) | exact e_ne2 (by decide) | omega)) (e_Has.eq hT rfl))) ⟨by decide, by decide⟩ ?_
                refine e_Ok.run (t' := (71, [(0, (1, 275)), (1, (0, p1)), (2, (0, p2)), (3, (0, p3)), (4, (0, p4))], [(0, p4), (0, p1), (1, 308)], w21)) 2 rfl ?_
                refine e_Ok.ast rfl (el_o rfl) rfl rfl (by omega) ?_
                generalize hw24 : e_up w21 308 p1 p4 = w24
                have f25 : e_fr (mF (-1) 306 308) w w24 := e_fr.up f22 hw24 (by first | exact Or.inr ⟨(by decide), (by decide)⟩ | (unfold mF; omega))
                have hT26 : e_Has mTy w24 := e_Has.upr hT23 hw24 rfl (by omega)
                refine e_Ok.run (t' := (73, [(0, (1, 275)), (1, (0, p1)), (2, (0, p2)), (3, (0, p3)), (4, (0, p4))], [(0, 0)], w24)) 1 rfl ?_
                refine e_Ok.rets rfl rfl ?_
                exact ⟨_, rfl, f25, hT26, trivial⟩
              · replace h17 : (w 275 3 : Int) ≠ 0 := (show ¬ ((w 275 3 : Int) = 0) from h17)
                refine e_Ok.run (t' := (49, [(0, (1, 275)), (1, (0, p1)), (2, (0, p2)), (3, (0, p3)), (4, (0, p4))], [(0, (-2))], w)) 1 rfl ?_
                refine e_Ok.rets rfl rfl ?_
                exact ⟨_, rfl, (e_fr.refl w), hT, trivial⟩
            · replace h15 : (p4 : Int) < p3 := Int.not_le.mp (show ¬ ((p4 : Int) ≥ p3) from h15)
              refine e_Ok.run (t' := (39, [(0, (1, 275)), (1, (0, p1)), (2, (0, p2)), (3, (0, p3)), (4, (0, p4))], [(0, (-1))], w)) 1 rfl ?_
              refine e_Ok.rets rfl rfl ?_
              exact ⟨_, rfl, (e_fr.refl w), hT, trivial⟩
      · show e_Ok 20 elay ecode eI (d + 1) 288 (25, [(0, (1, 275)), (1, (0, p1)), (2, (0, p2)), (3, (0, p3)), (4, (0, p4))], [(0, 0)], w) _
        refine e_Ok.if1 rfl (fun h27 => ?_) (fun h27 => ?_)
        · replace h27 : (0 : Int) = 0 := h27
          refine e_Ok.run (t' := (39, [(0, (1, 275)), (1, (0, p1)), (2, (0, p2)), (3, (0, p3)), (4, (0, p4))], [(0, (-1))], w)) 1 rfl ?_
          refine e_Ok.rets rfl rfl ?_
          exact ⟨_, rfl, (e_fr.refl w), hT, trivial⟩
        · replace h27 : (0 : Int) ≠ 0 := (show ¬ ((0 : Int) = 0) from h27)
          exfalso; omega
  · show e_Ok 20 elay ecode eI (d + 1) 288 (13, [(0, (1, 275)), (1, (0, p1)), (2, (0, p2)), (3, (0, p3)), (4, (0, p4))], [(0, 0)], w) _
    refine e_Ok.if1 rfl (fun h28 => ?_) (fun h28 => ?_)
    · replace h28 : (0 : Int) = 0 := h28
      refine e_Ok.run (t' := (39, [(0, (1, 275)), (1, (0, p1)), (2, (0, p2)), (3, (0, p3)), (4, (0, p4))], [(0, (-1))], w)) 1 rfl ?_
      refine e_Ok.rets rfl rfl ?_
      exact ⟨_, rfl, (e_fr.refl w), hT, trivial⟩
    · replace h28 : (0 : Int) ≠ 0 := (show ¬ ((0 : Int) = 0) from h28)
      exfalso; omega
theorem c_291 {d : Nat} (hd : 23 ≤ d) {w : eW} (hT : e_Has mTy w) {p1 p2 p3 p4 p5 : Int} (g1 : (-2147483648) ≤ p1 ∧ p1 ≤ 2147483647) (g2 : (-2147483648) ≤ p2 ∧ p2 ≤ 2147483647) (g3 : (-2147483648) ≤ p3 ∧ p3 ≤ 2147483647) (g4 : (-2147483648) ≤ p4 ∧ p4 ≤ 2147483647) (g5 : (-2147483648) ≤ p5 ∧ p5 ≤ 2147483647) : e_Ok 20 elay ecode eI d 291 (0, [(0, (1, 275)), (1, (0, p1)), (2, (0, p2)), (3, (0, p3)), (4, (0, p4)), (5, (0, p5))], [], w) (fun r w' => ∃ z : Int, r = [(0, z)] ∧ e_fr (mF 42 310 315) w w' ∧ e_Has mTy w' ∧ True) := by
  obtain ⟨d, rfl⟩ : ∃ e, d = e + 1 := ⟨d - 1, by omega⟩
  refine e_Ok.run (t' := (2, [(0, (1, 275)), (1, (0, p1)), (2, (0, p2)), (3, (0, p3)), (4, (0, p4)), (5, (0, p5))], [(0, p1), (1, 275)], w)) 2 rfl ?_
  refine e_Ok.callV rfl (by first | exact e_dq hd rfl | omega) rfl rfl rfl rfl (c_270 (by first | exact e_dq hd rfl | omega) hT) (fun r1 w2 h3 => ?_)
  have h4 := e_Has.get hT (c := 275) (k := 10) (lo := 0) (hi := 4) rfl (by decide)
  obtain ⟨z5, rfl, rfl, q6⟩ := h3
  obtain ⟨rfl, q6⟩ | ⟨rfl, q6⟩ := q6
  · show e_Ok 20 elay ecode eI (d + 1) 291 (5, [(0, (1, 275)), (1, (0, p1)), (2, (0, p2)), (3, (0, p3)), (4, (0, p4)), (5, (0, p5))], [(0, 1)], w) _
    refine e_Ok.if1 rfl (fun h7 => ?_) (fun h7 => ?_)
    · replace h7 : (1 : Int) = 0 := h7
      exfalso; omega
    · replace h7 : (1 : Int) ≠ 0 := (show ¬ ((1 : Int) = 0) from h7)
      refine e_Ok.run (t' := (14, [(0, (1, 275)), (1, (0, p1)), (2, (0, p2)), (3, (0, p3)), (4, (0, p4)), (5, (0, p5))], [(0, p5), (0, p4), (0, p3), (0, p2)], w)) 4 rfl ?_
      refine e_Ok.callS rfl (by first | exact e_dq hd rfl | omega) rfl rfl (c_273 (by first | exact e_dq hd rfl | omega) (by omega) (by omega)) (fun r8 w9 h10 => ?_)
      obtain ⟨z11, rfl, rfl, q12⟩ := h10
      obtain ⟨rfl, q12⟩ | ⟨rfl, q12⟩ := q12
      · show e_Ok 20 elay ecode eI (d + 1) 291 (17, [(0, (1, 275)), (1, (0, p1)), (2, (0, p2)), (3, (0, p3)), (4, (0, p4)), (5, (0, p5))], [(0, 1)], w) _
        refine e_Ok.if1 rfl (fun h13 => ?_) (fun h13 => ?_)
        · replace h13 : (1 : Int) ≠ 0 := h13
          refine e_Ok.run (t' := (23, [(0, (1, 275)), (1, (0, p1)), (2, (0, p2)), (3, (0, p3)), (4, (0, p4)), (5, (0, p5))], [(1, 275)], w)) 1 rfl ?_
          have h14 := (e_Has.get hT (c := 275) (k := 3) (lo := 0) (hi := 1) rfl (by decide))
          refine e_Ok.getf (z := w 275 3) rfl (el_o rfl) rfl rfl rfl (by first | exact e_bq h14 (by decide) (by decide) | omega) ?_
          refine e_Ok.if1 rfl (fun h15 => ?_) (fun h15 => ?_)
          · replace h15 : (w 275 3 : Int) = 0 := h15
            refine e_Ok.run (t' := (33, [(0, (1, 275)), (1, (0, p1)), (2, (0, p2)), (3, (0, p3)), (4, (0, p4)), (5, (0, p5))], [(1, 275)], w)) 1 rfl ?_
            have h16 := (e_Has.get hT (c := 275) (k := 42) (lo := 0) (hi := 8) rfl (by decide))
            refine e_Ok.getf (z := w 275 42) rfl (el_o rfl) rfl rfl rfl (by first | exact e_bq h16 (by decide) (by decide) | omega) ?_
            refine e_Ok.run (t' := (38, [(0, (1, 275)), (1, (0, p1)), (2, (0, p2)), (3, (0, p3)), (4, (0, p4)), (5, (0, p5))], [(0, 8), (0, w 275 42)], w)) 1 rfl ?_
            refine e_Ok.if2 rfl (fun h17 => ?_) (fun h17 => ?_)
            · replace h17 : (w 275 42 : Int) ≠ 8 := h17
              refine e_Ok.run (t' := (45, [(0, (1, 275)), (1, (0, p1)), (2, (0, p2)), (3, (0, p3)), (4, (0, p4)), (5, (0, p5))], [(1, 275)], w)) 1 rfl ?_
              refine e_Ok.getr (z := 310) rfl (el_o rfl) rfl rfl (e_Has.eq hT rfl) ⟨by decide, by decide⟩ ?_
              refine e_Ok.run (t' := (49, [(0, (1, 275)), (1, (0, p1)), (2, (0, p2)), (3, (0, p3)), (4, (0, p4)), (5, (0, p5))], [(1, 275), (1, 310)], w)) 1 rfl ?_
              refine e_Ok.getf (z := w 275 42) rfl (el_o rfl) rfl rfl rfl (by omega) ?_
              refine e_Ok.run (t' := (53, [(0, (1, 275)), (1, (0, p1)), (2, (0, p2)), (3, (0, p3)), (4, (0, p4)), (5, (0, p5))], [(0, p1), (0, w 275 42), (1, 310)], w)) 1 rfl ?_
              refine e_Ok.ast rfl (el_o rfl) rfl rfl (by omega) ?_
              generalize hw18 : e_up w 310 (w 275 42) p1 = w18
              have f19 : e_fr (mF 42 310 315) w w18 := e_fr.up (e_fr.refl w) hw18 (by first | exact Or.inr ⟨(by decide), (by decide)⟩ | (unfold mF; omega))
              have hT20 : e_Has mTy w18 := e_Has.upr hT hw18 rfl (by omega)
              refine e_Ok.run (t' := (55, [(0, (1, 275)), (1, (0, p1)), (2, (0, p2)), (3, (0, p3)), (4, (0, p4)), (5, (0, p5))], [(1, 275)], w18)) 1 rfl ?_
              refine e_Ok.getr (z := 311) rfl (el_o rfl) rfl rfl (e_uq hw18 (Or.inl (by first | decide | exact e_neo (by decide) | exact e_ne1 (by decide) | exact e_ne2 (by decide) | omega)) (e_Has.eq hT rfl)) ⟨by decide, by decide⟩ ?_
              refine e_Ok.run (t' := (59, [(0, (1, 275)), (1, (0, p1)), (2, (0, p2)), (3, (0, p3)), (4, (0, p4)), (5, (0, p5))], [(1, 275), (1, 311)], w18)) 1 rfl ?_
              refine e_Ok.getf (z := w 275 42) rfl (el_o rfl) rfl rfl (e_uq hw18 (Or.inl (by first | decide | exact e_neo (by decide) | exact e_ne1 (by decide) | exact e_ne2 (by decide) | omega)) rfl) (by omega) ?_
              refine e_Ok.run (t' := (63, [(0, (1, 275)), (1, (0, p1)), (2, (0, p2)), (3, (0, p3)), (4, (0, p4)), (5, (0, p5))], [(0, p2), (0, w 275 42), (1, 311)], w18)) 1 rfl ?_
              refine e_Ok.ast rfl (el_o rfl) rfl rfl (by omega) ?_
              generalize hw21 : e_up w18 311 (w 275 42) p2 = w21
              have f22 : e_fr (mF 42 310 315) w w21 := e_fr.up f19 hw21 (by first | exact Or.inr ⟨(by decide), (by decide)⟩ | (unfold mF; omega))
              have hT23 : e_Has mTy w21 := e_Has.upr hT20 hw21 rfl (by omega)
              refine e_Ok.run (t' := (65, [(0, (1, 275)), (1, (0, p1)), (2, (0, p2)), (3, (0, p3)), (4, (0, p4)), (5, (0, p5))], [(1, 275)], w21)) 1 rfl ?_
              refine e_Ok.getr (z := 312) rfl (el_o rfl) rfl rfl (e_uq hw21 (Or.inl (by first | decide | exact e_neo (by decide) | exact e_ne1 (by decide) | exact e_ne2 (by decide) | omega)) (e_uq hw18 (Or.inl (by first | decide | exact e_neo (by decide) | exact e_ne1 (by decide) | exact e_ne2 (by decide) | omega)) (e_Has.eq hT rfl))) ⟨by decide, by decide⟩ ?_
              refine e_Ok.run (t' := (69, [(0, (1, 275)), (1, (0, p1)), (2, (0, p2)), (3, (0, p3)), (4, (0, p4)), (5, (0, p5))], [(1, 275), (1, 312)], w21)) 1 rfl ?_
              refine e_Ok.getf (z := w 275 42) rfl (el_o rfl) rfl rfl (e_uq hw21 (Or.inl (by first | decide | exact e_neo (by decide) | exact e_ne1 (by decide) | exact e_ne2 (by decide) | omega)) (e_uq hw18 (Or.inl (by first | decide | exact e_neo (by decide) | exact e_ne1 (by decide) | exact e_ne2 (by decide) | omega)) rfl)) (by omega) ?_
              refine e_Ok.run (t' := (73, [(0, (1, 275)), (1, (0, p1)), (2, (0, p2)), (3, (0, p3)), (4, (0, p4)), (5, (0, p5))], [(0, p3), (0, w 275 42), (1, 312)], w21)) 1 rfl ?_
              refine e_Ok.ast rfl (el_o rfl) rfl rfl (by omega) ?_
              generalize hw24 : e_up w21 312 (w 275 42) p3 = w24
              have f25 : e_fr (mF 42 310 315) w w24 := e_fr.up f22 hw24 (by first | exact Or.inr ⟨(by decide), (by decide)⟩ | (unfold mF; omega))
              have hT26 : e_Has mTy w24 := e_Has.upr hT23 hw24 rfl (by omega)
              refine e_Ok.run (t' := (75, [(0, (1, 275)), (1, (0, p1)), (2, (0, p2)), (3, (0, p3)), (4, (0, p4)), (5, (0, p5))], [(1, 275)], w24)) 1 rfl ?_
              refine e_Ok.getr (z := 313) rfl (el_o rfl) rfl rfl (e_uq hw24 (Or.inl (by first | decide | exact e_neo (by decide) | exact e_ne1 (by decide) | exact e_ne2 (by decide) | omega)) (e_uq hw21 (Or.inl (by first | decide | exact e_neo (by decide) | exact e_ne1 (by decide) | exact e_ne2 (by decide) | omega)) (e_uq hw18 (Or.inl (by first | decide | exact e_neo (by decide) | exact e_ne1 (by decide) | exact e_ne2 (by decide) | omega)) (e_Has.eq hT rfl)))) ⟨by decide, by decide⟩ ?_
              refine e_Ok.run (t' := (79, [(0, (1, 275)), (1, (0, p1)), (2, (0, p2)), (3, (0, p3)), (4, (0, p4)), (5, (0, p5))], [(1, 275), (1, 313)], w24)) 1 rfl ?_
              refine e_Ok.getf (z := w 275 42) rfl (el_o rfl) rfl rfl (e_uq hw24 (Or.inl (by first | decide | exact e_neo (by decide) | exact e_ne1 (by decide) | exact e_ne2 (by decide) | omega)) (e_uq hw21 (Or.inl (by first | decide | exact e_neo (by decide) | exact e_ne1 (by decide) | exact e_ne2 (by decide) | omega)) (e_uq hw18 (Or.inl (by first | decide | exact e_neo (by decide) | exact e_ne1 (by decide) | exact e_ne2 (by decide) | omega)) rfl))) (by omega) ?_
              refine e_Ok.run (t' := (84, [(0, (1, 275)), (1, (0, p1)), (2, (0, p2)), (3, (0, p3)), (4, (0, p4)), (5, (0, p5))], [(0, p4), (0, w 275 42), (1, 313)], w24)) 1 rfl ?_
              refine e_Ok.ast rfl (el_o rfl) rfl rfl (by omega) ?_
              generalize hw27 : e_up w24 313 (w 275 42) p4 = w27
              have f28 : e_fr (mF 42 310 315) w w27 := e_fr.up f25 hw27 (by first | exact Or.inr ⟨(by decide), (by decide)⟩ | (unfold mF; omega))
              have hT29 : e_Has mTy w27 := e_Has.upr hT26 hw27 rfl (by omega)
              refine e_Ok.run (t' := (86, [(0, (1, 275)), (1, (0, p1)), (2, (0, p2)), (3, (0, p3)), (4, (0, p4)), (5, (0, p5))], [(1, 275)], w27)) 1 rfl ?_
              refine e_Ok.getr (z := 314) rfl (el_o rfl) rfl rfl (e_uq hw27 (Or.inl (by first | decide | exact e_neo (by decide) | exact e_ne1 (by decide) | exact e_ne2 (by decide) | omega)) (e_uq hw24 (Or.inl (by first | decide | exact e_neo (by decide) | exact e_ne1 (by decide) | exact e_ne2 (by decide) | omega)) (e_uq hw21 (Or.inl (by first | decide | exact e_neo (by decide) | exact e_ne1 (by decide) | exact e_ne2 (by decide) | omega)) (e_uq hw18 (Or.inl (by first | decide | exact e_neo (by decide) | exact e_ne1 (by decide) | exact e_ne2 (by decide) | omega)) (e_Has.eq hT rfl))))) ⟨by decide, by decide⟩ ?_
              refine e_Ok.run (t' := (90, [(0, (1, 275)), (1, (0, p1)), (2, (0, p2)), (3, (0, p3)), (4, (0, p4)), (5, (0, p5))], [(1, 275), (1, 314)], w27)) 1 rfl ?_
              refine e_Ok.getf (z := w 275 42) rfl (el_o rfl) rfl rfl (e_uq hw27 (Or.inl (by first | decide | exact e_neo (by decide) | exact e_ne1 (by decide) | exact e_ne2 (by decide) | omega)) (e_uq hw24 (Or.inl (by first | decide | exact e_neo (by decide) | exact e_ne1 (by decide) | exact e_ne2 (by decide) | omega)) (e_uq hw21 (Or.inl (by first | decide | exact e_neo (by decide) | exact e_ne1 (by decide) | exact e_ne2 (by decide) | omega)) (e_uq hw18 (Or.inl (by first | decide | exact e_neo (by decide) | exact e_ne1 (by decide) | exact e_ne2 (by decide) | omega)) rfl)))) (by omega) ?_
              refine e_Ok.run (t' := (95, [(0, (1, 275)), (1, (0, p1)), (2, (0, p2)), (3, (0, p3)), (4, (0, p4)), (5, (0, p5))], [(0, p5), (0, w 275 42), (1, 314)], w27)) 1 rfl ?_
              refine e_Ok.ast rfl (el_o rfl) rfl rfl (by omega) ?_
              generalize hw30 : e_up w27 314 (w 275 42) p5 = w30
              have f31 : e_fr (mF 42 310 315) w w30 := e_fr.up f28 hw30 (by first | exact Or.inr ⟨(by decide), (by decide)⟩ | (unfold mF; omega))
              have hT32 : e_Has mTy w30 := e_Has.upr hT29 hw30 rfl (by omega)
              refine e_Ok.run (t' := (97, [(0, (1, 275)), (1, (0, p1)), (2, (0, p2)), (3, (0, p3)), (4, (0, p4)), (5, (0, p5))], [(1, 275)], w30)) 1 rfl ?_
              refine e_Ok.getr (z := 315) rfl (el_o rfl) rfl rfl (e_uq hw30 (Or.inl (by first | decide | exact e_neo (by decide) | exact e_ne1 (by decide) | exact e_ne2 (by decide) | omega)) (e_uq hw27 (Or.inl (by first | decide | exact e_neo (by decide) | exact e_ne1 (by decide) | exact e_ne2 (by decide) | omega)) (e_uq hw24 (Or.inl (by first | decide | exact e_neo (by decide) | exact e_ne1 (by decide) | exact e_ne2 (by decide) | omega)) (e_uq hw21 (Or.inl (by first | decide | exact e_neo (by decide) | exact e_ne1 (by decide) | exact e_ne2 (by decide) | omega)) (e_uq hw18 (Or.inl (by first | decide | exact e_neo (by decide) | exact e_ne1 (by decide) | exact e_ne2 (by decide) | omega)) (e_Has.eq hT rfl)))))) ⟨by decide, by decide⟩ ?_
              refine e_Ok.run (t' := (101, [(0, (1, 275)), (1, (0, p1)), (2, (0, p2)), (3, (0, p3)), (4, (0, p4)), (5, (0, p5))], [(1, 275), (1, 315)], w30)) 1 rfl ?_
              refine e_Ok.getf (z := w 275 42) rfl (el_o rfl) rfl rfl (e_uq hw30 (Or.inl (by first | decide | exact e_neo (by decide) | exact e_ne1 (by decide) | exact e_ne2 (by decide) | omega)) (e_uq hw27 (Or.inl (by first | decide | exact e_neo (by decide) | exact e_ne1 (by decide) | exact e_ne2 (by decide) | omega)) (e_uq hw24 (Or.inl (by first | decide | exact e_neo (by decide) | exact e_ne1 (by decide) | exact e_ne2 (by decide) | omega)) (e_uq hw21 (Or.inl (by first | decide | exact e_neo (by decide) | exact e_ne1 (by decide) | exact e_ne2 (by decide) | omega)) (e_uq hw18 (Or.inl (by first | decide | exact e_neo (by decide) | exact e_ne1 (by decide) | exact e_ne2 (by decide) | omega)) rfl))))) (by omega) ?_
              refine e_Ok.run (t' := (105, [(0, (1, 275)), (1, (0, p1)), (2, (0, p2)), (3, (0, p3)), (4, (0, p4)), (5, (0, p5))], [(0, (-1)), (0, w 275 42), (1, 315)], w30)) 1 rfl ?_
              refine e_Ok.ast rfl (el_o rfl) rfl rfl (by omega) ?_
              generalize hw33 : e_up w30 315 (w 275 42) (-1) = w33
              have f34 : e_fr (mF 42 310 315) w w33 := e_fr.up f31 hw33 (by first | exact Or.inr ⟨(by decide), (by decide)⟩ | (unfold mF; omega))
              have hT35 : e_Has mTy w33 := e_Has.upr hT32 hw33 rfl (by omega)
              refine e_Ok.run (t' := (108, [(0, (1, 275)), (1, (0, p1)), (2, (0, p2)), (3, (0, p3)), (4, (0, p4)), (5, (0, p5))], [(1, 275), (1, 275)], w33)) 2 rfl ?_
              refine e_Ok.getf (z := w 275 42) rfl (el_o rfl) rfl rfl (e_uq hw33 (Or.inl (by first | decide | exact e_neo (by decide) | exact e_ne1 (by decide) | exact e_ne2 (by decide) | omega)) (e_uq hw30 (Or.inl (by first | decide | exact e_neo (by decide) | exact e_ne1 (by decide) | exact e_ne2 (by decide) | omega)) (e_uq hw27 (Or.inl (by first | decide | exact e_neo (by decide) | exact e_ne1 (by decide) | exact e_ne2 (by decide) | omega)) (e_uq hw24 (Or.inl (by first | decide | exact e_neo (by decide) | exact e_ne1 (by decide) | exact e_ne2 (by decide) | omega)) (e_uq hw21 (Or.inl (by first | decide | exact e_neo (by decide) | exact e_ne1 (by decide) | exact e_ne2 (by decide) | omega)) (e_uq hw18 (Or.inl (by first | decide | exact e_neo (by decide) | exact e_ne1 (by decide) | exact e_ne2 (by decide) | omega)) rfl)))))) (by omega) ?_
              refine e_Ok.run (t' := (112, [(0, (1, 275)), (1, (0, p1)), (2, (0, p2)), (3, (0, p3)), (4, (0, p4)), (5, (0, p5))], [(0, 1), (0, w 275 42), (1, 275)], w33)) 1 rfl ?_
              refine e_Ok.add (z := w 275 42 + 1) rfl (by first | with_reducible rfl | exact Int.add_comm _ _ | omega) (by omega) ?_
              refine e_Ok.putf rfl (el_o rfl) rfl rfl ?_
              generalize hw36 : e_up w33 275 42 (w 275 42 + 1) = w36
              have f37 : e_fr (mF 42 310 315) w w36 := e_fr.up f34 hw36 (by first | exact Or.inl ⟨rfl, rfl⟩ | (unfold mF; omega))
              have hT38 : e_Has mTy w36 := e_Has.upr hT35 hw36 rfl (by omega)
              refine e_Ok.run (t' := (117, [(0, (1, 275)), (1, (0, p1)), (2, (0, p2)), (3, (0, p3)), (4, (0, p4)), (5, (0, p5))], [(1, 275)], w36)) 1 rfl ?_
              refine e_Ok.getf (z := w 275 42 + 1) rfl (el_o rfl) rfl rfl (e_ue hw36) (by omega) ?_
              refine e_Ok.run (t' := (121, [(0, (1, 275)), (1, (0, p1)), (2, (0, p2)), (3, (0, p3)), (4, (0, p4)), (5, (0, p5))], [(0, 1), (0, w 275 42 + 1)], w36)) 1 rfl ?_
              refine e_Ok.sub' (z := w 275 42) rfl (by first | with_reducible rfl | exact Int.add_comm _ _ | omega) (by omega) ?_
              refine e_Ok.rets rfl rfl ?_
              exact ⟨_, rfl, f37, hT38, trivial⟩
            · replace h17 : (w 275 42 : Int) = 8 := Classical.not_not.mp (show ¬ ((w 275 42 : Int) ≠ 8) from h17)
              refine e_Ok.run (t' := (43, [(0, (1, 275)), (1, (0, p1)), (2, (0, p2)), (3, (0, p3)), (4, (0, p4)), (5, (0, p5))], [(0, (-3))], w)) 1 rfl ?_
              refine e_Ok.rets rfl rfl ?_
              exact ⟨_, rfl, (e_fr.refl w), hT, trivial⟩
          · replace h15 : (w 275 3 : Int) ≠ 0 := (show ¬ ((w 275 3 : Int) = 0) from h15)
            refine e_Ok.run (t' := (31, [(0, (1, 275)), (1, (0, p1)), (2, (0, p2)), (3, (0, p3)), (4, (0, p4)), (5, (0, p5))], [(0, (-2))], w)) 1 rfl ?_
            refine e_Ok.rets rfl rfl ?_
            exact ⟨_, rfl, (e_fr.refl w), hT, trivial⟩
        · replace h13 : (1 : Int) = 0 := Classical.not_not.mp (show ¬ ((1 : Int) ≠ 0) from h13)
          exfalso; omega
      · show e_Ok 20 elay ecode eI (d + 1) 291 (17, [(0, (1, 275)), (1, (0, p1)), (2, (0, p2)), (3, (0, p3)), (4, (0, p4)), (5, (0, p5))], [(0, 0)], w) _
        refine e_Ok.if1 rfl (fun h39 => ?_) (fun h39 => ?_)
        · replace h39 : (0 : Int) ≠ 0 := h39
          exfalso; omega
        · replace h39 : (0 : Int) = 0 := Classical.not_not.mp (show ¬ ((0 : Int) ≠ 0) from h39)
          refine e_Ok.run (t' := (21, [(0, (1, 275)), (1, (0, p1)), (2, (0, p2)), (3, (0, p3)), (4, (0, p4)), (5, (0, p5))], [(0, (-1))], w)) 1 rfl ?_
          refine e_Ok.rets rfl rfl ?_
          exact ⟨_, rfl, (e_fr.refl w), hT, trivial⟩
  · show e_Ok 20 elay ecode eI (d + 1) 291 (5, [(0, (1, 275)), (1, (0, p1)), (2, (0, p2)), (3, (0, p3)), (4, (0, p4)), (5, (0, p5))], [(0, 0)], w) _
    refine e_Ok.if1 rfl (fun h40 => ?_) (fun h40 => ?_)
    · replace h40 : (0 : Int) = 0 := h40
      refine e_Ok.run (t' := (21, [(0, (1, 275)), (1, (0, p1)), (2, (0, p2)), (3, (0, p3)), (4, (0, p4)), (5, (0, p5))], [(0, (-1))], w)) 1 rfl ?_
      refine e_Ok.rets rfl rfl ?_
      exact ⟨_, rfl, (e_fr.refl w), hT, trivial⟩
    · replace h40 : (0 : Int) ≠ 0 := (show ¬ ((0 : Int) = 0) from h40)
      exfalso; omega
theorem c_292 {d : Nat} (hd : 23 ≤ d) {w : eW} (hT : e_Has mTy w) {p1 p2 : Int} (g1 : (-2147483648) ≤ p1 ∧ p1 ≤ 2147483647) (g2 : (-2147483648) ≤ p2 ∧ p2 ≤ 2147483647) : e_Ok 20 elay ecode eI d 292 (0, [(0, (1, 275)), (1, (0, p1)), (2, (0, p2))], [], w) (fun r w' => ∃ z : Int, r = [(0, z)] ∧ e_fr (mF (-1) 315 315) w w' ∧ e_Has mTy w' ∧ True) := by
  obtain ⟨d, rfl⟩ : ∃ e, d = e + 1 := ⟨d - 1, by omega⟩
  refine e_Ok.run (t' := (4, [(0, (1, 275)), (1, (0, p1)), (2, (0, p2))], [(1, 275), (4, 0), (4, p1)], w)) 4 rfl ?_
  have h1 := (e_Has.get hT (c := 275) (k := 42) (lo := 0) (hi := 8) rfl (by decide))
  refine e_Ok.getf (z := w 275 42) rfl (el_o rfl) rfl rfl rfl (by first | exact e_bq h1 (by decide) (by decide) | omega) ?_
  refine e_Ok.run (t' := (8, [(0, (1, 275)), (1, (0, p1)), (2, (0, p2))], [(0, 1), (0, w 275 42), (4, 0), (4, p1)], w)) 1 rfl ?_
  refine e_Ok.sub' (z := w 275 42 - 1) rfl (by first | with_reducible rfl | exact Int.add_comm _ _ | omega) (by omega) ?_
  refine e_Ok.run (t' := (10, [(0, (1, 275)), (1, (0, p1)), (2, (0, p2))], [(4, w 275 42 - 1), (4, 0), (4, p1)], w)) 1 rfl ?_
  refine e_Ok.callS rfl (by first | exact e_dq hd rfl | omega) rfl rfl (c_266) (fun r2 w3 h4 => ?_)
  obtain ⟨z5, rfl, rfl, q6⟩ := h4
  obtain ⟨rfl, q6⟩ | ⟨rfl, q6⟩ := q6
  · show e_Ok 20 elay ecode eI (d + 1) 292 (13, [(0, (1, 275)), (1, (0, p1)), (2, (0, p2))], [(0, 1)], w) _
    refine e_Ok.if1 rfl (fun h7 => ?_) (fun h7 => ?_)
    · replace h7 : (1 : Int) = 0 := h7
      exfalso; omega
    · replace h7 : (1 : Int) ≠ 0 := (show ¬ ((1 : Int) = 0) from h7)
      refine e_Ok.run (t' := (24, [(0, (1, 275)), (1, (0, p1)), (2, (0, p2))], [(4, 32000), (4, (-1)), (4, p2)], w)) 4 rfl ?_
      refine e_Ok.callS rfl (by first | exact e_dq hd rfl | omega) rfl rfl (c_266) (fun r8 w9 h10 => ?_)
      obtain ⟨z11, rfl, rfl, q12⟩ := h10
      obtain ⟨rfl, q12⟩ | ⟨rfl, q12⟩ := q12
      · show e_Ok 20 elay ecode eI (d + 1) 292 (27, [(0, (1, 275)), (1, (0, p1)), (2, (0, p2))], [(0, 1)], w) _
        refine e_Ok.if1 rfl (fun h13 => ?_) (fun h13 => ?_)
        · replace h13 : (1 : Int) ≠ 0 := h13
          refine e_Ok.run (t' := (33, [(0, (1, 275)), (1, (0, p1)), (2, (0, p2))], [(1, 275)], w)) 1 rfl ?_
          have h14 := (e_Has.get hT (c := 275) (k := 3) (lo := 0) (hi := 1) rfl (by decide))
          refine e_Ok.getf (z := w 275 3) rfl (el_o rfl) rfl rfl rfl (by first | exact e_bq h14 (by decide) (by decide) | omega) ?_
          refine e_Ok.if1 rfl (fun h15 => ?_) (fun h15 => ?_)
          · replace h15 : (w 275 3 : Int) = 0 := h15
            refine e_Ok.run (t' := (43, [(0, (1, 275)), (1, (0, p1)), (2, (0, p2))], [(1, 275)], w)) 1 rfl ?_
            refine e_Ok.getr (z := 315) rfl (el_o rfl) rfl rfl (e_Has.eq hT rfl) ⟨by decide, by decide⟩ ?_
            refine e_Ok.run (t' := (47, [(0, (1, 275)), (1, (0, p1)), (2, (0, p2))], [(0, p1), (1, 315)], w)) 1 rfl ?_
            have h16 := (e_Has.get hT (c := 315) (k := p1) (lo := (-2147483648)) (hi := 2147483647) rfl (by decide))
            refine e_Ok.ald (z := w 315 p1) rfl (el_o rfl) rfl (by omega) rfl (by first | exact e_bq h16 (by decide) (by decide) | omega) ?_
            refine e_Ok.run (t' := (50, [(3, (0, w 315 p1)), (0, (1, 275)), (1, (0, p1)), (2, (0, p2))], [(1, 275)], w)) 2 rfl ?_
            refine e_Ok.getr (z := 315) rfl (el_o rfl) rfl rfl (e_Has.eq hT rfl) ⟨by decide, by decide⟩ ?_
            refine e_Ok.run (t' := (55, [(3, (0, w 315 p1)), (0, (1, 275)), (1, (0, p1)), (2, (0, p2))], [(0, p2), (0, p1), (1, 315)], w)) 2 rfl ?_
            refine e_Ok.ast rfl (el_o rfl) rfl rfl (by omega) ?_
            generalize hw17 : e_up w 315 p1 p2 = w17
            have f18 : e_fr (mF (-1) 315 315) w w17 := e_fr.up (e_fr.refl w) hw17 (by first | exact Or.inr ⟨(by decide), (by decide)⟩ | (unfold mF; omega))
            have hT19 : e_Has mTy w17 := e_Has.upr hT hw17 rfl (by omega)
            refine e_Ok.run (t' := (57, [(3, (0, w 315 p1)), (0, (1, 275)), (1, (0, p1)), (2, (0, p2))], [(0, w 315 p1)], w17)) 1 rfl ?_
            refine e_Ok.rets rfl rfl ?_
            exact ⟨_, rfl, f18, hT19, trivial⟩
          · replace h15 : (w 275 3 : Int) ≠ 0 := (show ¬ ((w 275 3 : Int) = 0) from h15)
            refine e_Ok.run (t' := (41, [(0, (1, 275)), (1, (0, p1)), (2, (0, p2))], [(0, (-2))], w)) 1 rfl ?_
            refine e_Ok.rets rfl rfl ?_
            exact ⟨_, rfl, (e_fr.refl w), hT, trivial⟩
        · replace h13 : (1 : Int) = 0 := Classical.not_not.mp (show ¬ ((1 : Int) ≠ 0) from h13)
          exfalso; omega
      · show e_Ok 20 elay ecode eI (d + 1) 292 (27, [(0, (1, 275)), (1, (0, p1)), (2, (0, p2))], [(0, 0)], w) _
        refine e_Ok.if1 rfl (fun h20 => ?_) (fun h20 => ?_)
        · replace h20 : (0 : Int) ≠ 0 := h20
          exfalso; omega
        · replace h20 : (0 : Int) = 0 := Classical.not_not.mp (show ¬ ((0 : Int) ≠ 0) from h20)
          refine e_Ok.run (t' := (31, [(0, (1, 275)), (1, (0, p1)), (2, (0, p2))], [(0, (-1))], w)) 1 rfl ?_
          refine e_Ok.rets rfl rfl ?_
          exact ⟨_, rfl, (e_fr.refl w), hT, trivial⟩
  · show e_Ok 20 elay ecode eI (d + 1) 292 (13, [(0, (1, 275)), (1, (0, p1)), (2, (0, p2))], [(0, 0)], w) _
    refine e_Ok.if1 rfl (fun h21 => ?_) (fun h21 => ?_)
    · replace h21 : (0 : Int) = 0 := h21
      refine e_Ok.run (t' := (31, [(0, (1, 275)), (1, (0, p1)), (2, (0, p2))], [(0, (-1))], w)) 1 rfl ?_
      refine e_Ok.rets rfl rfl ?_
      exact ⟨_, rfl, (e_fr.refl w), hT, trivial⟩
    · replace h21 : (0 : Int) ≠ 0 := (show ¬ ((0 : Int) = 0) from h21)
      exfalso; omega
theorem c_293 {d : Nat} (hd : 23 ≤ d) {w : eW} (hT : e_Has mTy w) {p1 : Int} (g1 : (-2147483648) ≤ p1 ∧ p1 ≤ 2147483647) : e_Ok 20 elay ecode eI d 293 (0, [(0, (1, 275)), (1, (0, p1))], [], w) (fun r w' => ∃ z : Int, r = [(0, z)] ∧ e_fr (mF 49 316 316) w w' ∧ e_Has mTy w' ∧ True) := by
  obtain ⟨d, rfl⟩ : ∃ e, d = e + 1 := ⟨d - 1, by omega⟩
  refine e_Ok.run (t' := (6, [(0, (1, 275)), (1, (0, p1))], [(4, 1000), (4, 0), (4, p1)], w)) 4 rfl ?_
  refine e_Ok.callS rfl (by first | exact e_dq hd rfl | omega) rfl rfl (c_266) (fun r1 w2 h3 => ?_)
  obtain ⟨z4, rfl, rfl, q5⟩ := h3
  obtain ⟨rfl, q5⟩ | ⟨rfl, q5⟩ := q5
  · show e_Ok 20 elay ecode eI (d + 1) 293 (9, [(0, (1, 275)), (1, (0, p1))], [(0, 1)], w) _
    refine e_Ok.if1 rfl (fun h6 => ?_) (fun h6 => ?_)
    · replace h6 : (1 : Int) ≠ 0 := h6
      refine e_Ok.run (t' := (15, [(0, (1, 275)), (1, (0, p1))], [(1, 275)], w)) 1 rfl ?_
      have h7 := (e_Has.get hT (c := 275) (k := 3) (lo := 0) (hi := 1) rfl (by decide))
      refine e_Ok.getf (z := w 275 3) rfl (el_o rfl) rfl rfl rfl (by first | exact e_bq h7 (by decide) (by decide) | omega) ?_
      refine e_Ok.if1 rfl (fun h8 => ?_) (fun h8 => ?_)
      · replace h8 : (w 275 3 : Int) = 0 := h8
        refine e_Ok.run (t' := (25, [(0, (1, 275)), (1, (0, p1))], [(1, 275)], w)) 1 rfl ?_
        have h9 := (e_Has.get hT (c := 275) (k := 49) (lo := 0) (hi := 8) rfl (by decide))
        refine e_Ok.getf (z := w 275 49) rfl (el_o rfl) rfl rfl rfl (by first | exact e_bq h9 (by decide) (by decide) | omega) ?_
        refine e_Ok.run (t' := (30, [(0, (1, 275)), (1, (0, p1))], [(0, 8), (0, w 275 49)], w)) 1 rfl ?_
        refine e_Ok.if2 rfl (fun h10 => ?_) (fun h10 => ?_)
        · replace h10 : (w 275 49 : Int) ≠ 8 := h10
          refine e_Ok.run (t' := (37, [(0, (1, 275)), (1, (0, p1))], [(1, 275)], w)) 1 rfl ?_
          refine e_Ok.getr (z := 316) rfl (el_o rfl) rfl rfl (e_Has.eq hT rfl) ⟨by decide, by decide⟩ ?_
          refine e_Ok.run (t' := (41, [(0, (1, 275)), (1, (0, p1))], [(1, 275), (1, 316)], w)) 1 rfl ?_
          refine e_Ok.getf (z := w 275 49) rfl (el_o rfl) rfl rfl rfl (by omega) ?_
          refine e_Ok.run (t' := (45, [(0, (1, 275)), (1, (0, p1))], [(0, p1), (0, w 275 49), (1, 316)], w)) 1 rfl ?_
          refine e_Ok.ast rfl (el_o rfl) rfl rfl (by omega) ?_
          generalize hw11 : e_up w 316 (w 275 49) p1 = w11
          have f12 : e_fr (mF 49 316 316) w w11 := e_fr.up (e_fr.refl w) hw11 (by first | exact Or.inr ⟨(by decide), (by decide)⟩ | (unfold mF; omega))
          have hT13 : e_Has mTy w11 := e_Has.upr hT hw11 rfl (by omega)
          refine e_Ok.run (t' := (48, [(0, (1, 275)), (1, (0, p1))], [(1, 275), (1, 275)], w11)) 2 rfl ?_
          refine e_Ok.getf (z := w 275 49) rfl (el_o rfl) rfl rfl (e_uq hw11 (Or.inl (by first | decide | exact e_neo (by decide) | exact e_ne1 (by decide) | exact e_ne2 (by decide) | omega)) rfl) (by omega) ?_
          refine e_Ok.run (t' := (52, [(0, (1, 275)), (1, (0, p1))], [(0, 1), (0, w 275 49), (1, 275)], w11)) 1 rfl ?_
          refine e_Ok.add (z := w 275 49 + 1) rfl (by first | with_reducible rfl | exact Int.add_comm _ _ | omega) (by omega) ?_
          refine e_Ok.putf rfl (el_o rfl) rfl rfl ?_
          generalize hw14 : e_up w11 275 49 (w 275 49 + 1) = w14
          have f15 : e_fr (mF 49 316 316) w w14 := e_fr.up f12 hw14 (by first | exact Or.inl ⟨rfl, rfl⟩ | (unfold mF; omega))
          have hT16 : e_Has mTy w14 := e_Has.upr hT13 hw14 rfl (by omega)
          refine e_Ok.run (t' := (57, [(0, (1, 275)), (1, (0, p1))], [(1, 275)], w14)) 1 rfl ?_
          refine e_Ok.getf (z := w 275 49 + 1) rfl (el_o rfl) rfl rfl (e_ue hw14) (by omega) ?_
          refine e_Ok.run (t' := (61, [(0, (1, 275)), (1, (0, p1))], [(0, 1), (0, w 275 49 + 1)], w14)) 1 rfl ?_
          refine e_Ok.sub' (z := w 275 49) rfl (by first | with_reducible rfl | exact Int.add_comm _ _ | omega) (by omega) ?_
          refine e_Ok.rets rfl rfl ?_
          exact ⟨_, rfl, f15, hT16, trivial⟩
        · replace h10 : (w 275 49 : Int) = 8 := Classical.not_not.mp (show ¬ ((w 275 49 : Int) ≠ 8) from h10)
          refine e_Ok.run (t' := (35, [(0, (1, 275)), (1, (0, p1))], [(0, (-3))], w)) 1 rfl ?_
          refine e_Ok.rets rfl rfl ?_
          exact ⟨_, rfl, (e_fr.refl w), hT, trivial⟩
      · replace h8 : (w 275 3 : Int) ≠ 0 := (show ¬ ((w 275 3 : Int) = 0) from h8)
        refine e_Ok.run (t' := (23, [(0, (1, 275)), (1, (0, p1))], [(0, (-2))], w)) 1 rfl ?_
        refine e_Ok.rets rfl rfl ?_
        exact ⟨_, rfl, (e_fr.refl w), hT, trivial⟩
    · replace h6 : (1 : Int) = 0 := Classical.not_not.mp (show ¬ ((1 : Int) ≠ 0) from h6)
      exfalso; omega
  · show e_Ok 20 elay ecode eI (d + 1) 293 (9, [(0, (1, 275)), (1, (0, p1))], [(0, 0)], w) _
    refine e_Ok.if1 rfl (fun h17 => ?_) (fun h17 => ?_)
    · replace h17 : (0 : Int) ≠ 0 := h17
      exfalso; omega
    · replace h17 : (0 : Int) = 0 := Classical.not_not.mp (show ¬ ((0 : Int) ≠ 0) from h17)
      refine e_Ok.run (t' := (13, [(0, (1, 275)), (1, (0, p1))], [(0, (-1))], w)) 1 rfl ?_
      refine e_Ok.rets rfl rfl ?_
      exact ⟨_, rfl, (e_fr.refl w), hT, trivial⟩
theorem c_294 {d : Nat} (hd : 23 ≤ d) {w : eW} (hT : e_Has mTy w) {p1 p2 : Int} (g1 : (-2147483648) ≤ p1 ∧ p1 ≤ 2147483647) (g2 : 0 ≤ p2 ∧ p2 ≤ 1) : e_Ok 20 elay ecode eI d 294 (0, [(0, (1, 275)), (1, (0, p1)), (2, (0, p2))], [], w) (fun r w' => ∃ z : Int, r = [(0, z)] ∧ e_fr (mF (-1) 317 317) w w' ∧ e_Has mTy w' ∧ True) := by
  obtain ⟨d, rfl⟩ : ∃ e, d = e + 1 := ⟨d - 1, by omega⟩
  refine e_Ok.run (t' := (6, [(0, (1, 275)), (1, (0, p1)), (2, (0, p2))], [(4, 7), (4, 0), (4, p1)], w)) 4 rfl ?_
  refine e_Ok.callS rfl (by first | exact e_dq hd rfl | omega) rfl rfl (c_266) (fun r1 w2 h3 => ?_)
  obtain ⟨z4, rfl, rfl, q5⟩ := h3
  obtain ⟨rfl, q5⟩ | ⟨rfl, q5⟩ := q5
  · show e_Ok 20 elay ecode eI (d + 1) 294 (9, [(0, (1, 275)), (1, (0, p1)), (2, (0, p2))], [(0, 1)], w) _
    refine e_Ok.if1 rfl (fun h6 => ?_) (fun h6 => ?_)
    · replace h6 : (1 : Int) ≠ 0 := h6
      refine e_Ok.run (t' := (15, [(0, (1, 275)), (1, (0, p1)), (2, (0, p2))], [(1, 275)], w)) 1 rfl ?_
      have h7 := (e_Has.get hT (c := 275) (k := 3) (lo := 0) (hi := 1) rfl (by decide))
      refine e_Ok.getf (z := w 275 3) rfl (el_o rfl) rfl rfl rfl (by first | exact e_bq h7 (by decide) (by decide) | omega) ?_
      refine e_Ok.if1 rfl (fun h8 => ?_) (fun h8 => ?_)
      · replace h8 : (w 275 3 : Int) = 0 := h8
        refine e_Ok.run (t' := (25, [(0, (1, 275)), (1, (0, p1)), (2, (0, p2))], [(1, 275)], w)) 1 rfl ?_
        refine e_Ok.getr (z := 317) rfl (el_o rfl) rfl rfl (e_Has.eq hT rfl) ⟨by decide, by decide⟩ ?_
        refine e_Ok.run (t' := (30, [(0, (1, 275)), (1, (0, p1)), (2, (0, p2))], [(0, p2), (0, p1), (1, 317)], w)) 2 rfl ?_
        refine e_Ok.ast rfl (el_o rfl) rfl (e_nar_b (by omega)) (by omega) ?_
        generalize hw9 : e_up w 317 p1 p2 = w9
        have f10 : e_fr (mF (-1) 317 317) w w9 := e_fr.up (e_fr.refl w) hw9 (by first | exact Or.inr ⟨(by decide), (by decide)⟩ | (unfold mF; omega))
        have hT11 : e_Has mTy w9 := e_Has.upr hT hw9 rfl (by omega)
        refine e_Ok.run (t' := (32, [(0, (1, 275)), (1, (0, p1)), (2, (0, p2))], [(0, 0)], w9)) 1 rfl ?_
        refine e_Ok.rets rfl rfl ?_
        exact ⟨_, rfl, f10, hT11, trivial⟩
      · replace h8 : (w 275 3 : Int) ≠ 0 := (show ¬ ((w 275 3 : Int) = 0) from h8)
        refine e_Ok.run (t' := (23, [(0, (1, 275)), (1, (0, p1)), (2, (0, p2))], [(0, (-2))], w)) 1 rfl ?_
        refine e_Ok.rets rfl rfl ?_
        exact ⟨_, rfl, (e_fr.refl w), hT, trivial⟩
    · replace h6 : (1 : Int) = 0 := Classical.not_not.mp (show ¬ ((1 : Int) ≠ 0) from h6)
      exfalso; omega
  · show e_Ok 20 elay ecode eI (d + 1) 294 (9, [(0, (1, 275)), (1, (0, p1)), (2, (0, p2))], [(0, 0)], w) _
    refine e_Ok.if1 rfl (fun h12 => ?_) (fun h12 => ?_)
    · replace h12 : (0 : Int) ≠ 0 := h12
      exfalso; omega
    · replace h12 : (0 : Int) = 0 := Classical.not_not.mp (show ¬ ((0 : Int) ≠ 0) from h12)
      refine e_Ok.run (t' := (13, [(0, (1, 275)), (1, (0, p1)), (2, (0, p2))], [(0, (-1))], w)) 1 rfl ?_
      refine e_Ok.rets rfl rfl ?_
      exact ⟨_, rfl, (e_fr.refl w), hT, trivial⟩
end
end
-- part 54
section
noncomputable section
theorem no_54_0 : ¬ mTape 275 8 := by unfold mTape; omega
theorem c_275 {d : Nat} {w : eW} (hT : e_Has mTy w) (hH : e_Has hTy w) {a : Int} (ht : w 275 9 ≤ 3996) : e_Ok 20 elay ecode eI d 275 (0, [(0, (1, 275)), (1, (0, a))], [], w) (fun r w' => r = [] ∧ e_fr mTape w w' ∧ e_Has mTy w' ∧ e_Has hTy w' ∧ w' 275 9 = w 275 9 + 4) := by
  have h9 := e_Has.get hH (c := 275) (k := 9) (lo := 0) (hi := 4000) rfl (by decide)
  refine e_Ok.run (t' := (3, [(2, (0, 24)), (0, (1, 275)), (1, (0, a))], [], w)) 2 rfl ?_
  have hL1 : ∀ (n : Nat) (y2 : Int) (v1 : eW), e_fr mTape w v1 ∧ e_Has mTy v1 ∧ e_Has hTy v1 ∧ 8 * v1 275 9 = 8 * w 275 9 + 24 - y2 ∧ -8 ≤ y2 ∧ y2 ≤ 24 ∧ y2 % 8 = 0 → y2 + 8 < n → e_Ok 20 elay ecode eI d 275 (3, [(0, (1, 275)), (1, (0, a)), (2, (0, y2))], [], v1) (fun r w' => r = [] ∧ e_fr mTape w w' ∧ e_Has mTy w' ∧ e_Has hTy w' ∧ w' 275 9 = w 275 9 + 4) := by
    intro n
    induction n with
    | zero => intro y2 v1 hj hm; obtain ⟨j3, j4, j5, j6, j7⟩ := hj; exfalso; omega
    | succ n ih2 =>
      intro y2 v1 hj hm
      obtain ⟨j3, j4, j5, j6, j7⟩ := hj
      refine e_Ok.run (t' := (4, [(0, (1, 275)), (1, (0, a)), (2, (0, y2))], [(0, y2)], v1)) 1 rfl ?_
      refine e_Ok.if1 rfl (fun h8 => ?_) (fun h8 => ?_)
      · replace h8 : (y2 : Int) < 0 := h8
        refine e_Ok.rets rfl rfl ?_
        exact ⟨rfl, j3, j4, j5, by omega⟩
      · replace h8 : (y2 : Int) ≥ 0 := Int.not_lt.mp (show ¬ ((y2 : Int) < 0) from h8)
        refine e_Ok.run (t' := (8, [(0, (1, 275)), (1, (0, a)), (2, (0, y2))], [(1, 275)], v1)) 1 rfl ?_
        refine e_Ok.getr (z := 281) rfl (el_o rfl) rfl rfl ((j3 275 8 no_54_0).trans (e_Has.eq hT rfl)) ⟨by decide, by decide⟩ ?_
        refine e_Ok.run (t' := (12, [(0, (1, 275)), (1, (0, a)), (2, (0, y2))], [(1, 275), (1, 281)], v1)) 1 rfl ?_
        refine e_Ok.getf (z := v1 275 9) rfl (el_o rfl) rfl rfl rfl (by omega) ?_
        refine e_Ok.run (t' := (17, [(0, (1, 275)), (1, (0, a)), (2, (0, y2))], [(0, y2), (0, a), (0, v1 275 9), (1, 281)], v1)) 2 rfl ?_
        refine e_Ok.any rfl (eB_any _ _) (fun z9 z9a z9b => ?_)
        refine e_Ok.i2b rfl (fun z10 hz10 => ?_)
        obtain ⟨z11, hz11, z11r⟩ := e_nar_2 z10
        refine e_Ok.ast rfl (el_o rfl) rfl hz11 (by omega) ?_
        generalize hw12 : e_up v1 281 (v1 275 9) z11 = w12
        have f13 : e_fr mTape w w12 := e_fr.up j3 hw12 (by first | exact Or.inr rfl | (unfold mTape; omega))
        have hH14 : e_Has hTy w12 := e_Has.upr j5 hw12 rfl (by omega)
        have hT15 : e_Has mTy w12 := e_Has.ups j4 hw12 rfl
        refine e_Ok.run (t' := (22, [(0, (1, 275)), (1, (0, a)), (2, (0, y2))], [(1, 275), (1, 275)], w12)) 2 rfl ?_
        refine e_Ok.getf (z := v1 275 9) rfl (el_o rfl) rfl rfl (e_uq hw12 (Or.inl (by first | decide | exact e_neo (by decide) | exact e_ne1 (by decide) | exact e_ne2 (by decide) | omega)) rfl) (by omega) ?_
        refine e_Ok.run (t' := (26, [(0, (1, 275)), (1, (0, a)), (2, (0, y2))], [(0, 1), (0, v1 275 9), (1, 275)], w12)) 1 rfl ?_
        refine e_Ok.add (z := v1 275 9 + 1) rfl (by first | with_reducible rfl | exact Int.add_comm _ _ | omega) (by omega) ?_
        refine e_Ok.putf rfl (el_o rfl) rfl rfl ?_
        generalize hw16 : e_up w12 275 9 (v1 275 9 + 1) = w16
        have f17 : e_fr mTape w w16 := e_fr.up f13 hw16 (by first | exact Or.inl ⟨rfl, rfl⟩ | (unfold mTape; omega))
        have hH18 : e_Has hTy w16 := e_Has.upr hH14 hw16 rfl (by omega)
        have hT19 : e_Has mTy w16 := e_Has.ups hT15 hw16 rfl
        refine e_Ok.inc (z := y2 - 8) rfl rfl (by first | with_reducible rfl | omega) (by omega) ?_
        show e_Ok 20 elay ecode eI d 275 (33, [(2, (0, y2 - 8)), (0, (1, 275)), (1, (0, a))], [], w16) _
        refine e_Ok.run (t' := (3, [(2, (0, y2 - 8)), (0, (1, 275)), (1, (0, a))], [], w16)) 1 rfl ?_
        refine e_Ok.sub eAlk (e_sub_of rfl ?_) (ih2 (y2 - 8) w16 ⟨f17, hT19, hH18, by have := (show w16 275 9 = v1 275 9 + 1 from (e_ue hw16)); omega, by omega⟩ (by omega))
        exact ⟨rfl, rfl, rfl, trivial⟩
  refine e_Ok.sub eAlk (e_sub_of rfl ?_) (hL1 (32 + 1 : Int).toNat 24 w ⟨(e_fr.refl w), hT, hH, by omega, by omega⟩ (by omega))
  exact ⟨rfl, rfl, rfl, trivial⟩
theorem c_274 {d : Nat} (hd : 21 ≤ d) {w : eW} (hT : e_Has mTy w) (hH : e_Has hTy w) {a b c e f : Int} : e_Ok 20 elay ecode eI d 274 (0, [(0, (1, 275)), (1, (0, a)), (2, (0, b)), (3, (0, c)), (4, (0, e)), (5, (0, f))], [], w) (fun r w' => ∃ z : Int, r = [(0, z)] ∧ e_fr mTape w w' ∧ e_Has mTy w' ∧ e_Has hTy w' ∧ ((w 275 9 ≤ 3980 ∧ z = w 275 9 + 20 ∧ w' 275 9 = w 275 9 + 20) ∨ (3980 < w 275 9 ∧ z = -3 ∧ w' 275 9 = w 275 9))) := by
  obtain ⟨d, rfl⟩ : ∃ e, d = e + 1 := ⟨d - 1, by omega⟩
  refine e_Ok.run (t' := (1, [(0, (1, 275)), (1, (0, a)), (2, (0, b)), (3, (0, c)), (4, (0, e)), (5, (0, f))], [(1, 275)], w)) 1 rfl ?_
  have h1 := (e_Has.get hH (c := 275) (k := 9) (lo := 0) (hi := 4000) rfl (by decide))
  refine e_Ok.getf (z := w 275 9) rfl (el_o rfl) rfl rfl rfl (by first | exact e_bq h1 (by decide) (by decide) | omega) ?_
  refine e_Ok.run (t' := (6, [(0, (1, 275)), (1, (0, a)), (2, (0, b)), (3, (0, c)), (4, (0, e)), (5, (0, f))], [(0, 20), (0, w 275 9)], w)) 1 rfl ?_
  refine e_Ok.add (z := w 275 9 + 20) rfl (by first | with_reducible rfl | exact Int.add_comm _ _ | omega) (by omega) ?_
  refine e_Ok.run (t' := (10, [(0, (1, 275)), (1, (0, a)), (2, (0, b)), (3, (0, c)), (4, (0, e)), (5, (0, f))], [(0, 4000), (0, w 275 9 + 20)], w)) 1 rfl ?_
  refine e_Ok.if2 rfl (fun h2 => ?_) (fun h2 => ?_)
  · replace h2 : (w 275 9 + 20 : Int) ≤ 4000 := h2
    refine e_Ok.run (t' := (18, [(0, (1, 275)), (1, (0, a)), (2, (0, b)), (3, (0, c)), (4, (0, e)), (5, (0, f))], [(0, a), (1, 275)], w)) 2 rfl ?_
    refine e_Ok.callV rfl (by first | exact e_dq hd rfl | omega) rfl rfl rfl rfl (c_275 hT hH (by omega)) (fun r3 w4 h5 => ?_)
    obtain ⟨rfl, q6, q6T, q6H, q6n⟩ := h5
    have f7 : e_fr mTape w w4 := e_fr.trans (e_fr.refl w) (e_fr.mono q6 (fun c k q => by exact q))
    have h8 := e_Has.get q6H (c := 275) (k := 9) (lo := 0) (hi := 4000) rfl (by decide)
    show e_Ok 20 elay ecode eI (d + 1) 274 (21, [(0, (1, 275)), (1, (0, a)), (2, (0, b)), (3, (0, c)), (4, (0, e)), (5, (0, f))], [], w4) _
    refine e_Ok.run (t' := (23, [(0, (1, 275)), (1, (0, a)), (2, (0, b)), (3, (0, c)), (4, (0, e)), (5, (0, f))], [(0, b), (1, 275)], w4)) 2 rfl ?_
    refine e_Ok.callV rfl (by first | exact e_dq hd rfl | omega) rfl rfl rfl rfl (c_275 q6T q6H (by omega)) (fun r9 w10 h11 => ?_)
    obtain ⟨rfl, q12, q12T, q12H, q12n⟩ := h11
    have f13 : e_fr mTape w w10 := e_fr.trans f7 (e_fr.mono q12 (fun c k q => by exact q))
    have h14 := e_Has.get q12H (c := 275) (k := 9) (lo := 0) (hi := 4000) rfl (by decide)
    show e_Ok 20 elay ecode eI (d + 1) 274 (26, [(0, (1, 275)), (1, (0, a)), (2, (0, b)), (3, (0, c)), (4, (0, e)), (5, (0, f))], [], w10) _
    refine e_Ok.run (t' := (28, [(0, (1, 275)), (1, (0, a)), (2, (0, b)), (3, (0, c)), (4, (0, e)), (5, (0, f))], [(0, c), (1, 275)], w10)) 2 rfl ?_
    refine e_Ok.callV rfl (by first | exact e_dq hd rfl | omega) rfl rfl rfl rfl (c_275 q12T q12H (by omega)) (fun r15 w16 h17 => ?_)
    obtain ⟨rfl, q18, q18T, q18H, q18n⟩ := h17
    have f19 : e_fr mTape w w16 := e_fr.trans f13 (e_fr.mono q18 (fun c k q => by exact q))
    have h20 := e_Has.get q18H (c := 275) (k := 9) (lo := 0) (hi := 4000) rfl (by decide)
    show e_Ok 20 elay ecode eI (d + 1) 274 (31, [(0, (1, 275)), (1, (0, a)), (2, (0, b)), (3, (0, c)), (4, (0, e)), (5, (0, f))], [], w16) _
    refine e_Ok.run (t' := (34, [(0, (1, 275)), (1, (0, a)), (2, (0, b)), (3, (0, c)), (4, (0, e)), (5, (0, f))], [(0, e), (1, 275)], w16)) 2 rfl ?_
    refine e_Ok.callV rfl (by first | exact e_dq hd rfl | omega) rfl rfl rfl rfl (c_275 q18T q18H (by omega)) (fun r21 w22 h23 => ?_)
    obtain ⟨rfl, q24, q24T, q24H, q24n⟩ := h23
    have f25 : e_fr mTape w w22 := e_fr.trans f19 (e_fr.mono q24 (fun c k q => by exact q))
    have h26 := e_Has.get q24H (c := 275) (k := 9) (lo := 0) (hi := 4000) rfl (by decide)
    show e_Ok 20 elay ecode eI (d + 1) 274 (37, [(0, (1, 275)), (1, (0, a)), (2, (0, b)), (3, (0, c)), (4, (0, e)), (5, (0, f))], [], w22) _
    refine e_Ok.run (t' := (40, [(0, (1, 275)), (1, (0, a)), (2, (0, b)), (3, (0, c)), (4, (0, e)), (5, (0, f))], [(0, f), (1, 275)], w22)) 2 rfl ?_
    refine e_Ok.callV rfl (by first | exact e_dq hd rfl | omega) rfl rfl rfl rfl (c_275 q24T q24H (by omega)) (fun r27 w28 h29 => ?_)
    obtain ⟨rfl, q30, q30T, q30H, q30n⟩ := h29
    have f31 : e_fr mTape w w28 := e_fr.trans f25 (e_fr.mono q30 (fun c k q => by exact q))
    have h32 := e_Has.get q30H (c := 275) (k := 9) (lo := 0) (hi := 4000) rfl (by decide)
    show e_Ok 20 elay ecode eI (d + 1) 274 (43, [(0, (1, 275)), (1, (0, a)), (2, (0, b)), (3, (0, c)), (4, (0, e)), (5, (0, f))], [], w28) _
    refine e_Ok.run (t' := (44, [(0, (1, 275)), (1, (0, a)), (2, (0, b)), (3, (0, c)), (4, (0, e)), (5, (0, f))], [(1, 275)], w28)) 1 rfl ?_
    refine e_Ok.getf (z := w28 275 9) rfl (el_o rfl) rfl rfl rfl (by omega) ?_
    refine e_Ok.rets rfl rfl ?_
    exact ⟨_, rfl, f31, q30T, q30H, by omega⟩
  · replace h2 : (w 275 9 + 20 : Int) > 4000 := Int.not_le.mp (show ¬ ((w 275 9 + 20 : Int) ≤ 4000) from h2)
    refine e_Ok.run (t' := (15, [(0, (1, 275)), (1, (0, a)), (2, (0, b)), (3, (0, c)), (4, (0, e)), (5, (0, f))], [(0, (-3))], w)) 1 rfl ?_
    refine e_Ok.rets rfl rfl ?_
    exact ⟨_, rfl, (e_fr.refl w), hT, hH, by omega⟩
theorem c_276 {d : Nat} (hd : 21 ≤ d) {w : eW} (hT : e_Has mTy w) (hH : e_Has hTy w) {a : Int} : e_Ok 20 elay ecode eI d 276 (0, [(0, (1, 275)), (1, (0, a))], [], w) (fun r w' => ∃ z : Int, r = [(0, z)] ∧ e_fr mTape w w' ∧ e_Has mTy w' ∧ e_Has hTy w' ∧ ((0 ≤ a ∧ a ≤ w 275 9 ∧ z = w 275 9 - a ∧ w' 275 9 = w 275 9 - a) ∨ ((a < 0 ∨ w 275 9 < a) ∧ z = -1 ∧ w' 275 9 = w 275 9))) := by
  obtain ⟨d, rfl⟩ : ∃ e, d = e + 1 := ⟨d - 1, by omega⟩
  refine e_Ok.run (t' := (4, [(0, (1, 275)), (1, (0, a))], [(1, 275), (4, 0), (4, a)], w)) 4 rfl ?_
  have h1 := (e_Has.get hH (c := 275) (k := 9) (lo := 0) (hi := 4000) rfl (by decide))
  refine e_Ok.getf (z := w 275 9) rfl (el_o rfl) rfl rfl rfl (by first | exact e_bq h1 (by decide) (by decide) | omega) ?_
  refine e_Ok.run (t' := (8, [(0, (1, 275)), (1, (0, a))], [(4, w 275 9), (4, 0), (4, a)], w)) 1 rfl ?_
  refine e_Ok.callS rfl (by first | exact e_dq hd rfl | omega) rfl rfl (c_266) (fun r2 w3 h4 => ?_)
  obtain ⟨z5, rfl, rfl, q6⟩ := h4
  obtain ⟨rfl, q6⟩ | ⟨rfl, q6⟩ := q6
  · show e_Ok 20 elay ecode eI (d + 1) 276 (11, [(0, (1, 275)), (1, (0, a))], [(0, 1)], w) _
    refine e_Ok.if1 rfl (fun h7 => ?_) (fun h7 => ?_)
    · replace h7 : (1 : Int) ≠ 0 := h7
      refine e_Ok.run (t' := (18, [(0, (1, 275)), (1, (0, a))], [(1, 275), (1, 275)], w)) 2 rfl ?_
      refine e_Ok.getf (z := w 275 9) rfl (el_o rfl) rfl rfl rfl (by omega) ?_
      refine e_Ok.run (t' := (22, [(0, (1, 275)), (1, (0, a))], [(0, a), (0, w 275 9), (1, 275)], w)) 1 rfl ?_
      refine e_Ok.sub' (z := w 275 9 - a) rfl (by first | with_reducible rfl | exact Int.add_comm _ _ | omega) (by omega) ?_
      refine e_Ok.putf rfl (el_o rfl) rfl rfl ?_
      generalize hw8 : e_up w 275 9 (w 275 9 - a) = w8
      have f9 : e_fr mTape w w8 := e_fr.up (e_fr.refl w) hw8 (by first | exact Or.inl ⟨rfl, rfl⟩ | (unfold mTape; omega))
      have hH10 : e_Has hTy w8 := e_Has.upr hH hw8 rfl (by omega)
      have hT11 : e_Has mTy w8 := e_Has.ups hT hw8 rfl
      refine e_Ok.run (t' := (27, [(0, (1, 275)), (1, (0, a))], [(1, 275)], w8)) 1 rfl ?_
      refine e_Ok.getf (z := w 275 9 - a) rfl (el_o rfl) rfl rfl (e_ue hw8) (by omega) ?_
      refine e_Ok.rets rfl rfl ?_
      have e9 : w8 275 9 = w 275 9 - a := (e_ue hw8)
      exact ⟨_, rfl, f9, hT11, hH10, by omega⟩
    · replace h7 : (1 : Int) = 0 := Classical.not_not.mp (show ¬ ((1 : Int) ≠ 0) from h7)
      exfalso; omega
  · show e_Ok 20 elay ecode eI (d + 1) 276 (11, [(0, (1, 275)), (1, (0, a))], [(0, 0)], w) _
    refine e_Ok.if1 rfl (fun h12 => ?_) (fun h12 => ?_)
    · replace h12 : (0 : Int) ≠ 0 := h12
      exfalso; omega
    · replace h12 : (0 : Int) = 0 := Classical.not_not.mp (show ¬ ((0 : Int) ≠ 0) from h12)
      refine e_Ok.run (t' := (15, [(0, (1, 275)), (1, (0, a))], [(0, (-1))], w)) 1 rfl ?_
      refine e_Ok.rets rfl rfl ?_
      have e9 : w 275 9 = w 275 9 := rfl
      exact ⟨_, rfl, (e_fr.refl w), hT, hH, by omega⟩
theorem no_54_1 {k : Int} : ¬ mO 275 k := by unfold mO; omega
theorem su_54_4 {c k : Int} (q : mW c k) : mO c k := by
  unfold mW at q
  rcases q with q | q
  · exact Or.inr (Or.inl (by omega))
  · exact Or.inr (Or.inr (by omega))
theorem su_54_5 {c k : Int} (q : mR c k) : mO c k := by
  unfold mR at q
  rcases q with ⟨q, ⟨q, q⟩⟩ | q
  · exact Or.inl ⟨(by omega), Or.inr ⟨(by omega), (by omega)⟩⟩
  · exact Or.inr (Or.inl (by omega))
theorem c_323 {d : Nat} (hd : 23 ≤ d) {w : eW} (hT : e_Has mTy w) (hA : mAc w) {p v : Int} (hp : 0 ≤ p ∧ p ≤ 63) (hv : -2147483648 ≤ v ∧ v ≤ 2147483647) : e_Ok 20 elay ecode eI d 323 (0, [(0, (1, 275)), (1, (0, p)), (2, (0, v))], [], w) (fun r w' => r = [] ∧ e_fr mO w w' ∧ e_Has mTy w') := by
  obtain ⟨d, rfl⟩ : ∃ e, d = e + 1 := ⟨d - 1, by omega⟩
  refine e_Ok.run (t' := (1, [(0, (1, 275)), (1, (0, p)), (2, (0, v))], [(1, 275)], w)) 1 rfl ?_
  refine e_Ok.getr (z := 276) rfl (el_o rfl) rfl rfl (e_Has.eq hT rfl) ⟨by decide, by decide⟩ ?_
  refine e_Ok.run (t' := (8, [(0, (1, 275)), (1, (0, p)), (2, (0, v))], [(0, p), (0, 160), (1, 276)], w)) 2 rfl ?_
  refine e_Ok.add (z := p + 160) rfl (by first | with_reducible rfl | exact Int.add_comm _ _ | omega) (by omega) ?_
  have h1 := (e_Has.get hT (c := 276) (k := p + 160) (lo := (-2147483648)) (hi := 2147483647) (nR_OWN (p := p) (by omega)) (by decide))
  refine e_Ok.ald (z := w 276 (p + 160)) rfl (el_o rfl) rfl (by omega) rfl (by first | exact e_bq h1 (by decide) (by decide) | omega) ?_
  refine e_Ok.run (t' := (11, [(0, (1, 275)), (1, (0, p)), (2, (0, v))], [(0, v), (0, w 276 (p + 160))], w)) 1 rfl ?_
  refine e_Ok.if2 rfl (fun h2 => ?_) (fun h2 => ?_)
  · replace h2 : (w 276 (p + 160) : Int) = v := h2
    refine e_Ok.rets rfl rfl ?_
    exact ⟨rfl, (e_fr.refl w), hT⟩
  · replace h2 : (w 276 (p + 160) : Int) ≠ v := (show ¬ ((w 276 (p + 160) : Int) = v) from h2)
    refine e_Ok.run (t' := (15, [(0, (1, 275)), (1, (0, p)), (2, (0, v))], [(1, 275)], w)) 1 rfl ?_
    refine e_Ok.callV rfl (by first | exact e_dq hd rfl | omega) rfl rfl rfl rfl (c_321 (by first | exact e_dq hd rfl | omega) hT hA) (fun r3 w4 h5 => ?_)
    obtain ⟨rfl, q6, q6k⟩ := h5
    have f7 : e_fr mO w w4 := e_fr.trans (e_fr.refl w) (e_fr.mono q6 (fun c k q => su_54_4 q))
    show e_Ok 20 elay ecode eI (d + 1) 323 (18, [(0, (1, 275)), (1, (0, p)), (2, (0, v))], [], w4) _
    refine e_Ok.run (t' := (19, [(0, (1, 275)), (1, (0, p)), (2, (0, v))], [(1, 275)], w4)) 1 rfl ?_
    refine e_Ok.getr (z := 276) rfl (el_o rfl) rfl rfl ((f7 275 0 no_54_1).trans (e_Has.eq hT rfl)) ⟨by decide, by decide⟩ ?_
    refine e_Ok.run (t' := (26, [(0, (1, 275)), (1, (0, p)), (2, (0, v))], [(0, p), (0, 160), (1, 276)], w4)) 2 rfl ?_
    refine e_Ok.add (z := p + 160) rfl (by first | with_reducible rfl | exact Int.add_comm _ _ | omega) (by omega) ?_
    refine e_Ok.run (t' := (28, [(0, (1, 275)), (1, (0, p)), (2, (0, v))], [(0, v), (0, p + 160), (1, 276)], w4)) 1 rfl ?_
    refine e_Ok.ast rfl (el_o rfl) rfl rfl (by omega) ?_
    generalize hw8 : e_up w4 276 (p + 160) v = w8
    have f9 : e_fr mO w w8 := e_fr.up f7 hw8 (by unfold mO; omega)
    have hT10 : e_Has mTy w8 := e_Has.upr (mT_W q6 hT) hw8 (nR_OWN (p := p) (by omega)) (by omega)
    refine e_Ok.run (t' := (30, [(0, (1, 275)), (1, (0, p)), (2, (0, v))], [(1, 275)], w8)) 1 rfl ?_
    refine e_Ok.callV rfl (by first | exact e_dq hd rfl | omega) rfl rfl rfl rfl (c_322 (by first | exact e_dq hd rfl | omega) hT10 (mAc.fr' (fun k q => by unfold mO at q; omega) f9 hA) (e_kr.oth q6k hw8 (by decide))) (fun r11 w12 h13 => ?_)
    obtain ⟨rfl, q14, q14T⟩ := h13
    have f15 : e_fr mO w w12 := e_fr.trans f9 (e_fr.mono q14 (fun c k q => su_54_5 q))
    show e_Ok 20 elay ecode eI (d + 1) 323 (33, [(0, (1, 275)), (1, (0, p)), (2, (0, v))], [], w12) _
    refine e_Ok.rets rfl rfl ?_
    exact ⟨rfl, f15, q14T⟩
theorem no_54_2 {k : Int} : ¬ mK 275 k := by unfold mK; omega
theorem no_54_3 {k : Int} : ¬ mK 286 k := by unfold mK; omega
theorem su_54_6 {c k : Int} (q : mP c k) : mK c k := by
  unfold mP at q
  rcases q with q | q
  · exact Or.inr (Or.inl (by omega))
  · exact Or.inr (Or.inr (by omega))
theorem c_303 {d : Nat} (hd : 23 ≤ d) {w : eW} (hT : e_Has mTy w) : e_Ok 20 elay ecode eI d 303 (0, [(0, (1, 275))], [], w) (fun r w' => r = [] ∧ e_fr mK w w' ∧ e_Has mTy w') := by
  obtain ⟨d, rfl⟩ : ∃ e, d = e + 1 := ⟨d - 1, by omega⟩
  refine e_Ok.run (t' := (1, [(0, (1, 275))], [(1, 275)], w)) 1 rfl ?_
  refine e_Ok.callV rfl (by first | exact e_dq hd rfl | omega) rfl rfl rfl rfl (c_302 (by first | exact e_dq hd rfl | omega) hT) (fun r1 w2 h3 => ?_)
  obtain ⟨rfl, q4, q4k⟩ := h3
  have f5 : e_fr mK w w2 := e_fr.trans (e_fr.refl w) (e_fr.mono q4 (fun c k q => su_54_6 q))
  show e_Ok 20 elay ecode eI (d + 1) 303 (4, [(0, (1, 275))], [], w2) _
  refine e_Ok.run (t' := (6, [(1, (0, 0)), (0, (1, 275))], [], w2)) 2 rfl ?_
  have hL6 : ∀ (n : Nat) (y1 : Int) (v1 : eW), e_fr mK w v1 ∧ e_Has mTy v1 ∧ (∀ b, 0 ≤ b → b < w 275 10 → e_pk2 v1 (7 * b) (w 286 b)) ∧ 0 ≤ y1 ∧ y1 ≤ 4 → 5 - y1 < n → e_Ok 20 elay ecode eI (d + 1) 303 (6, [(0, (1, 275)), (1, (0, y1))], [], v1) (fun r w' => r = [] ∧ e_fr mK w w' ∧ e_Has mTy w') := by
    intro n
    induction n with
    | zero => intro y1 v1 hj hm; obtain ⟨j8, j9, j10, j11⟩ := hj; exfalso; omega
    | succ n ih7 =>
      intro y1 v1 hj hm
      obtain ⟨j8, j9, j10, j11⟩ := hj
      refine e_Ok.run (t' := (8, [(0, (1, 275)), (1, (0, y1))], [(1, 275), (0, y1)], v1)) 2 rfl ?_
      have h12 := (e_Has.get hT (c := 275) (k := 10) (lo := 0) (hi := 4) rfl (by decide))
      refine e_Ok.getf (z := w 275 10) rfl (el_o rfl) rfl rfl ((j8 275 10 no_54_2).trans rfl) (by first | exact e_bq h12 (by decide) (by decide) | omega) ?_
      refine e_Ok.if2 rfl (fun h13 => ?_) (fun h13 => ?_)
      · replace h13 : (y1 : Int) ≥ w 275 10 := h13
        refine e_Ok.rets rfl rfl ?_
        exact ⟨rfl, j8, j9⟩
      · replace h13 : (y1 : Int) < w 275 10 := Int.not_le.mp (show ¬ ((y1 : Int) ≥ w 275 10) from h13)
        refine e_Ok.run (t' := (16, [(2, (0, 0)), (0, (1, 275)), (1, (0, y1))], [], v1)) 2 rfl ?_
        have hL14 : ∀ (n : Nat) (y2 : Int) (v2 : eW), e_fr mK w v2 ∧ e_Has mTy v2 ∧ (∀ b, 0 ≤ b → b < w 275 10 → e_pk2 v2 (7 * b) (w 286 b)) ∧ 0 ≤ y2 ∧ y2 ≤ 7 → 8 - y2 < n → e_Ok 20 elay ecode eI (d + 1) 303 (16, [(0, (1, 275)), (1, (0, y1)), (2, (0, y2))], [], v2) (fun r w' => r = [] ∧ e_fr mK w w' ∧ e_Has mTy w') := by
          intro n
          induction n with
          | zero => intro y2 v2 hj hm; obtain ⟨j16, j17, j18, j19⟩ := hj; exfalso; omega
          | succ n ih15 =>
            intro y2 v2 hj hm
            obtain ⟨j16, j17, j18, j19⟩ := hj
            refine e_Ok.run (t' := (18, [(0, (1, 275)), (1, (0, y1)), (2, (0, y2))], [(1, 275), (0, y2)], v2)) 2 rfl ?_
            refine e_Ok.getr (z := 286) rfl (el_o rfl) rfl rfl ((j16 275 15 no_54_2).trans (e_Has.eq hT rfl)) ⟨by decide, by decide⟩ ?_
            refine e_Ok.run (t' := (22, [(0, (1, 275)), (1, (0, y1)), (2, (0, y2))], [(0, y1), (1, 286), (0, y2)], v2)) 1 rfl ?_
            have h20 := (e_Has.get hT (c := 286) (k := y1) (lo := 0) (hi := 6) rfl (by decide))
            refine e_Ok.ald (z := w 286 y1) rfl (el_o rfl) rfl (by omega) ((j16 286 y1 no_54_3).trans rfl) (by first | exact e_bq h20 (by decide) (by decide) | omega) ?_
            refine e_Ok.if2 rfl (fun h21 => ?_) (fun h21 => ?_)
            · replace h21 : (y2 : Int) > w 286 y1 := h21
              refine e_Ok.inc (z := y1 + 1) rfl rfl (by first | with_reducible rfl | omega) (by omega) ?_
              show e_Ok 20 elay ecode eI (d + 1) 303 (93, [(1, (0, y1 + 1)), (0, (1, 275)), (2, (0, y2))], [], v2) _
              refine e_Ok.run (t' := (6, [(1, (0, y1 + 1)), (0, (1, 275)), (2, (0, y2))], [], v2)) 1 rfl ?_
              refine e_Ok.sub eAlk (e_sub_of rfl ?_) (ih7 (y1 + 1) v2 ⟨j16, j17, (fun b g1 g2 => ⟨(j18 b g1 g2).1, (j18 b g1 g2).2⟩), by omega⟩ (by omega))
              exact ⟨rfl, rfl, trivial⟩
            · replace h21 : (y2 : Int) ≤ w 286 y1 := Int.not_lt.mp (show ¬ ((y2 : Int) > w 286 y1) from h21)
              refine e_Ok.run (t' := (27, [(0, (1, 275)), (1, (0, y1)), (2, (0, y2))], [(1, 275)], v2)) 1 rfl ?_
              refine e_Ok.getr (z := 276) rfl (el_o rfl) rfl rfl ((j16 275 0 no_54_2).trans (e_Has.eq hT rfl)) ⟨by decide, by decide⟩ ?_
              refine e_Ok.run (t' := (36, [(0, (1, 275)), (1, (0, y1)), (2, (0, y2))], [(0, y1), (0, 14), (0, 20876), (1, 276)], v2)) 3 rfl ?_
              refine e_Ok.mul (z := 14 * y1) rfl (by first | with_reducible rfl | exact Int.add_comm _ _ | omega) (by omega) ?_
              refine e_Ok.add (z := 14 * y1 + 20876) rfl (by first | with_reducible rfl | exact Int.add_comm _ _ | omega) (by omega) ?_
              refine e_Ok.run (t' := (40, [(0, (1, 275)), (1, (0, y1)), (2, (0, y2))], [(0, y2), (0, 2), (0, 14 * y1 + 20876), (1, 276)], v2)) 2 rfl ?_
              refine e_Ok.mul (z := 2 * y2) rfl (by first | with_reducible rfl | exact Int.add_comm _ _ | omega) (by omega) ?_
              refine e_Ok.add (z := 14 * y1 + 2 * y2 + 20876) rfl (by first | with_reducible rfl | exact Int.add_comm _ _ | omega) (by omega) ?_
              refine e_Ok.run (t' := (43, [(0, (1, 275)), (1, (0, y1)), (2, (0, y2))], [(1, 275), (0, 14 * y1 + 2 * y2 + 20876), (1, 276)], v2)) 1 rfl ?_
              refine e_Ok.getr (z := 321) rfl (el_o rfl) rfl rfl ((j16 275 55 no_54_2).trans (e_Has.eq hT rfl)) ⟨by decide, by decide⟩ ?_
              refine e_Ok.run (t' := (49, [(0, (1, 275)), (1, (0, y1)), (2, (0, y2))], [(0, y1), (0, 7), (1, 321), (0, 14 * y1 + 2 * y2 + 20876), (1, 276)], v2)) 2 rfl ?_
              refine e_Ok.mul (z := 7 * y1) rfl (by first | with_reducible rfl | exact Int.add_comm _ _ | omega) (by omega) ?_
              refine e_Ok.run (t' := (51, [(0, (1, 275)), (1, (0, y1)), (2, (0, y2))], [(0, y2), (0, 7 * y1), (1, 321), (0, 14 * y1 + 2 * y2 + 20876), (1, 276)], v2)) 1 rfl ?_
              refine e_Ok.add (z := 7 * y1 + y2) rfl (by first | with_reducible rfl | exact Int.add_comm _ _ | omega) (by omega) ?_
              have h22 := ((j18 y1 (by omega) (by omega)).1 (7 * y1 + y2) (by omega) (by omega))
              refine e_Ok.ald (z := v2 321 (7 * y1 + y2)) rfl (el_o rfl) rfl (by omega) rfl (by omega) ?_
              refine e_Ok.ast rfl (el_o rfl) rfl rfl (by omega) ?_
              generalize hw23 : e_up v2 276 (14 * y1 + 2 * y2 + 20876) (v2 321 (7 * y1 + y2)) = w23
              have f24 : e_fr mK w w23 := e_fr.up j16 hw23 (by unfold mK; omega)
              have hT25 : e_Has mTy w23 := e_Has.upr j17 hw23 (nR_mid (by omega)) (by omega)
              refine e_Ok.run (t' := (55, [(0, (1, 275)), (1, (0, y1)), (2, (0, y2))], [(1, 275)], w23)) 1 rfl ?_
              refine e_Ok.getr (z := 276) rfl (el_o rfl) rfl rfl (e_uq hw23 (Or.inl (by first | decide | exact e_neo (by decide) | exact e_ne1 (by decide) | exact e_ne2 (by decide) | omega)) ((j16 275 0 no_54_2).trans (e_Has.eq hT rfl))) ⟨by decide, by decide⟩ ?_
              refine e_Ok.run (t' := (64, [(0, (1, 275)), (1, (0, y1)), (2, (0, y2))], [(0, y1), (0, 14), (0, 20876), (1, 276)], w23)) 3 rfl ?_
              refine e_Ok.mul (z := 14 * y1) rfl (by first | with_reducible rfl | exact Int.add_comm _ _ | omega) (by omega) ?_
              refine e_Ok.add (z := 14 * y1 + 20876) rfl (by first | with_reducible rfl | exact Int.add_comm _ _ | omega) (by omega) ?_
              refine e_Ok.run (t' := (68, [(0, (1, 275)), (1, (0, y1)), (2, (0, y2))], [(0, y2), (0, 2), (0, 14 * y1 + 20876), (1, 276)], w23)) 2 rfl ?_
              refine e_Ok.mul (z := 2 * y2) rfl (by first | with_reducible rfl | exact Int.add_comm _ _ | omega) (by omega) ?_
              refine e_Ok.add (z := 14 * y1 + 2 * y2 + 20876) rfl (by first | with_reducible rfl | exact Int.add_comm _ _ | omega) (by omega) ?_
              refine e_Ok.run (t' := (71, [(0, (1, 275)), (1, (0, y1)), (2, (0, y2))], [(0, 1), (0, 14 * y1 + 2 * y2 + 20876), (1, 276)], w23)) 1 rfl ?_
              refine e_Ok.add (z := 14 * y1 + 2 * y2 + 20877) rfl (by first | with_reducible rfl | exact Int.add_comm _ _ | omega) (by omega) ?_
              refine e_Ok.run (t' := (73, [(0, (1, 275)), (1, (0, y1)), (2, (0, y2))], [(1, 275), (0, 14 * y1 + 2 * y2 + 20877), (1, 276)], w23)) 1 rfl ?_
              refine e_Ok.getr (z := 322) rfl (el_o rfl) rfl rfl (e_uq hw23 (Or.inl (by first | decide | exact e_neo (by decide) | exact e_ne1 (by decide) | exact e_ne2 (by decide) | omega)) ((j16 275 56 no_54_2).trans (e_Has.eq hT rfl))) ⟨by decide, by decide⟩ ?_
              refine e_Ok.run (t' := (79, [(0, (1, 275)), (1, (0, y1)), (2, (0, y2))], [(0, y1), (0, 7), (1, 322), (0, 14 * y1 + 2 * y2 + 20877), (1, 276)], w23)) 2 rfl ?_
              refine e_Ok.mul (z := 7 * y1) rfl (by first | with_reducible rfl | exact Int.add_comm _ _ | omega) (by omega) ?_
              refine e_Ok.run (t' := (81, [(0, (1, 275)), (1, (0, y1)), (2, (0, y2))], [(0, y2), (0, 7 * y1), (1, 322), (0, 14 * y1 + 2 * y2 + 20877), (1, 276)], w23)) 1 rfl ?_
              refine e_Ok.add (z := 7 * y1 + y2) rfl (by first | with_reducible rfl | exact Int.add_comm _ _ | omega) (by omega) ?_
              have h26 := ((j18 y1 (by omega) (by omega)).2 (7 * y1 + y2) (by omega) (by omega))
              refine e_Ok.ald (z := v2 322 (7 * y1 + y2)) rfl (el_o rfl) rfl (by omega) (e_uq hw23 (Or.inl (by first | decide | exact e_neo (by decide) | exact e_ne1 (by decide) | exact e_ne2 (by decide) | omega)) rfl) (by omega) ?_
              refine e_Ok.ast rfl (el_o rfl) rfl rfl (by omega) ?_
              generalize hw27 : e_up w23 276 (14 * y1 + 2 * y2 + 20877) (v2 322 (7 * y1 + y2)) = w27
              have f28 : e_fr mK w w27 := e_fr.up f24 hw27 (by unfold mK; omega)
              have hT29 : e_Has mTy w27 := e_Has.upr hT25 hw27 (nR_mid (by omega)) (by omega)
              refine e_Ok.inc (z := y2 + 1) rfl rfl (by first | with_reducible rfl | omega) (by omega) ?_
              show e_Ok 20 elay ecode eI (d + 1) 303 (87, [(2, (0, y2 + 1)), (0, (1, 275)), (1, (0, y1))], [], w27) _
              refine e_Ok.run (t' := (16, [(2, (0, y2 + 1)), (0, (1, 275)), (1, (0, y1))], [], w27)) 1 rfl ?_
              refine e_Ok.sub eAlk (e_sub_of rfl ?_) (ih15 (y2 + 1) w27 ⟨f28, hT29, (fun b g1 g2 => ⟨(e_kn.oth (e_kn.oth (j18 b g1 g2).1 hw23 (by decide)) hw27 (by decide)), (e_kn.oth (e_kn.oth (j18 b g1 g2).2 hw23 (by decide)) hw27 (by decide))⟩), by omega⟩ (by omega))
              exact ⟨rfl, rfl, rfl, trivial⟩
        refine e_Ok.sub eAlk (e_sub_of rfl ?_) (hL14 (8 + 1 : Int).toNat 0 v1 ⟨j8, j9, (fun b g1 g2 => ⟨(j10 b g1 g2).1, (j10 b g1 g2).2⟩), by omega⟩ (by omega))
        exact ⟨rfl, rfl, rfl, trivial⟩
  refine e_Ok.sub eAlk (e_sub_of rfl ?_) (hL6 (5 + 1 : Int).toNat 0 w2 ⟨f5, (mT_P q4 hT), (fun b g1 g2 => ⟨(q4k b g1 g2).1, (q4k b g1 g2).2⟩), by omega⟩ (by omega))
  exact ⟨rfl, rfl, trivial⟩
end
end
-- part 55
section
noncomputable section
/-- arms' states and ways: unchanged, or stopped in a move -/
def sRel (w w' : eW) : Prop := ∀ b, 0 ≤ b → b ≤ 3 → (w' 276 (36 * b + 16) = w 276 (36 * b + 16) ∧ w' 276 (36 * b + 22) = w 276 (36 * b + 22)) ∨ (w 276 (36 * b + 16) = 1 ∧ w' 276 (36 * b + 16) = 2 ∧ w' 276 (36 * b + 22) = 0)
def mSt (c k : Int) : Prop := c = 276 ∧ (16 ≤ k ∧ k < 160 ∧ ((k - 16) % 36 = 4 ∨ (k - 16) % 36 = 5))
def mBM (c k : Int) : Prop := c = 276 ∧ (k = 5 ∨ 25060 ≤ k ∨ (16 ≤ k ∧ k < 160 ∧ ((k - 16) % 36 = 6 ∨ (k - 16) % 36 = 9)) ∨ (416 ≤ k ∧ k < 20576 ∧ ((k - 416) % 1260 = 7)))
def mBr (c k : Int) : Prop := c = 276 ∧ (k = 5 ∨ 25060 ≤ k ∨ (16 ≤ k ∧ k < 160 ∧ ((k - 16) % 36 = 6 ∨ (k - 16) % 36 = 9)) ∨ (416 ≤ k ∧ k < 20576 ∧ ((k - 416) % 1260 = 7)) ∨ (16 ≤ k ∧ k < 160 ∧ ((k - 16) % 36 = 0)))
def mTr (c k : Int) : Prop := c = 276 ∧ ((1 ≤ k ∧ k ≤ 5) ∨ 25060 ≤ k ∨ (16 ≤ k ∧ k < 160 ∧ ((k - 16) % 36 = 6 ∨ (k - 16) % 36 = 9 ∨ (k - 16) % 36 = 0 ∨ (22 ≤ (k - 16) % 36 ∧ (k - 16) % 36 ≤ 27))) ∨ (416 ≤ k ∧ k < 20576 ∧ ((k - 416) % 1260 = 7)))
def mIn (c k : Int) : Prop := c = 276 ∧ 20836 ≤ k ∧ k ≤ 20867
def mPa (p c k : Int) : Prop := c = 276 ∧ 4 * p + 20576 ≤ k ∧ k ≤ 4 * p + 20579
theorem no_55_0 {k : Int} : ¬ mSt 275 k := by unfold mSt; omega
theorem c_390 {d : Nat} (hd : 21 ≤ d) {w : eW} (hT : e_Has mTy w) {a : Int} : e_Ok 20 elay ecode eI d 390 (0, [(0, (1, 275)), (1, (0, a))], [], w) (fun r w' => r = [] ∧ e_fr mSt w w' ∧ e_Has mTy w' ∧ (∀ b, 0 ≤ b → b < w 275 10 → w' 276 (36 * b + 20) = 0) ∧ ∀ b, 0 ≤ b → b ≤ 3 → w' 276 (36 * b + 20) = 0 ∨ w' 276 (36 * b + 20) = w 276 (36 * b + 20)) := by
  obtain ⟨d, rfl⟩ : ∃ e, d = e + 1 := ⟨d - 1, by omega⟩
  refine e_Ok.run (t' := (2, [(2, (0, 0)), (0, (1, 275)), (1, (0, a))], [], w)) 2 rfl ?_
  have hL1 : ∀ (nn : Nat) (y2 : Int) (v1 : eW), e_fr mSt w v1 ∧ e_Has mTy v1 ∧ (0 ≤ y2 ∧ y2 ≤ 4) ∧ (∀ b, 0 ≤ b → b < y2 → v1 276 (36 * b + 20) = 0) ∧ (∀ b, 0 ≤ b → b ≤ 3 → v1 276 (36 * b + 20) = 0 ∨ v1 276 (36 * b + 20) = w 276 (36 * b + 20)) → 5 - y2 < nn → e_Ok 20 elay ecode eI (d + 1) 390 (2, [(0, (1, 275)), (1, (0, a)), (2, (0, y2))], [], v1) (fun r w' => r = [] ∧ e_fr mSt w w' ∧ e_Has mTy w' ∧ (∀ b, 0 ≤ b → b < w 275 10 → w' 276 (36 * b + 20) = 0) ∧ ∀ b, 0 ≤ b → b ≤ 3 → w' 276 (36 * b + 20) = 0 ∨ w' 276 (36 * b + 20) = w 276 (36 * b + 20)) := by
    intro nn
    induction nn with
    | zero => intro y2 v1 hj hm; obtain ⟨j3, j4, j5, j6, j7⟩ := hj; exfalso; omega
    | succ nn ih2 =>
      intro y2 v1 hj hm
      obtain ⟨j3, j4, j5, j6, j7⟩ := hj
      refine e_Ok.run (t' := (4, [(0, (1, 275)), (1, (0, a)), (2, (0, y2))], [(1, 275), (0, y2)], v1)) 2 rfl ?_
      have h8 := (e_Has.get hT (c := 275) (k := 10) (lo := 0) (hi := 4) rfl (by decide))
      refine e_Ok.getf (z := w 275 10) rfl (el_o rfl) rfl rfl ((j3 275 10 no_55_0).trans rfl) (by first | exact e_bq h8 (by decide) (by decide) | omega) ?_
      refine e_Ok.if2 rfl (fun h9 => ?_) (fun h9 => ?_)
      · replace h9 : (y2 : Int) ≥ w 275 10 := h9
        refine e_Ok.rets rfl rfl ?_
        exact ⟨rfl, j3, j4, fun b g1 g2 => j6 b g1 (by omega), j7⟩
      · replace h9 : (y2 : Int) < w 275 10 := Int.not_le.mp (show ¬ ((y2 : Int) ≥ w 275 10) from h9)
        refine e_Ok.run (t' := (11, [(0, (1, 275)), (1, (0, a)), (2, (0, y2))], [(1, 275)], v1)) 1 rfl ?_
        refine e_Ok.getr (z := 276) rfl (el_o rfl) rfl rfl ((j3 275 0 no_55_0).trans (e_Has.eq hT rfl)) ⟨by decide, by decide⟩ ?_
        refine e_Ok.run (t' := (15, [(0, (1, 275)), (1, (0, a)), (2, (0, y2))], [(0, y2), (1, 276)], v1)) 1 rfl ?_
        refine e_Ok.callS rfl (by first | exact e_dq hd rfl | omega) rfl rfl (c_268 (by omega)) (fun r10 w11 h12 => ?_)
        obtain ⟨rfl, rfl⟩ := h12
        show e_Ok 20 elay ecode eI (d + 1) 390 (18, [(0, (1, 275)), (1, (0, a)), (2, (0, y2))], [(0, 36 * y2 + 16), (1, 276)], v1) _
        refine e_Ok.run (t' := (19, [(0, (1, 275)), (1, (0, a)), (2, (0, y2))], [(0, 4), (0, 36 * y2 + 16), (1, 276)], v1)) 1 rfl ?_
        refine e_Ok.add (z := 36 * y2 + 20) rfl (by first | with_reducible rfl | exact Int.add_comm _ _ | omega) (by omega) ?_
        refine e_Ok.run (t' := (21, [(0, (1, 275)), (1, (0, a)), (2, (0, y2))], [(0, 0), (0, 36 * y2 + 20), (1, 276)], v1)) 1 rfl ?_
        refine e_Ok.ast rfl (el_o rfl) rfl rfl (by omega) ?_
        generalize hw13 : e_up v1 276 (36 * y2 + 20) 0 = w13
        have f14 : e_fr mSt w w13 := e_fr.up j3 hw13 (by unfold mSt; omega)
        have hT15 : e_Has mTy w13 := e_Has.upr j4 hw13 (nR_FRESH (a := y2) (by omega)) (by omega)
        refine e_Ok.run (t' := (23, [(0, (1, 275)), (1, (0, a)), (2, (0, y2))], [(1, 275)], w13)) 1 rfl ?_
        refine e_Ok.getr (z := 276) rfl (el_o rfl) rfl rfl (e_uq hw13 (Or.inl (by first | decide | exact e_neo (by decide) | exact e_ne1 (by decide) | exact e_ne2 (by decide) | omega)) ((j3 275 0 no_55_0).trans (e_Has.eq hT rfl))) ⟨by decide, by decide⟩ ?_
        refine e_Ok.run (t' := (27, [(0, (1, 275)), (1, (0, a)), (2, (0, y2))], [(0, y2), (1, 276)], w13)) 1 rfl ?_
        refine e_Ok.callS rfl (by first | exact e_dq hd rfl | omega) rfl rfl (c_268 (by omega)) (fun r16 w17 h18 => ?_)
        obtain ⟨rfl, rfl⟩ := h18
        show e_Ok 20 elay ecode eI (d + 1) 390 (30, [(0, (1, 275)), (1, (0, a)), (2, (0, y2))], [(0, 36 * y2 + 16), (1, 276)], w13) _
        refine e_Ok.run (t' := (31, [(0, (1, 275)), (1, (0, a)), (2, (0, y2))], [(0, 5), (0, 36 * y2 + 16), (1, 276)], w13)) 1 rfl ?_
        refine e_Ok.add (z := 36 * y2 + 21) rfl (by first | with_reducible rfl | exact Int.add_comm _ _ | omega) (by omega) ?_
        refine e_Ok.run (t' := (34, [(0, (1, 275)), (1, (0, a)), (2, (0, y2))], [(0, a), (0, y2), (0, 36 * y2 + 21), (1, 276)], w13)) 2 rfl ?_
        refine e_Ok.if2 rfl (fun h19 => ?_) (fun h19 => ?_)
        · replace h19 : (y2 : Int) ≠ a := h19
          refine e_Ok.run (t' := (52, [(0, (1, 275)), (1, (0, a)), (2, (0, y2))], [(0, 0), (0, 36 * y2 + 21), (1, 276)], w13)) 1 rfl ?_
          refine e_Ok.ast rfl (el_o rfl) rfl rfl (by omega) ?_
          generalize hw20 : e_up w13 276 (36 * y2 + 21) 0 = w20
          have f21 : e_fr mSt w w20 := e_fr.up f14 hw20 (by unfold mSt; omega)
          have hT22 : e_Has mTy w20 := e_Has.upr hT15 hw20 (nR_BUT_OWN (a := y2) (by omega)) (by omega)
          refine e_Ok.inc (z := y2 + 1) rfl rfl (by first | with_reducible rfl | omega) (by omega) ?_
          show e_Ok 20 elay ecode eI (d + 1) 390 (56, [(2, (0, y2 + 1)), (0, (1, 275)), (1, (0, a))], [], w20) _
          refine e_Ok.run (t' := (2, [(2, (0, y2 + 1)), (0, (1, 275)), (1, (0, a))], [], w20)) 1 rfl ?_
          refine e_Ok.sub eAlk (e_sub_of rfl ?_) (ih2 (y2 + 1) w20 ⟨f21, hT22, by omega, (fun b g1 g2 => Decidable.byCases (p := b = y2) (fun e => by rw [e]; exact (e_uq hw20 (Or.inr (by first | decide | exact e_neo (by decide) | exact e_ne1 (by decide) | exact e_ne2 (by decide) | omega)) (e_ue hw13))) (fun e => Eq.trans (e_uq hw20 (Or.inr (by first | decide | exact e_neo (by decide) | exact e_ne1 (by decide) | exact e_ne2 (by decide) | omega)) (e_uq hw13 (Or.inr (by first | decide | exact e_neo (by decide) | exact e_ne1 (by decide) | exact e_ne2 (by decide) | omega)) rfl)) (j6 b g1 (by omega)))), (fun b g1 g2 => Decidable.byCases (p := b = y2) (fun e => Or.inl (by rw [e]; exact (e_uq hw20 (Or.inr (by first | decide | exact e_neo (by decide) | exact e_ne1 (by decide) | exact e_ne2 (by decide) | omega)) (e_ue hw13)))) (fun e => by rw [show w20 276 (36 * b + 20) = v1 276 (36 * b + 20) from (e_uq hw20 (Or.inr (by first | decide | exact e_neo (by decide) | exact e_ne1 (by decide) | exact e_ne2 (by decide) | omega)) (e_uq hw13 (Or.inr (by first | decide | exact e_neo (by decide) | exact e_ne1 (by decide) | exact e_ne2 (by decide) | omega)) rfl))]; exact j7 b g1 g2))⟩ (by omega))
          exact ⟨rfl, rfl, rfl, trivial⟩
        · replace h19 : (y2 : Int) = a := Classical.not_not.mp (show ¬ ((y2 : Int) ≠ a) from h19)
          refine e_Ok.run (t' := (38, [(0, (1, 275)), (1, (0, a)), (2, (0, y2))], [(1, 275), (0, 36 * y2 + 21), (1, 276)], w13)) 1 rfl ?_
          refine e_Ok.getr (z := 276) rfl (el_o rfl) rfl rfl (e_uq hw13 (Or.inl (by first | decide | exact e_neo (by decide) | exact e_ne1 (by decide) | exact e_ne2 (by decide) | omega)) ((j3 275 0 no_55_0).trans (e_Has.eq hT rfl))) ⟨by decide, by decide⟩ ?_
          refine e_Ok.run (t' := (42, [(0, (1, 275)), (1, (0, a)), (2, (0, y2))], [(0, y2), (1, 276), (0, 36 * y2 + 21), (1, 276)], w13)) 1 rfl ?_
          refine e_Ok.callS rfl (by first | exact e_dq hd rfl | omega) rfl rfl (c_268 (by omega)) (fun r23 w24 h25 => ?_)
          obtain ⟨rfl, rfl⟩ := h25
          show e_Ok 20 elay ecode eI (d + 1) 390 (45, [(0, (1, 275)), (1, (0, a)), (2, (0, y2))], [(0, 36 * y2 + 16), (1, 276), (0, 36 * y2 + 21), (1, 276)], w13) _
          refine e_Ok.run (t' := (46, [(0, (1, 275)), (1, (0, a)), (2, (0, y2))], [(0, 5), (0, 36 * y2 + 16), (1, 276), (0, 36 * y2 + 21), (1, 276)], w13)) 1 rfl ?_
          refine e_Ok.add (z := 36 * y2 + 21) rfl (by first | with_reducible rfl | exact Int.add_comm _ _ | omega) (by omega) ?_
          have h26 := (e_Has.get j4 (c := 276) (k := 36 * y2 + 21) (lo := 0) (hi := 1) (nR_BUT_OWN (a := y2) (by omega)) (by decide))
          refine e_Ok.ald (z := v1 276 (36 * y2 + 21)) rfl (el_o rfl) rfl (by omega) (e_uq hw13 (Or.inr (by first | decide | exact e_neo (by decide) | exact e_ne1 (by decide) | exact e_ne2 (by decide) | omega)) rfl) (by first | exact e_bq h26 (by decide) (by decide) | omega) ?_
          refine e_Ok.run (t' := (52, [(0, (1, 275)), (1, (0, a)), (2, (0, y2))], [(0, v1 276 (36 * y2 + 21)), (0, 36 * y2 + 21), (1, 276)], w13)) 1 rfl ?_
          refine e_Ok.ast rfl (el_o rfl) rfl rfl (by omega) ?_
          generalize hw27 : e_up w13 276 (36 * y2 + 21) (v1 276 (36 * y2 + 21)) = w27
          have f28 : e_fr mSt w w27 := e_fr.up f14 hw27 (by unfold mSt; omega)
          have hT29 : e_Has mTy w27 := e_Has.upr hT15 hw27 (nR_BUT_OWN (a := y2) (by omega)) (by omega)
          refine e_Ok.inc (z := y2 + 1) rfl rfl (by first | with_reducible rfl | omega) (by omega) ?_
          show e_Ok 20 elay ecode eI (d + 1) 390 (56, [(2, (0, y2 + 1)), (0, (1, 275)), (1, (0, a))], [], w27) _
          refine e_Ok.run (t' := (2, [(2, (0, y2 + 1)), (0, (1, 275)), (1, (0, a))], [], w27)) 1 rfl ?_
          refine e_Ok.sub eAlk (e_sub_of rfl ?_) (ih2 (y2 + 1) w27 ⟨f28, hT29, by omega, (fun b g1 g2 => Decidable.byCases (p := b = y2) (fun e => by rw [e]; exact (e_uq hw27 (Or.inr (by first | decide | exact e_neo (by decide) | exact e_ne1 (by decide) | exact e_ne2 (by decide) | omega)) (e_ue hw13))) (fun e => Eq.trans (e_uq hw27 (Or.inr (by first | decide | exact e_neo (by decide) | exact e_ne1 (by decide) | exact e_ne2 (by decide) | omega)) (e_uq hw13 (Or.inr (by first | decide | exact e_neo (by decide) | exact e_ne1 (by decide) | exact e_ne2 (by decide) | omega)) rfl)) (j6 b g1 (by omega)))), (fun b g1 g2 => Decidable.byCases (p := b = y2) (fun e => Or.inl (by rw [e]; exact (e_uq hw27 (Or.inr (by first | decide | exact e_neo (by decide) | exact e_ne1 (by decide) | exact e_ne2 (by decide) | omega)) (e_ue hw13)))) (fun e => by rw [show w27 276 (36 * b + 20) = v1 276 (36 * b + 20) from (e_uq hw27 (Or.inr (by first | decide | exact e_neo (by decide) | exact e_ne1 (by decide) | exact e_ne2 (by decide) | omega)) (e_uq hw13 (Or.inr (by first | decide | exact e_neo (by decide) | exact e_ne1 (by decide) | exact e_ne2 (by decide) | omega)) rfl))]; exact j7 b g1 g2))⟩ (by omega))
          exact ⟨rfl, rfl, rfl, trivial⟩
  refine e_Ok.sub eAlk (e_sub_of rfl ?_) (hL1 (5 + 1 : Int).toNat 0 w ⟨(e_fr.refl w), hT, by omega, (fun b g1 g2 => by omega), (fun b g1 g2 => Or.inr rfl)⟩ (by omega))
  exact ⟨rfl, rfl, rfl, trivial⟩
theorem no_55_1 {k : Int} : ¬ mE 275 k := by unfold mE; omega
theorem no_55_2 {a : Int} (ha : 0 ≤ a ∧ a ≤ 3) : ¬ mE 276 (36 * a + 25) := by unfold mE; omega
theorem no_55_3 {b : Int} (hb : 0 ≤ b ∧ b ≤ 3) : ¬ mE 276 (36 * b + 22) := by unfold mE; omega
theorem su_55_8 {c k : Int} (q : mE c k) : mBM c k := by
  unfold mE at q
  rcases q with ⟨q, (q | q)⟩
  · exact ⟨(by omega), Or.inl (by omega)⟩
  · exact ⟨(by omega), Or.inr (Or.inl (by omega))⟩
theorem c_383 {d : Nat} (hd : 21 ≤ d) {w : eW} (hT : e_Has mTy w) {a : Int} (ha : 0 ≤ a ∧ a ≤ 3) (hE : w 276 5 ≤ 2147483646) : e_Ok 20 elay ecode eI d 383 (0, [(0, (1, 275)), (1, (0, a))], [], w) (fun r w' => r = [] ∧ e_fr mBM w w' ∧ e_Has mTy w' ∧ w 276 5 ≤ w' 276 5 ∧ w' 276 5 ≤ w 276 5 + 1 ∧ (w 276 (36 * a + 16) = 1 → w' 276 (36 * a + 22) = 0) ∧ (∀ b, 0 ≤ b → b ≤ 3 → (w 276 (36 * a + 16) ≠ 1 ∨ b ≠ a) → w' 276 (36 * b + 22) = w 276 (36 * b + 22))) := by
  obtain ⟨d, rfl⟩ : ∃ e, d = e + 1 := ⟨d - 1, by omega⟩
  refine e_Ok.run (t' := (1, [(0, (1, 275)), (1, (0, a))], [(0, a)], w)) 1 rfl ?_
  refine e_Ok.callS rfl (by first | exact e_dq hd rfl | omega) rfl rfl (c_268 (by omega)) (fun r1 w2 h3 => ?_)
  obtain ⟨rfl, rfl⟩ := h3
  show e_Ok 20 elay ecode eI (d + 1) 383 (4, [(0, (1, 275)), (1, (0, a))], [(0, 36 * a + 16)], w) _
  refine e_Ok.run (t' := (6, [(2, (0, 36 * a + 16)), (0, (1, 275)), (1, (0, a))], [(1, 275)], w)) 2 rfl ?_
  refine e_Ok.getr (z := 276) rfl (el_o rfl) rfl rfl (e_Has.eq hT rfl) ⟨by decide, by decide⟩ ?_
  refine e_Ok.run (t' := (11, [(2, (0, 36 * a + 16)), (0, (1, 275)), (1, (0, a))], [(0, 0), (0, 36 * a + 16), (1, 276)], w)) 2 rfl ?_
  refine e_Ok.add (z := 36 * a + 16) rfl (by first | with_reducible rfl | exact Int.add_comm _ _ | omega) (by omega) ?_
  have h4 := (e_Has.get hT (c := 276) (k := 36 * a + 16) (lo := 0) (hi := 2) (nR_STATE (a := a) (by omega)) (by decide))
  refine e_Ok.ald (z := w 276 (36 * a + 16)) rfl (el_o rfl) rfl (by omega) rfl (by first | exact e_bq h4 (by decide) (by decide) | omega) ?_
  refine e_Ok.run (t' := (14, [(2, (0, 36 * a + 16)), (0, (1, 275)), (1, (0, a))], [(0, 1), (0, w 276 (36 * a + 16))], w)) 1 rfl ?_
  refine e_Ok.if2 rfl (fun h5 => ?_) (fun h5 => ?_)
  · replace h5 : (w 276 (36 * a + 16) : Int) ≠ 1 := h5
    refine e_Ok.rets rfl rfl ?_
    have e6 : w 276 5 = w 276 5 := rfl
    exact ⟨rfl, (e_fr.refl w), hT, by omega, by omega, (fun e => absurd e (by omega)), (fun b g1 g2 g3 => rfl)⟩
  · replace h5 : (w 276 (36 * a + 16) : Int) = 1 := Classical.not_not.mp (show ¬ ((w 276 (36 * a + 16) : Int) ≠ 1) from h5)
    refine e_Ok.run (t' := (22, [(2, (0, 36 * a + 16)), (0, (1, 275)), (1, (0, a))], [(0, 0), (0, a), (0, 9), (1, 275)], w)) 4 rfl ?_
    refine e_Ok.callV rfl (by first | exact e_dq hd rfl | omega) rfl rfl rfl rfl (c_319 hT (by omega) (by omega) (by omega) (by omega)) (fun r7 w8 h9 => ?_)
    obtain ⟨rfl, q10, q10T, q10n⟩ := h9
    have f11 : e_fr mBM w w8 := e_fr.trans (e_fr.refl w) (e_fr.mono q10 (fun c k q => su_55_8 q))
    show e_Ok 20 elay ecode eI (d + 1) 383 (25, [(2, (0, 36 * a + 16)), (0, (1, 275)), (1, (0, a))], [], w8) _
    refine e_Ok.run (t' := (26, [(2, (0, 36 * a + 16)), (0, (1, 275)), (1, (0, a))], [(1, 275)], w8)) 1 rfl ?_
    refine e_Ok.getr (z := 276) rfl (el_o rfl) rfl rfl ((q10 275 0 no_55_1).trans (e_Has.eq hT rfl)) ⟨by decide, by decide⟩ ?_
    refine e_Ok.run (t' := (32, [(2, (0, 36 * a + 16)), (0, (1, 275)), (1, (0, a))], [(0, 9), (0, 36 * a + 16), (1, 276)], w8)) 2 rfl ?_
    refine e_Ok.add (z := 36 * a + 25) rfl (by first | with_reducible rfl | exact Int.add_comm _ _ | omega) (by omega) ?_
    have h12 := (e_Has.get hT (c := 276) (k := 36 * a + 25) (lo := (-1)) (hi := 15) (nR_MOVER (a := a) (by omega)) (by decide))
    refine e_Ok.ald (z := w 276 (36 * a + 25)) rfl (el_o rfl) rfl (by omega) ((q10 276 (36 * a + 25) (by first | exact no_55_2 (by omega) | (unfold mE; omega))).trans rfl) (by first | exact e_bq h12 (by decide) (by decide) | omega) ?_
    refine e_Ok.if1 rfl (fun h13 => ?_) (fun h13 => ?_)
    · replace h13 : (w 276 (36 * a + 25) : Int) < 0 := h13
      refine e_Ok.run (t' := (59, [(2, (0, 36 * a + 16)), (0, (1, 275)), (1, (0, a))], [(1, 275)], w8)) 1 rfl ?_
      refine e_Ok.getr (z := 276) rfl (el_o rfl) rfl rfl ((q10 275 0 no_55_1).trans (e_Has.eq hT rfl)) ⟨by decide, by decide⟩ ?_
      refine e_Ok.run (t' := (65, [(2, (0, 36 * a + 16)), (0, (1, 275)), (1, (0, a))], [(0, 9), (0, 36 * a + 16), (1, 276)], w8)) 2 rfl ?_
      refine e_Ok.add (z := 36 * a + 25) rfl (by first | with_reducible rfl | exact Int.add_comm _ _ | omega) (by omega) ?_
      refine e_Ok.run (t' := (67, [(2, (0, 36 * a + 16)), (0, (1, 275)), (1, (0, a))], [(0, (-1)), (0, 36 * a + 25), (1, 276)], w8)) 1 rfl ?_
      refine e_Ok.ast rfl (el_o rfl) rfl rfl (by omega) ?_
      generalize hw14 : e_up w8 276 (36 * a + 25) (-1) = w14
      have f15 : e_fr mBM w w14 := e_fr.up f11 hw14 (by first | exact ⟨rfl, Or.inr (Or.inr (Or.inl ⟨(by omega), ⟨(by omega), Or.inr (by omega)⟩⟩))⟩ | (unfold mBM; omega))
      have hT16 : e_Has mTy w14 := e_Has.upr q10T hw14 (nR_MOVER (a := a) (by omega)) (by omega)
      refine e_Ok.run (t' := (69, [(2, (0, 36 * a + 16)), (0, (1, 275)), (1, (0, a))], [(1, 275)], w14)) 1 rfl ?_
      refine e_Ok.getr (z := 276) rfl (el_o rfl) rfl rfl (e_uq hw14 (Or.inl (by first | decide | exact e_neo (by decide) | exact e_ne1 (by decide) | exact e_ne2 (by decide) | omega)) ((q10 275 0 no_55_1).trans (e_Has.eq hT rfl))) ⟨by decide, by decide⟩ ?_
      refine e_Ok.run (t' := (75, [(2, (0, 36 * a + 16)), (0, (1, 275)), (1, (0, a))], [(0, 6), (0, 36 * a + 16), (1, 276)], w14)) 2 rfl ?_
      refine e_Ok.add (z := 36 * a + 22) rfl (by first | with_reducible rfl | exact Int.add_comm _ _ | omega) (by omega) ?_
      refine e_Ok.run (t' := (77, [(2, (0, 36 * a + 16)), (0, (1, 275)), (1, (0, a))], [(0, 0), (0, 36 * a + 22), (1, 276)], w14)) 1 rfl ?_
      refine e_Ok.ast rfl (el_o rfl) rfl rfl (by omega) ?_
      generalize hw17 : e_up w14 276 (36 * a + 22) 0 = w17
      have f18 : e_fr mBM w w17 := e_fr.up f15 hw17 (by first | exact ⟨rfl, Or.inr (Or.inr (Or.inl ⟨(by omega), ⟨(by omega), Or.inl (by omega)⟩⟩))⟩ | (unfold mBM; omega))
      have hT19 : e_Has mTy w17 := e_Has.upr hT16 hw17 (nR_TRAVELS (a := a) (by omega)) (by omega)
      refine e_Ok.rets rfl rfl ?_
      have e20 : w17 276 5 = w8 276 5 := (e_uq hw17 (Or.inr (by first | decide | exact e_neo (by decide) | exact e_ne1 (by decide) | exact e_ne2 (by decide) | omega)) (e_uq hw14 (Or.inr (by first | decide | exact e_neo (by decide) | exact e_ne1 (by decide) | exact e_ne2 (by decide) | omega)) rfl))
      exact ⟨rfl, f18, hT19, by omega, by omega, (fun e => (e_ue hw17)), (fun b g1 g2 g3 => (e_uq hw17 (Or.inr (by first | decide | exact e_neo (by decide) | exact e_ne1 (by decide) | exact e_ne2 (by decide) | omega)) (e_uq hw14 (Or.inr (by first | decide | exact e_neo (by decide) | exact e_ne1 (by decide) | exact e_ne2 (by decide) | omega)) ((q10 276 (36 * b + 22) (by first | exact no_55_3 (by omega) | (unfold mE; omega))).trans rfl))))⟩
    · replace h13 : (w 276 (36 * a + 25) : Int) ≥ 0 := Int.not_lt.mp (show ¬ ((w 276 (36 * a + 25) : Int) < 0) from h13)
      refine e_Ok.run (t' := (38, [(2, (0, 36 * a + 16)), (0, (1, 275)), (1, (0, a))], [(1, 275)], w8)) 1 rfl ?_
      refine e_Ok.getr (z := 276) rfl (el_o rfl) rfl rfl ((q10 275 0 no_55_1).trans (e_Has.eq hT rfl)) ⟨by decide, by decide⟩ ?_
      refine e_Ok.run (t' := (42, [(2, (0, 36 * a + 16)), (0, (1, 275)), (1, (0, a))], [(1, 275), (1, 276)], w8)) 1 rfl ?_
      refine e_Ok.getr (z := 276) rfl (el_o rfl) rfl rfl ((q10 275 0 no_55_1).trans (e_Has.eq hT rfl)) ⟨by decide, by decide⟩ ?_
      refine e_Ok.run (t' := (48, [(2, (0, 36 * a + 16)), (0, (1, 275)), (1, (0, a))], [(0, 9), (0, 36 * a + 16), (1, 276), (1, 276)], w8)) 2 rfl ?_
      refine e_Ok.add (z := 36 * a + 25) rfl (by first | with_reducible rfl | exact Int.add_comm _ _ | omega) (by omega) ?_
      refine e_Ok.ald (z := w 276 (36 * a + 25)) rfl (el_o rfl) rfl (by omega) ((q10 276 (36 * a + 25) (by first | exact no_55_2 (by omega) | (unfold mE; omega))).trans rfl) (by omega) ?_
      refine e_Ok.callS rfl (by first | exact e_dq hd rfl | omega) rfl rfl (c_269 (by omega)) (fun r21 w22 h23 => ?_)
      obtain ⟨rfl, rfl⟩ := h23
      show e_Ok 20 elay ecode eI (d + 1) 383 (53, [(2, (0, 36 * a + 16)), (0, (1, 275)), (1, (0, a))], [(0, 1260 * w 276 (36 * a + 25) + 416), (1, 276)], w8) _
      refine e_Ok.run (t' := (55, [(2, (0, 36 * a + 16)), (0, (1, 275)), (1, (0, a))], [(0, 7), (0, 1260 * w 276 (36 * a + 25) + 416), (1, 276)], w8)) 1 rfl ?_
      refine e_Ok.add (z := 1260 * w 276 (36 * a + 25) + 423) rfl (by first | with_reducible rfl | exact Int.add_comm _ _ | omega) (by omega) ?_
      refine e_Ok.run (t' := (57, [(2, (0, 36 * a + 16)), (0, (1, 275)), (1, (0, a))], [(0, 1), (0, 1260 * w 276 (36 * a + 25) + 423), (1, 276)], w8)) 1 rfl ?_
      refine e_Ok.ast rfl (el_o rfl) rfl rfl (by omega) ?_
      generalize hw24 : e_up w8 276 (1260 * w 276 (36 * a + 25) + 423) 1 = w24
      have f25 : e_fr mBM w w24 := e_fr.up f11 hw24 (by unfold mBM; omega)
      have hT26 : e_Has mTy w24 := e_Has.upr q10T hw24 (nR_BROKEN (t := w 276 (36 * a + 25)) (by omega)) (by omega)
      refine e_Ok.run (t' := (59, [(2, (0, 36 * a + 16)), (0, (1, 275)), (1, (0, a))], [(1, 275)], w24)) 1 rfl ?_
      refine e_Ok.getr (z := 276) rfl (el_o rfl) rfl rfl (e_uq hw24 (Or.inl (by first | decide | exact e_neo (by decide) | exact e_ne1 (by decide) | exact e_ne2 (by decide) | omega)) ((q10 275 0 no_55_1).trans (e_Has.eq hT rfl))) ⟨by decide, by decide⟩ ?_
      refine e_Ok.run (t' := (65, [(2, (0, 36 * a + 16)), (0, (1, 275)), (1, (0, a))], [(0, 9), (0, 36 * a + 16), (1, 276)], w24)) 2 rfl ?_
      refine e_Ok.add (z := 36 * a + 25) rfl (by first | with_reducible rfl | exact Int.add_comm _ _ | omega) (by omega) ?_
      refine e_Ok.run (t' := (67, [(2, (0, 36 * a + 16)), (0, (1, 275)), (1, (0, a))], [(0, (-1)), (0, 36 * a + 25), (1, 276)], w24)) 1 rfl ?_
      refine e_Ok.ast rfl (el_o rfl) rfl rfl (by omega) ?_
      generalize hw27 : e_up w24 276 (36 * a + 25) (-1) = w27
      have f28 : e_fr mBM w w27 := e_fr.up f25 hw27 (by first | exact ⟨rfl, Or.inr (Or.inr (Or.inl ⟨(by omega), ⟨(by omega), Or.inr (by omega)⟩⟩))⟩ | (unfold mBM; omega))
      have hT29 : e_Has mTy w27 := e_Has.upr hT26 hw27 (nR_MOVER (a := a) (by omega)) (by omega)
      refine e_Ok.run (t' := (69, [(2, (0, 36 * a + 16)), (0, (1, 275)), (1, (0, a))], [(1, 275)], w27)) 1 rfl ?_
      refine e_Ok.getr (z := 276) rfl (el_o rfl) rfl rfl (e_uq hw27 (Or.inl (by first | decide | exact e_neo (by decide) | exact e_ne1 (by decide) | exact e_ne2 (by decide) | omega)) (e_uq hw24 (Or.inl (by first | decide | exact e_neo (by decide) | exact e_ne1 (by decide) | exact e_ne2 (by decide) | omega)) ((q10 275 0 no_55_1).trans (e_Has.eq hT rfl)))) ⟨by decide, by decide⟩ ?_
      refine e_Ok.run (t' := (75, [(2, (0, 36 * a + 16)), (0, (1, 275)), (1, (0, a))], [(0, 6), (0, 36 * a + 16), (1, 276)], w27)) 2 rfl ?_
      refine e_Ok.add (z := 36 * a + 22) rfl (by first | with_reducible rfl | exact Int.add_comm _ _ | omega) (by omega) ?_
      refine e_Ok.run (t' := (77, [(2, (0, 36 * a + 16)), (0, (1, 275)), (1, (0, a))], [(0, 0), (0, 36 * a + 22), (1, 276)], w27)) 1 rfl ?_
      refine e_Ok.ast rfl (el_o rfl) rfl rfl (by omega) ?_
      generalize hw30 : e_up w27 276 (36 * a + 22) 0 = w30
      have f31 : e_fr mBM w w30 := e_fr.up f28 hw30 (by first | exact ⟨rfl, Or.inr (Or.inr (Or.inl ⟨(by omega), ⟨(by omega), Or.inl (by omega)⟩⟩))⟩ | (unfold mBM; omega))
      have hT32 : e_Has mTy w30 := e_Has.upr hT29 hw30 (nR_TRAVELS (a := a) (by omega)) (by omega)
      refine e_Ok.rets rfl rfl ?_
      have e33 : w30 276 5 = w8 276 5 := (e_uq hw30 (Or.inr (by first | decide | exact e_neo (by decide) | exact e_ne1 (by decide) | exact e_ne2 (by decide) | omega)) (e_uq hw27 (Or.inr (by first | decide | exact e_neo (by decide) | exact e_ne1 (by decide) | exact e_ne2 (by decide) | omega)) (e_uq hw24 (Or.inr (by first | decide | exact e_neo (by decide) | exact e_ne1 (by decide) | exact e_ne2 (by decide) | omega)) rfl)))
      exact ⟨rfl, f31, hT32, by omega, by omega, (fun e => (e_ue hw30)), (fun b g1 g2 g3 => (e_uq hw30 (Or.inr (by first | decide | exact e_neo (by decide) | exact e_ne1 (by decide) | exact e_ne2 (by decide) | omega)) (e_uq hw27 (Or.inr (by first | decide | exact e_neo (by decide) | exact e_ne1 (by decide) | exact e_ne2 (by decide) | omega)) (e_uq hw24 (Or.inr (by first | decide | exact e_neo (by decide) | exact e_ne1 (by decide) | exact e_ne2 (by decide) | omega)) ((q10 276 (36 * b + 22) (by first | exact no_55_3 (by omega) | (unfold mE; omega))).trans rfl)))))⟩
theorem no_55_4 {k : Int} : ¬ mBM 275 k := by unfold mBM; omega
theorem no_55_5 {b : Int} (hb : 0 ≤ b ∧ b ≤ 3) : ¬ mBM 276 (36 * b + 16) := by unfold mBM; omega
theorem su_55_9 {c k : Int} (q : mBM c k) : mBr c k := by
  unfold mBM at q
  rcases q with ⟨q, (q | q | ⟨q, (⟨q, (q | q)⟩)⟩ | ⟨q, ⟨q, q⟩⟩)⟩
  · exact ⟨(by omega), Or.inl (by omega)⟩
  · exact ⟨(by omega), Or.inr (Or.inl (by omega))⟩
  · exact ⟨(by omega), Or.inr (Or.inr (Or.inl ⟨(by omega), ⟨(by omega), Or.inl (by omega)⟩⟩))⟩
  · unfold mBr; omega
  · exact ⟨(by omega), Or.inr (Or.inr (Or.inr (Or.inl ⟨(by omega), ⟨(by omega), (by omega)⟩⟩)))⟩
theorem c_384 {d : Nat} (hd : 22 ≤ d) {w : eW} (hT : e_Has mTy w) {a : Int} (ha : 0 ≤ a ∧ a ≤ 3) (hE : w 276 5 ≤ 2147483646) : e_Ok 20 elay ecode eI d 384 (0, [(0, (1, 275)), (1, (0, a))], [], w) (fun r w' => r = [] ∧ e_fr mBr w w' ∧ e_Has mTy w' ∧ (w 276 5 ≤ w' 276 5 ∧ w' 276 5 ≤ w 276 5 + 1) ∧ sRel w w') := by
  obtain ⟨d, rfl⟩ : ∃ e, d = e + 1 := ⟨d - 1, by omega⟩
  refine e_Ok.run (t' := (1, [(0, (1, 275)), (1, (0, a))], [(1, 275)], w)) 1 rfl ?_
  refine e_Ok.getr (z := 276) rfl (el_o rfl) rfl rfl (e_Has.eq hT rfl) ⟨by decide, by decide⟩ ?_
  refine e_Ok.run (t' := (5, [(0, (1, 275)), (1, (0, a))], [(0, a), (1, 276)], w)) 1 rfl ?_
  refine e_Ok.callS rfl (by first | exact e_dq hd rfl | omega) rfl rfl (c_268 (by omega)) (fun r1 w2 h3 => ?_)
  obtain ⟨rfl, rfl⟩ := h3
  show e_Ok 20 elay ecode eI (d + 1) 384 (8, [(0, (1, 275)), (1, (0, a))], [(0, 36 * a + 16), (1, 276)], w) _
  refine e_Ok.run (t' := (9, [(0, (1, 275)), (1, (0, a))], [(0, 0), (0, 36 * a + 16), (1, 276)], w)) 1 rfl ?_
  refine e_Ok.add (z := 36 * a + 16) rfl (by first | with_reducible rfl | exact Int.add_comm _ _ | omega) (by omega) ?_
  have h4 := (e_Has.get hT (c := 276) (k := 36 * a + 16) (lo := 0) (hi := 2) (nR_STATE (a := a) (by omega)) (by decide))
  refine e_Ok.ald (z := w 276 (36 * a + 16)) rfl (el_o rfl) rfl (by omega) rfl (by first | exact e_bq h4 (by decide) (by decide) | omega) ?_
  refine e_Ok.run (t' := (12, [(0, (1, 275)), (1, (0, a))], [(0, 1), (0, w 276 (36 * a + 16))], w)) 1 rfl ?_
  refine e_Ok.if2 rfl (fun h5 => ?_) (fun h5 => ?_)
  · replace h5 : (w 276 (36 * a + 16) : Int) ≠ 1 := h5
    refine e_Ok.rets rfl rfl ?_
    have e6 : w 276 5 = w 276 5 := rfl
    have e7 : w 276 (36 * a + 16) = w 276 (36 * a + 16) := rfl
    exact ⟨rfl, (e_fr.refl w), hT, by omega, fun b g1 g2 => Or.inl ⟨rfl, rfl⟩⟩
  · replace h5 : (w 276 (36 * a + 16) : Int) = 1 := Classical.not_not.mp (show ¬ ((w 276 (36 * a + 16) : Int) ≠ 1) from h5)
    refine e_Ok.run (t' := (17, [(0, (1, 275)), (1, (0, a))], [(0, a), (1, 275)], w)) 2 rfl ?_
    refine e_Ok.callV rfl (by first | exact e_dq hd rfl | omega) rfl rfl rfl rfl (c_383 (by first | exact e_dq hd rfl | omega) hT (by omega) (by omega)) (fun r8 w9 h10 => ?_)
    obtain ⟨rfl, q11, q11T, q11n, q11m, q11a, q11b⟩ := h10
    have f12 : e_fr mBr w w9 := e_fr.trans (e_fr.refl w) (e_fr.mono q11 (fun c k q => su_55_9 q))
    show e_Ok 20 elay ecode eI (d + 1) 384 (20, [(0, (1, 275)), (1, (0, a))], [], w9) _
    refine e_Ok.run (t' := (21, [(0, (1, 275)), (1, (0, a))], [(1, 275)], w9)) 1 rfl ?_
    refine e_Ok.getr (z := 276) rfl (el_o rfl) rfl rfl ((q11 275 0 no_55_4).trans (e_Has.eq hT rfl)) ⟨by decide, by decide⟩ ?_
    refine e_Ok.run (t' := (25, [(0, (1, 275)), (1, (0, a))], [(0, a), (1, 276)], w9)) 1 rfl ?_
    refine e_Ok.callS rfl (by first | exact e_dq hd rfl | omega) rfl rfl (c_268 (by omega)) (fun r13 w14 h15 => ?_)
    obtain ⟨rfl, rfl⟩ := h15
    show e_Ok 20 elay ecode eI (d + 1) 384 (28, [(0, (1, 275)), (1, (0, a))], [(0, 36 * a + 16), (1, 276)], w9) _
    refine e_Ok.run (t' := (29, [(0, (1, 275)), (1, (0, a))], [(0, 0), (0, 36 * a + 16), (1, 276)], w9)) 1 rfl ?_
    refine e_Ok.add (z := 36 * a + 16) rfl (by first | with_reducible rfl | exact Int.add_comm _ _ | omega) (by omega) ?_
    refine e_Ok.run (t' := (31, [(0, (1, 275)), (1, (0, a))], [(0, 2), (0, 36 * a + 16), (1, 276)], w9)) 1 rfl ?_
    refine e_Ok.ast rfl (el_o rfl) rfl rfl (by omega) ?_
    generalize hw16 : e_up w9 276 (36 * a + 16) 2 = w16
    have f17 : e_fr mBr w w16 := e_fr.up f12 hw16 (by first | exact ⟨rfl, Or.inr (Or.inr (Or.inr (Or.inr ⟨(by omega), ⟨(by omega), (by omega)⟩⟩)))⟩ | (unfold mBr; omega))
    have hT18 : e_Has mTy w16 := e_Has.upr q11T hw16 (nR_STATE (a := a) (by omega)) (by omega)
    refine e_Ok.rets rfl rfl ?_
    have e19 : w16 276 5 = w9 276 5 := (e_uq hw16 (Or.inr (by first | decide | exact e_neo (by decide) | exact e_ne1 (by decide) | exact e_ne2 (by decide) | omega)) rfl)
    have e20 : w16 276 (36 * a + 16) = 2 := (e_ue hw16)
    exact ⟨rfl, f17, hT18, by omega, fun b g1 g2 => Decidable.byCases (p := b = a) (fun e => Or.inr (by rw [e]; exact ⟨by omega, (e_ue hw16), Eq.trans (e_uq hw16 (Or.inr (by first | decide | exact e_neo (by decide) | exact e_ne1 (by decide) | exact e_ne2 (by decide) | omega)) rfl) (q11a (by omega))⟩)) (fun e => Or.inl ⟨(e_uq hw16 (Or.inr (by first | decide | exact e_neo (by decide) | exact e_ne1 (by decide) | exact e_ne2 (by decide) | omega)) ((q11 276 (36 * b + 16) (by first | exact no_55_5 (by omega) | (unfold mBM; omega))).trans rfl)), Eq.trans (e_uq hw16 (Or.inr (by first | decide | exact e_neo (by decide) | exact e_ne1 (by decide) | exact e_ne2 (by decide) | omega)) rfl) (q11b b g1 g2 (Or.inr e))⟩)⟩
theorem c_399 {d : Nat} {w : eW} (hT : e_Has mTy w) {a : Int} (ha : 0 ≤ a ∧ a ≤ 7) : e_Ok 20 elay ecode eI d 399 (0, [(0, (1, 275)), (1, (0, a))], [], w) (fun r w' => ∃ z : Int, r = [(0, z)] ∧ w = w' ∧ 0 ≤ z ∧ z ≤ 1) := by
  refine e_Ok.run (t' := (5, [(0, (1, 275)), (1, (0, a))], [(0, a), (0, 4), (0, 20836)], w)) 3 rfl ?_
  refine e_Ok.mul (z := 4 * a) rfl (by first | with_reducible rfl | exact Int.add_comm _ _ | omega) (by omega) ?_
  refine e_Ok.add (z := 4 * a + 20836) rfl (by first | with_reducible rfl | exact Int.add_comm _ _ | omega) (by omega) ?_
  refine e_Ok.run (t' := (9, [(2, (0, 4 * a + 20836)), (0, (1, 275)), (1, (0, a))], [(1, 275)], w)) 2 rfl ?_
  refine e_Ok.getr (z := 276) rfl (el_o rfl) rfl rfl (e_Has.eq hT rfl) ⟨by decide, by decide⟩ ?_
  refine e_Ok.run (t' := (13, [(2, (0, 4 * a + 20836)), (0, (1, 275)), (1, (0, a))], [(0, 4 * a + 20836), (1, 276)], w)) 1 rfl ?_
  have h1 := (e_Has.get hT (c := 276) (k := 4 * a + 20836) (lo := 0) (hi := 1) (nR_INPUT (i := a) (f := 0) (by omega) (by decide)) (by decide))
  refine e_Ok.ald (z := w 276 (4 * a + 20836)) rfl (el_o rfl) rfl (by omega) rfl (by first | exact e_bq h1 (by decide) (by decide) | omega) ?_
  refine e_Ok.run (t' := (15, [(2, (0, 4 * a + 20836)), (0, (1, 275)), (1, (0, a))], [(0, 1), (0, w 276 (4 * a + 20836))], w)) 1 rfl ?_
  refine e_Ok.if2 rfl (fun h2 => ?_) (fun h2 => ?_)
  · replace h2 : (w 276 (4 * a + 20836) : Int) ≠ 1 := h2
    refine e_Ok.run (t' := (46, [(2, (0, 4 * a + 20836)), (0, (1, 275)), (1, (0, a))], [(0, 0)], w)) 1 rfl ?_
    refine e_Ok.rets rfl rfl ?_
    exact ⟨_, rfl, rfl, by omega, by omega⟩
  · replace h2 : (w 276 (4 * a + 20836) : Int) = 1 := Classical.not_not.mp (show ¬ ((w 276 (4 * a + 20836) : Int) ≠ 1) from h2)
    refine e_Ok.run (t' := (19, [(2, (0, 4 * a + 20836)), (0, (1, 275)), (1, (0, a))], [(1, 275)], w)) 1 rfl ?_
    refine e_Ok.getr (z := 276) rfl (el_o rfl) rfl rfl (e_Has.eq hT rfl) ⟨by decide, by decide⟩ ?_
    refine e_Ok.run (t' := (24, [(2, (0, 4 * a + 20836)), (0, (1, 275)), (1, (0, a))], [(0, 1), (0, 4 * a + 20836), (1, 276)], w)) 2 rfl ?_
    refine e_Ok.add (z := 4 * a + 20837) rfl (by first | with_reducible rfl | exact Int.add_comm _ _ | omega) (by omega) ?_
    have h3 := (e_Has.get hT (c := 276) (k := 4 * a + 20837) (lo := 0) (hi := 1) (nR_INPUT (i := a) (f := 1) (by omega) (by decide)) (by decide))
    refine e_Ok.ald (z := w 276 (4 * a + 20837)) rfl (el_o rfl) rfl (by omega) rfl (by first | exact e_bq h3 (by decide) (by decide) | omega) ?_
    refine e_Ok.run (t' := (27, [(2, (0, 4 * a + 20836)), (0, (1, 275)), (1, (0, a))], [(0, 1), (0, w 276 (4 * a + 20837))], w)) 1 rfl ?_
    refine e_Ok.if2 rfl (fun h4 => ?_) (fun h4 => ?_)
    · replace h4 : (w 276 (4 * a + 20837) : Int) ≠ 1 := h4
      refine e_Ok.run (t' := (46, [(2, (0, 4 * a + 20836)), (0, (1, 275)), (1, (0, a))], [(0, 0)], w)) 1 rfl ?_
      refine e_Ok.rets rfl rfl ?_
      exact ⟨_, rfl, rfl, by omega, by omega⟩
    · replace h4 : (w 276 (4 * a + 20837) : Int) = 1 := Classical.not_not.mp (show ¬ ((w 276 (4 * a + 20837) : Int) ≠ 1) from h4)
      refine e_Ok.run (t' := (31, [(2, (0, 4 * a + 20836)), (0, (1, 275)), (1, (0, a))], [(1, 275)], w)) 1 rfl ?_
      refine e_Ok.getr (z := 276) rfl (el_o rfl) rfl rfl (e_Has.eq hT rfl) ⟨by decide, by decide⟩ ?_
      refine e_Ok.run (t' := (36, [(2, (0, 4 * a + 20836)), (0, (1, 275)), (1, (0, a))], [(0, 3), (0, 4 * a + 20836), (1, 276)], w)) 2 rfl ?_
      refine e_Ok.add (z := 4 * a + 20839) rfl (by first | with_reducible rfl | exact Int.add_comm _ _ | omega) (by omega) ?_
      have h5 := (e_Has.get hT (c := 276) (k := 4 * a + 20839) (lo := 0) (hi := 1) (nR_INPUT (i := a) (f := 3) (by omega) (by decide)) (by decide))
      refine e_Ok.ald (z := w 276 (4 * a + 20839)) rfl (el_o rfl) rfl (by omega) rfl (by first | exact e_bq h5 (by decide) (by decide) | omega) ?_
      have hJ8 : ∀ m7 : Int, 0 ≤ m7 ∧ m7 ≤ 1 → e_Ok 20 elay ecode eI d 399 (46, [(2, (0, 4 * a + 20836)), (0, (1, 275)), (1, (0, a))], [(0, m7)], w) (fun r w' => ∃ z : Int, r = [(0, z)] ∧ w = w' ∧ 0 ≤ z ∧ z ≤ 1) := by
        intro m7 m7r
        refine e_Ok.retb rfl (by omega) ?_
        exact ⟨_, rfl, rfl, by omega, by omega⟩
      refine e_Ok.if1 rfl (fun h6 => ?_) (fun h6 => ?_)
      · exact e_Ok.run 1 rfl (hJ8 0 (by omega))
      · exact e_Ok.run 2 rfl (hJ8 1 (by omega))
theorem c_400 {d : Nat} (hd : 21 ≤ d) {w : eW} (hT : e_Has mTy w) : e_Ok 20 elay ecode eI d 400 (0, [(0, (1, 275))], [], w) (fun r w' => ∃ z : Int, r = [(0, z)] ∧ w = w' ∧ -1 ≤ z ∧ z ≤ 7) := by
  obtain ⟨d, rfl⟩ : ∃ e, d = e + 1 := ⟨d - 1, by omega⟩
  refine e_Ok.run (t' := (2, [(1, (0, 0)), (0, (1, 275))], [], w)) 2 rfl ?_
  have hL1 : ∀ (nn : Nat) (y1 : Int), 0 ≤ y1 ∧ y1 ≤ 8 → 9 - y1 < nn → e_Ok 20 elay ecode eI (d + 1) 400 (2, [(0, (1, 275)), (1, (0, y1))], [], w) (fun r w' => ∃ z : Int, r = [(0, z)] ∧ w = w' ∧ -1 ≤ z ∧ z ≤ 7) := by
    intro nn
    induction nn with
    | zero => intro y1 hj hm; obtain j3 := hj; exfalso; omega
    | succ nn ih2 =>
      intro y1 hj hm
      obtain j3 := hj
      refine e_Ok.run (t' := (4, [(0, (1, 275)), (1, (0, y1))], [(1, 275), (0, y1)], w)) 2 rfl ?_
      have h4 := (e_Has.get hT (c := 275) (k := 49) (lo := 0) (hi := 8) rfl (by decide))
      refine e_Ok.getf (z := w 275 49) rfl (el_o rfl) rfl rfl rfl (by first | exact e_bq h4 (by decide) (by decide) | omega) ?_
      refine e_Ok.if2 rfl (fun h5 => ?_) (fun h5 => ?_)
      · replace h5 : (y1 : Int) ≥ w 275 49 := h5
        refine e_Ok.run (t' := (27, [(0, (1, 275)), (1, (0, y1))], [(0, (-1))], w)) 1 rfl ?_
        refine e_Ok.rets rfl rfl ?_
        exact ⟨_, rfl, rfl, by omega, by omega⟩
      · replace h5 : (y1 : Int) < w 275 49 := Int.not_le.mp (show ¬ ((y1 : Int) ≥ w 275 49) from h5)
        refine e_Ok.run (t' := (12, [(0, (1, 275)), (1, (0, y1))], [(0, y1), (1, 275)], w)) 2 rfl ?_
        refine e_Ok.callV rfl (by first | exact e_dq hd rfl | omega) rfl rfl rfl rfl (c_399 hT (by omega)) (fun r6 w7 h8 => ?_)
        obtain ⟨z9, rfl, rfl, q10a, q10b⟩ := h8
        show e_Ok 20 elay ecode eI (d + 1) 400 (15, [(0, (1, 275)), (1, (0, y1))], [(0, z9)], w) _
        refine e_Ok.if1 rfl (fun h11 => ?_) (fun h11 => ?_)
        · replace h11 : (z9 : Int) ≠ 0 := h11
          refine e_Ok.inc (z := y1 + 1) rfl rfl (by first | with_reducible rfl | omega) (by omega) ?_
          show e_Ok 20 elay ecode eI (d + 1) 400 (23, [(1, (0, y1 + 1)), (0, (1, 275))], [], w) _
          refine e_Ok.run (t' := (2, [(1, (0, y1 + 1)), (0, (1, 275))], [], w)) 1 rfl ?_
          refine e_Ok.sub eAlk (e_sub_of rfl ?_) (ih2 (y1 + 1) (by omega) (by omega))
          exact ⟨rfl, rfl, trivial⟩
        · replace h11 : (z9 : Int) = 0 := Classical.not_not.mp (show ¬ ((z9 : Int) ≠ 0) from h11)
          refine e_Ok.run (t' := (19, [(0, (1, 275)), (1, (0, y1))], [(0, y1)], w)) 1 rfl ?_
          refine e_Ok.rets rfl rfl ?_
          exact ⟨_, rfl, rfl, by omega, by omega⟩
  refine e_Ok.sub eAlk (e_sub_of rfl ?_) (hL1 (9 + 1 : Int).toNat 0 (by omega) (by omega))
  exact ⟨rfl, rfl, trivial⟩
theorem no_55_6 {k : Int} : ¬ mIn 275 k := by unfold mIn; omega
theorem no_55_7 {k : Int} : ¬ mIn 316 k := by unfold mIn; omega
theorem c_401 {d : Nat} {w : eW} (hT : e_Has mTy w) : e_Ok 20 elay ecode eI d 401 (0, [(0, (1, 275))], [], w) (fun r w' => r = [] ∧ e_fr mIn w w' ∧ e_Has mTy w') := by
  refine e_Ok.run (t' := (2, [(1, (0, 0)), (0, (1, 275))], [], w)) 2 rfl ?_
  have hL1 : ∀ (nn : Nat) (y1 : Int) (v1 : eW), e_fr mIn w v1 ∧ e_Has mTy v1 ∧ (0 ≤ y1 ∧ y1 ≤ 8) → 9 - y1 < nn → e_Ok 20 elay ecode eI d 401 (2, [(0, (1, 275)), (1, (0, y1))], [], v1) (fun r w' => r = [] ∧ e_fr mIn w w' ∧ e_Has mTy w') := by
    intro nn
    induction nn with
    | zero => intro y1 v1 hj hm; obtain ⟨j3, j4, j5⟩ := hj; exfalso; omega
    | succ nn ih2 =>
      intro y1 v1 hj hm
      obtain ⟨j3, j4, j5⟩ := hj
      refine e_Ok.run (t' := (4, [(0, (1, 275)), (1, (0, y1))], [(1, 275), (0, y1)], v1)) 2 rfl ?_
      have h6 := (e_Has.get hT (c := 275) (k := 49) (lo := 0) (hi := 8) rfl (by decide))
      refine e_Ok.getf (z := w 275 49) rfl (el_o rfl) rfl rfl ((j3 275 49 no_55_6).trans rfl) (by first | exact e_bq h6 (by decide) (by decide) | omega) ?_
      refine e_Ok.if2 rfl (fun h7 => ?_) (fun h7 => ?_)
      · replace h7 : (y1 : Int) ≥ w 275 49 := h7
        refine e_Ok.rets rfl rfl ?_
        exact ⟨rfl, j3, j4⟩
      · replace h7 : (y1 : Int) < w 275 49 := Int.not_le.mp (show ¬ ((y1 : Int) ≥ w 275 49) from h7)
        refine e_Ok.run (t' := (15, [(0, (1, 275)), (1, (0, y1))], [(0, y1), (0, 4), (0, 20836)], v1)) 3 rfl ?_
        refine e_Ok.mul (z := 4 * y1) rfl (by first | with_reducible rfl | exact Int.add_comm _ _ | omega) (by omega) ?_
        refine e_Ok.add (z := 4 * y1 + 20836) rfl (by first | with_reducible rfl | exact Int.add_comm _ _ | omega) (by omega) ?_
        refine e_Ok.run (t' := (19, [(2, (0, 4 * y1 + 20836)), (0, (1, 275)), (1, (0, y1))], [(1, 275)], v1)) 2 rfl ?_
        refine e_Ok.getr (z := 276) rfl (el_o rfl) rfl rfl ((j3 275 0 no_55_6).trans (e_Has.eq hT rfl)) ⟨by decide, by decide⟩ ?_
        refine e_Ok.run (t' := (24, [(2, (0, 4 * y1 + 20836)), (0, (1, 275)), (1, (0, y1))], [(0, 2), (0, 4 * y1 + 20836), (1, 276)], v1)) 2 rfl ?_
        refine e_Ok.add (z := 4 * y1 + 20838) rfl (by first | with_reducible rfl | exact Int.add_comm _ _ | omega) (by omega) ?_
        refine e_Ok.run (t' := (26, [(2, (0, 4 * y1 + 20836)), (0, (1, 275)), (1, (0, y1))], [(1, 275), (0, 4 * y1 + 20838), (1, 276)], v1)) 1 rfl ?_
        refine e_Ok.getr (z := 276) rfl (el_o rfl) rfl rfl ((j3 275 0 no_55_6).trans (e_Has.eq hT rfl)) ⟨by decide, by decide⟩ ?_
        refine e_Ok.run (t' := (30, [(2, (0, 4 * y1 + 20836)), (0, (1, 275)), (1, (0, y1))], [(0, 4 * y1 + 20836), (1, 276), (0, 4 * y1 + 20838), (1, 276)], v1)) 1 rfl ?_
        have h8 := (e_Has.get j4 (c := 276) (k := 4 * y1 + 20836) (lo := 0) (hi := 1) (nR_INPUT (i := y1) (f := 0) (by omega) (by decide)) (by decide))
        refine e_Ok.ald (z := v1 276 (4 * y1 + 20836)) rfl (el_o rfl) rfl (by omega) rfl (by first | exact e_bq h8 (by decide) (by decide) | omega) ?_
        refine e_Ok.run (t' := (32, [(2, (0, 4 * y1 + 20836)), (0, (1, 275)), (1, (0, y1))], [(1, 275), (0, v1 276 (4 * y1 + 20836)), (0, 4 * y1 + 20838), (1, 276)], v1)) 1 rfl ?_
        refine e_Ok.getr (z := 276) rfl (el_o rfl) rfl rfl ((j3 275 0 no_55_6).trans (e_Has.eq hT rfl)) ⟨by decide, by decide⟩ ?_
        refine e_Ok.run (t' := (37, [(2, (0, 4 * y1 + 20836)), (0, (1, 275)), (1, (0, y1))], [(0, 1), (0, 4 * y1 + 20836), (1, 276), (0, v1 276 (4 * y1 + 20836)), (0, 4 * y1 + 20838), (1, 276)], v1)) 2 rfl ?_
        refine e_Ok.add (z := 4 * y1 + 20837) rfl (by first | with_reducible rfl | exact Int.add_comm _ _ | omega) (by omega) ?_
        have h9 := (e_Has.get j4 (c := 276) (k := 4 * y1 + 20837) (lo := 0) (hi := 1) (nR_INPUT (i := y1) (f := 1) (by omega) (by decide)) (by decide))
        refine e_Ok.ald (z := v1 276 (4 * y1 + 20837)) rfl (el_o rfl) rfl (by omega) rfl (by first | exact e_bq h9 (by decide) (by decide) | omega) ?_
        refine e_Ok.if2 rfl (fun h10 => ?_) (fun h10 => ?_)
        · replace h10 : (v1 276 (4 * y1 + 20836) : Int) = v1 276 (4 * y1 + 20837) := h10
          refine e_Ok.run (t' := (56, [(2, (0, 4 * y1 + 20836)), (0, (1, 275)), (1, (0, y1))], [(0, 0), (0, 4 * y1 + 20838), (1, 276)], v1)) 1 rfl ?_
          refine e_Ok.ast rfl (el_o rfl) rfl rfl (by omega) ?_
          generalize hw11 : e_up v1 276 (4 * y1 + 20838) 0 = w11
          have f12 : e_fr mIn w w11 := e_fr.up j3 hw11 (by unfold mIn; omega)
          have hT13 : e_Has mTy w11 := e_Has.upr j4 hw11 (nR_INPUT2 (i := y1) (by omega)) (by omega)
          refine e_Ok.run (t' := (58, [(2, (0, 4 * y1 + 20836)), (0, (1, 275)), (1, (0, y1))], [(1, 275)], w11)) 1 rfl ?_
          refine e_Ok.getr (z := 276) rfl (el_o rfl) rfl rfl (e_uq hw11 (Or.inl (by first | decide | exact e_neo (by decide) | exact e_ne1 (by decide) | exact e_ne2 (by decide) | omega)) ((j3 275 0 no_55_6).trans (e_Has.eq hT rfl))) ⟨by decide, by decide⟩ ?_
          refine e_Ok.run (t' := (63, [(2, (0, 4 * y1 + 20836)), (0, (1, 275)), (1, (0, y1))], [(0, 3), (0, 4 * y1 + 20836), (1, 276)], w11)) 2 rfl ?_
          refine e_Ok.add (z := 4 * y1 + 20839) rfl (by first | with_reducible rfl | exact Int.add_comm _ _ | omega) (by omega) ?_
          refine e_Ok.run (t' := (65, [(2, (0, 4 * y1 + 20836)), (0, (1, 275)), (1, (0, y1))], [(1, 275), (0, 4 * y1 + 20839), (1, 276)], w11)) 1 rfl ?_
          refine e_Ok.getr (z := 276) rfl (el_o rfl) rfl rfl (e_uq hw11 (Or.inl (by first | decide | exact e_neo (by decide) | exact e_ne1 (by decide) | exact e_ne2 (by decide) | omega)) ((j3 275 0 no_55_6).trans (e_Has.eq hT rfl))) ⟨by decide, by decide⟩ ?_
          refine e_Ok.run (t' := (70, [(2, (0, 4 * y1 + 20836)), (0, (1, 275)), (1, (0, y1))], [(0, 2), (0, 4 * y1 + 20836), (1, 276), (0, 4 * y1 + 20839), (1, 276)], w11)) 2 rfl ?_
          refine e_Ok.add (z := 4 * y1 + 20838) rfl (by first | with_reducible rfl | exact Int.add_comm _ _ | omega) (by omega) ?_
          refine e_Ok.ald (z := 0) rfl (el_o rfl) rfl (by omega) (e_ue hw11) (by omega) ?_
          refine e_Ok.run (t' := (73, [(2, (0, 4 * y1 + 20836)), (0, (1, 275)), (1, (0, y1))], [(1, 275), (0, 0), (0, 4 * y1 + 20839), (1, 276)], w11)) 1 rfl ?_
          refine e_Ok.getr (z := 316) rfl (el_o rfl) rfl rfl (e_uq hw11 (Or.inl (by first | decide | exact e_neo (by decide) | exact e_ne1 (by decide) | exact e_ne2 (by decide) | omega)) ((j3 275 50 no_55_6).trans (e_Has.eq hT rfl))) ⟨by decide, by decide⟩ ?_
          refine e_Ok.run (t' := (77, [(2, (0, 4 * y1 + 20836)), (0, (1, 275)), (1, (0, y1))], [(0, y1), (1, 316), (0, 0), (0, 4 * y1 + 20839), (1, 276)], w11)) 1 rfl ?_
          have h14 := (e_Has.get hT (c := 316) (k := y1) (lo := 0) (hi := 1000) rfl (by decide))
          refine e_Ok.ald (z := w 316 y1) rfl (el_o rfl) rfl (by omega) (e_uq hw11 (Or.inl (by first | decide | exact e_neo (by decide) | exact e_ne1 (by decide) | exact e_ne2 (by decide) | omega)) ((j3 316 y1 no_55_7).trans rfl)) (by first | exact e_bq h14 (by decide) (by decide) | omega) ?_
          refine e_Ok.if2 rfl (fun h15 => ?_) (fun h15 => ?_)
          · replace h15 : (0 : Int) ≤ w 316 y1 := h15
            refine e_Ok.run (t' := (86, [(2, (0, 4 * y1 + 20836)), (0, (1, 275)), (1, (0, y1))], [(1, 275), (0, 4 * y1 + 20839), (1, 276)], w11)) 1 rfl ?_
            refine e_Ok.getr (z := 276) rfl (el_o rfl) rfl rfl (e_uq hw11 (Or.inl (by first | decide | exact e_neo (by decide) | exact e_ne1 (by decide) | exact e_ne2 (by decide) | omega)) ((j3 275 0 no_55_6).trans (e_Has.eq hT rfl))) ⟨by decide, by decide⟩ ?_
            refine e_Ok.run (t' := (91, [(2, (0, 4 * y1 + 20836)), (0, (1, 275)), (1, (0, y1))], [(0, 3), (0, 4 * y1 + 20836), (1, 276), (0, 4 * y1 + 20839), (1, 276)], w11)) 2 rfl ?_
            refine e_Ok.add (z := 4 * y1 + 20839) rfl (by first | with_reducible rfl | exact Int.add_comm _ _ | omega) (by omega) ?_
            have h16 := (e_Has.get j4 (c := 276) (k := 4 * y1 + 20839) (lo := 0) (hi := 1) (nR_INPUT (i := y1) (f := 3) (by omega) (by decide)) (by decide))
            refine e_Ok.ald (z := v1 276 (4 * y1 + 20839)) rfl (el_o rfl) rfl (by omega) (e_uq hw11 (Or.inr (by first | decide | exact e_neo (by decide) | exact e_ne1 (by decide) | exact e_ne2 (by decide) | omega)) rfl) (by first | exact e_bq h16 (by decide) (by decide) | omega) ?_
            refine e_Ok.ast rfl (el_o rfl) rfl rfl (by omega) ?_
            generalize hw17 : e_up w11 276 (4 * y1 + 20839) (v1 276 (4 * y1 + 20839)) = w17
            have f18 : e_fr mIn w w17 := e_fr.up f12 hw17 (by unfold mIn; omega)
            have hT19 : e_Has mTy w17 := e_Has.upr hT13 hw17 (nR_INPUT (i := y1) (f := 3) (by omega) (by decide)) (by omega)
            refine e_Ok.inc (z := y1 + 1) rfl rfl (by first | with_reducible rfl | omega) (by omega) ?_
            show e_Ok 20 elay ecode eI d 401 (97, [(1, (0, y1 + 1)), (2, (0, 4 * y1 + 20836)), (0, (1, 275))], [], w17) _
            refine e_Ok.run (t' := (2, [(1, (0, y1 + 1)), (2, (0, 4 * y1 + 20836)), (0, (1, 275))], [], w17)) 1 rfl ?_
            refine e_Ok.sub eAlk (e_sub_of rfl ?_) (ih2 (y1 + 1) w17 ⟨f18, hT19, by omega⟩ (by omega))
            exact ⟨rfl, rfl, trivial⟩
          · replace h15 : (0 : Int) > w 316 y1 := Int.not_le.mp (show ¬ ((0 : Int) ≤ w 316 y1) from h15)
            exfalso; omega
        · replace h10 : (v1 276 (4 * y1 + 20836) : Int) ≠ v1 276 (4 * y1 + 20837) := (show ¬ ((v1 276 (4 * y1 + 20836) : Int) = v1 276 (4 * y1 + 20837)) from h10)
          refine e_Ok.run (t' := (43, [(2, (0, 4 * y1 + 20836)), (0, (1, 275)), (1, (0, y1))], [(1, 275), (0, 4 * y1 + 20838), (1, 276)], v1)) 1 rfl ?_
          refine e_Ok.getr (z := 276) rfl (el_o rfl) rfl rfl ((j3 275 0 no_55_6).trans (e_Has.eq hT rfl)) ⟨by decide, by decide⟩ ?_
          refine e_Ok.run (t' := (48, [(2, (0, 4 * y1 + 20836)), (0, (1, 275)), (1, (0, y1))], [(0, 2), (0, 4 * y1 + 20836), (1, 276), (0, 4 * y1 + 20838), (1, 276)], v1)) 2 rfl ?_
          refine e_Ok.add (z := 4 * y1 + 20838) rfl (by first | with_reducible rfl | exact Int.add_comm _ _ | omega) (by omega) ?_
          have h20 := (e_Has.get j4 (c := 276) (k := 4 * y1 + 20838) (lo := (-2147483648)) (hi := 2147483647) (nR_INPUT2 (i := y1) (by omega)) (by decide))
          refine e_Ok.ald (z := v1 276 (4 * y1 + 20838)) rfl (el_o rfl) rfl (by omega) rfl (by first | exact e_bq h20 (by decide) (by decide) | omega) ?_
          refine e_Ok.run (t' := (51, [(2, (0, 4 * y1 + 20836)), (0, (1, 275)), (1, (0, y1))], [(0, 1), (0, v1 276 (4 * y1 + 20838)), (0, 4 * y1 + 20838), (1, 276)], v1)) 1 rfl ?_
          refine e_Ok.any rfl (eF_add_any _ _) (fun z21 z21a z21b => ?_)
          refine e_Ok.run (t' := (56, [(2, (0, 4 * y1 + 20836)), (0, (1, 275)), (1, (0, y1))], [(0, z21), (0, 4 * y1 + 20838), (1, 276)], v1)) 1 rfl ?_
          refine e_Ok.ast rfl (el_o rfl) rfl rfl (by omega) ?_
          generalize hw22 : e_up v1 276 (4 * y1 + 20838) z21 = w22
          have f23 : e_fr mIn w w22 := e_fr.up j3 hw22 (by unfold mIn; omega)
          have hT24 : e_Has mTy w22 := e_Has.upr j4 hw22 (nR_INPUT2 (i := y1) (by omega)) (by omega)
          refine e_Ok.run (t' := (58, [(2, (0, 4 * y1 + 20836)), (0, (1, 275)), (1, (0, y1))], [(1, 275)], w22)) 1 rfl ?_
          refine e_Ok.getr (z := 276) rfl (el_o rfl) rfl rfl (e_uq hw22 (Or.inl (by first | decide | exact e_neo (by decide) | exact e_ne1 (by decide) | exact e_ne2 (by decide) | omega)) ((j3 275 0 no_55_6).trans (e_Has.eq hT rfl))) ⟨by decide, by decide⟩ ?_
          refine e_Ok.run (t' := (63, [(2, (0, 4 * y1 + 20836)), (0, (1, 275)), (1, (0, y1))], [(0, 3), (0, 4 * y1 + 20836), (1, 276)], w22)) 2 rfl ?_
          refine e_Ok.add (z := 4 * y1 + 20839) rfl (by first | with_reducible rfl | exact Int.add_comm _ _ | omega) (by omega) ?_
          refine e_Ok.run (t' := (65, [(2, (0, 4 * y1 + 20836)), (0, (1, 275)), (1, (0, y1))], [(1, 275), (0, 4 * y1 + 20839), (1, 276)], w22)) 1 rfl ?_
          refine e_Ok.getr (z := 276) rfl (el_o rfl) rfl rfl (e_uq hw22 (Or.inl (by first | decide | exact e_neo (by decide) | exact e_ne1 (by decide) | exact e_ne2 (by decide) | omega)) ((j3 275 0 no_55_6).trans (e_Has.eq hT rfl))) ⟨by decide, by decide⟩ ?_
          refine e_Ok.run (t' := (70, [(2, (0, 4 * y1 + 20836)), (0, (1, 275)), (1, (0, y1))], [(0, 2), (0, 4 * y1 + 20836), (1, 276), (0, 4 * y1 + 20839), (1, 276)], w22)) 2 rfl ?_
          refine e_Ok.add (z := 4 * y1 + 20838) rfl (by first | with_reducible rfl | exact Int.add_comm _ _ | omega) (by omega) ?_
          refine e_Ok.ald (z := z21) rfl (el_o rfl) rfl (by omega) (e_ue hw22) (by omega) ?_
          refine e_Ok.run (t' := (73, [(2, (0, 4 * y1 + 20836)), (0, (1, 275)), (1, (0, y1))], [(1, 275), (0, z21), (0, 4 * y1 + 20839), (1, 276)], w22)) 1 rfl ?_
          refine e_Ok.getr (z := 316) rfl (el_o rfl) rfl rfl (e_uq hw22 (Or.inl (by first | decide | exact e_neo (by decide) | exact e_ne1 (by decide) | exact e_ne2 (by decide) | omega)) ((j3 275 50 no_55_6).trans (e_Has.eq hT rfl))) ⟨by decide, by decide⟩ ?_
          refine e_Ok.run (t' := (77, [(2, (0, 4 * y1 + 20836)), (0, (1, 275)), (1, (0, y1))], [(0, y1), (1, 316), (0, z21), (0, 4 * y1 + 20839), (1, 276)], w22)) 1 rfl ?_
          have h25 := (e_Has.get hT (c := 316) (k := y1) (lo := 0) (hi := 1000) rfl (by decide))
          refine e_Ok.ald (z := w 316 y1) rfl (el_o rfl) rfl (by omega) (e_uq hw22 (Or.inl (by first | decide | exact e_neo (by decide) | exact e_ne1 (by decide) | exact e_ne2 (by decide) | omega)) ((j3 316 y1 no_55_7).trans rfl)) (by first | exact e_bq h25 (by decide) (by decide) | omega) ?_
          refine e_Ok.if2 rfl (fun h26 => ?_) (fun h26 => ?_)
          · replace h26 : (z21 : Int) ≤ w 316 y1 := h26
            refine e_Ok.run (t' := (86, [(2, (0, 4 * y1 + 20836)), (0, (1, 275)), (1, (0, y1))], [(1, 275), (0, 4 * y1 + 20839), (1, 276)], w22)) 1 rfl ?_
            refine e_Ok.getr (z := 276) rfl (el_o rfl) rfl rfl (e_uq hw22 (Or.inl (by first | decide | exact e_neo (by decide) | exact e_ne1 (by decide) | exact e_ne2 (by decide) | omega)) ((j3 275 0 no_55_6).trans (e_Has.eq hT rfl))) ⟨by decide, by decide⟩ ?_
            refine e_Ok.run (t' := (91, [(2, (0, 4 * y1 + 20836)), (0, (1, 275)), (1, (0, y1))], [(0, 3), (0, 4 * y1 + 20836), (1, 276), (0, 4 * y1 + 20839), (1, 276)], w22)) 2 rfl ?_
            refine e_Ok.add (z := 4 * y1 + 20839) rfl (by first | with_reducible rfl | exact Int.add_comm _ _ | omega) (by omega) ?_
            have h27 := (e_Has.get j4 (c := 276) (k := 4 * y1 + 20839) (lo := 0) (hi := 1) (nR_INPUT (i := y1) (f := 3) (by omega) (by decide)) (by decide))
            refine e_Ok.ald (z := v1 276 (4 * y1 + 20839)) rfl (el_o rfl) rfl (by omega) (e_uq hw22 (Or.inr (by first | decide | exact e_neo (by decide) | exact e_ne1 (by decide) | exact e_ne2 (by decide) | omega)) rfl) (by first | exact e_bq h27 (by decide) (by decide) | omega) ?_
            refine e_Ok.ast rfl (el_o rfl) rfl rfl (by omega) ?_
            generalize hw28 : e_up w22 276 (4 * y1 + 20839) (v1 276 (4 * y1 + 20839)) = w28
            have f29 : e_fr mIn w w28 := e_fr.up f23 hw28 (by unfold mIn; omega)
            have hT30 : e_Has mTy w28 := e_Has.upr hT24 hw28 (nR_INPUT (i := y1) (f := 3) (by omega) (by decide)) (by omega)
            refine e_Ok.inc (z := y1 + 1) rfl rfl (by first | with_reducible rfl | omega) (by omega) ?_
            show e_Ok 20 elay ecode eI d 401 (97, [(1, (0, y1 + 1)), (2, (0, 4 * y1 + 20836)), (0, (1, 275))], [], w28) _
            refine e_Ok.run (t' := (2, [(1, (0, y1 + 1)), (2, (0, 4 * y1 + 20836)), (0, (1, 275))], [], w28)) 1 rfl ?_
            refine e_Ok.sub eAlk (e_sub_of rfl ?_) (ih2 (y1 + 1) w28 ⟨f29, hT30, by omega⟩ (by omega))
            exact ⟨rfl, rfl, trivial⟩
          · replace h26 : (z21 : Int) > w 316 y1 := Int.not_le.mp (show ¬ ((z21 : Int) ≤ w 316 y1) from h26)
            refine e_Ok.run (t' := (93, [(2, (0, 4 * y1 + 20836)), (0, (1, 275)), (1, (0, y1))], [(0, 1), (0, 4 * y1 + 20839), (1, 276)], w22)) 2 rfl ?_
            refine e_Ok.ast rfl (el_o rfl) rfl rfl (by omega) ?_
            generalize hw31 : e_up w22 276 (4 * y1 + 20839) 1 = w31
            have f32 : e_fr mIn w w31 := e_fr.up f23 hw31 (by unfold mIn; omega)
            have hT33 : e_Has mTy w31 := e_Has.upr hT24 hw31 (nR_INPUT (i := y1) (f := 3) (by omega) (by decide)) (by omega)
            refine e_Ok.inc (z := y1 + 1) rfl rfl (by first | with_reducible rfl | omega) (by omega) ?_
            show e_Ok 20 elay ecode eI d 401 (97, [(1, (0, y1 + 1)), (2, (0, 4 * y1 + 20836)), (0, (1, 275))], [], w31) _
            refine e_Ok.run (t' := (2, [(1, (0, y1 + 1)), (2, (0, 4 * y1 + 20836)), (0, (1, 275))], [], w31)) 1 rfl ?_
            refine e_Ok.sub eAlk (e_sub_of rfl ?_) (ih2 (y1 + 1) w31 ⟨f32, hT33, by omega⟩ (by omega))
            exact ⟨rfl, rfl, trivial⟩
  refine e_Ok.sub eAlk (e_sub_of rfl ?_) (hL1 (9 + 1 : Int).toNat 0 w ⟨(e_fr.refl w), hT, by omega⟩ (by omega))
  exact ⟨rfl, rfl, trivial⟩
theorem c_394 {d : Nat} (hd : 21 ≤ d) {w : eW} (hT : e_Has mTy w) {p x y : Int} (hp : 0 ≤ p ∧ p ≤ 31) (hx : -2147483648 ≤ x ∧ x ≤ 2147483647) (hy : -2147483648 ≤ y ∧ y ≤ 2147483647) : e_Ok 20 elay ecode eI d 394 (0, [(0, (1, 275)), (1, (0, p)), (2, (0, x)), (3, (0, y))], [], w) (fun r w' => r = [] ∧ e_fr (mPa p) w w' ∧ e_Has mTy w' ∧ w' 276 (4 * p + 20576) = 8) := by
  obtain ⟨d, rfl⟩ : ∃ e, d = e + 1 := ⟨d - 1, by omega⟩
  refine e_Ok.run (t' := (1, [(0, (1, 275)), (1, (0, p)), (2, (0, x)), (3, (0, y))], [(1, 275)], w)) 1 rfl ?_
  refine e_Ok.getr (z := 276) rfl (el_o rfl) rfl rfl (e_Has.eq hT rfl) ⟨by decide, by decide⟩ ?_
  refine e_Ok.run (t' := (5, [(0, (1, 275)), (1, (0, p)), (2, (0, x)), (3, (0, y))], [(0, p), (1, 276)], w)) 1 rfl ?_
  refine e_Ok.callS rfl (by first | exact e_dq hd rfl | omega) rfl rfl (c_392 (by omega)) (fun r1 w2 h3 => ?_)
  obtain ⟨rfl, rfl⟩ := h3
  show e_Ok 20 elay ecode eI (d + 1) 394 (8, [(0, (1, 275)), (1, (0, p)), (2, (0, x)), (3, (0, y))], [(0, 4 * p + 20576), (1, 276)], w) _
  refine e_Ok.run (t' := (10, [(0, (1, 275)), (1, (0, p)), (2, (0, x)), (3, (0, y))], [(0, 8), (0, 4 * p + 20576), (1, 276)], w)) 1 rfl ?_
  refine e_Ok.ast rfl (el_o rfl) rfl rfl (by omega) ?_
  generalize hw4 : e_up w 276 (4 * p + 20576) 8 = w4
  have f5 : e_fr (mPa p) w w4 := e_fr.up (e_fr.refl w) hw4 (by first | exact ⟨rfl, ⟨(by omega), (by omega)⟩⟩ | (unfold mPa; omega))
  have hT6 : e_Has mTy w4 := e_Has.upr hT hw4 (nR_WHERE (p := p) (by omega)) (by omega)
  refine e_Ok.run (t' := (12, [(0, (1, 275)), (1, (0, p)), (2, (0, x)), (3, (0, y))], [(1, 275)], w4)) 1 rfl ?_
  refine e_Ok.getr (z := 276) rfl (el_o rfl) rfl rfl (e_uq hw4 (Or.inl (by first | decide | exact e_neo (by decide) | exact e_ne1 (by decide) | exact e_ne2 (by decide) | omega)) (e_Has.eq hT rfl)) ⟨by decide, by decide⟩ ?_
  refine e_Ok.run (t' := (16, [(0, (1, 275)), (1, (0, p)), (2, (0, x)), (3, (0, y))], [(0, p), (1, 276)], w4)) 1 rfl ?_
  refine e_Ok.callS rfl (by first | exact e_dq hd rfl | omega) rfl rfl (c_392 (by omega)) (fun r7 w8 h9 => ?_)
  obtain ⟨rfl, rfl⟩ := h9
  show e_Ok 20 elay ecode eI (d + 1) 394 (19, [(0, (1, 275)), (1, (0, p)), (2, (0, x)), (3, (0, y))], [(0, 4 * p + 20576), (1, 276)], w4) _
  refine e_Ok.run (t' := (20, [(0, (1, 275)), (1, (0, p)), (2, (0, x)), (3, (0, y))], [(0, 1), (0, 4 * p + 20576), (1, 276)], w4)) 1 rfl ?_
  refine e_Ok.add (z := 4 * p + 20577) rfl (by first | with_reducible rfl | exact Int.add_comm _ _ | omega) (by omega) ?_
  refine e_Ok.run (t' := (22, [(0, (1, 275)), (1, (0, p)), (2, (0, x)), (3, (0, y))], [(0, x), (0, 4 * p + 20577), (1, 276)], w4)) 1 rfl ?_
  refine e_Ok.ast rfl (el_o rfl) rfl rfl (by omega) ?_
  generalize hw10 : e_up w4 276 (4 * p + 20577) x = w10
  have f11 : e_fr (mPa p) w w10 := e_fr.up f5 hw10 (by first | exact ⟨rfl, ⟨(by omega), (by omega)⟩⟩ | (unfold mPa; omega))
  have hT12 : e_Has mTy w10 := e_Has.upr hT6 hw10 (nR_PART1 (p := p) (by omega)) (by omega)
  refine e_Ok.run (t' := (24, [(0, (1, 275)), (1, (0, p)), (2, (0, x)), (3, (0, y))], [(1, 275)], w10)) 1 rfl ?_
  refine e_Ok.getr (z := 276) rfl (el_o rfl) rfl rfl (e_uq hw10 (Or.inl (by first | decide | exact e_neo (by decide) | exact e_ne1 (by decide) | exact e_ne2 (by decide) | omega)) (e_uq hw4 (Or.inl (by first | decide | exact e_neo (by decide) | exact e_ne1 (by decide) | exact e_ne2 (by decide) | omega)) (e_Has.eq hT rfl))) ⟨by decide, by decide⟩ ?_
  refine e_Ok.run (t' := (28, [(0, (1, 275)), (1, (0, p)), (2, (0, x)), (3, (0, y))], [(0, p), (1, 276)], w10)) 1 rfl ?_
  refine e_Ok.callS rfl (by first | exact e_dq hd rfl | omega) rfl rfl (c_392 (by omega)) (fun r13 w14 h15 => ?_)
  obtain ⟨rfl, rfl⟩ := h15
  show e_Ok 20 elay ecode eI (d + 1) 394 (31, [(0, (1, 275)), (1, (0, p)), (2, (0, x)), (3, (0, y))], [(0, 4 * p + 20576), (1, 276)], w10) _
  refine e_Ok.run (t' := (32, [(0, (1, 275)), (1, (0, p)), (2, (0, x)), (3, (0, y))], [(0, 2), (0, 4 * p + 20576), (1, 276)], w10)) 1 rfl ?_
  refine e_Ok.add (z := 4 * p + 20578) rfl (by first | with_reducible rfl | exact Int.add_comm _ _ | omega) (by omega) ?_
  refine e_Ok.run (t' := (34, [(0, (1, 275)), (1, (0, p)), (2, (0, x)), (3, (0, y))], [(0, y), (0, 4 * p + 20578), (1, 276)], w10)) 1 rfl ?_
  refine e_Ok.ast rfl (el_o rfl) rfl rfl (by omega) ?_
  generalize hw16 : e_up w10 276 (4 * p + 20578) y = w16
  have f17 : e_fr (mPa p) w w16 := e_fr.up f11 hw16 (by first | exact ⟨rfl, ⟨(by omega), (by omega)⟩⟩ | (unfold mPa; omega))
  have hT18 : e_Has mTy w16 := e_Has.upr hT12 hw16 (nR_PART2 (p := p) (by omega)) (by omega)
  refine e_Ok.run (t' := (36, [(0, (1, 275)), (1, (0, p)), (2, (0, x)), (3, (0, y))], [(1, 275)], w16)) 1 rfl ?_
  refine e_Ok.getr (z := 276) rfl (el_o rfl) rfl rfl (e_uq hw16 (Or.inl (by first | decide | exact e_neo (by decide) | exact e_ne1 (by decide) | exact e_ne2 (by decide) | omega)) (e_uq hw10 (Or.inl (by first | decide | exact e_neo (by decide) | exact e_ne1 (by decide) | exact e_ne2 (by decide) | omega)) (e_uq hw4 (Or.inl (by first | decide | exact e_neo (by decide) | exact e_ne1 (by decide) | exact e_ne2 (by decide) | omega)) (e_Has.eq hT rfl)))) ⟨by decide, by decide⟩ ?_
  refine e_Ok.run (t' := (40, [(0, (1, 275)), (1, (0, p)), (2, (0, x)), (3, (0, y))], [(0, p), (1, 276)], w16)) 1 rfl ?_
  refine e_Ok.callS rfl (by first | exact e_dq hd rfl | omega) rfl rfl (c_392 (by omega)) (fun r19 w20 h21 => ?_)
  obtain ⟨rfl, rfl⟩ := h21
  show e_Ok 20 elay ecode eI (d + 1) 394 (43, [(0, (1, 275)), (1, (0, p)), (2, (0, x)), (3, (0, y))], [(0, 4 * p + 20576), (1, 276)], w16) _
  refine e_Ok.run (t' := (44, [(0, (1, 275)), (1, (0, p)), (2, (0, x)), (3, (0, y))], [(0, 3), (0, 4 * p + 20576), (1, 276)], w16)) 1 rfl ?_
  refine e_Ok.add (z := 4 * p + 20579) rfl (by first | with_reducible rfl | exact Int.add_comm _ _ | omega) (by omega) ?_
  refine e_Ok.run (t' := (46, [(0, (1, 275)), (1, (0, p)), (2, (0, x)), (3, (0, y))], [(0, 0), (0, 4 * p + 20579), (1, 276)], w16)) 1 rfl ?_
  refine e_Ok.ast rfl (el_o rfl) rfl rfl (by omega) ?_
  generalize hw22 : e_up w16 276 (4 * p + 20579) 0 = w22
  have f23 : e_fr (mPa p) w w22 := e_fr.up f17 hw22 (by first | exact ⟨rfl, ⟨(by omega), (by omega)⟩⟩ | (unfold mPa; omega))
  have hT24 : e_Has mTy w22 := e_Has.upr hT18 hw22 (nR_PART3 (p := p) (by omega)) (by omega)
  refine e_Ok.rets rfl rfl ?_
  exact ⟨rfl, f23, hT24, (e_uq hw22 (Or.inr (by first | decide | exact e_neo (by decide) | exact e_ne1 (by decide) | exact e_ne2 (by decide) | omega)) (e_uq hw16 (Or.inr (by first | decide | exact e_neo (by decide) | exact e_ne1 (by decide) | exact e_ne2 (by decide) | omega)) (e_uq hw10 (Or.inr (by first | decide | exact e_neo (by decide) | exact e_ne1 (by decide) | exact e_ne2 (by decide) | omega)) (e_ue hw4))))⟩
theorem c_324 {d : Nat} (hd : 21 ≤ d) {w : eW} {a : Int} : e_Ok 20 elay ecode eI d 324 (0, [(0, (0, a))], [], w) (fun r w' => ∃ z : Int, r = [(0, z)] ∧ w = w' ∧ ((z = 1 ∧ ((97 ≤ a ∧ a ≤ 122) ∨ (65 ≤ a ∧ a ≤ 90))) ∨ (z = 0 ∧ ¬ ((97 ≤ a ∧ a ≤ 122) ∨ (65 ≤ a ∧ a ≤ 90))))) := by
  obtain ⟨d, rfl⟩ : ∃ e, d = e + 1 := ⟨d - 1, by omega⟩
  refine e_Ok.run (t' := (8, [(0, (0, a))], [(4, 122), (4, 97), (4, a)], w)) 4 rfl ?_
  refine e_Ok.callS rfl (by first | exact e_dq hd rfl | omega) rfl rfl (c_266) (fun r1 w2 h3 => ?_)
  obtain ⟨z4, rfl, rfl, q5⟩ := h3
  obtain ⟨rfl, q5⟩ | ⟨rfl, q5⟩ := q5
  · show e_Ok 20 elay ecode eI (d + 1) 324 (11, [(0, (0, a))], [(0, 1)], w) _
    refine e_Ok.if1 rfl (fun h6 => ?_) (fun h6 => ?_)
    · replace h6 : (1 : Int) ≠ 0 := h6
      refine e_Ok.run (t' := (33, [(0, (0, a))], [(0, 1)], w)) 2 rfl ?_
      refine e_Ok.rets rfl rfl ?_
      exact ⟨_, rfl, rfl, Or.inl ⟨rfl, by omega⟩⟩
    · replace h6 : (1 : Int) = 0 := Classical.not_not.mp (show ¬ ((1 : Int) ≠ 0) from h6)
      exfalso; omega
  · show e_Ok 20 elay ecode eI (d + 1) 324 (11, [(0, (0, a))], [(0, 0)], w) _
    refine e_Ok.if1 rfl (fun h7 => ?_) (fun h7 => ?_)
    · replace h7 : (0 : Int) ≠ 0 := h7
      exfalso; omega
    · replace h7 : (0 : Int) = 0 := Classical.not_not.mp (show ¬ ((0 : Int) ≠ 0) from h7)
      refine e_Ok.run (t' := (22, [(0, (0, a))], [(4, 90), (4, 65), (4, a)], w)) 4 rfl ?_
      refine e_Ok.callS rfl (by first | exact e_dq hd rfl | omega) rfl rfl (c_266) (fun r8 w9 h10 => ?_)
      obtain ⟨z11, rfl, rfl, q12⟩ := h10
      obtain ⟨rfl, q12⟩ | ⟨rfl, q12⟩ := q12
      · show e_Ok 20 elay ecode eI (d + 1) 324 (25, [(0, (0, a))], [(0, 1)], w) _
        refine e_Ok.if1 rfl (fun h13 => ?_) (fun h13 => ?_)
        · replace h13 : (1 : Int) = 0 := h13
          exfalso; omega
        · replace h13 : (1 : Int) ≠ 0 := (show ¬ ((1 : Int) = 0) from h13)
          refine e_Ok.run (t' := (33, [(0, (0, a))], [(0, 1)], w)) 2 rfl ?_
          refine e_Ok.rets rfl rfl ?_
          exact ⟨_, rfl, rfl, Or.inl ⟨rfl, by omega⟩⟩
      · show e_Ok 20 elay ecode eI (d + 1) 324 (25, [(0, (0, a))], [(0, 0)], w) _
        refine e_Ok.if1 rfl (fun h14 => ?_) (fun h14 => ?_)
        · replace h14 : (0 : Int) = 0 := h14
          refine e_Ok.run (t' := (33, [(0, (0, a))], [(0, 0)], w)) 1 rfl ?_
          refine e_Ok.rets rfl rfl ?_
          exact ⟨_, rfl, rfl, Or.inr ⟨rfl, by omega⟩⟩
        · replace h14 : (0 : Int) ≠ 0 := (show ¬ ((0 : Int) = 0) from h14)
          exfalso; omega
theorem c_325 {d : Nat} (hd : 21 ≤ d) {w : eW} {a : Int} : e_Ok 20 elay ecode eI d 325 (0, [(0, (0, a))], [], w) (fun r w' => ∃ z : Int, r = [(0, z)] ∧ w = w' ∧ ((z = 1 ∧ (48 ≤ a ∧ a ≤ 57)) ∨ (z = 0 ∧ ¬ (48 ≤ a ∧ a ≤ 57)))) := by
  obtain ⟨d, rfl⟩ : ∃ e, d = e + 1 := ⟨d - 1, by omega⟩
  refine e_Ok.run (t' := (8, [(0, (0, a))], [(4, 57), (4, 48), (4, a)], w)) 4 rfl ?_
  refine e_Ok.callS rfl (by first | exact e_dq hd rfl | omega) rfl rfl (c_266) (fun r1 w2 h3 => ?_)
  obtain ⟨z4, rfl, rfl, q5⟩ := h3
  obtain ⟨rfl, q5⟩ | ⟨rfl, q5⟩ := q5
  · show e_Ok 20 elay ecode eI (d + 1) 325 (11, [(0, (0, a))], [(0, 1)], w) _
    refine e_Ok.rets rfl rfl ?_
    exact ⟨_, rfl, rfl, Or.inl ⟨rfl, by omega⟩⟩
  · show e_Ok 20 elay ecode eI (d + 1) 325 (11, [(0, (0, a))], [(0, 0)], w) _
    refine e_Ok.rets rfl rfl ?_
    exact ⟨_, rfl, rfl, Or.inr ⟨rfl, by omega⟩⟩
theorem c_424 {d : Nat} (hd : 21 ≤ d) {w : eW} {a : Int} : e_Ok 20 elay ecode eI d 424 (0, [(0, (1, 275)), (1, (0, a))], [], w) (fun r w' => ∃ z : Int, r = [(0, z)] ∧ w = w' ∧ ((z = 1 ∧ (0 ≤ a ∧ a ≤ 63)) ∨ (z = 0 ∧ ¬ (0 ≤ a ∧ a ≤ 63)))) := by
  obtain ⟨d, rfl⟩ : ∃ e, d = e + 1 := ⟨d - 1, by omega⟩
  refine e_Ok.run (t' := (6, [(0, (1, 275)), (1, (0, a))], [(4, 63), (4, 0), (4, a)], w)) 4 rfl ?_
  refine e_Ok.callS rfl (by first | exact e_dq hd rfl | omega) rfl rfl (c_266) (fun r1 w2 h3 => ?_)
  obtain ⟨z4, rfl, rfl, q5⟩ := h3
  obtain ⟨rfl, q5⟩ | ⟨rfl, q5⟩ := q5
  · show e_Ok 20 elay ecode eI (d + 1) 424 (9, [(0, (1, 275)), (1, (0, a))], [(0, 1)], w) _
    refine e_Ok.rets rfl rfl ?_
    exact ⟨_, rfl, rfl, Or.inl ⟨rfl, by omega⟩⟩
  · show e_Ok 20 elay ecode eI (d + 1) 424 (9, [(0, (1, 275)), (1, (0, a))], [(0, 0)], w) _
    refine e_Ok.rets rfl rfl ?_
    exact ⟨_, rfl, rfl, Or.inr ⟨rfl, by omega⟩⟩
theorem c_387 {d : Nat} {w : eW} {s g : Int} (hs : -2000 ≤ s ∧ s ≤ 2000) (hg : 0 ≤ g ∧ g ≤ 2000) : e_Ok 20 elay ecode eI d 387 (0, [(0, (0, s)), (1, (0, g))], [], w) (fun r w' => ∃ z : Int, r = [(0, z)] ∧ w = w' ∧ ((g < s ∧ z = s - g) ∨ (s < -g ∧ z = s + g) ∨ (-g ≤ s ∧ s ≤ g ∧ z = 0))) := by
  refine e_Ok.run (t' := (2, [(0, (0, s)), (1, (0, g))], [(0, g), (0, s)], w)) 2 rfl ?_
  refine e_Ok.if2 rfl (fun h1 => ?_) (fun h1 => ?_)
  · replace h1 : (s : Int) ≤ g := h1
    refine e_Ok.run (t' := (13, [(0, (0, s)), (1, (0, g))], [(0, g), (0, s)], w)) 2 rfl ?_
    refine e_Ok.neg (z := -g) rfl (by omega) (by omega) ?_
    refine e_Ok.if2 rfl (fun h2 => ?_) (fun h2 => ?_)
    · replace h2 : (s : Int) ≥ -g := h2
      refine e_Ok.run (t' := (24, [(0, (0, s)), (1, (0, g))], [(0, 0)], w)) 1 rfl ?_
      refine e_Ok.rets rfl rfl ?_
      exact ⟨_, rfl, rfl, by omega⟩
    · replace h2 : (s : Int) < -g := Int.not_le.mp (show ¬ ((s : Int) ≥ -g) from h2)
      refine e_Ok.run (t' := (19, [(0, (0, s)), (1, (0, g))], [(0, g), (0, s)], w)) 2 rfl ?_
      refine e_Ok.add (z := s + g) rfl (by first | with_reducible rfl | exact Int.add_comm _ _ | omega) (by omega) ?_
      refine e_Ok.run (t' := (24, [(0, (0, s)), (1, (0, g))], [(0, s + g)], w)) 1 rfl ?_
      refine e_Ok.rets rfl rfl ?_
      exact ⟨_, rfl, rfl, by omega⟩
  · replace h1 : (s : Int) > g := Int.not_le.mp (show ¬ ((s : Int) ≤ g) from h1)
    refine e_Ok.run (t' := (7, [(0, (0, s)), (1, (0, g))], [(0, g), (0, s)], w)) 2 rfl ?_
    refine e_Ok.sub' (z := s - g) rfl (by first | with_reducible rfl | exact Int.add_comm _ _ | omega) (by omega) ?_
    refine e_Ok.run (t' := (24, [(0, (0, s)), (1, (0, g))], [(0, s - g)], w)) 1 rfl ?_
    refine e_Ok.rets rfl rfl ?_
    exact ⟨_, rfl, rfl, by omega⟩
end
end
-- part 56
section
noncomputable section
def mLk (c k : Int) : Prop := c = 276 ∧ 20868 ≤ k ∧ k ≤ 20875
theorem no_56_0 {k : Int} : ¬ mTr 275 k := by unfold mTr; omega
theorem no_56_1 {k : Int} : ¬ mBM 275 k := by unfold mBM; omega
theorem no_56_2 {b : Int} (hb : 0 ≤ b ∧ b ≤ 3) : ¬ mBM 276 (36 * b + 16) := by unfold mBM; omega
theorem no_56_3 {b : Int} {j : Int} (hb : 0 ≤ b ∧ b ≤ 3) (hj : 0 ≤ j ∧ j ≤ 5) : ¬ mBM 276 (36 * b + j + 38) := by unfold mBM; omega
theorem no_56_4 : ¬ mBM 276 1 := by unfold mBM; omega
theorem no_56_5 : ¬ mE 276 1 := by unfold mE; omega
theorem no_56_6 {b : Int} (hb : 0 ≤ b ∧ b ≤ 3) : ¬ mE 276 (36 * b + 16) := by unfold mE; omega
theorem no_56_7 {b : Int} (hb : 0 ≤ b ∧ b ≤ 3) : ¬ mE 276 (36 * b + 22) := by unfold mE; omega
theorem su_56_9 {c k : Int} (q : mE c k) : mTr c k := by
  unfold mE at q
  rcases q with ⟨q, (q | q)⟩
  · exact ⟨(by omega), Or.inl ⟨(by omega), (by omega)⟩⟩
  · exact ⟨(by omega), Or.inr (Or.inl (by omega))⟩
theorem su_56_10 {c k : Int} (q : mBM c k) : mTr c k := by
  unfold mBM at q
  rcases q with ⟨q, (q | q | ⟨q, (⟨q, (q | q)⟩)⟩ | ⟨q, ⟨q, q⟩⟩)⟩
  · exact ⟨(by omega), Or.inl ⟨(by omega), (by omega)⟩⟩
  · exact ⟨(by omega), Or.inr (Or.inl (by omega))⟩
  · exact ⟨(by omega), Or.inr (Or.inr (Or.inl ⟨(by omega), ⟨(by omega), Or.inl (by omega)⟩⟩))⟩
  · unfold mTr; omega
  · exact ⟨(by omega), Or.inr (Or.inr (Or.inr ⟨(by omega), ⟨(by omega), (by omega)⟩⟩))⟩
set_option maxHeartbeats 4000000 in
theorem c_385 {d : Nat} (hd : 22 ≤ d) {w : eW} (hT : e_Has mTy w) {a n : Int} (ha : 0 ≤ a ∧ a ≤ 4) (hn : -2147483648 ≤ n ∧ n ≤ 2147483647) (hE : w 276 5 ≤ 2147483600) : e_Ok 20 elay ecode eI d 385 (0, [(0, (1, 275)), (1, (0, a)), (2, (0, n))], [], w) (fun r w' => r = [] ∧ e_fr mTr w w' ∧ e_Has mTy w' ∧ (w 276 5 ≤ w' 276 5 ∧ w' 276 5 ≤ w 276 5 + 5) ∧ w' 276 1 = 0 ∧ (∀ b, 0 ≤ b → b < w 275 10 → w' 276 (36 * b + 16) = 0 ∧ ∀ j, 0 ≤ j → j ≤ 5 → w' 276 (36 * b + j + 38) = 0) ∧ (∀ b, 0 ≤ b → b < w 275 10 → (w 276 (36 * b + 16) = 1 ∨ w 276 (36 * b + 22) = 0) → w' 276 (36 * b + 22) = 0) ∧ (∀ b, w 275 10 ≤ b → b ≤ 3 → w' 276 (36 * b + 16) = w 276 (36 * b + 16) ∧ w' 276 (36 * b + 22) = w 276 (36 * b + 22))) := by
  obtain ⟨d, rfl⟩ : ∃ e, d = e + 1 := ⟨d - 1, by omega⟩
  have har := e_Has.get hT (c := 275) (k := 10) (lo := 0) (hi := 4) rfl (by decide)
  refine e_Ok.run (t' := (1, [(0, (1, 275)), (1, (0, a)), (2, (0, n))], [(1, 275)], w)) 1 rfl ?_
  refine e_Ok.getr (z := 276) rfl (el_o rfl) rfl rfl (e_Has.eq hT rfl) ⟨by decide, by decide⟩ ?_
  refine e_Ok.run (t' := (6, [(0, (1, 275)), (1, (0, a)), (2, (0, n))], [(0, 0), (0, 1), (1, 276)], w)) 2 rfl ?_
  refine e_Ok.ast rfl (el_o rfl) rfl rfl (by omega) ?_
  generalize hw1 : e_up w 276 1 0 = w1
  have f2 : e_fr mTr w w1 := e_fr.up (e_fr.refl w) hw1 (by first | exact ⟨rfl, Or.inl ⟨(by decide), (by decide)⟩⟩ | (unfold mTr; omega))
  have hT3 : e_Has mTy w1 := e_Has.upr hT hw1 rfl (by omega)
  refine e_Ok.run (t' := (8, [(0, (1, 275)), (1, (0, a)), (2, (0, n))], [(1, 275)], w1)) 1 rfl ?_
  refine e_Ok.getr (z := 276) rfl (el_o rfl) rfl rfl (e_uq hw1 (Or.inl (by first | decide | exact e_neo (by decide) | exact e_ne1 (by decide) | exact e_ne2 (by decide) | omega)) (e_Has.eq hT rfl)) ⟨by decide, by decide⟩ ?_
  refine e_Ok.run (t' := (13, [(0, (1, 275)), (1, (0, a)), (2, (0, n))], [(0, a), (0, 2), (1, 276)], w1)) 2 rfl ?_
  refine e_Ok.ast rfl (el_o rfl) rfl rfl (by omega) ?_
  generalize hw4 : e_up w1 276 2 a = w4
  have f5 : e_fr mTr w w4 := e_fr.up f2 hw4 (by first | exact ⟨rfl, Or.inl ⟨(by decide), (by decide)⟩⟩ | (unfold mTr; omega))
  have hT6 : e_Has mTy w4 := e_Has.upr hT3 hw4 rfl (by omega)
  refine e_Ok.run (t' := (15, [(0, (1, 275)), (1, (0, a)), (2, (0, n))], [(1, 275)], w4)) 1 rfl ?_
  refine e_Ok.getr (z := 276) rfl (el_o rfl) rfl rfl (e_uq hw4 (Or.inl (by first | decide | exact e_neo (by decide) | exact e_ne1 (by decide) | exact e_ne2 (by decide) | omega)) (e_uq hw1 (Or.inl (by first | decide | exact e_neo (by decide) | exact e_ne1 (by decide) | exact e_ne2 (by decide) | omega)) (e_Has.eq hT rfl))) ⟨by decide, by decide⟩ ?_
  refine e_Ok.run (t' := (20, [(0, (1, 275)), (1, (0, a)), (2, (0, n))], [(0, n), (0, 3), (1, 276)], w4)) 2 rfl ?_
  refine e_Ok.ast rfl (el_o rfl) rfl rfl (by omega) ?_
  generalize hw7 : e_up w4 276 3 n = w7
  have f8 : e_fr mTr w w7 := e_fr.up f5 hw7 (by first | exact ⟨rfl, Or.inl ⟨(by decide), (by decide)⟩⟩ | (unfold mTr; omega))
  have hT9 : e_Has mTy w7 := e_Has.upr hT6 hw7 rfl (by omega)
  refine e_Ok.run (t' := (22, [(0, (1, 275)), (1, (0, a)), (2, (0, n))], [(1, 275)], w7)) 1 rfl ?_
  refine e_Ok.getr (z := 276) rfl (el_o rfl) rfl rfl (e_uq hw7 (Or.inl (by first | decide | exact e_neo (by decide) | exact e_ne1 (by decide) | exact e_ne2 (by decide) | omega)) (e_uq hw4 (Or.inl (by first | decide | exact e_neo (by decide) | exact e_ne1 (by decide) | exact e_ne2 (by decide) | omega)) (e_uq hw1 (Or.inl (by first | decide | exact e_neo (by decide) | exact e_ne1 (by decide) | exact e_ne2 (by decide) | omega)) (e_Has.eq hT rfl)))) ⟨by decide, by decide⟩ ?_
  refine e_Ok.run (t' := (27, [(0, (1, 275)), (1, (0, a)), (2, (0, n))], [(1, 275), (0, 4), (1, 276)], w7)) 2 rfl ?_
  refine e_Ok.getr (z := 276) rfl (el_o rfl) rfl rfl (e_uq hw7 (Or.inl (by first | decide | exact e_neo (by decide) | exact e_ne1 (by decide) | exact e_ne2 (by decide) | omega)) (e_uq hw4 (Or.inl (by first | decide | exact e_neo (by decide) | exact e_ne1 (by decide) | exact e_ne2 (by decide) | omega)) (e_uq hw1 (Or.inl (by first | decide | exact e_neo (by decide) | exact e_ne1 (by decide) | exact e_ne2 (by decide) | omega)) (e_Has.eq hT rfl)))) ⟨by decide, by decide⟩ ?_
  refine e_Ok.run (t' := (31, [(0, (1, 275)), (1, (0, a)), (2, (0, n))], [(0, 0), (1, 276), (0, 4), (1, 276)], w7)) 1 rfl ?_
  have h10 := (e_Has.get hT (c := 276) (k := 0) (lo := 0) (hi := 6000) rfl (by decide))
  refine e_Ok.ald (z := w 276 0) rfl (el_o rfl) rfl (by omega) (e_uq hw7 (Or.inr (by first | decide | exact e_neo (by decide) | exact e_ne1 (by decide) | exact e_ne2 (by decide) | omega)) (e_uq hw4 (Or.inr (by first | decide | exact e_neo (by decide) | exact e_ne1 (by decide) | exact e_ne2 (by decide) | omega)) (e_uq hw1 (Or.inr (by first | decide | exact e_neo (by decide) | exact e_ne1 (by decide) | exact e_ne2 (by decide) | omega)) rfl))) (by first | exact e_bq h10 (by decide) (by decide) | omega) ?_
  refine e_Ok.ast rfl (el_o rfl) rfl rfl (by omega) ?_
  generalize hw11 : e_up w7 276 4 (w 276 0) = w11
  have f12 : e_fr mTr w w11 := e_fr.up f8 hw11 (by first | exact ⟨rfl, Or.inl ⟨(by decide), (by decide)⟩⟩ | (unfold mTr; omega))
  have hT13 : e_Has mTy w11 := e_Has.upr hT9 hw11 rfl (by omega)
  refine e_Ok.run (t' := (37, [(0, (1, 275)), (1, (0, a)), (2, (0, n))], [(0, n), (0, a), (0, 2), (1, 275)], w11)) 4 rfl ?_
  have e17 : w11 276 5 = w 276 5 := (e_uq hw11 (Or.inr (by first | decide | exact e_neo (by decide) | exact e_ne1 (by decide) | exact e_ne2 (by decide) | omega)) (e_uq hw7 (Or.inr (by first | decide | exact e_neo (by decide) | exact e_ne1 (by decide) | exact e_ne2 (by decide) | omega)) (e_uq hw4 (Or.inr (by first | decide | exact e_neo (by decide) | exact e_ne1 (by decide) | exact e_ne2 (by decide) | omega)) (e_uq hw1 (Or.inr (by first | decide | exact e_neo (by decide) | exact e_ne1 (by decide) | exact e_ne2 (by decide) | omega)) rfl))))
  refine e_Ok.callV rfl (by first | exact e_dq hd rfl | omega) rfl rfl rfl rfl (c_319 hT13 (by omega) (by omega) (by omega) (by omega)) (fun r14 w15 h16 => ?_)
  obtain ⟨rfl, q18, q18T, q18n⟩ := h16
  have f19 : e_fr mTr w w15 := e_fr.trans f12 (e_fr.mono q18 (fun c k q => su_56_9 q))
  show e_Ok 20 elay ecode eI (d + 1) 385 (40, [(0, (1, 275)), (1, (0, a)), (2, (0, n))], [], w15) _
  refine e_Ok.run (t' := (42, [(3, (0, 0)), (0, (1, 275)), (1, (0, a)), (2, (0, n))], [], w15)) 2 rfl ?_
  have hL20 : ∀ (nn : Nat) (y3 : Int) (v1 : eW), e_fr mTr w v1 ∧ e_Has mTy v1 ∧ (0 ≤ y3 ∧ y3 ≤ 4 ∧ y3 ≤ w 275 10) ∧ (∀ b, 0 ≤ b → b < y3 → v1 276 (36 * b + 16) = 0 ∧ ∀ j, 0 ≤ j → j ≤ 5 → v1 276 (36 * b + j + 38) = 0) ∧ (w 276 5 ≤ v1 276 5 ∧ v1 276 5 ≤ w 276 5 + 1 + y3) ∧ v1 276 1 = 0 ∧ (∀ b, 0 ≤ b → b < y3 → (w 276 (36 * b + 16) = 1 ∨ w 276 (36 * b + 22) = 0) → v1 276 (36 * b + 22) = 0) ∧ (∀ b, y3 ≤ b → b ≤ 3 → v1 276 (36 * b + 16) = w 276 (36 * b + 16) ∧ v1 276 (36 * b + 22) = w 276 (36 * b + 22)) → 5 - y3 < nn → e_Ok 20 elay ecode eI (d + 1) 385 (42, [(0, (1, 275)), (3, (0, y3))], [], v1) (fun r w' => r = [] ∧ e_fr mTr w w' ∧ e_Has mTy w' ∧ (w 276 5 ≤ w' 276 5 ∧ w' 276 5 ≤ w 276 5 + 5) ∧ w' 276 1 = 0 ∧ (∀ b, 0 ≤ b → b < w 275 10 → w' 276 (36 * b + 16) = 0 ∧ ∀ j, 0 ≤ j → j ≤ 5 → w' 276 (36 * b + j + 38) = 0) ∧ (∀ b, 0 ≤ b → b < w 275 10 → (w 276 (36 * b + 16) = 1 ∨ w 276 (36 * b + 22) = 0) → w' 276 (36 * b + 22) = 0) ∧ (∀ b, w 275 10 ≤ b → b ≤ 3 → w' 276 (36 * b + 16) = w 276 (36 * b + 16) ∧ w' 276 (36 * b + 22) = w 276 (36 * b + 22))) := by
    intro nn
    induction nn with
    | zero => intro y3 v1 hj hm; obtain ⟨j22, j23, j24, j25, j26, j27, j28, j29⟩ := hj; exfalso; omega
    | succ nn ih21 =>
      intro y3 v1 hj hm
      obtain ⟨j22, j23, j24, j25, j26, j27, j28, j29⟩ := hj
      refine e_Ok.run (t' := (44, [(0, (1, 275)), (3, (0, y3))], [(1, 275), (0, y3)], v1)) 2 rfl ?_
      refine e_Ok.getf (z := w 275 10) rfl (el_o rfl) rfl rfl ((j22 275 10 no_56_0).trans rfl) (by omega) ?_
      refine e_Ok.if2 rfl (fun h30 => ?_) (fun h30 => ?_)
      · replace h30 : (y3 : Int) ≥ w 275 10 := h30
        refine e_Ok.rets rfl rfl ?_
        exact ⟨rfl, j22, j23, by omega, j27, fun b g1 g2 => j25 b g1 (by omega), fun b g1 g2 => j28 b g1 (by omega), fun b g1 g2 => j29 b (by omega) g2⟩
      · replace h30 : (y3 : Int) < w 275 10 := Int.not_le.mp (show ¬ ((y3 : Int) ≥ w 275 10) from h30)
        refine e_Ok.run (t' := (51, [(0, (1, 275)), (3, (0, y3))], [(0, y3)], v1)) 1 rfl ?_
        refine e_Ok.callS rfl (by first | exact e_dq hd rfl | omega) rfl rfl (c_268 (by omega)) (fun r31 w32 h33 => ?_)
        obtain ⟨rfl, rfl⟩ := h33
        show e_Ok 20 elay ecode eI (d + 1) 385 (54, [(0, (1, 275)), (3, (0, y3))], [(0, 36 * y3 + 16)], v1) _
        refine e_Ok.run (t' := (58, [(4, (0, 36 * y3 + 16)), (0, (1, 275)), (3, (0, y3))], [(0, y3), (1, 275)], v1)) 3 rfl ?_
        refine e_Ok.callV rfl (by first | exact e_dq hd rfl | omega) rfl rfl rfl rfl (c_383 (by first | exact e_dq hd rfl | omega) j23 (by omega) (by omega)) (fun r34 w35 h36 => ?_)
        obtain ⟨rfl, q37, q37T, q37n, q37m, q37a, q37b⟩ := h36
        have f38 : e_fr mTr w w35 := e_fr.trans j22 (e_fr.mono q37 (fun c k q => su_56_10 q))
        show e_Ok 20 elay ecode eI (d + 1) 385 (61, [(4, (0, 36 * y3 + 16)), (0, (1, 275)), (3, (0, y3))], [], w35) _
        refine e_Ok.run (t' := (62, [(4, (0, 36 * y3 + 16)), (0, (1, 275)), (3, (0, y3))], [(1, 275)], w35)) 1 rfl ?_
        refine e_Ok.getr (z := 276) rfl (el_o rfl) rfl rfl ((q37 275 0 no_56_1).trans ((j22 275 0 no_56_0).trans (e_Has.eq hT rfl))) ⟨by decide, by decide⟩ ?_
        refine e_Ok.run (t' := (68, [(4, (0, 36 * y3 + 16)), (0, (1, 275)), (3, (0, y3))], [(0, 0), (0, 36 * y3 + 16), (1, 276)], w35)) 2 rfl ?_
        refine e_Ok.add (z := 36 * y3 + 16) rfl (by first | with_reducible rfl | exact Int.add_comm _ _ | omega) (by omega) ?_
        refine e_Ok.run (t' := (70, [(4, (0, 36 * y3 + 16)), (0, (1, 275)), (3, (0, y3))], [(0, 0), (0, 36 * y3 + 16), (1, 276)], w35)) 1 rfl ?_
        refine e_Ok.ast rfl (el_o rfl) rfl rfl (by omega) ?_
        generalize hw39 : e_up w35 276 (36 * y3 + 16) 0 = w39
        have f40 : e_fr mTr w w39 := e_fr.up f38 hw39 (by unfold mTr; omega)
        have hT41 : e_Has mTy w39 := e_Has.upr q37T hw39 (nR_STATE (a := y3) (by omega)) (by omega)
        refine e_Ok.run (t' := (74, [(5, (0, 0)), (4, (0, 36 * y3 + 16)), (0, (1, 275)), (3, (0, y3))], [], w39)) 2 rfl ?_
        have hL42 : ∀ (nn : Nat) (y5 : Int) (v2 : eW), e_fr mTr w v2 ∧ e_Has mTy v2 ∧ (0 ≤ y5 ∧ y5 ≤ 6) ∧ (∀ b, 0 ≤ b → b < y3 → v2 276 (36 * b + 16) = 0 ∧ ∀ j, 0 ≤ j → j ≤ 5 → v2 276 (36 * b + j + 38) = 0) ∧ v2 276 (36 * y3 + 16) = 0 ∧ (∀ j, 0 ≤ j → j < y5 → v2 276 (36 * y3 + j + 38) = 0) ∧ (w 276 5 ≤ v2 276 5 ∧ v2 276 5 ≤ w 276 5 + 2 + y3) ∧ v2 276 1 = 0 ∧ (∀ b, 0 ≤ b → b < y3 + 1 → (w 276 (36 * b + 16) = 1 ∨ w 276 (36 * b + 22) = 0) → v2 276 (36 * b + 22) = 0) ∧ (∀ b, y3 + 1 ≤ b → b ≤ 3 → v2 276 (36 * b + 16) = w 276 (36 * b + 16) ∧ v2 276 (36 * b + 22) = w 276 (36 * b + 22)) → 6 - y5 < nn → e_Ok 20 elay ecode eI (d + 1) 385 (74, [(0, (1, 275)), (3, (0, y3)), (4, (0, 36 * y3 + 16)), (5, (0, y5))], [], v2) (fun r w' => r = [] ∧ e_fr mTr w w' ∧ e_Has mTy w' ∧ (w 276 5 ≤ w' 276 5 ∧ w' 276 5 ≤ w 276 5 + 5) ∧ w' 276 1 = 0 ∧ (∀ b, 0 ≤ b → b < w 275 10 → w' 276 (36 * b + 16) = 0 ∧ ∀ j, 0 ≤ j → j ≤ 5 → w' 276 (36 * b + j + 38) = 0) ∧ (∀ b, 0 ≤ b → b < w 275 10 → (w 276 (36 * b + 16) = 1 ∨ w 276 (36 * b + 22) = 0) → w' 276 (36 * b + 22) = 0) ∧ (∀ b, w 275 10 ≤ b → b ≤ 3 → w' 276 (36 * b + 16) = w 276 (36 * b + 16) ∧ w' 276 (36 * b + 22) = w 276 (36 * b + 22))) := by
          intro nn
          induction nn with
          | zero => intro y5 v2 hj hm; obtain ⟨j44, j45, j46, j47, j48, j49, j50, j51, j52, j53⟩ := hj; exfalso; omega
          | succ nn ih43 =>
            intro y5 v2 hj hm
            obtain ⟨j44, j45, j46, j47, j48, j49, j50, j51, j52, j53⟩ := hj
            refine e_Ok.run (t' := (78, [(0, (1, 275)), (3, (0, y3)), (4, (0, 36 * y3 + 16)), (5, (0, y5))], [(0, 6), (0, y5)], v2)) 2 rfl ?_
            refine e_Ok.if2 rfl (fun h54 => ?_) (fun h54 => ?_)
            · replace h54 : (y5 : Int) ≥ 6 := h54
              refine e_Ok.inc (z := y3 + 1) rfl rfl (by first | with_reducible rfl | omega) (by omega) ?_
              show e_Ok 20 elay ecode eI (d + 1) 385 (104, [(3, (0, y3 + 1)), (0, (1, 275)), (4, (0, 36 * y3 + 16)), (5, (0, y5))], [], v2) _
              refine e_Ok.run (t' := (42, [(3, (0, y3 + 1)), (0, (1, 275)), (4, (0, 36 * y3 + 16)), (5, (0, y5))], [], v2)) 1 rfl ?_
              refine e_Ok.sub eAlk (e_sub_of rfl ?_) (ih21 (y3 + 1) v2 ⟨j44, j45, by omega, (fun b g1 g2 => Decidable.byCases (p := b = y3) (fun e => by subst e; exact ⟨j48, fun j g3 g4 => j49 j g3 (by omega)⟩) (fun e => j47 b g1 (by omega))), by omega, j51, j52, j53⟩ (by omega))
              exact ⟨rfl, rfl, trivial⟩
            · replace h54 : (y5 : Int) < 6 := Int.not_le.mp (show ¬ ((y5 : Int) ≥ 6) from h54)
              refine e_Ok.run (t' := (82, [(0, (1, 275)), (3, (0, y3)), (4, (0, 36 * y3 + 16)), (5, (0, y5))], [(1, 275)], v2)) 1 rfl ?_
              refine e_Ok.getr (z := 276) rfl (el_o rfl) rfl rfl ((j44 275 0 no_56_0).trans (e_Has.eq hT rfl)) ⟨by decide, by decide⟩ ?_
              refine e_Ok.run (t' := (89, [(0, (1, 275)), (3, (0, y3)), (4, (0, 36 * y3 + 16)), (5, (0, y5))], [(0, 22), (0, 36 * y3 + 16), (1, 276)], v2)) 2 rfl ?_
              refine e_Ok.add (z := 36 * y3 + 38) rfl (by first | with_reducible rfl | exact Int.add_comm _ _ | omega) (by omega) ?_
              refine e_Ok.run (t' := (92, [(0, (1, 275)), (3, (0, y3)), (4, (0, 36 * y3 + 16)), (5, (0, y5))], [(0, y5), (0, 36 * y3 + 38), (1, 276)], v2)) 1 rfl ?_
              refine e_Ok.add (z := 36 * y3 + y5 + 38) rfl (by first | with_reducible rfl | exact Int.add_comm _ _ | omega) (by omega) ?_
              refine e_Ok.run (t' := (94, [(0, (1, 275)), (3, (0, y3)), (4, (0, 36 * y3 + 16)), (5, (0, y5))], [(0, 0), (0, 36 * y3 + y5 + 38), (1, 276)], v2)) 1 rfl ?_
              refine e_Ok.ast rfl (el_o rfl) rfl rfl (by omega) ?_
              generalize hw55 : e_up v2 276 (36 * y3 + y5 + 38) 0 = w55
              have f56 : e_fr mTr w w55 := e_fr.up j44 hw55 (by unfold mTr; omega)
              have hT57 : e_Has mTy w55 := e_Has.upr j45 hw55 (nR_STEP (a := y3) (j := y5) (by omega) (by omega)) (by omega)
              refine e_Ok.inc (z := y5 + 1) rfl rfl (by first | with_reducible rfl | omega) (by omega) ?_
              show e_Ok 20 elay ecode eI (d + 1) 385 (98, [(5, (0, y5 + 1)), (0, (1, 275)), (3, (0, y3)), (4, (0, 36 * y3 + 16))], [], w55) _
              refine e_Ok.run (t' := (74, [(5, (0, y5 + 1)), (0, (1, 275)), (3, (0, y3)), (4, (0, 36 * y3 + 16))], [], w55)) 1 rfl ?_
              refine e_Ok.sub eAlk (e_sub_of rfl ?_) (ih43 (y5 + 1) w55 ⟨f56, hT57, by omega, (fun b g1 g2 => ⟨Eq.trans (e_uq hw55 (Or.inr (by first | decide | exact e_neo (by decide) | exact e_ne1 (by decide) | exact e_ne2 (by decide) | omega)) rfl) (j47 b g1 g2).1, fun j g3 g4 => Eq.trans (e_uq hw55 (Or.inr (by first | decide | exact e_neo (by decide) | exact e_ne1 (by decide) | exact e_ne2 (by decide) | omega)) rfl) ((j47 b g1 g2).2 j g3 g4)⟩), (Eq.trans (e_uq hw55 (Or.inr (by first | decide | exact e_neo (by decide) | exact e_ne1 (by decide) | exact e_ne2 (by decide) | omega)) rfl) j48), (fun j g3 g4 => Decidable.byCases (p := j = y5) (fun e => by rw [e, ← hw55]; exact e_up_eq _ _ _ _) (fun e => Eq.trans (e_uq hw55 (Or.inr (by first | decide | exact e_neo (by decide) | exact e_ne1 (by decide) | exact e_ne2 (by decide) | omega)) rfl) (j49 j g3 (by omega)))), by have := (show w55 276 5 = v2 276 5 from (e_uq hw55 (Or.inr (by first | decide | exact e_neo (by decide) | exact e_ne1 (by decide) | exact e_ne2 (by decide) | omega)) rfl)); omega, (Eq.trans (e_uq hw55 (Or.inr (by first | decide | exact e_neo (by decide) | exact e_ne1 (by decide) | exact e_ne2 (by decide) | omega)) rfl) j51), (fun b g1 g2 g3 => Eq.trans (e_uq hw55 (Or.inr (by first | decide | exact e_neo (by decide) | exact e_ne1 (by decide) | exact e_ne2 (by decide) | omega)) rfl) (j52 b g1 g2 g3)), (fun b g1 g2 => ⟨Eq.trans (e_uq hw55 (Or.inr (by first | decide | exact e_neo (by decide) | exact e_ne1 (by decide) | exact e_ne2 (by decide) | omega)) rfl) (j53 b g1 g2).1, Eq.trans (e_uq hw55 (Or.inr (by first | decide | exact e_neo (by decide) | exact e_ne1 (by decide) | exact e_ne2 (by decide) | omega)) rfl) (j53 b g1 g2).2⟩)⟩ (by omega))
              exact ⟨rfl, rfl, rfl, rfl, trivial⟩
        refine e_Ok.sub eAlk (e_sub_of rfl ?_) (hL42 (6 + 1 : Int).toNat 0 w39 ⟨f40, hT41, by omega, (fun b g1 g2 => ⟨Eq.trans (e_uq hw39 (Or.inr (by first | decide | exact e_neo (by decide) | exact e_ne1 (by decide) | exact e_ne2 (by decide) | omega)) ((q37 276 (36 * b + 16) (by first | exact no_56_2 (by omega) | (unfold mBM; omega))).trans rfl)) (j25 b g1 g2).1, fun j g3 g4 => Eq.trans (e_uq hw39 (Or.inr (by first | decide | exact e_neo (by decide) | exact e_ne1 (by decide) | exact e_ne2 (by decide) | omega)) ((q37 276 (36 * b + j + 38) (by first | exact no_56_3 (by omega) (by omega) | (unfold mBM; omega))).trans rfl)) ((j25 b g1 g2).2 j g3 g4)⟩), (e_ue hw39), (fun j g3 g4 => by omega), by have := (show w39 276 5 = w35 276 5 from (e_uq hw39 (Or.inr (by first | decide | exact e_neo (by decide) | exact e_ne1 (by decide) | exact e_ne2 (by decide) | omega)) rfl)); omega, (Eq.trans (e_uq hw39 (Or.inr (by first | decide | exact e_neo (by decide) | exact e_ne1 (by decide) | exact e_ne2 (by decide) | omega)) ((q37 276 1 no_56_4).trans rfl)) j27), (fun b g1 g2 g3 => Eq.trans (e_uq hw39 (Or.inr (by first | decide | exact e_neo (by decide) | exact e_ne1 (by decide) | exact e_ne2 (by decide) | omega)) rfl) (Decidable.byCases (p := b = y3) (fun e => by have e1 := q37a; have e2 := q37b b (by omega) (by omega); have e3 := j29 b (by omega) (by omega); rw [← e] at e1 e2; omega) (fun e => ((q37b b (by omega) (by omega) (Or.inr e)).trans (j28 b g1 (by omega) g3))))), (fun b g1 g2 => ⟨Eq.trans (e_uq hw39 (Or.inr (by first | decide | exact e_neo (by decide) | exact e_ne1 (by decide) | exact e_ne2 (by decide) | omega)) ((q37 276 (36 * b + 16) (by first | exact no_56_2 (by omega) | (unfold mBM; omega))).trans rfl)) (j29 b (by omega) g2).1, Eq.trans (e_uq hw39 (Or.inr (by first | decide | exact e_neo (by decide) | exact e_ne1 (by decide) | exact e_ne2 (by decide) | omega)) rfl) ((q37b b (by omega) g2 (Or.inr (by omega))).trans (j29 b (by omega) g2).2)⟩)⟩ (by omega))
        exact ⟨rfl, rfl, rfl, rfl, trivial⟩
  refine e_Ok.sub eAlk (e_sub_of rfl ?_) (hL20 (5 + 1 : Int).toNat 0 w15 ⟨f19, q18T, by omega, (fun b g1 g2 => by omega), by have := (show w15 276 5 = w15 276 5 from rfl); omega, ((q18 276 1 no_56_5).trans (e_uq hw11 (Or.inr (by first | decide | exact e_neo (by decide) | exact e_ne1 (by decide) | exact e_ne2 (by decide) | omega)) (e_uq hw7 (Or.inr (by first | decide | exact e_neo (by decide) | exact e_ne1 (by decide) | exact e_ne2 (by decide) | omega)) (e_uq hw4 (Or.inr (by first | decide | exact e_neo (by decide) | exact e_ne1 (by decide) | exact e_ne2 (by decide) | omega)) (e_ue hw1))))), (fun b g1 g2 => by omega), (fun b g1 g2 => ⟨((q18 276 (36 * b + 16) (by first | exact no_56_6 (by omega) | (unfold mE; omega))).trans (e_uq hw11 (Or.inr (by first | decide | exact e_neo (by decide) | exact e_ne1 (by decide) | exact e_ne2 (by decide) | omega)) (e_uq hw7 (Or.inr (by first | decide | exact e_neo (by decide) | exact e_ne1 (by decide) | exact e_ne2 (by decide) | omega)) (e_uq hw4 (Or.inr (by first | decide | exact e_neo (by decide) | exact e_ne1 (by decide) | exact e_ne2 (by decide) | omega)) (e_uq hw1 (Or.inr (by first | decide | exact e_neo (by decide) | exact e_ne1 (by decide) | exact e_ne2 (by decide) | omega)) rfl))))), ((q18 276 (36 * b + 22) (by first | exact no_56_7 (by omega) | (unfold mE; omega))).trans (e_uq hw11 (Or.inr (by first | decide | exact e_neo (by decide) | exact e_ne1 (by decide) | exact e_ne2 (by decide) | omega)) (e_uq hw7 (Or.inr (by first | decide | exact e_neo (by decide) | exact e_ne1 (by decide) | exact e_ne2 (by decide) | omega)) (e_uq hw4 (Or.inr (by first | decide | exact e_neo (by decide) | exact e_ne1 (by decide) | exact e_ne2 (by decide) | omega)) (e_uq hw1 (Or.inr (by first | decide | exact e_neo (by decide) | exact e_ne1 (by decide) | exact e_ne2 (by decide) | omega)) rfl)))))⟩)⟩ (by omega))
  exact ⟨rfl, rfl, trivial⟩
theorem c_360 {d : Nat} (hd : 21 ≤ d) {w : eW} (hT : e_Has mTy w) {l : Int} (hl : 0 ≤ l ∧ l ≤ 7) : e_Ok 20 elay ecode eI d 360 (0, [(0, (1, 275)), (1, (0, l))], [], w) (fun r w' => r = [] ∧ e_fr mLk w w' ∧ e_Has mTy w') := by
  obtain ⟨d, rfl⟩ : ∃ e, d = e + 1 := ⟨d - 1, by omega⟩
  refine e_Ok.run (t' := (4, [(3, (0, 0)), (2, (0, (-1))), (0, (1, 275)), (1, (0, l))], [], w)) 4 rfl ?_
  have hL1 : ∀ (nn : Nat) (y2 : Int) (y3 : Int), (-1 ≤ y2 ∧ y2 ≤ 15) ∧ (0 ≤ y3 ∧ y3 ≤ 16) → 17 - y3 < nn → e_Ok 20 elay ecode eI (d + 1) 360 (4, [(0, (1, 275)), (1, (0, l)), (2, (0, y2)), (3, (0, y3))], [], w) (fun r w' => r = [] ∧ e_fr mLk w w' ∧ e_Has mTy w') := by
    intro nn
    induction nn with
    | zero => intro y2 y3 hj hm; obtain ⟨j3, j4⟩ := hj; exfalso; omega
    | succ nn ih2 =>
      intro y2 y3 hj hm
      obtain ⟨j3, j4⟩ := hj
      refine e_Ok.run (t' := (7, [(0, (1, 275)), (1, (0, l)), (2, (0, y2)), (3, (0, y3))], [(0, 16), (0, y3)], w)) 2 rfl ?_
      refine e_Ok.if2 rfl (fun h5 => ?_) (fun h5 => ?_)
      · replace h5 : (y3 : Int) ≥ 16 := h5
        refine e_Ok.run (t' := (78, [(0, (1, 275)), (1, (0, l)), (2, (0, y2)), (3, (0, y3))], [(1, 275)], w)) 1 rfl ?_
        refine e_Ok.getr (z := 276) rfl (el_o rfl) rfl rfl (e_Has.eq hT rfl) ⟨by decide, by decide⟩ ?_
        refine e_Ok.run (t' := (85, [(0, (1, 275)), (1, (0, l)), (2, (0, y2)), (3, (0, y3))], [(0, l), (0, 20868), (1, 276)], w)) 2 rfl ?_
        refine e_Ok.add (z := l + 20868) rfl (by first | with_reducible rfl | exact Int.add_comm _ _ | omega) (by omega) ?_
        refine e_Ok.run (t' := (87, [(0, (1, 275)), (1, (0, l)), (2, (0, y2)), (3, (0, y3))], [(0, y2), (0, l + 20868), (1, 276)], w)) 1 rfl ?_
        refine e_Ok.ast rfl (el_o rfl) rfl rfl (by omega) ?_
        generalize hw6 : e_up w 276 (l + 20868) y2 = w6
        have f7 : e_fr mLk w w6 := e_fr.up (e_fr.refl w) hw6 (by unfold mLk; omega)
        have hT8 : e_Has mTy w6 := e_Has.upr hT hw6 (nR_LOCK (l := l) (by omega)) (by omega)
        refine e_Ok.rets rfl rfl ?_
        exact ⟨rfl, f7, hT8⟩
      · replace h5 : (y3 : Int) < 16 := Int.not_le.mp (show ¬ ((y3 : Int) ≥ 16) from h5)
        refine e_Ok.run (t' := (11, [(0, (1, 275)), (1, (0, l)), (2, (0, y2)), (3, (0, y3))], [(0, y3)], w)) 1 rfl ?_
        refine e_Ok.callS rfl (by first | exact e_dq hd rfl | omega) rfl rfl (c_269 (by omega)) (fun r9 w10 h11 => ?_)
        obtain ⟨rfl, rfl⟩ := h11
        show e_Ok 20 elay ecode eI (d + 1) 360 (14, [(0, (1, 275)), (1, (0, l)), (2, (0, y2)), (3, (0, y3))], [(0, 1260 * y3 + 416)], w) _
        refine e_Ok.run (t' := (17, [(4, (0, 1260 * y3 + 416)), (0, (1, 275)), (1, (0, l)), (2, (0, y2)), (3, (0, y3))], [(1, 275)], w)) 2 rfl ?_
        refine e_Ok.getr (z := 276) rfl (el_o rfl) rfl rfl (e_Has.eq hT rfl) ⟨by decide, by decide⟩ ?_
        refine e_Ok.run (t' := (22, [(4, (0, 1260 * y3 + 416)), (0, (1, 275)), (1, (0, l)), (2, (0, y2)), (3, (0, y3))], [(0, 1260 * y3 + 416), (1, 276)], w)) 1 rfl ?_
        have h12 := (e_Has.get hT (c := 276) (k := 1260 * y3 + 416) (lo := 0) (hi := 7) (nR_TSTATE (t := y3) (by omega)) (by decide))
        refine e_Ok.ald (z := w 276 (1260 * y3 + 416)) rfl (el_o rfl) rfl (by omega) rfl (by first | exact e_bq h12 (by decide) (by decide) | omega) ?_
        refine e_Ok.run (t' := (24, [(4, (0, 1260 * y3 + 416)), (0, (1, 275)), (1, (0, l)), (2, (0, y2)), (3, (0, y3))], [(0, 5), (0, w 276 (1260 * y3 + 416))], w)) 1 rfl ?_
        refine e_Ok.if2 rfl (fun h13 => ?_) (fun h13 => ?_)
        · replace h13 : (w 276 (1260 * y3 + 416) : Int) ≠ 5 := h13
          refine e_Ok.inc (z := y3 + 1) rfl rfl (by first | with_reducible rfl | omega) (by omega) ?_
          show e_Ok 20 elay ecode eI (d + 1) 360 (74, [(3, (0, y3 + 1)), (4, (0, 1260 * y3 + 416)), (0, (1, 275)), (1, (0, l)), (2, (0, y2))], [], w) _
          refine e_Ok.run (t' := (4, [(3, (0, y3 + 1)), (4, (0, 1260 * y3 + 416)), (0, (1, 275)), (1, (0, l)), (2, (0, y2))], [], w)) 1 rfl ?_
          refine e_Ok.sub eAlk (e_sub_of rfl ?_) (ih2 y2 (y3 + 1) ⟨by omega, by omega⟩ (by omega))
          exact ⟨rfl, rfl, rfl, rfl, trivial⟩
        · replace h13 : (w 276 (1260 * y3 + 416) : Int) = 5 := Classical.not_not.mp (show ¬ ((w 276 (1260 * y3 + 416) : Int) ≠ 5) from h13)
          refine e_Ok.run (t' := (28, [(4, (0, 1260 * y3 + 416)), (0, (1, 275)), (1, (0, l)), (2, (0, y2)), (3, (0, y3))], [(1, 275)], w)) 1 rfl ?_
          refine e_Ok.getr (z := 276) rfl (el_o rfl) rfl rfl (e_Has.eq hT rfl) ⟨by decide, by decide⟩ ?_
          refine e_Ok.run (t' := (34, [(4, (0, 1260 * y3 + 416)), (0, (1, 275)), (1, (0, l)), (2, (0, y2)), (3, (0, y3))], [(0, 5), (0, 1260 * y3 + 416), (1, 276)], w)) 2 rfl ?_
          refine e_Ok.add (z := 1260 * y3 + 421) rfl (by first | with_reducible rfl | exact Int.add_comm _ _ | omega) (by omega) ?_
          have h14 := (e_Has.get hT (c := 276) (k := 1260 * y3 + 421) (lo := 0) (hi := 7) (nR_WANT (t := y3) (by omega)) (by decide))
          refine e_Ok.ald (z := w 276 (1260 * y3 + 421)) rfl (el_o rfl) rfl (by omega) rfl (by first | exact e_bq h14 (by decide) (by decide) | omega) ?_
          refine e_Ok.run (t' := (37, [(4, (0, 1260 * y3 + 416)), (0, (1, 275)), (1, (0, l)), (2, (0, y2)), (3, (0, y3))], [(0, l), (0, w 276 (1260 * y3 + 421))], w)) 1 rfl ?_
          refine e_Ok.if2 rfl (fun h15 => ?_) (fun h15 => ?_)
          · replace h15 : (w 276 (1260 * y3 + 421) : Int) ≠ l := h15
            refine e_Ok.inc (z := y3 + 1) rfl rfl (by first | with_reducible rfl | omega) (by omega) ?_
            show e_Ok 20 elay ecode eI (d + 1) 360 (74, [(3, (0, y3 + 1)), (4, (0, 1260 * y3 + 416)), (0, (1, 275)), (1, (0, l)), (2, (0, y2))], [], w) _
            refine e_Ok.run (t' := (4, [(3, (0, y3 + 1)), (4, (0, 1260 * y3 + 416)), (0, (1, 275)), (1, (0, l)), (2, (0, y2))], [], w)) 1 rfl ?_
            refine e_Ok.sub eAlk (e_sub_of rfl ?_) (ih2 y2 (y3 + 1) ⟨by omega, by omega⟩ (by omega))
            exact ⟨rfl, rfl, rfl, rfl, trivial⟩
          · replace h15 : (w 276 (1260 * y3 + 421) : Int) = l := Classical.not_not.mp (show ¬ ((w 276 (1260 * y3 + 421) : Int) ≠ l) from h15)
            refine e_Ok.run (t' := (41, [(4, (0, 1260 * y3 + 416)), (0, (1, 275)), (1, (0, l)), (2, (0, y2)), (3, (0, y3))], [(0, y2)], w)) 1 rfl ?_
            refine e_Ok.if1 rfl (fun h16 => ?_) (fun h16 => ?_)
            · replace h16 : (y2 : Int) < 0 := h16
              refine e_Ok.run (t' := (71, [(2, (0, y3)), (4, (0, 1260 * y3 + 416)), (0, (1, 275)), (1, (0, l)), (3, (0, y3))], [], w)) 2 rfl ?_
              refine e_Ok.inc (z := y3 + 1) rfl rfl (by first | with_reducible rfl | omega) (by omega) ?_
              show e_Ok 20 elay ecode eI (d + 1) 360 (74, [(3, (0, y3 + 1)), (2, (0, y3)), (4, (0, 1260 * y3 + 416)), (0, (1, 275)), (1, (0, l))], [], w) _
              refine e_Ok.run (t' := (4, [(3, (0, y3 + 1)), (2, (0, y3)), (4, (0, 1260 * y3 + 416)), (0, (1, 275)), (1, (0, l))], [], w)) 1 rfl ?_
              refine e_Ok.sub eAlk (e_sub_of rfl ?_) (ih2 y3 (y3 + 1) ⟨by omega, by omega⟩ (by omega))
              exact ⟨rfl, rfl, rfl, rfl, trivial⟩
            · replace h16 : (y2 : Int) ≥ 0 := Int.not_lt.mp (show ¬ ((y2 : Int) < 0) from h16)
              refine e_Ok.run (t' := (45, [(4, (0, 1260 * y3 + 416)), (0, (1, 275)), (1, (0, l)), (2, (0, y2)), (3, (0, y3))], [(1, 275)], w)) 1 rfl ?_
              refine e_Ok.getr (z := 276) rfl (el_o rfl) rfl rfl (e_Has.eq hT rfl) ⟨by decide, by decide⟩ ?_
              refine e_Ok.run (t' := (52, [(4, (0, 1260 * y3 + 416)), (0, (1, 275)), (1, (0, l)), (2, (0, y2)), (3, (0, y3))], [(0, 6), (0, 1260 * y3 + 416), (1, 276)], w)) 2 rfl ?_
              refine e_Ok.add (z := 1260 * y3 + 422) rfl (by first | with_reducible rfl | exact Int.add_comm _ _ | omega) (by omega) ?_
              have h17 := (e_Has.get hT (c := 276) (k := 1260 * y3 + 422) (lo := (-2147483648)) (hi := 2147483647) (nR_ORDER_IN (t := y3) (by omega)) (by decide))
              refine e_Ok.ald (z := w 276 (1260 * y3 + 422)) rfl (el_o rfl) rfl (by omega) rfl (by first | exact e_bq h17 (by decide) (by decide) | omega) ?_
              refine e_Ok.run (t' := (55, [(4, (0, 1260 * y3 + 416)), (0, (1, 275)), (1, (0, l)), (2, (0, y2)), (3, (0, y3))], [(1, 275), (0, w 276 (1260 * y3 + 422))], w)) 1 rfl ?_
              refine e_Ok.getr (z := 276) rfl (el_o rfl) rfl rfl (e_Has.eq hT rfl) ⟨by decide, by decide⟩ ?_
              refine e_Ok.run (t' := (59, [(4, (0, 1260 * y3 + 416)), (0, (1, 275)), (1, (0, l)), (2, (0, y2)), (3, (0, y3))], [(0, y2), (1, 276), (0, w 276 (1260 * y3 + 422))], w)) 1 rfl ?_
              refine e_Ok.callS rfl (by first | exact e_dq hd rfl | omega) rfl rfl (c_269 (by omega)) (fun r18 w19 h20 => ?_)
              obtain ⟨rfl, rfl⟩ := h20
              show e_Ok 20 elay ecode eI (d + 1) 360 (62, [(4, (0, 1260 * y3 + 416)), (0, (1, 275)), (1, (0, l)), (2, (0, y2)), (3, (0, y3))], [(0, 1260 * y2 + 416), (1, 276), (0, w 276 (1260 * y3 + 422))], w) _
              refine e_Ok.run (t' := (64, [(4, (0, 1260 * y3 + 416)), (0, (1, 275)), (1, (0, l)), (2, (0, y2)), (3, (0, y3))], [(0, 6), (0, 1260 * y2 + 416), (1, 276), (0, w 276 (1260 * y3 + 422))], w)) 1 rfl ?_
              refine e_Ok.add (z := 1260 * y2 + 422) rfl (by first | with_reducible rfl | exact Int.add_comm _ _ | omega) (by omega) ?_
              have h21 := (e_Has.get hT (c := 276) (k := 1260 * y2 + 422) (lo := (-2147483648)) (hi := 2147483647) (nR_ORDER_IN (t := y2) (by omega)) (by decide))
              refine e_Ok.ald (z := w 276 (1260 * y2 + 422)) rfl (el_o rfl) rfl (by omega) rfl (by first | exact e_bq h21 (by decide) (by decide) | omega) ?_
              refine e_Ok.if2 rfl (fun h22 => ?_) (fun h22 => ?_)
              · replace h22 : (w 276 (1260 * y3 + 422) : Int) ≥ w 276 (1260 * y2 + 422) := h22
                refine e_Ok.inc (z := y3 + 1) rfl rfl (by first | with_reducible rfl | omega) (by omega) ?_
                show e_Ok 20 elay ecode eI (d + 1) 360 (74, [(3, (0, y3 + 1)), (4, (0, 1260 * y3 + 416)), (0, (1, 275)), (1, (0, l)), (2, (0, y2))], [], w) _
                refine e_Ok.run (t' := (4, [(3, (0, y3 + 1)), (4, (0, 1260 * y3 + 416)), (0, (1, 275)), (1, (0, l)), (2, (0, y2))], [], w)) 1 rfl ?_
                refine e_Ok.sub eAlk (e_sub_of rfl ?_) (ih2 y2 (y3 + 1) ⟨by omega, by omega⟩ (by omega))
                exact ⟨rfl, rfl, rfl, rfl, trivial⟩
              · replace h22 : (w 276 (1260 * y3 + 422) : Int) < w 276 (1260 * y2 + 422) := Int.not_le.mp (show ¬ ((w 276 (1260 * y3 + 422) : Int) ≥ w 276 (1260 * y2 + 422)) from h22)
                refine e_Ok.run (t' := (71, [(2, (0, y3)), (4, (0, 1260 * y3 + 416)), (0, (1, 275)), (1, (0, l)), (3, (0, y3))], [], w)) 2 rfl ?_
                refine e_Ok.inc (z := y3 + 1) rfl rfl (by first | with_reducible rfl | omega) (by omega) ?_
                show e_Ok 20 elay ecode eI (d + 1) 360 (74, [(3, (0, y3 + 1)), (2, (0, y3)), (4, (0, 1260 * y3 + 416)), (0, (1, 275)), (1, (0, l))], [], w) _
                refine e_Ok.run (t' := (4, [(3, (0, y3 + 1)), (2, (0, y3)), (4, (0, 1260 * y3 + 416)), (0, (1, 275)), (1, (0, l))], [], w)) 1 rfl ?_
                refine e_Ok.sub eAlk (e_sub_of rfl ?_) (ih2 y3 (y3 + 1) ⟨by omega, by omega⟩ (by omega))
                exact ⟨rfl, rfl, rfl, rfl, trivial⟩
  refine e_Ok.sub eAlk (e_sub_of rfl ?_) (hL1 (17 + 1 : Int).toNat (-1) 0 ⟨by omega, by omega⟩ (by omega))
  exact ⟨rfl, rfl, rfl, rfl, trivial⟩
theorem no_56_8 {k : Int} : ¬ mLk 275 k := by unfold mLk; omega
theorem c_361 {d : Nat} (hd : 22 ≤ d) {w : eW} (hT : e_Has mTy w) {t : Int} : e_Ok 20 elay ecode eI d 361 (0, [(0, (1, 275)), (1, (0, t))], [], w) (fun r w' => r = [] ∧ e_fr mLk w w' ∧ e_Has mTy w') := by
  obtain ⟨d, rfl⟩ : ∃ e, d = e + 1 := ⟨d - 1, by omega⟩
  refine e_Ok.run (t' := (2, [(2, (0, 0)), (0, (1, 275)), (1, (0, t))], [], w)) 2 rfl ?_
  have hL1 : ∀ (nn : Nat) (y2 : Int) (v1 : eW), e_fr mLk w v1 ∧ e_Has mTy v1 ∧ (0 ≤ y2 ∧ y2 ≤ 8) → 9 - y2 < nn → e_Ok 20 elay ecode eI (d + 1) 361 (2, [(0, (1, 275)), (1, (0, t)), (2, (0, y2))], [], v1) (fun r w' => r = [] ∧ e_fr mLk w w' ∧ e_Has mTy w') := by
    intro nn
    induction nn with
    | zero => intro y2 v1 hj hm; obtain ⟨j3, j4, j5⟩ := hj; exfalso; omega
    | succ nn ih2 =>
      intro y2 v1 hj hm
      obtain ⟨j3, j4, j5⟩ := hj
      refine e_Ok.run (t' := (5, [(0, (1, 275)), (1, (0, t)), (2, (0, y2))], [(0, 8), (0, y2)], v1)) 2 rfl ?_
      refine e_Ok.if2 rfl (fun h6 => ?_) (fun h6 => ?_)
      · replace h6 : (y2 : Int) ≥ 8 := h6
        refine e_Ok.rets rfl rfl ?_
        exact ⟨rfl, j3, j4⟩
      · replace h6 : (y2 : Int) < 8 := Int.not_le.mp (show ¬ ((y2 : Int) ≥ 8) from h6)
        refine e_Ok.run (t' := (9, [(0, (1, 275)), (1, (0, t)), (2, (0, y2))], [(1, 275)], v1)) 1 rfl ?_
        refine e_Ok.getr (z := 276) rfl (el_o rfl) rfl rfl ((j3 275 0 no_56_8).trans (e_Has.eq hT rfl)) ⟨by decide, by decide⟩ ?_
        refine e_Ok.run (t' := (16, [(0, (1, 275)), (1, (0, t)), (2, (0, y2))], [(0, y2), (0, 20868), (1, 276)], v1)) 2 rfl ?_
        refine e_Ok.add (z := y2 + 20868) rfl (by first | with_reducible rfl | exact Int.add_comm _ _ | omega) (by omega) ?_
        have h7 := (e_Has.get j4 (c := 276) (k := y2 + 20868) (lo := (-1)) (hi := 15) (nR_LOCK (l := y2) (by omega)) (by decide))
        refine e_Ok.ald (z := v1 276 (y2 + 20868)) rfl (el_o rfl) rfl (by omega) rfl (by first | exact e_bq h7 (by decide) (by decide) | omega) ?_
        refine e_Ok.run (t' := (19, [(0, (1, 275)), (1, (0, t)), (2, (0, y2))], [(0, t), (0, v1 276 (y2 + 20868))], v1)) 1 rfl ?_
        refine e_Ok.if2 rfl (fun h8 => ?_) (fun h8 => ?_)
        · replace h8 : (v1 276 (y2 + 20868) : Int) ≠ t := h8
          refine e_Ok.inc (z := y2 + 1) rfl rfl (by first | with_reducible rfl | omega) (by omega) ?_
          show e_Ok 20 elay ecode eI (d + 1) 361 (30, [(2, (0, y2 + 1)), (0, (1, 275)), (1, (0, t))], [], v1) _
          refine e_Ok.run (t' := (2, [(2, (0, y2 + 1)), (0, (1, 275)), (1, (0, t))], [], v1)) 1 rfl ?_
          refine e_Ok.sub eAlk (e_sub_of rfl ?_) (ih2 (y2 + 1) v1 ⟨j3, j4, by omega⟩ (by omega))
          exact ⟨rfl, rfl, rfl, trivial⟩
        · replace h8 : (v1 276 (y2 + 20868) : Int) = t := Classical.not_not.mp (show ¬ ((v1 276 (y2 + 20868) : Int) ≠ t) from h8)
          refine e_Ok.run (t' := (24, [(0, (1, 275)), (1, (0, t)), (2, (0, y2))], [(0, y2), (1, 275)], v1)) 2 rfl ?_
          refine e_Ok.callV rfl (by first | exact e_dq hd rfl | omega) rfl rfl rfl rfl (c_360 (by first | exact e_dq hd rfl | omega) j4 (by omega)) (fun r9 w10 h11 => ?_)
          obtain ⟨rfl, q12, q12T⟩ := h11
          have f13 : e_fr mLk w w10 := e_fr.trans j3 (e_fr.mono q12 (fun c k q => by exact q))
          show e_Ok 20 elay ecode eI (d + 1) 361 (27, [(0, (1, 275)), (1, (0, t)), (2, (0, y2))], [], w10) _
          refine e_Ok.inc (z := y2 + 1) rfl rfl (by first | with_reducible rfl | omega) (by omega) ?_
          show e_Ok 20 elay ecode eI (d + 1) 361 (30, [(2, (0, y2 + 1)), (0, (1, 275)), (1, (0, t))], [], w10) _
          refine e_Ok.run (t' := (2, [(2, (0, y2 + 1)), (0, (1, 275)), (1, (0, t))], [], w10)) 1 rfl ?_
          refine e_Ok.sub eAlk (e_sub_of rfl ?_) (ih2 (y2 + 1) w10 ⟨f13, q12T, by omega⟩ (by omega))
          exact ⟨rfl, rfl, rfl, trivial⟩
  refine e_Ok.sub eAlk (e_sub_of rfl ?_) (hL1 (9 + 1 : Int).toNat 0 w ⟨(e_fr.refl w), hT, by omega⟩ (by omega))
  exact ⟨rfl, rfl, rfl, trivial⟩
end
end
-- part 57
section
noncomputable section
/-! a compiled program of the model that can be carried out: by places (dl: numbers on the stack, sg: inside a statement), by regions (pi: finally parts that are open, en: its end, an: its ancestors), br: what a break may leave -/
def iFT (w : eW) (a n p : Int) : Prop := p + 1 < n ∧ w 330 (10000 * a + p + 1) = w 330 (10000 * a + p)
def iS (w : eW) (a n : Int) (dl sg : Int → Int) (p : Int) : Prop := iFT w a n p ∧ dl (p + 1) = 0 ∧ sg (p + 1) = 0 ∧ sg p = 1
def insOk (w : eW) (a n nt nw : Int) (dl sg en : Int → Int) (br : Int → Int → Prop) (p : Int) : Prop :=
  ((1 ≤ w 328 (10000 * a + p) ∧ w 328 (10000 * a + p) ≤ 51 ∧ (w 328 (10000 * a + p) ≤ 24 ∨ 30 ≤ w 328 (10000 * a + p))) ∧ (-1 ≤ w 330 (10000 * a + p) ∧ w 330 (10000 * a + p) < 3 * nt) ∧ (0 ≤ dl p ∧ dl p ≤ 4100) ∧ p < en (w 330 (10000 * a + p)) ∧ (sg p = 0 ∨ sg p = 1)) ∧
  (w 328 (10000 * a + p) < 30 → sg p = 1 ∧ sg (p + 1) = 1 ∧ iFT w a n p) ∧
  (w 328 (10000 * a + p) = 1 ∨ w 328 (10000 * a + p) = 2 ∨ w 328 (10000 * a + p) = 5 ∨ w 328 (10000 * a + p) = 6 ∨ w 328 (10000 * a + p) = 7 ∨ w 328 (10000 * a + p) = 8 → dl (p + 1) = dl p + 1) ∧
  (w 328 (10000 * a + p) = 2 → 0 ≤ w 329 (10000 * a + p) ∧ w 329 (10000 * a + p) ≤ 31) ∧
  (w 328 (10000 * a + p) = 3 ∨ w 328 (10000 * a + p) = 4 ∨ w 328 (10000 * a + p) = 9 ∨ w 328 (10000 * a + p) = 21 ∨ w 328 (10000 * a + p) = 24 → 1 ≤ dl p ∧ dl (p + 1) = dl p) ∧
  (w 328 (10000 * a + p) = 22 ∨ w 328 (10000 * a + p) = 23 → 1 ≤ dl p ∧ dl (p + 1) = dl p - 1 ∧ p < w 329 (10000 * a + p) ∧ w 329 (10000 * a + p) < n ∧ dl (w 329 (10000 * a + p)) = dl p ∧ sg (w 329 (10000 * a + p)) = 1 ∧ w 330 (10000 * a + w 329 (10000 * a + p)) = w 330 (10000 * a + p)) ∧
  (10 ≤ w 328 (10000 * a + p) ∧ w 328 (10000 * a + p) ≤ 20 → 2 ≤ dl p ∧ dl (p + 1) = dl p - 1) ∧
  (w 328 (10000 * a + p) = 30 → dl p = 0 ∧ sg p = 0 ∧ p + 1 < n ∧ dl (p + 1) = 0 ∧ (w 330 (10000 * a + p + 1) = w 330 (10000 * a + p) ∨ ∃ t, 0 ≤ t ∧ t < nt ∧ w 330 (10000 * a + p + 1) = 3 * t ∧ w 331 (900 * a + t) = w 330 (10000 * a + p))) ∧
  (31 ≤ w 328 (10000 * a + p) ∧ w 328 (10000 * a + p) ≤ 44 → iS w a n dl sg p) ∧
  (w 328 (10000 * a + p) = 31 → dl p = 1 ∧ 0 ≤ w 329 (10000 * a + p) ∧ w 329 (10000 * a + p) ≤ 31) ∧
  (w 328 (10000 * a + p) = 32 → dl p = w 329 (10000 * a + p)) ∧
  (w 328 (10000 * a + p) = 33 ∨ w 328 (10000 * a + p) = 34 ∨ w 328 (10000 * a + p) = 36 ∨ w 328 (10000 * a + p) = 37 ∨ w 328 (10000 * a + p) = 40 ∨ w 328 (10000 * a + p) = 41 ∨ w 328 (10000 * a + p) = 44 ∨ w 328 (10000 * a + p) = 47 → dl p = 1) ∧
  (w 328 (10000 * a + p) = 34 → 0 ≤ w 329 (10000 * a + p) ∧ w 329 (10000 * a + p) < n ∧ dl (w 329 (10000 * a + p)) = 0 ∧ w 330 (10000 * a + w 329 (10000 * a + p)) = w 330 (10000 * a + p)) ∧
  (w 328 (10000 * a + p) = 35 → dl p = 2) ∧
  (w 328 (10000 * a + p) = 38 ∨ w 328 (10000 * a + p) = 39 ∨ w 328 (10000 * a + p) = 42 ∨ w 328 (10000 * a + p) = 43 → dl p = 0) ∧
  (w 328 (10000 * a + p) = 38 ∨ w 328 (10000 * a + p) = 39 ∨ w 328 (10000 * a + p) = 44 → 0 ≤ w 329 (10000 * a + p) ∧ w 329 (10000 * a + p) < w 338 a) ∧
  (w 328 (10000 * a + p) = 46 → 0 ≤ w 329 (10000 * a + p) ∧ w 329 (10000 * a + p) < nw ∧ br (w 330 (10000 * a + p)) (w 329 (10000 * a + p)) ∧ p < w 336 (900 * a + w 329 (10000 * a + p))) ∧
  (w 328 (10000 * a + p) = 47 → iS w a n dl sg p ∧ p < w 329 (10000 * a + p) ∧ w 329 (10000 * a + p) < n ∧ dl (w 329 (10000 * a + p)) = 0 ∧ sg (w 329 (10000 * a + p)) = 0 ∧ w 330 (10000 * a + w 329 (10000 * a + p)) = w 330 (10000 * a + p)) ∧
  (w 328 (10000 * a + p) = 48 → sg p = 0 ∧ 0 ≤ w 329 (10000 * a + p) ∧ w 329 (10000 * a + p) < n ∧ dl (w 329 (10000 * a + p)) = 0 ∧ sg (w 329 (10000 * a + p)) = 0 ∧ w 330 (10000 * a + w 329 (10000 * a + p)) = w 330 (10000 * a + p) ∧ (p < w 329 (10000 * a + p) ∨ w 328 (10000 * a + w 329 (10000 * a + p)) = 30)) ∧
  (w 328 (10000 * a + p) = 49 ∨ w 328 (10000 * a + p) = 50 ∨ w 328 (10000 * a + p) = 51 → sg p = 0 ∧ 0 ≤ w 329 (10000 * a + p) ∧ w 329 (10000 * a + p) < nt ∧ w 330 (10000 * a + p) = 3 * w 329 (10000 * a + p) + (w 328 (10000 * a + p) - 49))
/-- a place that is gone to -/
def tgt (w : eW) (a n : Int) (dl sg : Int → Int) (p r : Int) : Prop := 0 ≤ p ∧ p < n ∧ dl p = 0 ∧ sg p = 0 ∧ w 330 (10000 * a + p) = r
def tryOk (w : eW) (a n : Int) (dl sg pi en : Int → Int) (an : Int → Int → Prop) (t : Int) : Prop :=
  (-1 ≤ w 331 (900 * a + t) ∧ w 331 (900 * a + t) < 3 * t) ∧ (pi (3 * t) = pi (w 331 (900 * a + t)) ∧ pi (3 * t + 1) = pi (w 331 (900 * a + t)) ∧ pi (3 * t + 2) = pi (w 331 (900 * a + t)) + 1) ∧
  (w 332 (900 * a + t) < 0 ∨ (tgt w a n dl sg (w 332 (900 * a + t)) (3 * t + 1) ∧ en (3 * t) ≤ w 332 (900 * a + t))) ∧
  (w 333 (900 * a + t) < 0 ∨ (tgt w a n dl sg (w 333 (900 * a + t)) (3 * t + 2) ∧ en (3 * t) ≤ w 333 (900 * a + t) ∧ en (3 * t + 1) ≤ w 333 (900 * a + t))) ∧
  (tgt w a n dl sg (w 334 (900 * a + t)) (w 331 (900 * a + t)) ∧ en (3 * t) ≤ w 334 (900 * a + t) ∧ en (3 * t + 1) ≤ w 334 (900 * a + t) ∧ en (3 * t + 2) ≤ w 334 (900 * a + t) ∧ w 334 (900 * a + t) ≤ en (w 331 (900 * a + t))) ∧
  (∀ i q, 0 ≤ i → i ≤ 2 → an (3 * t + i) q → q = 3 * t + i ∨ an (w 331 (900 * a + t)) q) ∧ (∀ i q, 0 ≤ i → i ≤ 2 → an (w 331 (900 * a + t)) q → an (3 * t + i) q)
def cOk (w : eW) (a n nt nw : Int) (dl sg pi en : Int → Int) (an br : Int → Int → Prop) : Prop :=
  (0 ≤ n ∧ n ≤ 10000 ∧ 0 ≤ nt ∧ nt ≤ 900 ∧ 0 ≤ nw ∧ nw ≤ 900) ∧ (∀ p, 0 ≤ p → p < n → insOk w a n nt nw dl sg en br p) ∧ (∀ t, 0 ≤ t → t < nt → tryOk w a n dl sg pi en an t) ∧
  (pi (-1) = 0 ∧ (∀ r, -1 ≤ r → r < 3 * nt → 0 ≤ pi r ∧ pi r ≤ 30) ∧ (∀ r, an r r) ∧ (∀ q, an (-1) q → q = -1) ∧ (∀ r q, an r q → -1 ≤ r → -1 ≤ q ∧ q ≤ r) ∧ (∀ r q, an r q → -1 ≤ r → r < 3 * nt → pi q ≤ pi r)) ∧
  (∀ v, 0 ≤ v → v < nw → (-1 ≤ w 335 (900 * a + v) ∧ w 335 (900 * a + v) < 3 * nt) ∧ tgt w a n dl sg (w 336 (900 * a + v)) (w 335 (900 * a + v))) ∧
  (∀ r v, br r v → -1 ≤ r → r < 3 * nt → r = w 335 (900 * a + v) ∨ (0 ≤ r ∧ w 334 (900 * a + r / 3) ≤ w 336 (900 * a + v) ∧ br (w 331 (900 * a + r / 3)) v)) ∧
  (∀ q, 0 ≤ q → q < w 338 a → tgt w a n dl sg (w 337 (32 * a + q)) (-1))
/-- the pending entry j of the task t, which belongs to the try ow j -/
def pendOk (w : eW) (a t nt nw : Int) (br : Int → Int → Prop) (ow : Int → Int) (j : Int) : Prop :=
  (0 ≤ ow j ∧ ow j < nt) ∧ (w 276 (1260 * t + 2 * j + 476) = 3 → 0 ≤ w 276 (1260 * t + 2 * j + 477) ∧ w 276 (1260 * t + 2 * j + 477) < nw ∧ br (w 331 (900 * a + ow j)) (w 276 (1260 * t + 2 * j + 477)) ∧ w 334 (900 * a + ow j) ≤ w 336 (900 * a + w 276 (1260 * t + 2 * j + 477)))
def chn (pi ow : Int → Int) (an : Int → Int → Prop) (r b : Int) : Prop := ∀ q, an r q → 0 ≤ q → q % 3 = 2 → ow (b + pi q - 1) = q / 3
/-- frames below the top -/
def lowOk (w : eW) (a t g n : Int) (dl sg pi : Int → Int) (an : Int → Int → Prop) (bs ow : Int → Int) : Prop :=
  bs 0 = 0 ∧ (∀ i, 0 ≤ i → i ≤ g → 0 ≤ bs i ∧ bs i ≤ 30 * i) ∧ (∀ i j, 0 ≤ i → i ≤ j → j ≤ g → bs i ≤ bs j) ∧ ∀ i, 0 ≤ i → i < g → (0 ≤ w 276 (1260 * t + 2 * i + 436) ∧ w 276 (1260 * t + 2 * i + 436) < n) ∧ bs (i + 1) = bs i + pi (w 330 (10000 * a + w 276 (1260 * t + 2 * i + 436))) ∧ chn pi ow an (w 330 (10000 * a + w 276 (1260 * t + 2 * i + 436))) (bs i) ∧
    (w 276 (1260 * t + 2 * i + 439) ≠ 1 → iFT w a n (w 276 (1260 * t + 2 * i + 436)) ∧ dl (w 276 (1260 * t + 2 * i + 436) + 1) = 0 ∧ sg (w 276 (1260 * t + 2 * i + 436) + 1) = 0) ∧ (w 276 (1260 * t + 2 * i + 439) = 1 → dl (w 276 (1260 * t + 2 * i + 436)) = 0 ∧ sg (w 276 (1260 * t + 2 * i + 436)) = 0)
/-- the task t of the arm a has g + 1 frames, and is about to leave (or is in) the region r of its top frame -/
def runOk (w : eW) (a t g r n nt nw : Int) (dl sg pi : Int → Int) (an br : Int → Int → Prop) (bs ow : Int → Int) : Prop :=
  (0 ≤ g ∧ g ≤ 19) ∧ w 276 (1260 * t + 428) = g + 1 ∧ lowOk w a t g n dl sg pi an bs ow ∧ (-1 ≤ r ∧ r < 3 * nt) ∧ w 276 (1260 * t + 429) = bs g + pi r ∧ chn pi ow an r (bs g) ∧ ∀ j, 0 ≤ j → j < bs g + pi r → pendOk w a t nt nw br ow j
/-- .. and stands at the place p -/
def topOk (w : eW) (a t g p n nt nw : Int) (dl sg pi : Int → Int) (an br : Int → Int → Prop) (bs ow : Int → Int) : Prop :=
  (0 ≤ p ∧ p < n) ∧ w 276 (1260 * t + 2 * g + 436) = p ∧ runOk w a t g (w 330 (10000 * a + p)) n nt nw dl sg pi an br bs ow
end
end
