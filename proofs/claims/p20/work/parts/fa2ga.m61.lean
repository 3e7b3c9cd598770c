noncomputable section
/-! the model: what builds a cell, exactly -/
theorem c_294_ex {d : Nat} (hd : 24 ≤ d) {w : eW} (hT : e_Has mTy w) {p1 p2 : Int} (g1 : (-2147483648) ≤ p1 ∧ p1 ≤ 2147483647) (g2 : 0 ≤ p2 ∧ p2 ≤ 1) : e_Ok 20 elay ecode eI d 294 (0, [(0, (1, 275)), (1, (0, p1)), (2, (0, p2))], [], w) (fun r w' => ∃ z : Int, r = [(0, z)] ∧ ((w = w' ∧ ((¬ ((0 ≤ p1 ∧ p1 ≤ 7)) ∧ z = -1) ∨ (((0 ≤ p1 ∧ p1 ≤ 7)) ∧ w 275 3 ≠ 0 ∧ z = -2))) ∨ ((((0 ≤ p1 ∧ p1 ≤ 7)) ∧ w 275 3 = 0) ∧ z = 0 ∧ w' = e_up w 317 (p1) (p2)))) := by
  obtain ⟨d, rfl⟩ : ∃ e, d = e + 1 := ⟨d - 1, by omega⟩
  have hop := e_Has.get hT (c := 275) (k := 3) (lo := 0) (hi := 1) rfl (by decide)
  refine e_Ok.run (t' := (6, [(0, (1, 275)), (1, (0, p1)), (2, (0, p2))], [(4, 7), (4, 0), (4, p1)], w)) 4 rfl ?_
  refine e_Ok.callS rfl (by omega) rfl rfl (c_266) (fun r1 w2 h3 => ?_)
  obtain ⟨z4, rfl, rfl, q5⟩ := h3
  obtain ⟨rfl, q5⟩ | ⟨rfl, q5⟩ := q5
  · show e_Ok 20 elay ecode eI (d + 1) 294 (9, [(0, (1, 275)), (1, (0, p1)), (2, (0, p2))], [(0, 1)], w) _
    refine e_Ok.if1 rfl (fun h6 => ?_) (fun h6 => ?_)
    · replace h6 : (1 : Int) ≠ 0 := h6
      refine e_Ok.run (t' := (15, [(0, (1, 275)), (1, (0, p1)), (2, (0, p2))], [(1, 275)], w)) 1 rfl ?_
      refine e_Ok.getf (z := w 275 3) rfl rfl rfl rfl rfl (by omega) ?_
      refine e_Ok.if1 rfl (fun h7 => ?_) (fun h7 => ?_)
      · replace h7 : (w 275 3 : Int) = 0 := h7
        refine e_Ok.run (t' := (25, [(0, (1, 275)), (1, (0, p1)), (2, (0, p2))], [(1, 275)], w)) 1 rfl ?_
        refine e_Ok.getr (z := 317) rfl rfl rfl rfl (e_Has.eq hT rfl) (by omega) ?_
        refine e_Ok.run (t' := (30, [(0, (1, 275)), (1, (0, p1)), (2, (0, p2))], [(0, p2), (0, p1), (1, 317)], w)) 2 rfl ?_
        refine e_Ok.ast rfl rfl rfl (e_nar_b (by omega)) (by omega) ?_
        generalize hw8 : e_up w 317 p1 p2 = w8
        refine e_Ok.run (t' := (32, [(0, (1, 275)), (1, (0, p1)), (2, (0, p2))], [(0, 0)], w8)) 1 rfl ?_
        refine e_Ok.rets rfl rfl ?_
        exact ⟨_, rfl, Or.inr ⟨by omega, by omega, by rw [← hw8]⟩⟩
      · replace h7 : (w 275 3 : Int) ≠ 0 := by have q : ¬ ((w 275 3 : Int) = 0) := h7; omega
        refine e_Ok.run (t' := (23, [(0, (1, 275)), (1, (0, p1)), (2, (0, p2))], [(0, (-2))], w)) 1 rfl ?_
        refine e_Ok.rets rfl rfl ?_
        exact ⟨_, rfl, Or.inl ⟨rfl, by omega⟩⟩
    · replace h6 : (1 : Int) = 0 := by have q : ¬ ((1 : Int) ≠ 0) := h6; omega
      exfalso; omega
  · show e_Ok 20 elay ecode eI (d + 1) 294 (9, [(0, (1, 275)), (1, (0, p1)), (2, (0, p2))], [(0, 0)], w) _
    refine e_Ok.if1 rfl (fun h9 => ?_) (fun h9 => ?_)
    · replace h9 : (0 : Int) ≠ 0 := h9
      exfalso; omega
    · replace h9 : (0 : Int) = 0 := by have q : ¬ ((0 : Int) ≠ 0) := h9; omega
      refine e_Ok.run (t' := (13, [(0, (1, 275)), (1, (0, p1)), (2, (0, p2))], [(0, (-1))], w)) 1 rfl ?_
      refine e_Ok.rets rfl rfl ?_
      exact ⟨_, rfl, Or.inl ⟨rfl, by omega⟩⟩
end
