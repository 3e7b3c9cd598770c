noncomputable section
/-! the class: what builds a cell, exactly -/
theorem c_208_ex {d : Nat} (hd : 24 ≤ d) {w : eW} (hT : e_Has kTy w) (hO : 0 ≤ w 0 13 ∧ w 0 13 ≤ 1) {p1 : Int} (g1 : (-2147483648) ≤ p1 ∧ p1 ≤ 2147483647) {p2 : Int} (g2 : 0 ≤ p2 ∧ p2 ≤ 1) : e_Ok 20 elay kcode eI d 208 (0, [(0, (1, 0)), (1, (0, p1)), (2, (0, p2))], [], w) (fun r w' => ∃ z : Int, r = [(0, z)] ∧ ((w = w' ∧ ((¬ ((0 ≤ p1 ∧ p1 ≤ 7)) ∧ z = -1) ∨ (((0 ≤ p1 ∧ p1 ≤ 7)) ∧ w 0 13 ≠ 0 ∧ z = -2))) ∨ ((((0 ≤ p1 ∧ p1 ≤ 7)) ∧ w 0 13 = 0) ∧ z = 0 ∧ w' = e_up w (77) (p1) (p2)))) := by
  obtain ⟨d, rfl⟩ : ∃ e, d = e + 1 := ⟨d - 1, by omega⟩
  have hw0 := e_Has.get hT (c := 0) (k := 11) (lo := 0) (hi := 4) rfl (by decide)
  have hb0 := e_Has.get hT (c := 19) (k := 0) (lo := 0) (hi := 4) rfl (by decide)
  have hz0 := e_Has.get hT (c := 250) (k := 1) (lo := 0) (hi := 8) rfl (by decide)
  have hs0 := e_Has.get hT (c := 250) (k := 0) (lo := 0) (hi := 16) rfl (by decide)
  have hi0 := e_Has.get hT (c := 74) (k := 2) (lo := 0) (hi := 8) rfl (by decide)
  refine e_Ok.run (t' := (4, [(0, (1, 0)), (1, (0, p1)), (2, (0, p2))], [(0, 7), (0, 0), (0, p1)], w)) 3 rfl ?_
  refine e_Ok.callS rfl (by omega) rfl rfl (c_242 (by omega) (by omega) (by omega)) (fun r1 w2 h3 => ?_)
  obtain ⟨z4, rfl, rfl, q5⟩ := h3
  obtain ⟨rfl, q5⟩ | ⟨rfl, q5⟩ := q5
  · show e_Ok 20 elay kcode eI (d + 1) 208 (7, [(0, (1, 0)), (1, (0, p1)), (2, (0, p2))], [(0, 1)], w) _
    refine e_Ok.if1 rfl (fun h6 => ?_) (fun h6 => ?_)
    · replace h6 : (1 : Int) ≠ 0 := h6
      refine e_Ok.run (t' := (13, [(0, (1, 0)), (1, (0, p1)), (2, (0, p2))], [(1, 0)], w)) 1 rfl ?_
      refine e_Ok.getf (z := w 0 13) rfl rfl rfl rfl rfl (by omega) ?_
      refine e_Ok.if1 rfl (fun h7 => ?_) (fun h7 => ?_)
      · replace h7 : (w 0 13 : Int) = 0 := h7
        refine e_Ok.run (t' := (23, [(0, (1, 0)), (1, (0, p1)), (2, (0, p2))], [(1, 0)], w)) 1 rfl ?_
        refine e_Ok.getr (z := 74) rfl rfl rfl rfl (Eq.trans (e_Has.eq hT rfl) (by omega)) (by omega) ?_
        refine e_Ok.getr (z := 77) rfl rfl rfl rfl (Eq.trans (e_Has.eq hT rfl) (by omega)) (by omega) ?_
        refine e_Ok.run (t' := (31, [(0, (1, 0)), (1, (0, p1)), (2, (0, p2))], [(0, p2), (0, p1), (1, 77)], w)) 2 rfl ?_
        refine e_Ok.ast rfl rfl rfl (e_nar_b (by omega)) (by omega) ?_
        generalize hw8 : e_up w 77 p1 p2 = w8
        have hT9 : e_Has kTy w8 := e_Has.upr hT hw8 rfl (by omega)
        refine e_Ok.run (t' := (33, [(0, (1, 0)), (1, (0, p1)), (2, (0, p2))], [(0, 0)], w8)) 1 rfl ?_
        refine e_Ok.rets rfl rfl ?_
        exact ⟨_, rfl, Or.inr ⟨by omega, by omega, by rw [← hw8]⟩⟩
      · replace h7 : (w 0 13 : Int) ≠ 0 := by have q : ¬ ((w 0 13 : Int) = 0) := h7; omega
        refine e_Ok.run (t' := (21, [(0, (1, 0)), (1, (0, p1)), (2, (0, p2))], [(0, (-2))], w)) 1 rfl ?_
        refine e_Ok.rets rfl rfl ?_
        exact ⟨_, rfl, Or.inl ⟨rfl, by omega⟩⟩
    · replace h6 : (1 : Int) = 0 := by have q : ¬ ((1 : Int) ≠ 0) := h6; omega
      exfalso; omega
  · show e_Ok 20 elay kcode eI (d + 1) 208 (7, [(0, (1, 0)), (1, (0, p1)), (2, (0, p2))], [(0, 0)], w) _
    refine e_Ok.if1 rfl (fun h10 => ?_) (fun h10 => ?_)
    · replace h10 : (0 : Int) ≠ 0 := h10
      exfalso; omega
    · replace h10 : (0 : Int) = 0 := by have q : ¬ ((0 : Int) ≠ 0) := h10; omega
      refine e_Ok.run (t' := (11, [(0, (1, 0)), (1, (0, p1)), (2, (0, p2))], [(0, (-1))], w)) 1 rfl ?_
      refine e_Ok.rets rfl rfl ?_
      exact ⟨_, rfl, Or.inl ⟨rfl, by omega⟩⟩
end
