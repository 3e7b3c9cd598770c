noncomputable section
/-! the class: small tests -/
theorem c_245 {d : Nat} (hd : 21 ≤ d) {w : eW} {a : Int} (g1 : -2147483648 ≤ a ∧ a ≤ 2147483647) : e_Ok 20 elay ecode eI d 245 (0, [(0, (0, a))], [], w) (fun r w' => ∃ z : Int, r = [(0, z)] ∧ w = w' ∧ ((z = 1 ∧ 0 ≤ a ∧ a ≤ 63) ∨ (z = 0 ∧ (a < 0 ∨ 63 < a)))) := by
  obtain ⟨d, rfl⟩ : ∃ e, d = e + 1 := ⟨d - 1, by omega⟩
  refine e_Ok.run (t' := (4, [(0, (0, a))], [(0, 63), (0, 0), (0, a)], w)) 3 rfl ?_
  refine e_Ok.callS rfl (by omega) rfl rfl (c_242 (by omega) (by omega) (by omega)) (fun r1 w2 h3 => ?_)
  obtain ⟨z4, rfl, rfl, q5⟩ := h3
  obtain ⟨rfl, q5⟩ | ⟨rfl, q5⟩ := q5
  · show e_Ok 20 elay ecode eI (d + 1) 245 (7, [(0, (0, a))], [(0, 1)], w) _
    refine e_Ok.rets rfl rfl ?_
    exact ⟨_, rfl, rfl, Or.inl ⟨rfl, by omega, by omega⟩⟩
  · show e_Ok 20 elay ecode eI (d + 1) 245 (7, [(0, (0, a))], [(0, 0)], w) _
    refine e_Ok.rets rfl rfl ?_
    exact ⟨_, rfl, rfl, Or.inr ⟨rfl, by omega⟩⟩
theorem c_246 {d : Nat} (hd : 21 ≤ d) {w : eW} (hT : e_Has kTy w) (hA : 0 ≤ w 0 11 ∧ w 0 11 ≤ 4) {a : Int} (g1 : -2147483648 ≤ a ∧ a ≤ 2147483647) : e_Ok 20 elay ecode eI d 246 (0, [(0, (1, 0)), (1, (0, a))], [], w) (fun r w' => ∃ z : Int, r = [(0, z)] ∧ w = w' ∧ ((z = 1 ∧ 0 ≤ a ∧ a < w 0 11) ∨ (z = 0 ∧ (a < 0 ∨ w 0 11 ≤ a)))) := by
  obtain ⟨d, rfl⟩ : ∃ e, d = e + 1 := ⟨d - 1, by omega⟩
  refine e_Ok.run (t' := (3, [(0, (1, 0)), (1, (0, a))], [(1, 0), (0, 0), (0, a)], w)) 3 rfl ?_
  refine e_Ok.getf (z := w 0 11) rfl rfl rfl rfl rfl (by omega) ?_
  refine e_Ok.run (t' := (7, [(0, (1, 0)), (1, (0, a))], [(0, 1), (0, w 0 11), (0, 0), (0, a)], w)) 1 rfl ?_
  refine e_Ok.sub' (z := w 0 11 - 1) rfl (by omega) (by omega) ?_
  refine e_Ok.callS rfl (by omega) rfl rfl (c_242 (by omega) (by omega) (by omega)) (fun r1 w2 h3 => ?_)
  obtain ⟨z4, rfl, rfl, q5⟩ := h3
  obtain ⟨rfl, q5⟩ | ⟨rfl, q5⟩ := q5
  · show e_Ok 20 elay ecode eI (d + 1) 246 (11, [(0, (1, 0)), (1, (0, a))], [(0, 1)], w) _
    refine e_Ok.rets rfl rfl ?_
    exact ⟨_, rfl, rfl, Or.inl ⟨rfl, by omega, by omega⟩⟩
  · show e_Ok 20 elay ecode eI (d + 1) 246 (11, [(0, (1, 0)), (1, (0, a))], [(0, 0)], w) _
    refine e_Ok.rets rfl rfl ?_
    exact ⟨_, rfl, rfl, Or.inr ⟨rfl, by omega⟩⟩
theorem c_243 {d : Nat} (hd : 21 ≤ d) {w : eW} {a b : Int} (g1 : -2147483648 ≤ a ∧ a ≤ 2147483647) (g2 : -2147483648 ≤ b ∧ b ≤ 2147483647) : e_Ok 20 elay ecode eI d 243 (0, [(0, (0, a)), (1, (0, b))], [], w) (fun r w' => ∃ z : Int, r = [(0, z)] ∧ w = w' ∧ ((z = 1 ∧ (-16000 ≤ a ∧ a ≤ 16000) ∧ -16000 ≤ b ∧ b ≤ 16000) ∨ (z = 0 ∧ ¬ ((-16000 ≤ a ∧ a ≤ 16000) ∧ -16000 ≤ b ∧ b ≤ 16000)))) := by
  obtain ⟨d, rfl⟩ : ∃ e, d = e + 1 := ⟨d - 1, by omega⟩
  refine e_Ok.run (t' := (7, [(0, (0, a)), (1, (0, b))], [(0, 16000), (0, (-16000)), (0, a)], w)) 3 rfl ?_
  refine e_Ok.callS rfl (by omega) rfl rfl (c_242 (by omega) (by omega) (by omega)) (fun r1 w2 h3 => ?_)
  obtain ⟨z4, rfl, rfl, q5⟩ := h3
  obtain ⟨rfl, q5⟩ | ⟨rfl, q5⟩ := q5
  · show e_Ok 20 elay ecode eI (d + 1) 243 (10, [(0, (0, a)), (1, (0, b))], [(0, 1)], w) _
    refine e_Ok.if1 rfl (fun h6 => ?_) (fun h6 => ?_)
    · replace h6 : (1 : Int) = 0 := h6
      exfalso; omega
    · replace h6 : (1 : Int) ≠ 0 := by have q : ¬ ((1 : Int) = 0) := h6; omega
      refine e_Ok.run (t' := (20, [(0, (0, a)), (1, (0, b))], [(0, 16000), (0, (-16000)), (0, b)], w)) 3 rfl ?_
      refine e_Ok.callS rfl (by omega) rfl rfl (c_242 (by omega) (by omega) (by omega)) (fun r7 w8 h9 => ?_)
      obtain ⟨z10, rfl, rfl, q11⟩ := h9
      obtain ⟨rfl, q11⟩ | ⟨rfl, q11⟩ := q11
      · show e_Ok 20 elay ecode eI (d + 1) 243 (23, [(0, (0, a)), (1, (0, b))], [(0, 1)], w) _
        refine e_Ok.if1 rfl (fun h12 => ?_) (fun h12 => ?_)
        · replace h12 : (1 : Int) = 0 := h12
          exfalso; omega
        · replace h12 : (1 : Int) ≠ 0 := by have q : ¬ ((1 : Int) = 0) := h12; omega
          refine e_Ok.run (t' := (31, [(0, (0, a)), (1, (0, b))], [(0, 1)], w)) 2 rfl ?_
          refine e_Ok.rets rfl rfl ?_
          exact ⟨_, rfl, rfl, Or.inl ⟨rfl, by omega, by omega⟩⟩
      · show e_Ok 20 elay ecode eI (d + 1) 243 (23, [(0, (0, a)), (1, (0, b))], [(0, 0)], w) _
        refine e_Ok.if1 rfl (fun h13 => ?_) (fun h13 => ?_)
        · replace h13 : (0 : Int) = 0 := h13
          refine e_Ok.run (t' := (31, [(0, (0, a)), (1, (0, b))], [(0, 0)], w)) 1 rfl ?_
          refine e_Ok.rets rfl rfl ?_
          exact ⟨_, rfl, rfl, Or.inr ⟨rfl, by omega⟩⟩
        · replace h13 : (0 : Int) ≠ 0 := by have q : ¬ ((0 : Int) = 0) := h13; omega
          exfalso; omega
  · show e_Ok 20 elay ecode eI (d + 1) 243 (10, [(0, (0, a)), (1, (0, b))], [(0, 0)], w) _
    refine e_Ok.if1 rfl (fun h14 => ?_) (fun h14 => ?_)
    · replace h14 : (0 : Int) = 0 := h14
      refine e_Ok.run (t' := (31, [(0, (0, a)), (1, (0, b))], [(0, 0)], w)) 1 rfl ?_
      refine e_Ok.rets rfl rfl ?_
      exact ⟨_, rfl, rfl, Or.inr ⟨rfl, by omega⟩⟩
    · replace h14 : (0 : Int) ≠ 0 := by have q : ¬ ((0 : Int) = 0) := h14; omega
      exfalso; omega
end
