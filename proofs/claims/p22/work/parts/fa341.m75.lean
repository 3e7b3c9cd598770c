noncomputable section
/-! the model: resolve, where there is a fault already -/
theorem l_356_0 {n d : Nat} {w : eW} (h : w 275 88 ≠ 0) : e_Pn 20 elay ecode eI n d 356 (0, [(0, (1, 275))], [], w) (fun r w' => r = [] ∧ w = w') := by
  refine e_Pn.run (t' := (4, [(1, (0, 0)), (0, (1, 275))], [(1, 275), (0, 0)], w)) eAlk 4 rfl ?_
  refine e_Pn.getf (z := w 275 94) eAlk rfl rfl rfl (fun b1 => ?_)
  refine e_Pn.if2 eAlk rfl (fun h2 => ?_) (fun h2 => ?_)
  · replace h2 : (0 : Int) ≥ w 275 94 := h2
    show e_Pn 20 elay ecode eI n d 356 (223, [(1, (0, 0)), (0, (1, 275))], [], w) _
    refine e_Pn.ret0 rfl ?_
    exact ⟨rfl, rfl⟩
  · replace h2 : (0 : Int) < w 275 94 := by have q : ¬ ((0 : Int) ≥ w 275 94) := h2; omega
    show e_Pn 20 elay ecode eI n d 356 (10, [(1, (0, 0)), (0, (1, 275))], [], w) _
    refine e_Pn.run (t' := (11, [(1, (0, 0)), (0, (1, 275))], [(1, 275)], w)) eAlk 1 rfl ?_
    refine e_Pn.getf (z := w 275 88) eAlk rfl rfl rfl (fun b3 => ?_)
    refine e_Pn.if1 eAlk rfl (fun h4 => ?_) (fun h4 => ?_)
    · replace h4 : (w 275 88 : Int) ≠ 0 := h4
      show e_Pn 20 elay ecode eI n d 356 (223, [(1, (0, 0)), (0, (1, 275))], [], w) _
      refine e_Pn.ret0 rfl ?_
      exact ⟨rfl, rfl⟩
    · replace h4 : (w 275 88 : Int) = 0 := by have q : ¬ ((w 275 88 : Int) ≠ 0) := h4; omega
      exfalso; omega
end
