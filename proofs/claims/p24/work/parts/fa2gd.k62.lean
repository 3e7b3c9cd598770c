noncomputable section
/-! the class: what arm and open answer -/
set_option maxHeartbeats 4000000 in
theorem c_212_o {d : Nat} (hd : 28 ≤ d) {w : eW} (hT : e_Has kTy w) (h13 : w 0 13 = 1) : e_Ok 20 elay kcode eI d 212 (0, [(0, (1, 0))], [], w) (fun r w' => r = [(0, -2)]) := by
  obtain ⟨d, rfl⟩ : ∃ e, d = e + 1 := ⟨d - 1, by omega⟩
  have hw0 := e_Has.get hT (c := 0) (k := 11) (lo := 0) (hi := 4) rfl (by decide)
  refine e_Ok.run (t' := (1, [(0, (1, 0))], [(1, 0)], w)) 1 rfl ?_
  refine e_Ok.getf (z := 1) rfl rfl rfl rfl h13 (by omega) ?_
  refine e_Ok.if1 rfl (fun h1 => ?_) (fun h1 => ?_)
  · replace h1 : (1 : Int) = 0 := h1
    exfalso; omega
  · replace h1 : (1 : Int) ≠ 0 := by have q : ¬ ((1 : Int) = 0) := h1; omega
    refine e_Ok.run (t' := (9, [(0, (1, 0))], [(0, (-2))], w)) 1 rfl ?_
    refine e_Ok.rets rfl rfl ?_
    exact rfl
end
