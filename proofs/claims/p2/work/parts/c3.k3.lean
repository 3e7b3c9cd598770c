noncomputable section
/-! the class: what only looks -/
theorem c_226 {d : Nat} {w : eW} (hT : e_Has kTy w) : e_Ok 20 elay ecode eI d 226 (0, [(0, (1, 0))], [], w) (fun r w' => ∃ z : Int, r = [(0, z)] ∧ w = w') := by
  refine e_Ok.run (t' := (1, [(0, (1, 0))], [(1, 0)], w)) 1 rfl ?_
  refine e_Ok.getr (z := 74) rfl rfl rfl rfl (e_Has.eq hT rfl) (by omega) ?_
  have h1 := (e_Has.get hT (c := 74) (k := 0) (lo := (-2147483648)) (hi := 2147483647) rfl (by decide))
  refine e_Ok.getf (z := w 74 0) rfl rfl rfl rfl rfl (by omega) ?_
  refine e_Ok.rets rfl rfl ?_
  exact ⟨_, rfl, rfl⟩
theorem c_237 {d : Nat} {w : eW} (hT : e_Has kTy w) : e_Ok 20 elay ecode eI d 237 (0, [(0, (1, 0))], [], w) (fun r w' => ∃ z : Int, r = [(0, z)] ∧ w = w') := by
  refine e_Ok.run (t' := (1, [(0, (1, 0))], [(1, 0)], w)) 1 rfl ?_
  refine e_Ok.getr (z := 74) rfl rfl rfl rfl (e_Has.eq hT rfl) (by omega) ?_
  have h1 := (e_Has.get hT (c := 74) (k := 1) (lo := (-2147483648)) (hi := 2147483647) rfl (by decide))
  refine e_Ok.getf (z := w 74 1) rfl rfl rfl rfl rfl (by omega) ?_
  refine e_Ok.rets rfl rfl ?_
  exact ⟨_, rfl, rfl⟩
end
