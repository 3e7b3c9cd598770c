noncomputable section
/-! answers of single calls, beside what they keep -/
theorem e_Ok.both {fd : Nat} {lay : List eY} {code : Nat → Nat → eE} {I : Nat → xM} {d M : Nat} {t : eS} {Q Q' : List eV → eW → Prop} (h : e_Ok fd lay code I d M t Q) (h' : e_Ok fd lay code I d M t Q') : e_Ok fd lay code I d M t (fun r v => Q r v ∧ Q' r v) := by
  obtain ⟨n, r, v, h1, h2⟩ := h
  obtain ⟨n', r', v', h3, h4⟩ := h'
  have a := e_go_le (Nat.le_max_left n n') h1
  have b := e_go_le (Nat.le_max_right n n') h3
  rw [a] at b
  have e := Option.some.inj b
  have e1 : r = r' := congrArg Prod.fst e
  have e2 : v = v' := congrArg Prod.snd e
  exact ⟨n, r, v, h1, h2, by rw [e1, e2]; exact h4⟩
theorem one_z {a b : Int} (h : ([(0, a)] : List eV) = [(0, b)]) : a = b := congrArg Prod.snd (List.cons.inj h).1
end
