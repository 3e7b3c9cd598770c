noncomputable section
/-! arms' states and ways over a chain of steps -/
theorem sRel.refl {w : eW} : sRel w w := fun _ _ _ => Or.inl ⟨rfl, rfl⟩
theorem sRel.trans {w w1 w2 : eW} (h : sRel w w1) (h' : sRel w1 w2) : sRel w w2 := fun b g1 g2 => by
  have q1 := h b g1 g2
  have q2 := h' b g1 g2
  omega
theorem sRel.up {w w0 w1 : eW} {c k z : Int} (h : sRel w w0) (hw : e_up w0 c k z = w1) (hn : c = 276 → ∀ b, 0 ≤ b → b ≤ 3 → k ≠ 36 * b + 16 ∧ k ≠ 36 * b + 22) : sRel w w1 := fun b g1 g2 => by
  have e1 : w1 276 (36 * b + 16) = w0 276 (36 * b + 16) := by
    rw [← hw]
    refine e_up_ne _ _ ?_
    by_cases e : c = 276
    · exact Or.inr (fun q => (hn e b g1 g2).1 q.symm)
    · exact Or.inl (fun q => e q.symm)
  have e2 : w1 276 (36 * b + 22) = w0 276 (36 * b + 22) := by
    rw [← hw]
    refine e_up_ne _ _ ?_
    by_cases e : c = 276
    · exact Or.inr (fun q => (hn e b g1 g2).2 q.symm)
    · exact Or.inl (fun q => e q.symm)
  rw [e1, e2]
  exact h b g1 g2
theorem sRel.fr {S : Int → Int → Prop} {w w0 w1 : eW} (h : sRel w w0) (hf : e_fr S w0 w1) (hn : ∀ b, 0 ≤ b → b ≤ 3 → ¬ S 276 (36 * b + 16) ∧ ¬ S 276 (36 * b + 22)) : sRel w w1 := fun b g1 g2 => by
  rw [hf _ _ (hn b g1 g2).1, hf _ _ (hn b g1 g2).2]
  exact h b g1 g2
end
