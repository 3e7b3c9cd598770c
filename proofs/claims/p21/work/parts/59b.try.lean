noncomputable section
/-! what a try says of the region y = 3 z + k -/
theorem tryOk.all {w : eW} {a n z y k : Int} {dl sg pi en : Int → Int} {an : Int → Int → Prop} (h : tryOk w a n dl sg pi en an z) (hy : y = 3 * z + k) (hk : 0 ≤ k ∧ k ≤ 2) :
    ((k = 2 ∧ pi y = pi (w 331 (900 * a + z)) + 1) ∨ (k ≠ 2 ∧ pi y = pi (w 331 (900 * a + z)))) ∧ (k = 0 → w 332 (900 * a + z) < 0 ∨ en y ≤ w 332 (900 * a + z)) ∧ (k ≤ 1 → w 333 (900 * a + z) < 0 ∨ en y ≤ w 333 (900 * a + z)) ∧ en y ≤ w 334 (900 * a + z) := by
  obtain ⟨h1, h2, h3, h4, h5, -, -⟩ := h
  subst hy
  obtain rfl | rfl | rfl : k = 0 ∨ k = 1 ∨ k = 2 := by omega
  · rw [show 3 * z + 0 = 3 * z by omega]
    exact ⟨by omega, fun _ => by rcases h3 with h | h <;> omega, fun _ => by rcases h4 with h | h <;> omega, by omega⟩
  · exact ⟨by omega, fun _ => by omega, fun _ => by rcases h4 with h | h <;> omega, by omega⟩
  · exact ⟨by omega, fun _ => by omega, fun _ => by omega, by omega⟩
end
