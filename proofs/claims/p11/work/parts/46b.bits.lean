noncomputable section
section E46b
variable {fd : Nat} {lay : List eY} {code : Nat → Nat → eE} {I : Nat → xM} {d M a b p nx : Nat} {l : eL} {r : List eV} {w : eW} {Q : List eV → eW → Prop}
/-! or, and: of truth values -/
theorem e_Ok.or01 {x y : Int} (hx : 0 ≤ x ∧ x ≤ 1) (hy : 0 ≤ y ∧ y ≤ 1) (h : ∀ z : Int, (0 ≤ z ∧ z ≤ 1) ∧ (z = 0 ↔ (x = 0 ∧ y = 0)) → e_Ok fd lay code I d M (nx, l, (0, z) :: r, w) Q) (hc : code M p = (0, ei_bin (eB (fun x y => x ||| y)) nx, a, b)) : e_Ok fd lay code I d M (p, l, (0, y) :: (0, x) :: r, w) Q := by
  obtain rfl | rfl : x = 0 ∨ x = 1 := by omega
  · obtain rfl | rfl : y = 0 ∨ y = 1 := by omega
    · exact e_Ok.step hc rfl (h 0 (by decide))
    · exact e_Ok.step hc rfl (h 1 (by decide))
  · obtain rfl | rfl : y = 0 ∨ y = 1 := by omega
    · exact e_Ok.step hc rfl (h 1 (by decide))
    · exact e_Ok.step hc rfl (h 1 (by decide))
theorem e_Ok.and01 {x y : Int} (hx : 0 ≤ x ∧ x ≤ 1) (hy : 0 ≤ y ∧ y ≤ 1) (h : ∀ z : Int, (0 ≤ z ∧ z ≤ 1) ∧ (z = 1 ↔ (x = 1 ∧ y = 1)) → e_Ok fd lay code I d M (nx, l, (0, z) :: r, w) Q) (hc : code M p = (0, ei_bin (eB (fun x y => x &&& y)) nx, a, b)) : e_Ok fd lay code I d M (p, l, (0, y) :: (0, x) :: r, w) Q := by
  obtain rfl | rfl : x = 0 ∨ x = 1 := by omega
  · obtain rfl | rfl : y = 0 ∨ y = 1 := by omega
    · exact e_Ok.step hc rfl (h 0 (by decide))
    · exact e_Ok.step hc rfl (h 0 (by decide))
  · obtain rfl | rfl : y = 0 ∨ y = 1 := by omega
    · exact e_Ok.step hc rfl (h 0 (by decide))
    · exact e_Ok.step hc rfl (h 1 (by decide))
end E46b
end
