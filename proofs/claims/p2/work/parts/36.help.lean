noncomputable section
/-! helps for contracts: a reference of an object; a branch by its two ways -/
theorem e_getr {lay : List eY} {ft : Nat → Nat → Nat} {ci k nx p n : Nat} {l : eL} {r : List eV} {w : eW} {j jj : Nat} (hy : lay[j]? = some (0, ci, n)) (hk : k < n) (hf : ft ci k = 1) (hw : w j k = (jj : Int)) : ei_getf ft lay ci k nx (p, l, (1, (j : Int)) :: r, w) = some (nx, l, (1, (jj : Int)) :: r, w) := by
  unfold ei_getf
  simp only [Int.toNat_natCast, hy, Nat.beq_refl, Nat.ble_eq_true_of_le (show k + 1 ≤ n from hk), Bool.and_self, cond_true, hf, hw, e_rd]
  rw [decide_eq_false (by omega)]
  rfl
section E43
variable {fd : Nat} {lay : List eY} {code : Nat → Nat → eE} {I : Nat → xM} {d M k tg nx a b p : Nat} {l : eL} {r : List eV} {w : eW} {Q : List eV → eW → Prop}
theorem e_Ok.if2 {x y : Int} (hc : code M p = (0, ei_if2 k tg nx, a, b)) (ht : x_cnd k x y → e_Ok fd lay code I d M (tg, l, r, w) Q) (hf : ¬ x_cnd k x y → e_Ok fd lay code I d M (nx, l, r, w) Q) : e_Ok fd lay code I d M (p, l, (0, y) :: (0, x) :: r, w) Q := by
  by_cases h : x_cnd k x y
  · exact e_Ok.step hc (e_if2_t h) (ht h)
  · exact e_Ok.step hc (e_if2_f h) (hf h)
theorem e_Ok.if1 {x : Int} (hc : code M p = (0, ei_if1 k tg nx, a, b)) (ht : x_cnd k x 0 → e_Ok fd lay code I d M (tg, l, r, w) Q) (hf : ¬ x_cnd k x 0 → e_Ok fd lay code I d M (nx, l, r, w) Q) : e_Ok fd lay code I d M (p, l, (0, x) :: r, w) Q := by
  by_cases h : x_cnd k x 0
  · exact e_Ok.step hc (e_if1_t h) (ht h)
  · exact e_Ok.step hc (e_if1_f h) (hf h)
end E43
end
