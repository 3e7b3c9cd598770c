noncomputable section
theorem fw_bd {g v h e u : Int} (hg : 1 ≤ g ∧ g ≤ 2000) (hv : 1 ≤ v ∧ v ≤ 2000) (hh : 0 ≤ h ∧ h ≤ 200000) (hu : u = v / g) (he : 0 ≤ e ∧ e ≤ u ∧ e ≤ h) : (0 ≤ g * e ∧ g * e ≤ 2000) ∧ (0 ≤ (g * e) * (e + 1) ∧ (g * e) * (e + 1) ≤ 4002000) ∧ (0 ≤ (2 * h - 2 * e) * v ∧ (2 * h - 2 * e) * v ≤ 800000000) ∧ (0 ≤ g * (h + 1) ∧ g * (h + 1) ≤ 400002000) ∧ 2 * h ≤ (g * e) * (e + 1) + (2 * h - 2 * e) * v ∧ 1 ≤ g * (h + 1) := by
  have h1 : g * u ≤ v := by rw [hu, Int.mul_comm]; exact Int.ediv_mul_le v (by omega)
  have h2 : g * e ≤ g * u := Int.mul_le_mul_of_nonneg_left he.2.1 (by omega)
  have h3 : 0 ≤ g * e := Int.mul_nonneg (by omega) he.1
  have h4 : 1 * e ≤ g * e := Int.mul_le_mul_of_nonneg_right hg.1 he.1
  have h5 : (g * e) * (e + 1) ≤ 2000 * 2001 := Int.mul_le_mul (by omega) (by omega) (by omega) (by decide)
  have h6 : 0 ≤ (g * e) * (e + 1) := Int.mul_nonneg h3 (by omega)
  have h7 : 0 ≤ (2 * h - 2 * e) * v := Int.mul_nonneg (by omega) (by omega)
  have h8 : (2 * h - 2 * e) * v ≤ 400000 * 2000 := Int.mul_le_mul (by omega) hv.2 (by omega) (by decide)
  have h9 : (2 * h - 2 * e) * 1 ≤ (2 * h - 2 * e) * v := Int.mul_le_mul_of_nonneg_left hv.1 (by omega)
  have h10 : g * (h + 1) ≤ 2000 * 200001 := Int.mul_le_mul hg.2 (by omega) (by omega) (by decide)
  have h11 : 1 * (h + 1) ≤ g * (h + 1) := Int.mul_le_mul_of_nonneg_right hg.1 (by omega)
  have h12 : 2 * e ≤ (g * e) * (e + 1) := by
    by_cases e0 : e = 0
    · rw [e0]; simp
    · have : (g * e) * 2 ≤ (g * e) * (e + 1) := Int.mul_le_mul_of_nonneg_left (by omega) h3
      omega
  omega
end
