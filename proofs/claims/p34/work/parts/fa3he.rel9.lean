noncomputable section
/-! the law: the book has no more rows than there were calls -/
def lwT (i : Int) (u : eW) : Prop := lwS u ∧ (u 0 13 = 1 → 6 * u 0 12 ≤ i) ∧ 6 * u 275 5 ≤ i
theorem lwT.step {u w1 v w2 v2 : eW} {i : Int} (h0 : lw0 u) (h2 : lw0 v2) (hf1 : e_Lf Bk u w1 v) (hw1 : kbk (e_PB Bk u) w1) (hf2 : e_Lf Bm v w2 v2) (hw2 : mbk (e_PB Bm v) w2) (hrk : u 0 13 = 1 → 6 * u 0 12 ≤ i) (hrm : 6 * u 275 5 ≤ i) : (v2 0 13 = 1 → 6 * v2 0 12 ≤ i + 6) ∧ 6 * v2 275 5 ≤ i + 6 := by
  have b0 : e_PB Bk u 0 13 = u 0 13 := e_PB_in (by unfold Bk; omega)
  have b1 : e_PB Bk u 0 12 = u 0 12 := e_PB_in (by unfold Bk; omega)
  have d1 : e_PB Bm v 275 5 = u 275 5 := (e_PB_in (by unfold Bm; omega)).trans (hf1.2.2.1 275 5 (by unfold Bk; omega))
  have a12 := h0.1 0 12
  have a5 := h0.1 275 5
  have c12 : v2 0 12 = v 0 12 := hf2.2.2.1 0 12 (by unfold Bm; omega)
  have c13 : v2 0 13 = v 0 13 := hf2.2.2.1 0 13 (by unfold Bm; omega)
  have r12 := h0.2.2.2.2.1.2.2.1.2.1
  have r5 := h0.2.2.2.2.2.rge
  have r55 : e_PB Bm u 275 5 = u 275 5 := e_PB_in (by unfold Bm; omega)
  have t5 : e_PB Bm u 275 5 ≤ 2000 := by
    obtain ⟨G, -, hB, -⟩ := h0.2.2.2.2.2.base
    exact hB.1.2
  unfold mbk at hw2
  refine ⟨fun g => ?_, ?_⟩
  · rcases hw1 with y | ⟨y, z⟩
    · have e := L_vl hf1 (c := 0) (k := 13) (x := 0) (by unfold Bk; omega) (by unfold kn1; omega) y
      omega
    · rcases z with ⟨z1, z2, z3⟩ | z
      · have e := L_vl hf1 (c := 0) (k := 12) (x := w1 0 12) (by unfold Bk; omega) (by unfold kn1; omega) rfl
        have z4 := hrk (by omega)
        omega
      · have e := L_vl hf1 (c := 0) (k := 12) (x := 0) (by unfold Bk; omega) (by unfold kn1; omega) z
        have z5 : 0 ≤ 6 * u 275 5 := by omega
        omega
  · have e := L_vl hf2 (c := 275) (k := 5) (x := w2 275 5) (by unfold Bm; omega) (by unfold kn1; omega) rfl
    omega
theorem lwT.mono {i : Int} {u : eW} (h : lwT i u) : lwT (i + 6) u := ⟨h.1, fun g => by have z := h.2.1 g; omega, by have z := h.2.2; omega⟩
theorem i0.lwT {w u : eW} (h : i0 w u) (ha : e_all u) : lwT 0 u := by
  have m5 : u 275 5 = 0 := h.vl (j := 275) (k := 5) (by decide +kernel)
  have k5 : u 0 12 = 0 := h.vl (j := 0) (k := 12) (by decide +kernel)
  exact ⟨h.lwS ha, fun _ => by omega, by omega⟩
end
