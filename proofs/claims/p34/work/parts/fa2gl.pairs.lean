noncomputable section
/-! pairs of calls that touch the counts -/
theorem kn_up {P : Int → Int → Prop} {w : eW} (h : ∀ c k, P c k → kn1 (w c k)) {j i x : Int} (hx : kn1 x ∨ ¬ P j i) : ∀ c k, P c k → kn1 (e_up w j i x c k) := fun c k hc => by
  by_cases e : c = j ∧ k = i
  · obtain ⟨rfl, rfl⟩ := e
    rw [e_up_eq]
    rcases hx with hx | hx
    · exact hx
    · exact absurd hc hx
  · rw [e_up_ne _ _ (by omega)]
    exact h c k hc
theorem lw5_ball {u w1 v w2 v2 : eW} {z1 z2 p1 p2 p3 : Int} (g1 : -2147483648 ≤ p1 ∧ p1 ≤ 2147483647) (g2 : -2147483648 ≤ p2 ∧ p2 ≤ 2147483647) (g3 : -2147483648 ≤ p3 ∧ p3 ≤ 2147483647) (h0 : lw0 u) (h3 : lw3 u) (h5 : lw5 u) (hf1 : e_Lf Bk u w1 v) (x1 : (((e_PB Bk u) = w1 ∧ ((¬ ((-16000 ≤ p1 ∧ p1 ≤ 16000) ∧ (-16000 ≤ p2 ∧ p2 ≤ 16000) ∧ 0 ≤ p3 ∧ p3 ≤ 8000) ∧ z1 = -1) ∨ (((-16000 ≤ p1 ∧ p1 ≤ 16000) ∧ (-16000 ≤ p2 ∧ p2 ≤ 16000) ∧ 0 ≤ p3 ∧ p3 ≤ 8000) ∧ (((e_PB Bk u) 0 13 ≠ 0 ∧ z1 = -2) ∨ ((e_PB Bk u) 0 13 = 0 ∧ (e_PB Bk u) 250 0 = 16 ∧ z1 = -3))))) ∨ ((((-16000 ≤ p1 ∧ p1 ≤ 16000) ∧ (-16000 ≤ p2 ∧ p2 ≤ 16000) ∧ 0 ≤ p3 ∧ p3 ≤ 8000) ∧ (e_PB Bk u) 0 13 = 0 ∧ ¬ ((e_PB Bk u) 250 0 = 16)) ∧ z1 = (e_PB Bk u) 250 0 ∧ w1 = e_up (e_up (e_up (e_up (e_up (e_up (e_PB Bk u) (251) ((e_PB Bk u) 250 0) (p1)) (252) ((e_PB Bk u) 250 0) (p2)) (253) ((e_PB Bk u) 250 0) (0)) (254) ((e_PB Bk u) 250 0) (0)) (255) ((e_PB Bk u) 250 0) (p3)) (250) (0) ((e_PB Bk u) 250 0 + 1)))) (hf2 : e_Lf Bm v w2 v2) (x2 : (((e_PB Bm v) = w2 ∧ ((¬ ((-16000 ≤ p1 ∧ p1 ≤ 16000) ∧ (-16000 ≤ p2 ∧ p2 ≤ 16000) ∧ 0 ≤ p3 ∧ p3 ≤ 8000) ∧ z2 = -1) ∨ (((-16000 ≤ p1 ∧ p1 ≤ 16000) ∧ (-16000 ≤ p2 ∧ p2 ≤ 16000) ∧ 0 ≤ p3 ∧ p3 ≤ 8000) ∧ (((e_PB Bm v) 275 3 ≠ 0 ∧ z2 = -2) ∨ ((e_PB Bm v) 275 3 = 0 ∧ (e_PB Bm v) 275 23 = 16 ∧ z2 = -3))))) ∨ ((((-16000 ≤ p1 ∧ p1 ≤ 16000) ∧ (-16000 ≤ p2 ∧ p2 ≤ 16000) ∧ 0 ≤ p3 ∧ p3 ≤ 8000) ∧ (e_PB Bm v) 275 3 = 0 ∧ ¬ ((e_PB Bm v) 275 23 = 16)) ∧ z2 = (e_PB Bm v) 275 23 ∧ w2 = e_up (e_up (e_up (e_up (e_up (e_up (e_PB Bm v) 294 ((e_PB Bm v) 275 23) (0)) 295 ((e_PB Bm v) 275 23) (p1)) 296 ((e_PB Bm v) 275 23) (p2)) 297 ((e_PB Bm v) 275 23) (p3)) 298 ((e_PB Bm v) 275 23) (0)) 275 (23) ((e_PB Bm v) 275 23 + 1)))) : lw5 v2 ∧ z1 = z2 := by
  have hT := h0.2.2.2.2.1.1
  have b0 : e_PB Bk u 0 13 = u 0 13 := e_PB_in (by unfold Bk; omega)
  have b1 : e_PB Bk u 0 11 = u 0 11 := e_PB_in (by unfold Bk; omega)
  have b2 : e_PB Bk u 250 0 = u 250 0 := e_PB_in (by unfold Bk; omega)
  have b3 : e_PB Bk u 250 1 = u 250 1 := e_PB_in (by unfold Bk; omega)
  have b4 : e_PB Bk u 19 0 = u 19 0 := e_PB_in (by unfold Bk; omega)
  have b5 : e_PB Bk u 19 1 = u 19 1 := e_PB_in (by unfold Bk; omega)
  have b6 : e_PB Bk u 74 2 = u 74 2 := e_PB_in (by unfold Bk; omega)
  have d0 : e_PB Bm v 275 3 = u 275 3 := (e_PB_in (by unfold Bm; omega)).trans (hf1.2.2.1 275 3 (by unfold Bk; omega))
  have d1 : e_PB Bm v 275 10 = u 275 10 := (e_PB_in (by unfold Bm; omega)).trans (hf1.2.2.1 275 10 (by unfold Bk; omega))
  have d2 : e_PB Bm v 275 23 = u 275 23 := (e_PB_in (by unfold Bm; omega)).trans (hf1.2.2.1 275 23 (by unfold Bk; omega))
  have d3 : e_PB Bm v 275 30 = u 275 30 := (e_PB_in (by unfold Bm; omega)).trans (hf1.2.2.1 275 30 (by unfold Bk; omega))
  have d4 : e_PB Bm v 275 40 = u 275 40 := (e_PB_in (by unfold Bm; omega)).trans (hf1.2.2.1 275 40 (by unfold Bk; omega))
  have d5 : e_PB Bm v 275 42 = u 275 42 := (e_PB_in (by unfold Bm; omega)).trans (hf1.2.2.1 275 42 (by unfold Bk; omega))
  have d6 : e_PB Bm v 275 49 = u 275 49 := (e_PB_in (by unfold Bm; omega)).trans (hf1.2.2.1 275 49 (by unfold Bk; omega))
  have r250_0 := e_Has.get hT (c := 250) (k := 0) (lo := 0) (hi := 16) rfl (by decide)
  have r250_1 := e_Has.get hT (c := 250) (k := 1) (lo := 0) (hi := 8) rfl (by decide)
  have r19_0 := e_Has.get hT (c := 19) (k := 0) (lo := 0) (hi := 4) rfl (by decide)
  have r19_1 := e_Has.get hT (c := 19) (k := 1) (lo := 0) (hi := 32) rfl (by decide)
  have r74_2 := e_Has.get hT (c := 74) (k := 2) (lo := 0) (hi := 8) rfl (by decide)
  have q13 := (L_len h0).2.1
  have h5' := h5
  obtain ⟨⟨a1, a2, a3, a4, a5⟩, hb, hz⟩ := h5'
  obtain ⟨y9, y3, y10⟩ := h3
  rcases x1 with ⟨ew1, s1⟩ | ⟨s1, t1, ew1⟩
  · rcases x2 with ⟨ew2, s2⟩ | ⟨s2, t2, ew2⟩
    · exact ⟨lw5_same h0 h5 hf1 (fun c k _ => by rw [← ew1]) hf2 (fun c k _ => by rw [← ew2]), by omega⟩
    · exfalso; omega
  · rcases x2 with ⟨ew2, s2⟩ | ⟨s2, t2, ew2⟩
    · exfalso; omega
    · have kv : ∀ c k, rK c k → kn1 (w1 c k) := by rw [ew1]; exact (kn_up (kn_up (kn_up (kn_up (kn_up (kn_up (fun c k y => by rw [e_PB_in (rK_B y).1]; exact h0.1 c k) (Or.inl (by unfold kn1; omega))) (Or.inl (by unfold kn1; omega))) (Or.inl (by unfold kn1; omega))) (Or.inl (by unfold kn1; omega))) (Or.inl (by unfold kn1; omega))) (Or.inl (by unfold kn1; omega)))
      have mv : ∀ c k, rM c k → kn1 (w2 c k) := by rw [ew2]; exact (kn_up (kn_up (kn_up (kn_up (kn_up (kn_up (fun c k y => by rw [e_PB_in (rM_B y).1]; exact hf1.2.2.2.2.1 c k) (Or.inl (by unfold kn1; omega))) (Or.inl (by unfold kn1; omega))) (Or.inl (by unfold kn1; omega))) (Or.inl (by unfold kn1; omega))) (Or.inl (by unfold kn1; omega))) (Or.inl (by unfold kn1; omega)))
      have hK : ∀ c k, rK c k → v2 c k = w1 c k := fun c k y => (hf2.2.2.1 c k (rK_B y).2).trans (hf1.val (rK_B y).1 (kv c k y))
      have hM : ∀ c k, rM c k → v2 c k = w2 c k := fun c k y => hf2.val (rM_B y).1 (mv c k y)
      have k1 : v2 250 0 = e_PB Bk u 250 0 + 1 := (hK 250 0 (by unfold rK; omega)).trans (by rw [ew1, e_up_eq])
      have k2 : v2 250 1 = e_PB Bk u 250 1 := (hK 250 1 (by unfold rK; omega)).trans (by rw [ew1, e_up_ne _ _ (by omega), e_up_ne _ _ (by omega), e_up_ne _ _ (by omega), e_up_ne _ _ (by omega), e_up_ne _ _ (by omega), e_up_ne _ _ (by omega)])
      have k3 : v2 19 0 = e_PB Bk u 19 0 := (hK 19 0 (by unfold rK; omega)).trans (by rw [ew1, e_up_ne _ _ (by omega), e_up_ne _ _ (by omega), e_up_ne _ _ (by omega), e_up_ne _ _ (by omega), e_up_ne _ _ (by omega), e_up_ne _ _ (by omega)])
      have k4 : v2 19 1 = e_PB Bk u 19 1 := (hK 19 1 (by unfold rK; omega)).trans (by rw [ew1, e_up_ne _ _ (by omega), e_up_ne _ _ (by omega), e_up_ne _ _ (by omega), e_up_ne _ _ (by omega), e_up_ne _ _ (by omega), e_up_ne _ _ (by omega)])
      have k5 : v2 74 2 = e_PB Bk u 74 2 := (hK 74 2 (by unfold rK; omega)).trans (by rw [ew1, e_up_ne _ _ (by omega), e_up_ne _ _ (by omega), e_up_ne _ _ (by omega), e_up_ne _ _ (by omega), e_up_ne _ _ (by omega), e_up_ne _ _ (by omega)])
      have m1 : v2 275 23 = e_PB Bm v 275 23 + 1 := (hM 275 23 (by unfold rM; omega)).trans (by rw [ew2, e_up_eq])
      have m2 : v2 275 42 = e_PB Bm v 275 42 := (hM 275 42 (by unfold rM; omega)).trans (by rw [ew2, e_up_ne _ _ (by omega), e_up_ne _ _ (by omega), e_up_ne _ _ (by omega), e_up_ne _ _ (by omega), e_up_ne _ _ (by omega), e_up_ne _ _ (by omega)])
      have m3 : v2 275 30 = e_PB Bm v 275 30 := (hM 275 30 (by unfold rM; omega)).trans (by rw [ew2, e_up_ne _ _ (by omega), e_up_ne _ _ (by omega), e_up_ne _ _ (by omega), e_up_ne _ _ (by omega), e_up_ne _ _ (by omega), e_up_ne _ _ (by omega)])
      have m4 : v2 275 40 = e_PB Bm v 275 40 := (hM 275 40 (by unfold rM; omega)).trans (by rw [ew2, e_up_ne _ _ (by omega), e_up_ne _ _ (by omega), e_up_ne _ _ (by omega), e_up_ne _ _ (by omega), e_up_ne _ _ (by omega), e_up_ne _ _ (by omega)])
      have m5 : v2 275 49 = e_PB Bm v 275 49 := (hM 275 49 (by unfold rM; omega)).trans (by rw [ew2, e_up_ne _ _ (by omega), e_up_ne _ _ (by omega), e_up_ne _ _ (by omega), e_up_ne _ _ (by omega), e_up_ne _ _ (by omega), e_up_ne _ _ (by omega)])
      have K20 : ∀ b, v2 20 b = u 20 b := fun b => (hK 20 b (by unfold rK; omega)).trans ((by rw [ew1, e_up_ne _ _ (by omega), e_up_ne _ _ (by omega), e_up_ne _ _ (by omega), e_up_ne _ _ (by omega), e_up_ne _ _ (by omega), e_up_ne _ _ (by omega)] : _ = e_PB Bk u 20 b).trans (e_PB_in (by unfold Bk; omega)))
      have K21 : ∀ b, v2 21 b = u 21 b := fun b => (hK 21 b (by unfold rK; omega)).trans ((by rw [ew1, e_up_ne _ _ (by omega), e_up_ne _ _ (by omega), e_up_ne _ _ (by omega), e_up_ne _ _ (by omega), e_up_ne _ _ (by omega), e_up_ne _ _ (by omega)] : _ = e_PB Bk u 21 b).trans (e_PB_in (by unfold Bk; omega)))
      have K257 : ∀ b, v2 257 b = u 257 b := fun b => (hK 257 b (by unfold rK; omega)).trans ((by rw [ew1, e_up_ne _ _ (by omega), e_up_ne _ _ (by omega), e_up_ne _ _ (by omega), e_up_ne _ _ (by omega), e_up_ne _ _ (by omega), e_up_ne _ _ (by omega)] : _ = e_PB Bk u 257 b).trans (e_PB_in (by unfold Bk; omega)))
      have M303 : ∀ b, v2 303 b = u 303 b := fun b => (hM 303 b (by unfold rM; omega)).trans ((by rw [ew2, e_up_ne _ _ (by omega), e_up_ne _ _ (by omega), e_up_ne _ _ (by omega), e_up_ne _ _ (by omega), e_up_ne _ _ (by omega), e_up_ne _ _ (by omega)] : _ = e_PB Bm v 303 b).trans ((e_PB_in (by unfold Bm; omega)).trans (hf1.2.2.1 303 b (by unfold Bk; omega))))
      have M304 : ∀ b, v2 304 b = u 304 b := fun b => (hM 304 b (by unfold rM; omega)).trans ((by rw [ew2, e_up_ne _ _ (by omega), e_up_ne _ _ (by omega), e_up_ne _ _ (by omega), e_up_ne _ _ (by omega), e_up_ne _ _ (by omega), e_up_ne _ _ (by omega)] : _ = e_PB Bm v 304 b).trans ((e_PB_in (by unfold Bm; omega)).trans (hf1.2.2.1 304 b (by unfold Bk; omega))))
      have M315 : ∀ b, v2 315 b = u 315 b := fun b => (hM 315 b (by unfold rM; omega)).trans ((by rw [ew2, e_up_ne _ _ (by omega), e_up_ne _ _ (by omega), e_up_ne _ _ (by omega), e_up_ne _ _ (by omega), e_up_ne _ _ (by omega), e_up_ne _ _ (by omega)] : _ = e_PB Bm v 315 b).trans ((e_PB_in (by unfold Bm; omega)).trans (hf1.2.2.1 315 b (by unfold Bk; omega))))
      refine ⟨⟨⟨by omega, by omega, by omega, by omega, by omega⟩, fun b q0 q1 => ?_, fun b q0 q1 => ?_⟩, by omega⟩
      · rw [M303, M304, K20, K21]
        exact hb b q0 (by omega)
      · rw [M315, K257]
        exact hz b q0 (by omega)
theorem lw5_box {u w1 v w2 v2 : eW} {z1 z2 p1 p2 p3 p4 : Int} (g1 : -2147483648 ≤ p1 ∧ p1 ≤ 2147483647) (g2 : -2147483648 ≤ p2 ∧ p2 ≤ 2147483647) (g3 : -2147483648 ≤ p3 ∧ p3 ≤ 2147483647) (g4 : -2147483648 ≤ p4 ∧ p4 ≤ 2147483647) (h0 : lw0 u) (h3 : lw3 u) (h5 : lw5 u) (hf1 : e_Lf Bk u w1 v) (x1 : (((e_PB Bk u) = w1 ∧ ((¬ ((-16000 ≤ p1 ∧ p1 ≤ 16000) ∧ (-16000 ≤ p2 ∧ p2 ≤ 16000) ∧ (0 ≤ p3 ∧ p1 + p3 ≤ 16000) ∧ 0 ≤ p4 ∧ p2 + p4 ≤ 16000) ∧ z1 = -1) ∨ (((-16000 ≤ p1 ∧ p1 ≤ 16000) ∧ (-16000 ≤ p2 ∧ p2 ≤ 16000) ∧ (0 ≤ p3 ∧ p1 + p3 ≤ 16000) ∧ 0 ≤ p4 ∧ p2 + p4 ≤ 16000) ∧ (((e_PB Bk u) 0 13 ≠ 0 ∧ z1 = -2) ∨ ((e_PB Bk u) 0 13 = 0 ∧ (e_PB Bk u) 250 0 = 16 ∧ z1 = -3))))) ∨ ((((-16000 ≤ p1 ∧ p1 ≤ 16000) ∧ (-16000 ≤ p2 ∧ p2 ≤ 16000) ∧ (0 ≤ p3 ∧ p1 + p3 ≤ 16000) ∧ 0 ≤ p4 ∧ p2 + p4 ≤ 16000) ∧ (e_PB Bk u) 0 13 = 0 ∧ ¬ ((e_PB Bk u) 250 0 = 16)) ∧ z1 = (e_PB Bk u) 250 0 ∧ w1 = e_up (e_up (e_up (e_up (e_up (e_up (e_PB Bk u) (251) ((e_PB Bk u) 250 0) (p1)) (252) ((e_PB Bk u) 250 0) (p2)) (253) ((e_PB Bk u) 250 0) (p3)) (254) ((e_PB Bk u) 250 0) (p4)) (255) ((e_PB Bk u) 250 0) (-1)) (250) (0) ((e_PB Bk u) 250 0 + 1)))) (hf2 : e_Lf Bm v w2 v2) (x2 : (((e_PB Bm v) = w2 ∧ ((¬ ((-16000 ≤ p1 ∧ p1 ≤ 16000) ∧ (-16000 ≤ p2 ∧ p2 ≤ 16000) ∧ (0 ≤ p3 ∧ p1 + p3 ≤ 16000) ∧ 0 ≤ p4 ∧ p2 + p4 ≤ 16000) ∧ z2 = -1) ∨ (((-16000 ≤ p1 ∧ p1 ≤ 16000) ∧ (-16000 ≤ p2 ∧ p2 ≤ 16000) ∧ (0 ≤ p3 ∧ p1 + p3 ≤ 16000) ∧ 0 ≤ p4 ∧ p2 + p4 ≤ 16000) ∧ (((e_PB Bm v) 275 3 ≠ 0 ∧ z2 = -2) ∨ ((e_PB Bm v) 275 3 = 0 ∧ (e_PB Bm v) 275 23 = 16 ∧ z2 = -3))))) ∨ ((((-16000 ≤ p1 ∧ p1 ≤ 16000) ∧ (-16000 ≤ p2 ∧ p2 ≤ 16000) ∧ (0 ≤ p3 ∧ p1 + p3 ≤ 16000) ∧ 0 ≤ p4 ∧ p2 + p4 ≤ 16000) ∧ (e_PB Bm v) 275 3 = 0 ∧ ¬ ((e_PB Bm v) 275 23 = 16)) ∧ z2 = (e_PB Bm v) 275 23 ∧ w2 = e_up (e_up (e_up (e_up (e_up (e_up (e_PB Bm v) 294 ((e_PB Bm v) 275 23) (1)) 295 ((e_PB Bm v) 275 23) (p1)) 296 ((e_PB Bm v) 275 23) (p2)) 297 ((e_PB Bm v) 275 23) (p3)) 298 ((e_PB Bm v) 275 23) (p4)) 275 (23) ((e_PB Bm v) 275 23 + 1)))) : lw5 v2 ∧ z1 = z2 := by
  have hT := h0.2.2.2.2.1.1
  have b0 : e_PB Bk u 0 13 = u 0 13 := e_PB_in (by unfold Bk; omega)
  have b1 : e_PB Bk u 0 11 = u 0 11 := e_PB_in (by unfold Bk; omega)
  have b2 : e_PB Bk u 250 0 = u 250 0 := e_PB_in (by unfold Bk; omega)
  have b3 : e_PB Bk u 250 1 = u 250 1 := e_PB_in (by unfold Bk; omega)
  have b4 : e_PB Bk u 19 0 = u 19 0 := e_PB_in (by unfold Bk; omega)
  have b5 : e_PB Bk u 19 1 = u 19 1 := e_PB_in (by unfold Bk; omega)
  have b6 : e_PB Bk u 74 2 = u 74 2 := e_PB_in (by unfold Bk; omega)
  have d0 : e_PB Bm v 275 3 = u 275 3 := (e_PB_in (by unfold Bm; omega)).trans (hf1.2.2.1 275 3 (by unfold Bk; omega))
  have d1 : e_PB Bm v 275 10 = u 275 10 := (e_PB_in (by unfold Bm; omega)).trans (hf1.2.2.1 275 10 (by unfold Bk; omega))
  have d2 : e_PB Bm v 275 23 = u 275 23 := (e_PB_in (by unfold Bm; omega)).trans (hf1.2.2.1 275 23 (by unfold Bk; omega))
  have d3 : e_PB Bm v 275 30 = u 275 30 := (e_PB_in (by unfold Bm; omega)).trans (hf1.2.2.1 275 30 (by unfold Bk; omega))
  have d4 : e_PB Bm v 275 40 = u 275 40 := (e_PB_in (by unfold Bm; omega)).trans (hf1.2.2.1 275 40 (by unfold Bk; omega))
  have d5 : e_PB Bm v 275 42 = u 275 42 := (e_PB_in (by unfold Bm; omega)).trans (hf1.2.2.1 275 42 (by unfold Bk; omega))
  have d6 : e_PB Bm v 275 49 = u 275 49 := (e_PB_in (by unfold Bm; omega)).trans (hf1.2.2.1 275 49 (by unfold Bk; omega))
  have r250_0 := e_Has.get hT (c := 250) (k := 0) (lo := 0) (hi := 16) rfl (by decide)
  have r250_1 := e_Has.get hT (c := 250) (k := 1) (lo := 0) (hi := 8) rfl (by decide)
  have r19_0 := e_Has.get hT (c := 19) (k := 0) (lo := 0) (hi := 4) rfl (by decide)
  have r19_1 := e_Has.get hT (c := 19) (k := 1) (lo := 0) (hi := 32) rfl (by decide)
  have r74_2 := e_Has.get hT (c := 74) (k := 2) (lo := 0) (hi := 8) rfl (by decide)
  have q13 := (L_len h0).2.1
  have h5' := h5
  obtain ⟨⟨a1, a2, a3, a4, a5⟩, hb, hz⟩ := h5'
  obtain ⟨y9, y3, y10⟩ := h3
  rcases x1 with ⟨ew1, s1⟩ | ⟨s1, t1, ew1⟩
  · rcases x2 with ⟨ew2, s2⟩ | ⟨s2, t2, ew2⟩
    · exact ⟨lw5_same h0 h5 hf1 (fun c k _ => by rw [← ew1]) hf2 (fun c k _ => by rw [← ew2]), by omega⟩
    · exfalso; omega
  · rcases x2 with ⟨ew2, s2⟩ | ⟨s2, t2, ew2⟩
    · exfalso; omega
    · have kv : ∀ c k, rK c k → kn1 (w1 c k) := by rw [ew1]; exact (kn_up (kn_up (kn_up (kn_up (kn_up (kn_up (fun c k y => by rw [e_PB_in (rK_B y).1]; exact h0.1 c k) (Or.inl (by unfold kn1; omega))) (Or.inl (by unfold kn1; omega))) (Or.inl (by unfold kn1; omega))) (Or.inl (by unfold kn1; omega))) (Or.inl (by unfold kn1; omega))) (Or.inl (by unfold kn1; omega)))
      have mv : ∀ c k, rM c k → kn1 (w2 c k) := by rw [ew2]; exact (kn_up (kn_up (kn_up (kn_up (kn_up (kn_up (fun c k y => by rw [e_PB_in (rM_B y).1]; exact hf1.2.2.2.2.1 c k) (Or.inl (by unfold kn1; omega))) (Or.inl (by unfold kn1; omega))) (Or.inl (by unfold kn1; omega))) (Or.inl (by unfold kn1; omega))) (Or.inl (by unfold kn1; omega))) (Or.inl (by unfold kn1; omega)))
      have hK : ∀ c k, rK c k → v2 c k = w1 c k := fun c k y => (hf2.2.2.1 c k (rK_B y).2).trans (hf1.val (rK_B y).1 (kv c k y))
      have hM : ∀ c k, rM c k → v2 c k = w2 c k := fun c k y => hf2.val (rM_B y).1 (mv c k y)
      have k1 : v2 250 0 = e_PB Bk u 250 0 + 1 := (hK 250 0 (by unfold rK; omega)).trans (by rw [ew1, e_up_eq])
      have k2 : v2 250 1 = e_PB Bk u 250 1 := (hK 250 1 (by unfold rK; omega)).trans (by rw [ew1, e_up_ne _ _ (by omega), e_up_ne _ _ (by omega), e_up_ne _ _ (by omega), e_up_ne _ _ (by omega), e_up_ne _ _ (by omega), e_up_ne _ _ (by omega)])
      have k3 : v2 19 0 = e_PB Bk u 19 0 := (hK 19 0 (by unfold rK; omega)).trans (by rw [ew1, e_up_ne _ _ (by omega), e_up_ne _ _ (by omega), e_up_ne _ _ (by omega), e_up_ne _ _ (by omega), e_up_ne _ _ (by omega), e_up_ne _ _ (by omega)])
      have k4 : v2 19 1 = e_PB Bk u 19 1 := (hK 19 1 (by unfold rK; omega)).trans (by rw [ew1, e_up_ne _ _ (by omega), e_up_ne _ _ (by omega), e_up_ne _ _ (by omega), e_up_ne _ _ (by omega), e_up_ne _ _ (by omega), e_up_ne _ _ (by omega)])
      have k5 : v2 74 2 = e_PB Bk u 74 2 := (hK 74 2 (by unfold rK; omega)).trans (by rw [ew1, e_up_ne _ _ (by omega), e_up_ne _ _ (by omega), e_up_ne _ _ (by omega), e_up_ne _ _ (by omega), e_up_ne _ _ (by omega), e_up_ne _ _ (by omega)])
      have m1 : v2 275 23 = e_PB Bm v 275 23 + 1 := (hM 275 23 (by unfold rM; omega)).trans (by rw [ew2, e_up_eq])
      have m2 : v2 275 42 = e_PB Bm v 275 42 := (hM 275 42 (by unfold rM; omega)).trans (by rw [ew2, e_up_ne _ _ (by omega), e_up_ne _ _ (by omega), e_up_ne _ _ (by omega), e_up_ne _ _ (by omega), e_up_ne _ _ (by omega), e_up_ne _ _ (by omega)])
      have m3 : v2 275 30 = e_PB Bm v 275 30 := (hM 275 30 (by unfold rM; omega)).trans (by rw [ew2, e_up_ne _ _ (by omega), e_up_ne _ _ (by omega), e_up_ne _ _ (by omega), e_up_ne _ _ (by omega), e_up_ne _ _ (by omega), e_up_ne _ _ (by omega)])
      have m4 : v2 275 40 = e_PB Bm v 275 40 := (hM 275 40 (by unfold rM; omega)).trans (by rw [ew2, e_up_ne _ _ (by omega), e_up_ne _ _ (by omega), e_up_ne _ _ (by omega), e_up_ne _ _ (by omega), e_up_ne _ _ (by omega), e_up_ne _ _ (by omega)])
      have m5 : v2 275 49 = e_PB Bm v 275 49 := (hM 275 49 (by unfold rM; omega)).trans (by rw [ew2, e_up_ne _ _ (by omega), e_up_ne _ _ (by omega), e_up_ne _ _ (by omega), e_up_ne _ _ (by omega), e_up_ne _ _ (by omega), e_up_ne _ _ (by omega)])
      have K20 : ∀ b, v2 20 b = u 20 b := fun b => (hK 20 b (by unfold rK; omega)).trans ((by rw [ew1, e_up_ne _ _ (by omega), e_up_ne _ _ (by omega), e_up_ne _ _ (by omega), e_up_ne _ _ (by omega), e_up_ne _ _ (by omega), e_up_ne _ _ (by omega)] : _ = e_PB Bk u 20 b).trans (e_PB_in (by unfold Bk; omega)))
      have K21 : ∀ b, v2 21 b = u 21 b := fun b => (hK 21 b (by unfold rK; omega)).trans ((by rw [ew1, e_up_ne _ _ (by omega), e_up_ne _ _ (by omega), e_up_ne _ _ (by omega), e_up_ne _ _ (by omega), e_up_ne _ _ (by omega), e_up_ne _ _ (by omega)] : _ = e_PB Bk u 21 b).trans (e_PB_in (by unfold Bk; omega)))
      have K257 : ∀ b, v2 257 b = u 257 b := fun b => (hK 257 b (by unfold rK; omega)).trans ((by rw [ew1, e_up_ne _ _ (by omega), e_up_ne _ _ (by omega), e_up_ne _ _ (by omega), e_up_ne _ _ (by omega), e_up_ne _ _ (by omega), e_up_ne _ _ (by omega)] : _ = e_PB Bk u 257 b).trans (e_PB_in (by unfold Bk; omega)))
      have M303 : ∀ b, v2 303 b = u 303 b := fun b => (hM 303 b (by unfold rM; omega)).trans ((by rw [ew2, e_up_ne _ _ (by omega), e_up_ne _ _ (by omega), e_up_ne _ _ (by omega), e_up_ne _ _ (by omega), e_up_ne _ _ (by omega), e_up_ne _ _ (by omega)] : _ = e_PB Bm v 303 b).trans ((e_PB_in (by unfold Bm; omega)).trans (hf1.2.2.1 303 b (by unfold Bk; omega))))
      have M304 : ∀ b, v2 304 b = u 304 b := fun b => (hM 304 b (by unfold rM; omega)).trans ((by rw [ew2, e_up_ne _ _ (by omega), e_up_ne _ _ (by omega), e_up_ne _ _ (by omega), e_up_ne _ _ (by omega), e_up_ne _ _ (by omega), e_up_ne _ _ (by omega)] : _ = e_PB Bm v 304 b).trans ((e_PB_in (by unfold Bm; omega)).trans (hf1.2.2.1 304 b (by unfold Bk; omega))))
      have M315 : ∀ b, v2 315 b = u 315 b := fun b => (hM 315 b (by unfold rM; omega)).trans ((by rw [ew2, e_up_ne _ _ (by omega), e_up_ne _ _ (by omega), e_up_ne _ _ (by omega), e_up_ne _ _ (by omega), e_up_ne _ _ (by omega), e_up_ne _ _ (by omega)] : _ = e_PB Bm v 315 b).trans ((e_PB_in (by unfold Bm; omega)).trans (hf1.2.2.1 315 b (by unfold Bk; omega))))
      refine ⟨⟨⟨by omega, by omega, by omega, by omega, by omega⟩, fun b q0 q1 => ?_, fun b q0 q1 => ?_⟩, by omega⟩
      · rw [M303, M304, K20, K21]
        exact hb b q0 (by omega)
      · rw [M315, K257]
        exact hz b q0 (by omega)
theorem lw5_zone {u w1 v w2 v2 : eW} {z1 z2 p1 p2 p3 p4 p5 : Int} (g1 : -2147483648 ≤ p1 ∧ p1 ≤ 2147483647) (g2 : -2147483648 ≤ p2 ∧ p2 ≤ 2147483647) (g3 : -2147483648 ≤ p3 ∧ p3 ≤ 2147483647) (g4 : -2147483648 ≤ p4 ∧ p4 ≤ 2147483647) (g5 : -2147483648 ≤ p5 ∧ p5 ≤ 2147483647) (h0 : lw0 u) (h3 : lw3 u) (h5 : lw5 u) (hf1 : e_Lf Bk u w1 v) (x1 : (((e_PB Bk u) = w1 ∧ ((¬ ((0 ≤ p1 ∧ p1 < (e_PB Bk u) 0 11) ∧ (-16000 ≤ p2 ∧ p2 ≤ 16000) ∧ (-16000 ≤ p3 ∧ p3 ≤ 16000) ∧ (0 ≤ p4 ∧ p2 + p4 ≤ 16000) ∧ 0 ≤ p5 ∧ p3 + p5 ≤ 16000) ∧ z1 = -1) ∨ (((0 ≤ p1 ∧ p1 < (e_PB Bk u) 0 11) ∧ (-16000 ≤ p2 ∧ p2 ≤ 16000) ∧ (-16000 ≤ p3 ∧ p3 ≤ 16000) ∧ (0 ≤ p4 ∧ p2 + p4 ≤ 16000) ∧ 0 ≤ p5 ∧ p3 + p5 ≤ 16000) ∧ (((e_PB Bk u) 0 13 ≠ 0 ∧ z1 = -2) ∨ ((e_PB Bk u) 0 13 = 0 ∧ (e_PB Bk u) 250 1 = 8 ∧ z1 = -3))))) ∨ ((((0 ≤ p1 ∧ p1 < (e_PB Bk u) 0 11) ∧ (-16000 ≤ p2 ∧ p2 ≤ 16000) ∧ (-16000 ≤ p3 ∧ p3 ≤ 16000) ∧ (0 ≤ p4 ∧ p2 + p4 ≤ 16000) ∧ 0 ≤ p5 ∧ p3 + p5 ≤ 16000) ∧ (e_PB Bk u) 0 13 = 0 ∧ ¬ ((e_PB Bk u) 250 1 = 8)) ∧ z1 = (e_PB Bk u) 250 1 ∧ w1 = e_up (e_up (e_up (e_up (e_up (e_up (e_up (e_PB Bk u) (256) ((e_PB Bk u) 250 1) (p1)) (258) ((e_PB Bk u) 250 1) (p2)) (259) ((e_PB Bk u) 250 1) (p3)) (260) ((e_PB Bk u) 250 1) (p2 + p4)) (261) ((e_PB Bk u) 250 1) (p3 + p5)) (257) ((e_PB Bk u) 250 1) (-1)) (250) (1) ((e_PB Bk u) 250 1 + 1)))) (hf2 : e_Lf Bm v w2 v2) (x2 : (((e_PB Bm v) = w2 ∧ ((¬ ((0 ≤ p1 ∧ p1 < (e_PB Bm v) 275 10) ∧ (-16000 ≤ p2 ∧ p2 ≤ 16000) ∧ (-16000 ≤ p3 ∧ p3 ≤ 16000) ∧ (0 ≤ p4 ∧ p2 + p4 ≤ 16000) ∧ 0 ≤ p5 ∧ p3 + p5 ≤ 16000) ∧ z2 = -1) ∨ (((0 ≤ p1 ∧ p1 < (e_PB Bm v) 275 10) ∧ (-16000 ≤ p2 ∧ p2 ≤ 16000) ∧ (-16000 ≤ p3 ∧ p3 ≤ 16000) ∧ (0 ≤ p4 ∧ p2 + p4 ≤ 16000) ∧ 0 ≤ p5 ∧ p3 + p5 ≤ 16000) ∧ (((e_PB Bm v) 275 3 ≠ 0 ∧ z2 = -2) ∨ ((e_PB Bm v) 275 3 = 0 ∧ (e_PB Bm v) 275 42 = 8 ∧ z2 = -3))))) ∨ ((((0 ≤ p1 ∧ p1 < (e_PB Bm v) 275 10) ∧ (-16000 ≤ p2 ∧ p2 ≤ 16000) ∧ (-16000 ≤ p3 ∧ p3 ≤ 16000) ∧ (0 ≤ p4 ∧ p2 + p4 ≤ 16000) ∧ 0 ≤ p5 ∧ p3 + p5 ≤ 16000) ∧ (e_PB Bm v) 275 3 = 0 ∧ ¬ ((e_PB Bm v) 275 42 = 8)) ∧ z2 = (e_PB Bm v) 275 42 ∧ w2 = e_up (e_up (e_up (e_up (e_up (e_up (e_up (e_PB Bm v) 310 ((e_PB Bm v) 275 42) (p1)) 311 ((e_PB Bm v) 275 42) (p2)) 312 ((e_PB Bm v) 275 42) (p3)) 313 ((e_PB Bm v) 275 42) (p4)) 314 ((e_PB Bm v) 275 42) (p5)) 315 ((e_PB Bm v) 275 42) (-1)) 275 (42) ((e_PB Bm v) 275 42 + 1)))) : lw5 v2 ∧ z1 = z2 := by
  have hT := h0.2.2.2.2.1.1
  have b0 : e_PB Bk u 0 13 = u 0 13 := e_PB_in (by unfold Bk; omega)
  have b1 : e_PB Bk u 0 11 = u 0 11 := e_PB_in (by unfold Bk; omega)
  have b2 : e_PB Bk u 250 0 = u 250 0 := e_PB_in (by unfold Bk; omega)
  have b3 : e_PB Bk u 250 1 = u 250 1 := e_PB_in (by unfold Bk; omega)
  have b4 : e_PB Bk u 19 0 = u 19 0 := e_PB_in (by unfold Bk; omega)
  have b5 : e_PB Bk u 19 1 = u 19 1 := e_PB_in (by unfold Bk; omega)
  have b6 : e_PB Bk u 74 2 = u 74 2 := e_PB_in (by unfold Bk; omega)
  have d0 : e_PB Bm v 275 3 = u 275 3 := (e_PB_in (by unfold Bm; omega)).trans (hf1.2.2.1 275 3 (by unfold Bk; omega))
  have d1 : e_PB Bm v 275 10 = u 275 10 := (e_PB_in (by unfold Bm; omega)).trans (hf1.2.2.1 275 10 (by unfold Bk; omega))
  have d2 : e_PB Bm v 275 23 = u 275 23 := (e_PB_in (by unfold Bm; omega)).trans (hf1.2.2.1 275 23 (by unfold Bk; omega))
  have d3 : e_PB Bm v 275 30 = u 275 30 := (e_PB_in (by unfold Bm; omega)).trans (hf1.2.2.1 275 30 (by unfold Bk; omega))
  have d4 : e_PB Bm v 275 40 = u 275 40 := (e_PB_in (by unfold Bm; omega)).trans (hf1.2.2.1 275 40 (by unfold Bk; omega))
  have d5 : e_PB Bm v 275 42 = u 275 42 := (e_PB_in (by unfold Bm; omega)).trans (hf1.2.2.1 275 42 (by unfold Bk; omega))
  have d6 : e_PB Bm v 275 49 = u 275 49 := (e_PB_in (by unfold Bm; omega)).trans (hf1.2.2.1 275 49 (by unfold Bk; omega))
  have r250_0 := e_Has.get hT (c := 250) (k := 0) (lo := 0) (hi := 16) rfl (by decide)
  have r250_1 := e_Has.get hT (c := 250) (k := 1) (lo := 0) (hi := 8) rfl (by decide)
  have r19_0 := e_Has.get hT (c := 19) (k := 0) (lo := 0) (hi := 4) rfl (by decide)
  have r19_1 := e_Has.get hT (c := 19) (k := 1) (lo := 0) (hi := 32) rfl (by decide)
  have r74_2 := e_Has.get hT (c := 74) (k := 2) (lo := 0) (hi := 8) rfl (by decide)
  have q13 := (L_len h0).2.1
  have h5' := h5
  obtain ⟨⟨a1, a2, a3, a4, a5⟩, hb, hz⟩ := h5'
  obtain ⟨y9, y3, y10⟩ := h3
  rcases x1 with ⟨ew1, s1⟩ | ⟨s1, t1, ew1⟩
  · rcases x2 with ⟨ew2, s2⟩ | ⟨s2, t2, ew2⟩
    · exact ⟨lw5_same h0 h5 hf1 (fun c k _ => by rw [← ew1]) hf2 (fun c k _ => by rw [← ew2]), by omega⟩
    · exfalso; omega
  · rcases x2 with ⟨ew2, s2⟩ | ⟨s2, t2, ew2⟩
    · exfalso; omega
    · have kv : ∀ c k, rK c k → kn1 (w1 c k) := by rw [ew1]; exact (kn_up (kn_up (kn_up (kn_up (kn_up (kn_up (kn_up (fun c k y => by rw [e_PB_in (rK_B y).1]; exact h0.1 c k) (Or.inl (by unfold kn1; omega))) (Or.inl (by unfold kn1; omega))) (Or.inl (by unfold kn1; omega))) (Or.inl (by unfold kn1; omega))) (Or.inl (by unfold kn1; omega))) (Or.inl (by unfold kn1; omega))) (Or.inl (by unfold kn1; omega)))
      have mv : ∀ c k, rM c k → kn1 (w2 c k) := by rw [ew2]; exact (kn_up (kn_up (kn_up (kn_up (kn_up (kn_up (kn_up (fun c k y => by rw [e_PB_in (rM_B y).1]; exact hf1.2.2.2.2.1 c k) (Or.inl (by unfold kn1; omega))) (Or.inl (by unfold kn1; omega))) (Or.inl (by unfold kn1; omega))) (Or.inl (by unfold kn1; omega))) (Or.inl (by unfold kn1; omega))) (Or.inl (by unfold kn1; omega))) (Or.inl (by unfold kn1; omega)))
      have hK : ∀ c k, rK c k → v2 c k = w1 c k := fun c k y => (hf2.2.2.1 c k (rK_B y).2).trans (hf1.val (rK_B y).1 (kv c k y))
      have hM : ∀ c k, rM c k → v2 c k = w2 c k := fun c k y => hf2.val (rM_B y).1 (mv c k y)
      have k1 : v2 250 0 = e_PB Bk u 250 0 := (hK 250 0 (by unfold rK; omega)).trans (by rw [ew1, e_up_ne _ _ (by omega), e_up_ne _ _ (by omega), e_up_ne _ _ (by omega), e_up_ne _ _ (by omega), e_up_ne _ _ (by omega), e_up_ne _ _ (by omega), e_up_ne _ _ (by omega)])
      have k2 : v2 250 1 = e_PB Bk u 250 1 + 1 := (hK 250 1 (by unfold rK; omega)).trans (by rw [ew1, e_up_eq])
      have k3 : v2 19 0 = e_PB Bk u 19 0 := (hK 19 0 (by unfold rK; omega)).trans (by rw [ew1, e_up_ne _ _ (by omega), e_up_ne _ _ (by omega), e_up_ne _ _ (by omega), e_up_ne _ _ (by omega), e_up_ne _ _ (by omega), e_up_ne _ _ (by omega), e_up_ne _ _ (by omega)])
      have k4 : v2 19 1 = e_PB Bk u 19 1 := (hK 19 1 (by unfold rK; omega)).trans (by rw [ew1, e_up_ne _ _ (by omega), e_up_ne _ _ (by omega), e_up_ne _ _ (by omega), e_up_ne _ _ (by omega), e_up_ne _ _ (by omega), e_up_ne _ _ (by omega), e_up_ne _ _ (by omega)])
      have k5 : v2 74 2 = e_PB Bk u 74 2 := (hK 74 2 (by unfold rK; omega)).trans (by rw [ew1, e_up_ne _ _ (by omega), e_up_ne _ _ (by omega), e_up_ne _ _ (by omega), e_up_ne _ _ (by omega), e_up_ne _ _ (by omega), e_up_ne _ _ (by omega), e_up_ne _ _ (by omega)])
      have m1 : v2 275 23 = e_PB Bm v 275 23 := (hM 275 23 (by unfold rM; omega)).trans (by rw [ew2, e_up_ne _ _ (by omega), e_up_ne _ _ (by omega), e_up_ne _ _ (by omega), e_up_ne _ _ (by omega), e_up_ne _ _ (by omega), e_up_ne _ _ (by omega), e_up_ne _ _ (by omega)])
      have m2 : v2 275 42 = e_PB Bm v 275 42 + 1 := (hM 275 42 (by unfold rM; omega)).trans (by rw [ew2, e_up_eq])
      have m3 : v2 275 30 = e_PB Bm v 275 30 := (hM 275 30 (by unfold rM; omega)).trans (by rw [ew2, e_up_ne _ _ (by omega), e_up_ne _ _ (by omega), e_up_ne _ _ (by omega), e_up_ne _ _ (by omega), e_up_ne _ _ (by omega), e_up_ne _ _ (by omega), e_up_ne _ _ (by omega)])
      have m4 : v2 275 40 = e_PB Bm v 275 40 := (hM 275 40 (by unfold rM; omega)).trans (by rw [ew2, e_up_ne _ _ (by omega), e_up_ne _ _ (by omega), e_up_ne _ _ (by omega), e_up_ne _ _ (by omega), e_up_ne _ _ (by omega), e_up_ne _ _ (by omega), e_up_ne _ _ (by omega)])
      have m5 : v2 275 49 = e_PB Bm v 275 49 := (hM 275 49 (by unfold rM; omega)).trans (by rw [ew2, e_up_ne _ _ (by omega), e_up_ne _ _ (by omega), e_up_ne _ _ (by omega), e_up_ne _ _ (by omega), e_up_ne _ _ (by omega), e_up_ne _ _ (by omega), e_up_ne _ _ (by omega)])
      have K20 : ∀ b, v2 20 b = u 20 b := fun b => (hK 20 b (by unfold rK; omega)).trans ((by rw [ew1, e_up_ne _ _ (by omega), e_up_ne _ _ (by omega), e_up_ne _ _ (by omega), e_up_ne _ _ (by omega), e_up_ne _ _ (by omega), e_up_ne _ _ (by omega), e_up_ne _ _ (by omega)] : _ = e_PB Bk u 20 b).trans (e_PB_in (by unfold Bk; omega)))
      have K21 : ∀ b, v2 21 b = u 21 b := fun b => (hK 21 b (by unfold rK; omega)).trans ((by rw [ew1, e_up_ne _ _ (by omega), e_up_ne _ _ (by omega), e_up_ne _ _ (by omega), e_up_ne _ _ (by omega), e_up_ne _ _ (by omega), e_up_ne _ _ (by omega), e_up_ne _ _ (by omega)] : _ = e_PB Bk u 21 b).trans (e_PB_in (by unfold Bk; omega)))
      have K257 : ∀ b, b ≠ e_PB Bk u 250 1 → v2 257 b = u 257 b := fun b nb => (hK 257 b (by unfold rK; omega)).trans ((by rw [ew1, e_up_ne _ _ (by omega), e_up_ne _ _ (by omega), e_up_ne _ _ (by omega), e_up_ne _ _ (by omega), e_up_ne _ _ (by omega), e_up_ne _ _ (by omega), e_up_ne _ _ (by omega)] : _ = e_PB Bk u 257 b).trans (e_PB_in (by unfold Bk; omega)))
      have K257n : v2 257 (e_PB Bk u 250 1) = -1 := (hK 257 _ (by unfold rK; omega)).trans (by rw [ew1, e_up_ne _ _ (by omega), e_up_eq])
      have M303 : ∀ b, v2 303 b = u 303 b := fun b => (hM 303 b (by unfold rM; omega)).trans ((by rw [ew2, e_up_ne _ _ (by omega), e_up_ne _ _ (by omega), e_up_ne _ _ (by omega), e_up_ne _ _ (by omega), e_up_ne _ _ (by omega), e_up_ne _ _ (by omega), e_up_ne _ _ (by omega)] : _ = e_PB Bm v 303 b).trans ((e_PB_in (by unfold Bm; omega)).trans (hf1.2.2.1 303 b (by unfold Bk; omega))))
      have M304 : ∀ b, v2 304 b = u 304 b := fun b => (hM 304 b (by unfold rM; omega)).trans ((by rw [ew2, e_up_ne _ _ (by omega), e_up_ne _ _ (by omega), e_up_ne _ _ (by omega), e_up_ne _ _ (by omega), e_up_ne _ _ (by omega), e_up_ne _ _ (by omega), e_up_ne _ _ (by omega)] : _ = e_PB Bm v 304 b).trans ((e_PB_in (by unfold Bm; omega)).trans (hf1.2.2.1 304 b (by unfold Bk; omega))))
      have M315 : ∀ b, b ≠ e_PB Bm v 275 42 → v2 315 b = u 315 b := fun b nb => (hM 315 b (by unfold rM; omega)).trans ((by rw [ew2, e_up_ne _ _ (by omega), e_up_ne _ _ (by omega), e_up_ne _ _ (by omega), e_up_ne _ _ (by omega), e_up_ne _ _ (by omega), e_up_ne _ _ (by omega), e_up_ne _ _ (by omega)] : _ = e_PB Bm v 315 b).trans ((e_PB_in (by unfold Bm; omega)).trans (hf1.2.2.1 315 b (by unfold Bk; omega))))
      have M315n : v2 315 (e_PB Bm v 275 42) = -1 := (hM 315 _ (by unfold rM; omega)).trans (by rw [ew2, e_up_ne _ _ (by omega), e_up_eq])
      refine ⟨⟨⟨by omega, by omega, by omega, by omega, by omega⟩, fun b q0 q1 => ?_, fun b q0 q1 => ?_⟩, by omega⟩
      · rw [M303, M304, K20, K21]
        exact hb b q0 (by omega)
      · by_cases eb : b = u 250 1
        · have f1 : b = e_PB Bk u 250 1 := by omega
          have f2 : b = e_PB Bm v 275 42 := by omega
          rw [← f1] at K257n
          rw [← f2] at M315n
          omega
        · rw [M315 b (by omega), K257 b (by omega)]
          exact hz b q0 (by omega)
theorem lw5_belt {u w1 v w2 v2 : eW} {z1 z2 p1 p2 p3 p4 p5 : Int} (g1 : -2147483648 ≤ p1 ∧ p1 ≤ 2147483647) (g2 : -2147483648 ≤ p2 ∧ p2 ≤ 2147483647) (g3 : -2147483648 ≤ p3 ∧ p3 ≤ 2147483647) (g4 : -2147483648 ≤ p4 ∧ p4 ≤ 2147483647) (g5 : -2147483648 ≤ p5 ∧ p5 ≤ 2147483647) (h0 : lw0 u) (h3 : lw3 u) (h5 : lw5 u) (hf1 : e_Lf Bk u w1 v) (x1 : (((e_PB Bk u) = w1 ∧ ((¬ ((-16000 ≤ p1 ∧ p1 ≤ 16000) ∧ (-16000 ≤ p2 ∧ p2 ≤ 16000) ∧ (0 ≤ p3 ∧ p3 ≤ 3) ∧ (0 ≤ p4 ∧ p4 ≤ 16000) ∧ (0 ≤ p5 ∧ p5 ≤ 2000) ∧ (p3 = 0 → p1 + p4 ≤ 16000) ∧ (p3 = 1 → p2 + p4 ≤ 16000) ∧ (p3 = 2 → -16000 ≤ p1 - p4) ∧ (p3 = 3 → -16000 ≤ p2 - p4)) ∧ z1 = -1) ∨ (((-16000 ≤ p1 ∧ p1 ≤ 16000) ∧ (-16000 ≤ p2 ∧ p2 ≤ 16000) ∧ (0 ≤ p3 ∧ p3 ≤ 3) ∧ (0 ≤ p4 ∧ p4 ≤ 16000) ∧ (0 ≤ p5 ∧ p5 ≤ 2000) ∧ (p3 = 0 → p1 + p4 ≤ 16000) ∧ (p3 = 1 → p2 + p4 ≤ 16000) ∧ (p3 = 2 → -16000 ≤ p1 - p4) ∧ (p3 = 3 → -16000 ≤ p2 - p4)) ∧ (((e_PB Bk u) 0 13 ≠ 0 ∧ z1 = -2) ∨ ((e_PB Bk u) 0 13 = 0 ∧ (e_PB Bk u) 19 0 = 4 ∧ z1 = -3))))) ∨ ((((-16000 ≤ p1 ∧ p1 ≤ 16000) ∧ (-16000 ≤ p2 ∧ p2 ≤ 16000) ∧ (0 ≤ p3 ∧ p3 ≤ 3) ∧ (0 ≤ p4 ∧ p4 ≤ 16000) ∧ (0 ≤ p5 ∧ p5 ≤ 2000) ∧ (p3 = 0 → p1 + p4 ≤ 16000) ∧ (p3 = 1 → p2 + p4 ≤ 16000) ∧ (p3 = 2 → -16000 ≤ p1 - p4) ∧ (p3 = 3 → -16000 ≤ p2 - p4)) ∧ (e_PB Bk u) 0 13 = 0 ∧ ¬ ((e_PB Bk u) 19 0 = 4)) ∧ z1 = (e_PB Bk u) 19 0 ∧ ∃ b1 b2 : Int, w1 = e_up (e_up (e_up (e_up (e_up (e_up (e_up (e_up (e_up (e_up (e_PB Bk u) (25) ((e_PB Bk u) 19 0) (p1)) (26) ((e_PB Bk u) 19 0) (p2)) (27) ((e_PB Bk u) 19 0) (b1)) (28) ((e_PB Bk u) 19 0) (b2)) (20) ((e_PB Bk u) 19 0) (p4)) (29) ((e_PB Bk u) 19 0) (p5)) (21) ((e_PB Bk u) 19 0) (0)) (22) ((e_PB Bk u) 19 0) (-1)) (35) ((e_PB Bk u) 19 0) (0)) (19) (0) ((e_PB Bk u) 19 0 + 1)))) (hf2 : e_Lf Bm v w2 v2) (x2 : (((e_PB Bm v) = w2 ∧ ((¬ ((-16000 ≤ p1 ∧ p1 ≤ 16000) ∧ (-16000 ≤ p2 ∧ p2 ≤ 16000) ∧ (0 ≤ p3 ∧ p3 ≤ 3) ∧ (0 ≤ p4 ∧ p4 ≤ 16000) ∧ (0 ≤ p5 ∧ p5 ≤ 2000) ∧ (p3 = 0 → p1 + p4 ≤ 16000) ∧ (p3 = 1 → p2 + p4 ≤ 16000) ∧ (p3 = 2 → -16000 ≤ p1 - p4) ∧ (p3 = 3 → -16000 ≤ p2 - p4)) ∧ z2 = -1) ∨ (((-16000 ≤ p1 ∧ p1 ≤ 16000) ∧ (-16000 ≤ p2 ∧ p2 ≤ 16000) ∧ (0 ≤ p3 ∧ p3 ≤ 3) ∧ (0 ≤ p4 ∧ p4 ≤ 16000) ∧ (0 ≤ p5 ∧ p5 ≤ 2000) ∧ (p3 = 0 → p1 + p4 ≤ 16000) ∧ (p3 = 1 → p2 + p4 ≤ 16000) ∧ (p3 = 2 → -16000 ≤ p1 - p4) ∧ (p3 = 3 → -16000 ≤ p2 - p4)) ∧ (((e_PB Bm v) 275 3 ≠ 0 ∧ z2 = -2) ∨ ((e_PB Bm v) 275 3 = 0 ∧ (e_PB Bm v) 275 30 = 4 ∧ z2 = -3))))) ∨ ((((-16000 ≤ p1 ∧ p1 ≤ 16000) ∧ (-16000 ≤ p2 ∧ p2 ≤ 16000) ∧ (0 ≤ p3 ∧ p3 ≤ 3) ∧ (0 ≤ p4 ∧ p4 ≤ 16000) ∧ (0 ≤ p5 ∧ p5 ≤ 2000) ∧ (p3 = 0 → p1 + p4 ≤ 16000) ∧ (p3 = 1 → p2 + p4 ≤ 16000) ∧ (p3 = 2 → -16000 ≤ p1 - p4) ∧ (p3 = 3 → -16000 ≤ p2 - p4)) ∧ (e_PB Bm v) 275 3 = 0 ∧ ¬ ((e_PB Bm v) 275 30 = 4)) ∧ z2 = (e_PB Bm v) 275 30 ∧ w2 = e_up (e_up (e_up (e_up (e_up (e_up (e_up (e_up (e_PB Bm v) 300 ((e_PB Bm v) 275 30) (p1)) 301 ((e_PB Bm v) 275 30) (p2)) 302 ((e_PB Bm v) 275 30) (p3)) 303 ((e_PB Bm v) 275 30) (p4)) 304 ((e_PB Bm v) 275 30) (0)) 306 ((e_PB Bm v) 275 30) (-1)) 305 ((e_PB Bm v) 275 30) (p5)) 275 (30) ((e_PB Bm v) 275 30 + 1)))) : lw5 v2 ∧ z1 = z2 := by
  have hT := h0.2.2.2.2.1.1
  have b0 : e_PB Bk u 0 13 = u 0 13 := e_PB_in (by unfold Bk; omega)
  have b1 : e_PB Bk u 0 11 = u 0 11 := e_PB_in (by unfold Bk; omega)
  have b2 : e_PB Bk u 250 0 = u 250 0 := e_PB_in (by unfold Bk; omega)
  have b3 : e_PB Bk u 250 1 = u 250 1 := e_PB_in (by unfold Bk; omega)
  have b4 : e_PB Bk u 19 0 = u 19 0 := e_PB_in (by unfold Bk; omega)
  have b5 : e_PB Bk u 19 1 = u 19 1 := e_PB_in (by unfold Bk; omega)
  have b6 : e_PB Bk u 74 2 = u 74 2 := e_PB_in (by unfold Bk; omega)
  have d0 : e_PB Bm v 275 3 = u 275 3 := (e_PB_in (by unfold Bm; omega)).trans (hf1.2.2.1 275 3 (by unfold Bk; omega))
  have d1 : e_PB Bm v 275 10 = u 275 10 := (e_PB_in (by unfold Bm; omega)).trans (hf1.2.2.1 275 10 (by unfold Bk; omega))
  have d2 : e_PB Bm v 275 23 = u 275 23 := (e_PB_in (by unfold Bm; omega)).trans (hf1.2.2.1 275 23 (by unfold Bk; omega))
  have d3 : e_PB Bm v 275 30 = u 275 30 := (e_PB_in (by unfold Bm; omega)).trans (hf1.2.2.1 275 30 (by unfold Bk; omega))
  have d4 : e_PB Bm v 275 40 = u 275 40 := (e_PB_in (by unfold Bm; omega)).trans (hf1.2.2.1 275 40 (by unfold Bk; omega))
  have d5 : e_PB Bm v 275 42 = u 275 42 := (e_PB_in (by unfold Bm; omega)).trans (hf1.2.2.1 275 42 (by unfold Bk; omega))
  have d6 : e_PB Bm v 275 49 = u 275 49 := (e_PB_in (by unfold Bm; omega)).trans (hf1.2.2.1 275 49 (by unfold Bk; omega))
  have r250_0 := e_Has.get hT (c := 250) (k := 0) (lo := 0) (hi := 16) rfl (by decide)
  have r250_1 := e_Has.get hT (c := 250) (k := 1) (lo := 0) (hi := 8) rfl (by decide)
  have r19_0 := e_Has.get hT (c := 19) (k := 0) (lo := 0) (hi := 4) rfl (by decide)
  have r19_1 := e_Has.get hT (c := 19) (k := 1) (lo := 0) (hi := 32) rfl (by decide)
  have r74_2 := e_Has.get hT (c := 74) (k := 2) (lo := 0) (hi := 8) rfl (by decide)
  have q13 := (L_len h0).2.1
  have h5' := h5
  obtain ⟨⟨a1, a2, a3, a4, a5⟩, hb, hz⟩ := h5'
  obtain ⟨y9, y3, y10⟩ := h3
  rcases x1 with ⟨ew1, s1⟩ | ⟨s1, t1, b1, b2, ew1⟩
  · rcases x2 with ⟨ew2, s2⟩ | ⟨s2, t2, ew2⟩
    · exact ⟨lw5_same h0 h5 hf1 (fun c k _ => by rw [← ew1]) hf2 (fun c k _ => by rw [← ew2]), by omega⟩
    · exfalso; omega
  · rcases x2 with ⟨ew2, s2⟩ | ⟨s2, t2, ew2⟩
    · exfalso; omega
    · have kv : ∀ c k, rK c k → kn1 (w1 c k) := by rw [ew1]; exact (kn_up (kn_up (kn_up (kn_up (kn_up (kn_up (kn_up (kn_up (kn_up (kn_up (fun c k y => by rw [e_PB_in (rK_B y).1]; exact h0.1 c k) (Or.inl (by unfold kn1; omega))) (Or.inl (by unfold kn1; omega))) (Or.inr (by unfold rK; omega))) (Or.inr (by unfold rK; omega))) (Or.inl (by unfold kn1; omega))) (Or.inl (by unfold kn1; omega))) (Or.inl (by unfold kn1; omega))) (Or.inl (by unfold kn1; omega))) (Or.inl (by unfold kn1; omega))) (Or.inl (by unfold kn1; omega)))
      have mv : ∀ c k, rM c k → kn1 (w2 c k) := by rw [ew2]; exact (kn_up (kn_up (kn_up (kn_up (kn_up (kn_up (kn_up (kn_up (fun c k y => by rw [e_PB_in (rM_B y).1]; exact hf1.2.2.2.2.1 c k) (Or.inl (by unfold kn1; omega))) (Or.inl (by unfold kn1; omega))) (Or.inl (by unfold kn1; omega))) (Or.inl (by unfold kn1; omega))) (Or.inl (by unfold kn1; omega))) (Or.inl (by unfold kn1; omega))) (Or.inl (by unfold kn1; omega))) (Or.inl (by unfold kn1; omega)))
      have hK : ∀ c k, rK c k → v2 c k = w1 c k := fun c k y => (hf2.2.2.1 c k (rK_B y).2).trans (hf1.val (rK_B y).1 (kv c k y))
      have hM : ∀ c k, rM c k → v2 c k = w2 c k := fun c k y => hf2.val (rM_B y).1 (mv c k y)
      have k1 : v2 250 0 = e_PB Bk u 250 0 := (hK 250 0 (by unfold rK; omega)).trans (by rw [ew1, e_up_ne _ _ (by omega), e_up_ne _ _ (by omega), e_up_ne _ _ (by omega), e_up_ne _ _ (by omega), e_up_ne _ _ (by omega), e_up_ne _ _ (by omega), e_up_ne _ _ (by omega), e_up_ne _ _ (by omega), e_up_ne _ _ (by omega), e_up_ne _ _ (by omega)])
      have k2 : v2 250 1 = e_PB Bk u 250 1 := (hK 250 1 (by unfold rK; omega)).trans (by rw [ew1, e_up_ne _ _ (by omega), e_up_ne _ _ (by omega), e_up_ne _ _ (by omega), e_up_ne _ _ (by omega), e_up_ne _ _ (by omega), e_up_ne _ _ (by omega), e_up_ne _ _ (by omega), e_up_ne _ _ (by omega), e_up_ne _ _ (by omega), e_up_ne _ _ (by omega)])
      have k3 : v2 19 0 = e_PB Bk u 19 0 + 1 := (hK 19 0 (by unfold rK; omega)).trans (by rw [ew1, e_up_eq])
      have k4 : v2 19 1 = e_PB Bk u 19 1 := (hK 19 1 (by unfold rK; omega)).trans (by rw [ew1, e_up_ne _ _ (by omega), e_up_ne _ _ (by omega), e_up_ne _ _ (by omega), e_up_ne _ _ (by omega), e_up_ne _ _ (by omega), e_up_ne _ _ (by omega), e_up_ne _ _ (by omega), e_up_ne _ _ (by omega), e_up_ne _ _ (by omega), e_up_ne _ _ (by omega)])
      have k5 : v2 74 2 = e_PB Bk u 74 2 := (hK 74 2 (by unfold rK; omega)).trans (by rw [ew1, e_up_ne _ _ (by omega), e_up_ne _ _ (by omega), e_up_ne _ _ (by omega), e_up_ne _ _ (by omega), e_up_ne _ _ (by omega), e_up_ne _ _ (by omega), e_up_ne _ _ (by omega), e_up_ne _ _ (by omega), e_up_ne _ _ (by omega), e_up_ne _ _ (by omega)])
      have m1 : v2 275 23 = e_PB Bm v 275 23 := (hM 275 23 (by unfold rM; omega)).trans (by rw [ew2, e_up_ne _ _ (by omega), e_up_ne _ _ (by omega), e_up_ne _ _ (by omega), e_up_ne _ _ (by omega), e_up_ne _ _ (by omega), e_up_ne _ _ (by omega), e_up_ne _ _ (by omega), e_up_ne _ _ (by omega)])
      have m2 : v2 275 42 = e_PB Bm v 275 42 := (hM 275 42 (by unfold rM; omega)).trans (by rw [ew2, e_up_ne _ _ (by omega), e_up_ne _ _ (by omega), e_up_ne _ _ (by omega), e_up_ne _ _ (by omega), e_up_ne _ _ (by omega), e_up_ne _ _ (by omega), e_up_ne _ _ (by omega), e_up_ne _ _ (by omega)])
      have m3 : v2 275 30 = e_PB Bm v 275 30 + 1 := (hM 275 30 (by unfold rM; omega)).trans (by rw [ew2, e_up_eq])
      have m4 : v2 275 40 = e_PB Bm v 275 40 := (hM 275 40 (by unfold rM; omega)).trans (by rw [ew2, e_up_ne _ _ (by omega), e_up_ne _ _ (by omega), e_up_ne _ _ (by omega), e_up_ne _ _ (by omega), e_up_ne _ _ (by omega), e_up_ne _ _ (by omega), e_up_ne _ _ (by omega), e_up_ne _ _ (by omega)])
      have m5 : v2 275 49 = e_PB Bm v 275 49 := (hM 275 49 (by unfold rM; omega)).trans (by rw [ew2, e_up_ne _ _ (by omega), e_up_ne _ _ (by omega), e_up_ne _ _ (by omega), e_up_ne _ _ (by omega), e_up_ne _ _ (by omega), e_up_ne _ _ (by omega), e_up_ne _ _ (by omega), e_up_ne _ _ (by omega)])
      have K20 : ∀ b, b ≠ e_PB Bk u 19 0 → v2 20 b = u 20 b := fun b nb => (hK 20 b (by unfold rK; omega)).trans ((by rw [ew1, e_up_ne _ _ (by omega), e_up_ne _ _ (by omega), e_up_ne _ _ (by omega), e_up_ne _ _ (by omega), e_up_ne _ _ (by omega), e_up_ne _ _ (by omega), e_up_ne _ _ (by omega), e_up_ne _ _ (by omega), e_up_ne _ _ (by omega), e_up_ne _ _ (by omega)] : _ = e_PB Bk u 20 b).trans (e_PB_in (by unfold Bk; omega)))
      have K20n : v2 20 (e_PB Bk u 19 0) = p4 := (hK 20 _ (by unfold rK; omega)).trans (by rw [ew1, e_up_ne _ _ (by omega), e_up_ne _ _ (by omega), e_up_ne _ _ (by omega), e_up_ne _ _ (by omega), e_up_ne _ _ (by omega), e_up_eq])
      have K21 : ∀ b, b ≠ e_PB Bk u 19 0 → v2 21 b = u 21 b := fun b nb => (hK 21 b (by unfold rK; omega)).trans ((by rw [ew1, e_up_ne _ _ (by omega), e_up_ne _ _ (by omega), e_up_ne _ _ (by omega), e_up_ne _ _ (by omega), e_up_ne _ _ (by omega), e_up_ne _ _ (by omega), e_up_ne _ _ (by omega), e_up_ne _ _ (by omega), e_up_ne _ _ (by omega), e_up_ne _ _ (by omega)] : _ = e_PB Bk u 21 b).trans (e_PB_in (by unfold Bk; omega)))
      have K21n : v2 21 (e_PB Bk u 19 0) = 0 := (hK 21 _ (by unfold rK; omega)).trans (by rw [ew1, e_up_ne _ _ (by omega), e_up_ne _ _ (by omega), e_up_ne _ _ (by omega), e_up_eq])
      have K257 : ∀ b, v2 257 b = u 257 b := fun b => (hK 257 b (by unfold rK; omega)).trans ((by rw [ew1, e_up_ne _ _ (by omega), e_up_ne _ _ (by omega), e_up_ne _ _ (by omega), e_up_ne _ _ (by omega), e_up_ne _ _ (by omega), e_up_ne _ _ (by omega), e_up_ne _ _ (by omega), e_up_ne _ _ (by omega), e_up_ne _ _ (by omega), e_up_ne _ _ (by omega)] : _ = e_PB Bk u 257 b).trans (e_PB_in (by unfold Bk; omega)))
      have M303 : ∀ b, b ≠ e_PB Bm v 275 30 → v2 303 b = u 303 b := fun b nb => (hM 303 b (by unfold rM; omega)).trans ((by rw [ew2, e_up_ne _ _ (by omega), e_up_ne _ _ (by omega), e_up_ne _ _ (by omega), e_up_ne _ _ (by omega), e_up_ne _ _ (by omega), e_up_ne _ _ (by omega), e_up_ne _ _ (by omega), e_up_ne _ _ (by omega)] : _ = e_PB Bm v 303 b).trans ((e_PB_in (by unfold Bm; omega)).trans (hf1.2.2.1 303 b (by unfold Bk; omega))))
      have M303n : v2 303 (e_PB Bm v 275 30) = p4 := (hM 303 _ (by unfold rM; omega)).trans (by rw [ew2, e_up_ne _ _ (by omega), e_up_ne _ _ (by omega), e_up_ne _ _ (by omega), e_up_ne _ _ (by omega), e_up_eq])
      have M304 : ∀ b, b ≠ e_PB Bm v 275 30 → v2 304 b = u 304 b := fun b nb => (hM 304 b (by unfold rM; omega)).trans ((by rw [ew2, e_up_ne _ _ (by omega), e_up_ne _ _ (by omega), e_up_ne _ _ (by omega), e_up_ne _ _ (by omega), e_up_ne _ _ (by omega), e_up_ne _ _ (by omega), e_up_ne _ _ (by omega), e_up_ne _ _ (by omega)] : _ = e_PB Bm v 304 b).trans ((e_PB_in (by unfold Bm; omega)).trans (hf1.2.2.1 304 b (by unfold Bk; omega))))
      have M304n : v2 304 (e_PB Bm v 275 30) = 0 := (hM 304 _ (by unfold rM; omega)).trans (by rw [ew2, e_up_ne _ _ (by omega), e_up_ne _ _ (by omega), e_up_ne _ _ (by omega), e_up_eq])
      have M315 : ∀ b, v2 315 b = u 315 b := fun b => (hM 315 b (by unfold rM; omega)).trans ((by rw [ew2, e_up_ne _ _ (by omega), e_up_ne _ _ (by omega), e_up_ne _ _ (by omega), e_up_ne _ _ (by omega), e_up_ne _ _ (by omega), e_up_ne _ _ (by omega), e_up_ne _ _ (by omega), e_up_ne _ _ (by omega)] : _ = e_PB Bm v 315 b).trans ((e_PB_in (by unfold Bm; omega)).trans (hf1.2.2.1 315 b (by unfold Bk; omega))))
      refine ⟨⟨⟨by omega, by omega, by omega, by omega, by omega⟩, fun b q0 q1 => ?_, fun b q0 q1 => ?_⟩, by omega⟩
      · by_cases eb : b = u 19 0
        · have f1 : b = e_PB Bk u 19 0 := by omega
          have f2 : b = e_PB Bm v 275 30 := by omega
          rw [← f1] at K20n K21n
          rw [← f2] at M303n M304n
          omega
        · have q := hb b q0 (by omega)
          rw [M303 b (by omega), M304 b (by omega), K20 b (by omega), K21 b (by omega)]
          exact q
      · rw [M315, K257]
        exact hz b q0 (by omega)
theorem lw5_drive {u w1 v w2 v2 : eW} {z1 z2 p1 p2 : Int} (g1 : -2147483648 ≤ p1 ∧ p1 ≤ 2147483647) (g2 : -2147483648 ≤ p2 ∧ p2 ≤ 2147483647) (h0 : lw0 u) (h3 : lw3 u) (h5 : lw5 u) (hf1 : e_Lf Bk u w1 v) (x1 : (((e_PB Bk u) = w1 ∧ ((¬ ((0 ≤ p1 ∧ p1 < (e_PB Bk u) 19 0) ∧ (0 ≤ p2 ∧ p2 ≤ 100)) ∧ z1 = -1) ∨ (((0 ≤ p1 ∧ p1 < (e_PB Bk u) 19 0) ∧ (0 ≤ p2 ∧ p2 ≤ 100)) ∧ (e_PB Bk u) 0 13 ≠ 0 ∧ z1 = -2))) ∨ ((((0 ≤ p1 ∧ p1 < (e_PB Bk u) 19 0) ∧ (0 ≤ p2 ∧ p2 ≤ 100)) ∧ (e_PB Bk u) 0 13 = 0) ∧ z1 = (e_PB Bk u) 21 p1 ∧ w1 = e_up (e_PB Bk u) (21) (p1) (p2)))) (hf2 : e_Lf Bm v w2 v2) (x2 : (((e_PB Bm v) = w2 ∧ ((¬ ((0 ≤ p1 ∧ p1 < (e_PB Bm v) 275 30) ∧ (0 ≤ p2 ∧ p2 ≤ 100)) ∧ z2 = -1) ∨ (((0 ≤ p1 ∧ p1 < (e_PB Bm v) 275 30) ∧ (0 ≤ p2 ∧ p2 ≤ 100)) ∧ (e_PB Bm v) 275 3 ≠ 0 ∧ z2 = -2))) ∨ ((((0 ≤ p1 ∧ p1 < (e_PB Bm v) 275 30) ∧ (0 ≤ p2 ∧ p2 ≤ 100)) ∧ (e_PB Bm v) 275 3 = 0) ∧ z2 = (e_PB Bm v) 304 p1 ∧ w2 = e_up (e_PB Bm v) 304 (p1) (p2)))) : lw5 v2 ∧ z1 = z2 := by
  have hT := h0.2.2.2.2.1.1
  have b0 : e_PB Bk u 0 13 = u 0 13 := e_PB_in (by unfold Bk; omega)
  have b1 : e_PB Bk u 0 11 = u 0 11 := e_PB_in (by unfold Bk; omega)
  have b2 : e_PB Bk u 250 0 = u 250 0 := e_PB_in (by unfold Bk; omega)
  have b3 : e_PB Bk u 250 1 = u 250 1 := e_PB_in (by unfold Bk; omega)
  have b4 : e_PB Bk u 19 0 = u 19 0 := e_PB_in (by unfold Bk; omega)
  have b5 : e_PB Bk u 19 1 = u 19 1 := e_PB_in (by unfold Bk; omega)
  have b6 : e_PB Bk u 74 2 = u 74 2 := e_PB_in (by unfold Bk; omega)
  have d0 : e_PB Bm v 275 3 = u 275 3 := (e_PB_in (by unfold Bm; omega)).trans (hf1.2.2.1 275 3 (by unfold Bk; omega))
  have d1 : e_PB Bm v 275 10 = u 275 10 := (e_PB_in (by unfold Bm; omega)).trans (hf1.2.2.1 275 10 (by unfold Bk; omega))
  have d2 : e_PB Bm v 275 23 = u 275 23 := (e_PB_in (by unfold Bm; omega)).trans (hf1.2.2.1 275 23 (by unfold Bk; omega))
  have d3 : e_PB Bm v 275 30 = u 275 30 := (e_PB_in (by unfold Bm; omega)).trans (hf1.2.2.1 275 30 (by unfold Bk; omega))
  have d4 : e_PB Bm v 275 40 = u 275 40 := (e_PB_in (by unfold Bm; omega)).trans (hf1.2.2.1 275 40 (by unfold Bk; omega))
  have d5 : e_PB Bm v 275 42 = u 275 42 := (e_PB_in (by unfold Bm; omega)).trans (hf1.2.2.1 275 42 (by unfold Bk; omega))
  have d6 : e_PB Bm v 275 49 = u 275 49 := (e_PB_in (by unfold Bm; omega)).trans (hf1.2.2.1 275 49 (by unfold Bk; omega))
  have r250_0 := e_Has.get hT (c := 250) (k := 0) (lo := 0) (hi := 16) rfl (by decide)
  have r250_1 := e_Has.get hT (c := 250) (k := 1) (lo := 0) (hi := 8) rfl (by decide)
  have r19_0 := e_Has.get hT (c := 19) (k := 0) (lo := 0) (hi := 4) rfl (by decide)
  have r19_1 := e_Has.get hT (c := 19) (k := 1) (lo := 0) (hi := 32) rfl (by decide)
  have r74_2 := e_Has.get hT (c := 74) (k := 2) (lo := 0) (hi := 8) rfl (by decide)
  have q13 := (L_len h0).2.1
  have h5' := h5
  obtain ⟨⟨a1, a2, a3, a4, a5⟩, hb, hz⟩ := h5'
  obtain ⟨y9, y3, y10⟩ := h3
  have bq : e_PB Bk u 21 p1 = u 21 p1 := e_PB_in (by unfold Bk; omega)
  have dq : e_PB Bm v 304 p1 = u 304 p1 := (e_PB_in (by unfold Bm; omega)).trans (hf1.2.2.1 304 p1 (by unfold Bk; omega))
  have hq : 0 ≤ p1 → p1 < u 19 0 → u 304 p1 = u 21 p1 := fun s t => (hb p1 s t).2
  rcases x1 with ⟨ew1, s1⟩ | ⟨s1, t1, ew1⟩
  · rcases x2 with ⟨ew2, s2⟩ | ⟨s2, t2, ew2⟩
    · exact ⟨lw5_same h0 h5 hf1 (fun c k _ => by rw [← ew1]) hf2 (fun c k _ => by rw [← ew2]), by omega⟩
    · exfalso; omega
  · rcases x2 with ⟨ew2, s2⟩ | ⟨s2, t2, ew2⟩
    · exfalso; omega
    · have kv : ∀ c k, rK c k → kn1 (w1 c k) := by rw [ew1]; exact (kn_up (fun c k y => by rw [e_PB_in (rK_B y).1]; exact h0.1 c k) (Or.inl (by unfold kn1; omega)))
      have mv : ∀ c k, rM c k → kn1 (w2 c k) := by rw [ew2]; exact (kn_up (fun c k y => by rw [e_PB_in (rM_B y).1]; exact hf1.2.2.2.2.1 c k) (Or.inl (by unfold kn1; omega)))
      have hK : ∀ c k, rK c k → v2 c k = w1 c k := fun c k y => (hf2.2.2.1 c k (rK_B y).2).trans (hf1.val (rK_B y).1 (kv c k y))
      have hM : ∀ c k, rM c k → v2 c k = w2 c k := fun c k y => hf2.val (rM_B y).1 (mv c k y)
      have k1 : v2 250 0 = e_PB Bk u 250 0 := (hK 250 0 (by unfold rK; omega)).trans (by rw [ew1, e_up_ne _ _ (by omega)])
      have k2 : v2 250 1 = e_PB Bk u 250 1 := (hK 250 1 (by unfold rK; omega)).trans (by rw [ew1, e_up_ne _ _ (by omega)])
      have k3 : v2 19 0 = e_PB Bk u 19 0 := (hK 19 0 (by unfold rK; omega)).trans (by rw [ew1, e_up_ne _ _ (by omega)])
      have k4 : v2 19 1 = e_PB Bk u 19 1 := (hK 19 1 (by unfold rK; omega)).trans (by rw [ew1, e_up_ne _ _ (by omega)])
      have k5 : v2 74 2 = e_PB Bk u 74 2 := (hK 74 2 (by unfold rK; omega)).trans (by rw [ew1, e_up_ne _ _ (by omega)])
      have m1 : v2 275 23 = e_PB Bm v 275 23 := (hM 275 23 (by unfold rM; omega)).trans (by rw [ew2, e_up_ne _ _ (by omega)])
      have m2 : v2 275 42 = e_PB Bm v 275 42 := (hM 275 42 (by unfold rM; omega)).trans (by rw [ew2, e_up_ne _ _ (by omega)])
      have m3 : v2 275 30 = e_PB Bm v 275 30 := (hM 275 30 (by unfold rM; omega)).trans (by rw [ew2, e_up_ne _ _ (by omega)])
      have m4 : v2 275 40 = e_PB Bm v 275 40 := (hM 275 40 (by unfold rM; omega)).trans (by rw [ew2, e_up_ne _ _ (by omega)])
      have m5 : v2 275 49 = e_PB Bm v 275 49 := (hM 275 49 (by unfold rM; omega)).trans (by rw [ew2, e_up_ne _ _ (by omega)])
      have K20 : ∀ b, v2 20 b = u 20 b := fun b => (hK 20 b (by unfold rK; omega)).trans ((by rw [ew1, e_up_ne _ _ (by omega)] : _ = e_PB Bk u 20 b).trans (e_PB_in (by unfold Bk; omega)))
      have K21 : ∀ b, b ≠ p1 → v2 21 b = u 21 b := fun b nb => (hK 21 b (by unfold rK; omega)).trans ((by rw [ew1, e_up_ne _ _ (by omega)] : _ = e_PB Bk u 21 b).trans (e_PB_in (by unfold Bk; omega)))
      have K21n : v2 21 (p1) = p2 := (hK 21 _ (by unfold rK; omega)).trans (by rw [ew1, e_up_eq])
      have K257 : ∀ b, v2 257 b = u 257 b := fun b => (hK 257 b (by unfold rK; omega)).trans ((by rw [ew1, e_up_ne _ _ (by omega)] : _ = e_PB Bk u 257 b).trans (e_PB_in (by unfold Bk; omega)))
      have M303 : ∀ b, v2 303 b = u 303 b := fun b => (hM 303 b (by unfold rM; omega)).trans ((by rw [ew2, e_up_ne _ _ (by omega)] : _ = e_PB Bm v 303 b).trans ((e_PB_in (by unfold Bm; omega)).trans (hf1.2.2.1 303 b (by unfold Bk; omega))))
      have M304 : ∀ b, b ≠ p1 → v2 304 b = u 304 b := fun b nb => (hM 304 b (by unfold rM; omega)).trans ((by rw [ew2, e_up_ne _ _ (by omega)] : _ = e_PB Bm v 304 b).trans ((e_PB_in (by unfold Bm; omega)).trans (hf1.2.2.1 304 b (by unfold Bk; omega))))
      have M304n : v2 304 (p1) = p2 := (hM 304 _ (by unfold rM; omega)).trans (by rw [ew2, e_up_eq])
      have M315 : ∀ b, v2 315 b = u 315 b := fun b => (hM 315 b (by unfold rM; omega)).trans ((by rw [ew2, e_up_ne _ _ (by omega)] : _ = e_PB Bm v 315 b).trans ((e_PB_in (by unfold Bm; omega)).trans (hf1.2.2.1 315 b (by unfold Bk; omega))))
      refine ⟨⟨⟨by omega, by omega, by omega, by omega, by omega⟩, fun b q0 q1 => ?_, fun b q0 q1 => ?_⟩, by omega⟩
      · have q := hb b q0 (by omega)
        by_cases eb : b = p1
        · rw [eb, M303, K20, K21n, M304n]
          rw [eb] at q
          exact ⟨q.1, rfl⟩
        · rw [M303, K20, M304 b eb, K21 b eb]
          exact q
      · rw [M315, K257]
        exact hz b q0 (by omega)
theorem lw5_most {u w1 v w2 v2 : eW} {z1 z2 p1 p2 : Int} (g1 : -2147483648 ≤ p1 ∧ p1 ≤ 2147483647) (g2 : -2147483648 ≤ p2 ∧ p2 ≤ 2147483647) (h0 : lw0 u) (h3 : lw3 u) (h5 : lw5 u) (hf1 : e_Lf Bk u w1 v) (x1 : (((e_PB Bk u) = w1 ∧ ((¬ ((0 ≤ p1 ∧ p1 < (e_PB Bk u) 250 1) ∧ (-1 ≤ p2 ∧ p2 ≤ 32000)) ∧ z1 = -1) ∨ (((0 ≤ p1 ∧ p1 < (e_PB Bk u) 250 1) ∧ (-1 ≤ p2 ∧ p2 ≤ 32000)) ∧ (e_PB Bk u) 0 13 ≠ 0 ∧ z1 = -2))) ∨ ((((0 ≤ p1 ∧ p1 < (e_PB Bk u) 250 1) ∧ (-1 ≤ p2 ∧ p2 ≤ 32000)) ∧ (e_PB Bk u) 0 13 = 0) ∧ z1 = (e_PB Bk u) 257 p1 ∧ w1 = e_up (e_PB Bk u) (257) (p1) (p2)))) (hf2 : e_Lf Bm v w2 v2) (x2 : (((e_PB Bm v) = w2 ∧ ((¬ ((0 ≤ p1 ∧ p1 < (e_PB Bm v) 275 42) ∧ (-1 ≤ p2 ∧ p2 ≤ 32000)) ∧ z2 = -1) ∨ (((0 ≤ p1 ∧ p1 < (e_PB Bm v) 275 42) ∧ (-1 ≤ p2 ∧ p2 ≤ 32000)) ∧ (e_PB Bm v) 275 3 ≠ 0 ∧ z2 = -2))) ∨ ((((0 ≤ p1 ∧ p1 < (e_PB Bm v) 275 42) ∧ (-1 ≤ p2 ∧ p2 ≤ 32000)) ∧ (e_PB Bm v) 275 3 = 0) ∧ z2 = (e_PB Bm v) 315 p1 ∧ w2 = e_up (e_PB Bm v) 315 (p1) (p2)))) : lw5 v2 ∧ z1 = z2 := by
  have hT := h0.2.2.2.2.1.1
  have b0 : e_PB Bk u 0 13 = u 0 13 := e_PB_in (by unfold Bk; omega)
  have b1 : e_PB Bk u 0 11 = u 0 11 := e_PB_in (by unfold Bk; omega)
  have b2 : e_PB Bk u 250 0 = u 250 0 := e_PB_in (by unfold Bk; omega)
  have b3 : e_PB Bk u 250 1 = u 250 1 := e_PB_in (by unfold Bk; omega)
  have b4 : e_PB Bk u 19 0 = u 19 0 := e_PB_in (by unfold Bk; omega)
  have b5 : e_PB Bk u 19 1 = u 19 1 := e_PB_in (by unfold Bk; omega)
  have b6 : e_PB Bk u 74 2 = u 74 2 := e_PB_in (by unfold Bk; omega)
  have d0 : e_PB Bm v 275 3 = u 275 3 := (e_PB_in (by unfold Bm; omega)).trans (hf1.2.2.1 275 3 (by unfold Bk; omega))
  have d1 : e_PB Bm v 275 10 = u 275 10 := (e_PB_in (by unfold Bm; omega)).trans (hf1.2.2.1 275 10 (by unfold Bk; omega))
  have d2 : e_PB Bm v 275 23 = u 275 23 := (e_PB_in (by unfold Bm; omega)).trans (hf1.2.2.1 275 23 (by unfold Bk; omega))
  have d3 : e_PB Bm v 275 30 = u 275 30 := (e_PB_in (by unfold Bm; omega)).trans (hf1.2.2.1 275 30 (by unfold Bk; omega))
  have d4 : e_PB Bm v 275 40 = u 275 40 := (e_PB_in (by unfold Bm; omega)).trans (hf1.2.2.1 275 40 (by unfold Bk; omega))
  have d5 : e_PB Bm v 275 42 = u 275 42 := (e_PB_in (by unfold Bm; omega)).trans (hf1.2.2.1 275 42 (by unfold Bk; omega))
  have d6 : e_PB Bm v 275 49 = u 275 49 := (e_PB_in (by unfold Bm; omega)).trans (hf1.2.2.1 275 49 (by unfold Bk; omega))
  have r250_0 := e_Has.get hT (c := 250) (k := 0) (lo := 0) (hi := 16) rfl (by decide)
  have r250_1 := e_Has.get hT (c := 250) (k := 1) (lo := 0) (hi := 8) rfl (by decide)
  have r19_0 := e_Has.get hT (c := 19) (k := 0) (lo := 0) (hi := 4) rfl (by decide)
  have r19_1 := e_Has.get hT (c := 19) (k := 1) (lo := 0) (hi := 32) rfl (by decide)
  have r74_2 := e_Has.get hT (c := 74) (k := 2) (lo := 0) (hi := 8) rfl (by decide)
  have q13 := (L_len h0).2.1
  have h5' := h5
  obtain ⟨⟨a1, a2, a3, a4, a5⟩, hb, hz⟩ := h5'
  obtain ⟨y9, y3, y10⟩ := h3
  have bq : e_PB Bk u 257 p1 = u 257 p1 := e_PB_in (by unfold Bk; omega)
  have dq : e_PB Bm v 315 p1 = u 315 p1 := (e_PB_in (by unfold Bm; omega)).trans (hf1.2.2.1 315 p1 (by unfold Bk; omega))
  have hq : 0 ≤ p1 → p1 < u 250 1 → u 315 p1 = u 257 p1 := fun s t => hz p1 s t
  rcases x1 with ⟨ew1, s1⟩ | ⟨s1, t1, ew1⟩
  · rcases x2 with ⟨ew2, s2⟩ | ⟨s2, t2, ew2⟩
    · exact ⟨lw5_same h0 h5 hf1 (fun c k _ => by rw [← ew1]) hf2 (fun c k _ => by rw [← ew2]), by omega⟩
    · exfalso; omega
  · rcases x2 with ⟨ew2, s2⟩ | ⟨s2, t2, ew2⟩
    · exfalso; omega
    · have kv : ∀ c k, rK c k → kn1 (w1 c k) := by rw [ew1]; exact (kn_up (fun c k y => by rw [e_PB_in (rK_B y).1]; exact h0.1 c k) (Or.inl (by unfold kn1; omega)))
      have mv : ∀ c k, rM c k → kn1 (w2 c k) := by rw [ew2]; exact (kn_up (fun c k y => by rw [e_PB_in (rM_B y).1]; exact hf1.2.2.2.2.1 c k) (Or.inl (by unfold kn1; omega)))
      have hK : ∀ c k, rK c k → v2 c k = w1 c k := fun c k y => (hf2.2.2.1 c k (rK_B y).2).trans (hf1.val (rK_B y).1 (kv c k y))
      have hM : ∀ c k, rM c k → v2 c k = w2 c k := fun c k y => hf2.val (rM_B y).1 (mv c k y)
      have k1 : v2 250 0 = e_PB Bk u 250 0 := (hK 250 0 (by unfold rK; omega)).trans (by rw [ew1, e_up_ne _ _ (by omega)])
      have k2 : v2 250 1 = e_PB Bk u 250 1 := (hK 250 1 (by unfold rK; omega)).trans (by rw [ew1, e_up_ne _ _ (by omega)])
      have k3 : v2 19 0 = e_PB Bk u 19 0 := (hK 19 0 (by unfold rK; omega)).trans (by rw [ew1, e_up_ne _ _ (by omega)])
      have k4 : v2 19 1 = e_PB Bk u 19 1 := (hK 19 1 (by unfold rK; omega)).trans (by rw [ew1, e_up_ne _ _ (by omega)])
      have k5 : v2 74 2 = e_PB Bk u 74 2 := (hK 74 2 (by unfold rK; omega)).trans (by rw [ew1, e_up_ne _ _ (by omega)])
      have m1 : v2 275 23 = e_PB Bm v 275 23 := (hM 275 23 (by unfold rM; omega)).trans (by rw [ew2, e_up_ne _ _ (by omega)])
      have m2 : v2 275 42 = e_PB Bm v 275 42 := (hM 275 42 (by unfold rM; omega)).trans (by rw [ew2, e_up_ne _ _ (by omega)])
      have m3 : v2 275 30 = e_PB Bm v 275 30 := (hM 275 30 (by unfold rM; omega)).trans (by rw [ew2, e_up_ne _ _ (by omega)])
      have m4 : v2 275 40 = e_PB Bm v 275 40 := (hM 275 40 (by unfold rM; omega)).trans (by rw [ew2, e_up_ne _ _ (by omega)])
      have m5 : v2 275 49 = e_PB Bm v 275 49 := (hM 275 49 (by unfold rM; omega)).trans (by rw [ew2, e_up_ne _ _ (by omega)])
      have K20 : ∀ b, v2 20 b = u 20 b := fun b => (hK 20 b (by unfold rK; omega)).trans ((by rw [ew1, e_up_ne _ _ (by omega)] : _ = e_PB Bk u 20 b).trans (e_PB_in (by unfold Bk; omega)))
      have K21 : ∀ b, v2 21 b = u 21 b := fun b => (hK 21 b (by unfold rK; omega)).trans ((by rw [ew1, e_up_ne _ _ (by omega)] : _ = e_PB Bk u 21 b).trans (e_PB_in (by unfold Bk; omega)))
      have K257 : ∀ b, b ≠ p1 → v2 257 b = u 257 b := fun b nb => (hK 257 b (by unfold rK; omega)).trans ((by rw [ew1, e_up_ne _ _ (by omega)] : _ = e_PB Bk u 257 b).trans (e_PB_in (by unfold Bk; omega)))
      have K257n : v2 257 (p1) = p2 := (hK 257 _ (by unfold rK; omega)).trans (by rw [ew1, e_up_eq])
      have M303 : ∀ b, v2 303 b = u 303 b := fun b => (hM 303 b (by unfold rM; omega)).trans ((by rw [ew2, e_up_ne _ _ (by omega)] : _ = e_PB Bm v 303 b).trans ((e_PB_in (by unfold Bm; omega)).trans (hf1.2.2.1 303 b (by unfold Bk; omega))))
      have M304 : ∀ b, v2 304 b = u 304 b := fun b => (hM 304 b (by unfold rM; omega)).trans ((by rw [ew2, e_up_ne _ _ (by omega)] : _ = e_PB Bm v 304 b).trans ((e_PB_in (by unfold Bm; omega)).trans (hf1.2.2.1 304 b (by unfold Bk; omega))))
      have M315 : ∀ b, b ≠ p1 → v2 315 b = u 315 b := fun b nb => (hM 315 b (by unfold rM; omega)).trans ((by rw [ew2, e_up_ne _ _ (by omega)] : _ = e_PB Bm v 315 b).trans ((e_PB_in (by unfold Bm; omega)).trans (hf1.2.2.1 315 b (by unfold Bk; omega))))
      have M315n : v2 315 (p1) = p2 := (hM 315 _ (by unfold rM; omega)).trans (by rw [ew2, e_up_eq])
      refine ⟨⟨⟨by omega, by omega, by omega, by omega, by omega⟩, fun b q0 q1 => ?_, fun b q0 q1 => ?_⟩, by omega⟩
      · rw [M303, M304, K20, K21]
        exact hb b q0 (by omega)
      · by_cases eb : b = p1
        · rw [eb, M315n, K257n]
        · rw [M315 b eb, K257 b eb]
          exact hz b q0 (by omega)
theorem lw5_input {u w1 v w2 v2 : eW} {z1 z2 p1 : Int} (g1 : -2147483648 ≤ p1 ∧ p1 ≤ 2147483647) (h0 : lw0 u) (h3 : lw3 u) (h5 : lw5 u) (hf1 : e_Lf Bk u w1 v) (x1 : (((e_PB Bk u) = w1 ∧ ((¬ ((0 ≤ p1 ∧ p1 ≤ 1000)) ∧ z1 = -1) ∨ (((0 ≤ p1 ∧ p1 ≤ 1000)) ∧ (((e_PB Bk u) 0 13 ≠ 0 ∧ z1 = -2) ∨ ((e_PB Bk u) 0 13 = 0 ∧ (e_PB Bk u) 74 2 = 8 ∧ z1 = -3))))) ∨ ((((0 ≤ p1 ∧ p1 ≤ 1000)) ∧ (e_PB Bk u) 0 13 = 0 ∧ ¬ ((e_PB Bk u) 74 2 = 8)) ∧ z1 = (e_PB Bk u) 74 2 ∧ w1 = e_up (e_up (e_PB Bk u) (76) ((e_PB Bk u) 74 2) (p1)) (74) (2) ((e_PB Bk u) 74 2 + 1)))) (hf2 : e_Lf Bm v w2 v2) (x2 : (((e_PB Bm v) = w2 ∧ ((¬ ((0 ≤ p1 ∧ p1 ≤ 1000)) ∧ z2 = -1) ∨ (((0 ≤ p1 ∧ p1 ≤ 1000)) ∧ (((e_PB Bm v) 275 3 ≠ 0 ∧ z2 = -2) ∨ ((e_PB Bm v) 275 3 = 0 ∧ (e_PB Bm v) 275 49 = 8 ∧ z2 = -3))))) ∨ ((((0 ≤ p1 ∧ p1 ≤ 1000)) ∧ (e_PB Bm v) 275 3 = 0 ∧ ¬ ((e_PB Bm v) 275 49 = 8)) ∧ z2 = (e_PB Bm v) 275 49 ∧ w2 = e_up (e_up (e_PB Bm v) 316 ((e_PB Bm v) 275 49) (p1)) 275 (49) ((e_PB Bm v) 275 49 + 1)))) : lw5 v2 ∧ z1 = z2 := by
  have hT := h0.2.2.2.2.1.1
  have b0 : e_PB Bk u 0 13 = u 0 13 := e_PB_in (by unfold Bk; omega)
  have b1 : e_PB Bk u 0 11 = u 0 11 := e_PB_in (by unfold Bk; omega)
  have b2 : e_PB Bk u 250 0 = u 250 0 := e_PB_in (by unfold Bk; omega)
  have b3 : e_PB Bk u 250 1 = u 250 1 := e_PB_in (by unfold Bk; omega)
  have b4 : e_PB Bk u 19 0 = u 19 0 := e_PB_in (by unfold Bk; omega)
  have b5 : e_PB Bk u 19 1 = u 19 1 := e_PB_in (by unfold Bk; omega)
  have b6 : e_PB Bk u 74 2 = u 74 2 := e_PB_in (by unfold Bk; omega)
  have d0 : e_PB Bm v 275 3 = u 275 3 := (e_PB_in (by unfold Bm; omega)).trans (hf1.2.2.1 275 3 (by unfold Bk; omega))
  have d1 : e_PB Bm v 275 10 = u 275 10 := (e_PB_in (by unfold Bm; omega)).trans (hf1.2.2.1 275 10 (by unfold Bk; omega))
  have d2 : e_PB Bm v 275 23 = u 275 23 := (e_PB_in (by unfold Bm; omega)).trans (hf1.2.2.1 275 23 (by unfold Bk; omega))
  have d3 : e_PB Bm v 275 30 = u 275 30 := (e_PB_in (by unfold Bm; omega)).trans (hf1.2.2.1 275 30 (by unfold Bk; omega))
  have d4 : e_PB Bm v 275 40 = u 275 40 := (e_PB_in (by unfold Bm; omega)).trans (hf1.2.2.1 275 40 (by unfold Bk; omega))
  have d5 : e_PB Bm v 275 42 = u 275 42 := (e_PB_in (by unfold Bm; omega)).trans (hf1.2.2.1 275 42 (by unfold Bk; omega))
  have d6 : e_PB Bm v 275 49 = u 275 49 := (e_PB_in (by unfold Bm; omega)).trans (hf1.2.2.1 275 49 (by unfold Bk; omega))
  have r250_0 := e_Has.get hT (c := 250) (k := 0) (lo := 0) (hi := 16) rfl (by decide)
  have r250_1 := e_Has.get hT (c := 250) (k := 1) (lo := 0) (hi := 8) rfl (by decide)
  have r19_0 := e_Has.get hT (c := 19) (k := 0) (lo := 0) (hi := 4) rfl (by decide)
  have r19_1 := e_Has.get hT (c := 19) (k := 1) (lo := 0) (hi := 32) rfl (by decide)
  have r74_2 := e_Has.get hT (c := 74) (k := 2) (lo := 0) (hi := 8) rfl (by decide)
  have q13 := (L_len h0).2.1
  have h5' := h5
  obtain ⟨⟨a1, a2, a3, a4, a5⟩, hb, hz⟩ := h5'
  obtain ⟨y9, y3, y10⟩ := h3
  rcases x1 with ⟨ew1, s1⟩ | ⟨s1, t1, ew1⟩
  · rcases x2 with ⟨ew2, s2⟩ | ⟨s2, t2, ew2⟩
    · exact ⟨lw5_same h0 h5 hf1 (fun c k _ => by rw [← ew1]) hf2 (fun c k _ => by rw [← ew2]), by omega⟩
    · exfalso; omega
  · rcases x2 with ⟨ew2, s2⟩ | ⟨s2, t2, ew2⟩
    · exfalso; omega
    · have kv : ∀ c k, rK c k → kn1 (w1 c k) := by rw [ew1]; exact (kn_up (kn_up (fun c k y => by rw [e_PB_in (rK_B y).1]; exact h0.1 c k) (Or.inl (by unfold kn1; omega))) (Or.inl (by unfold kn1; omega)))
      have mv : ∀ c k, rM c k → kn1 (w2 c k) := by rw [ew2]; exact (kn_up (kn_up (fun c k y => by rw [e_PB_in (rM_B y).1]; exact hf1.2.2.2.2.1 c k) (Or.inl (by unfold kn1; omega))) (Or.inl (by unfold kn1; omega)))
      have hK : ∀ c k, rK c k → v2 c k = w1 c k := fun c k y => (hf2.2.2.1 c k (rK_B y).2).trans (hf1.val (rK_B y).1 (kv c k y))
      have hM : ∀ c k, rM c k → v2 c k = w2 c k := fun c k y => hf2.val (rM_B y).1 (mv c k y)
      have k1 : v2 250 0 = e_PB Bk u 250 0 := (hK 250 0 (by unfold rK; omega)).trans (by rw [ew1, e_up_ne _ _ (by omega), e_up_ne _ _ (by omega)])
      have k2 : v2 250 1 = e_PB Bk u 250 1 := (hK 250 1 (by unfold rK; omega)).trans (by rw [ew1, e_up_ne _ _ (by omega), e_up_ne _ _ (by omega)])
      have k3 : v2 19 0 = e_PB Bk u 19 0 := (hK 19 0 (by unfold rK; omega)).trans (by rw [ew1, e_up_ne _ _ (by omega), e_up_ne _ _ (by omega)])
      have k4 : v2 19 1 = e_PB Bk u 19 1 := (hK 19 1 (by unfold rK; omega)).trans (by rw [ew1, e_up_ne _ _ (by omega), e_up_ne _ _ (by omega)])
      have k5 : v2 74 2 = e_PB Bk u 74 2 + 1 := (hK 74 2 (by unfold rK; omega)).trans (by rw [ew1, e_up_eq])
      have m1 : v2 275 23 = e_PB Bm v 275 23 := (hM 275 23 (by unfold rM; omega)).trans (by rw [ew2, e_up_ne _ _ (by omega), e_up_ne _ _ (by omega)])
      have m2 : v2 275 42 = e_PB Bm v 275 42 := (hM 275 42 (by unfold rM; omega)).trans (by rw [ew2, e_up_ne _ _ (by omega), e_up_ne _ _ (by omega)])
      have m3 : v2 275 30 = e_PB Bm v 275 30 := (hM 275 30 (by unfold rM; omega)).trans (by rw [ew2, e_up_ne _ _ (by omega), e_up_ne _ _ (by omega)])
      have m4 : v2 275 40 = e_PB Bm v 275 40 := (hM 275 40 (by unfold rM; omega)).trans (by rw [ew2, e_up_ne _ _ (by omega), e_up_ne _ _ (by omega)])
      have m5 : v2 275 49 = e_PB Bm v 275 49 + 1 := (hM 275 49 (by unfold rM; omega)).trans (by rw [ew2, e_up_eq])
      have K20 : ∀ b, v2 20 b = u 20 b := fun b => (hK 20 b (by unfold rK; omega)).trans ((by rw [ew1, e_up_ne _ _ (by omega), e_up_ne _ _ (by omega)] : _ = e_PB Bk u 20 b).trans (e_PB_in (by unfold Bk; omega)))
      have K21 : ∀ b, v2 21 b = u 21 b := fun b => (hK 21 b (by unfold rK; omega)).trans ((by rw [ew1, e_up_ne _ _ (by omega), e_up_ne _ _ (by omega)] : _ = e_PB Bk u 21 b).trans (e_PB_in (by unfold Bk; omega)))
      have K257 : ∀ b, v2 257 b = u 257 b := fun b => (hK 257 b (by unfold rK; omega)).trans ((by rw [ew1, e_up_ne _ _ (by omega), e_up_ne _ _ (by omega)] : _ = e_PB Bk u 257 b).trans (e_PB_in (by unfold Bk; omega)))
      have M303 : ∀ b, v2 303 b = u 303 b := fun b => (hM 303 b (by unfold rM; omega)).trans ((by rw [ew2, e_up_ne _ _ (by omega), e_up_ne _ _ (by omega)] : _ = e_PB Bm v 303 b).trans ((e_PB_in (by unfold Bm; omega)).trans (hf1.2.2.1 303 b (by unfold Bk; omega))))
      have M304 : ∀ b, v2 304 b = u 304 b := fun b => (hM 304 b (by unfold rM; omega)).trans ((by rw [ew2, e_up_ne _ _ (by omega), e_up_ne _ _ (by omega)] : _ = e_PB Bm v 304 b).trans ((e_PB_in (by unfold Bm; omega)).trans (hf1.2.2.1 304 b (by unfold Bk; omega))))
      have M315 : ∀ b, v2 315 b = u 315 b := fun b => (hM 315 b (by unfold rM; omega)).trans ((by rw [ew2, e_up_ne _ _ (by omega), e_up_ne _ _ (by omega)] : _ = e_PB Bm v 315 b).trans ((e_PB_in (by unfold Bm; omega)).trans (hf1.2.2.1 315 b (by unfold Bk; omega))))
      refine ⟨⟨⟨by omega, by omega, by omega, by omega, by omega⟩, fun b q0 q1 => ?_, fun b q0 q1 => ?_⟩, by omega⟩
      · rw [M303, M304, K20, K21]
        exact hb b q0 (by omega)
      · rw [M315, K257]
        exact hz b q0 (by omega)
end
