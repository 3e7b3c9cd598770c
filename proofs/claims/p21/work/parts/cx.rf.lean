noncomputable section
/-! what is kept, is kept by contents that know more -/
section Kx
variable {w w' : eW} {OP OD CL : Int → Int → Int} {h t0 : Int}
theorem e_Has.kq (hT : e_Has kTy w) (hw : e_rf w w') {c k lo hi : Int} (ht : kTy c k = (lo, hi)) (hl : lo ≤ hi) (h1 : -2147483648 ≤ lo) (h2 : hi ≤ 2147483647) : w' c k = w c k := (kn1.ty (e_Has.get hT ht hl) h1 h2).rf hw
theorem kn1.of {x lo hi : Int} (hx : lo ≤ x ∧ x ≤ hi) (h1 : -2147483648 ≤ lo) (h2 : hi ≤ 2147483647) : kn1 x := by unfold kn1; omega
theorem kq_J {a j k : Int} (hT : e_Has kTy w) (hw : e_rf w w') (ha : 0 ≤ a ∧ a ≤ 3) (hj : 0 ≤ j ∧ j ≤ 5) (hk : 0 ≤ k ∧ k ≤ 9) : w' (17 * a + j + 97) k = w (17 * a + j + 97) k := by
  obtain rfl | rfl | rfl | rfl | rfl | rfl | rfl | rfl | rfl | rfl : k = 0 ∨ k = 1 ∨ k = 2 ∨ k = 3 ∨ k = 4 ∨ k = 5 ∨ k = 6 ∨ k = 7 ∨ k = 8 ∨ k = 9 := by omega
  · exact hT.kq hw (kJ_0 (a := a) (j := j) rfl ha hj) (by decide) (by decide) (by decide)
  · exact hT.kq hw (kJ_1 (a := a) (j := j) rfl ha hj) (by decide) (by decide) (by decide)
  · exact hT.kq hw (kJ_2 (a := a) (j := j) rfl ha hj) (by decide) (by decide) (by decide)
  · exact hT.kq hw (kJ_3 (a := a) (j := j) rfl ha hj) (by decide) (by decide) (by decide)
  · exact hT.kq hw (kJ_4 (a := a) (j := j) rfl ha hj) (by decide) (by decide) (by decide)
  · exact hT.kq hw (kJ_5 (a := a) (j := j) rfl ha hj) (by decide) (by decide) (by decide)
  · exact hT.kq hw (kJ_6 (a := a) (j := j) rfl ha hj) (by decide) (by decide) (by decide)
  · exact hT.kq hw (kJ_7 (a := a) (j := j) rfl ha hj) (by decide) (by decide) (by decide)
  · exact hT.kq hw (kJ_8 (a := a) (j := j) rfl ha hj) (by decide) (by decide) (by decide)
  · exact hT.kq hw (kJ_9 (a := a) (j := j) rfl ha hj) (by decide) (by decide) (by decide)
theorem kq_A {a k : Int} (hT : e_Has kTy w) (hw : e_rf w w') (ha : 0 ≤ a ∧ a ≤ 3) (hk : (8 ≤ k ∧ k ≤ 11) ∨ (13 ≤ k ∧ k ≤ 19)) : w' (17 * a + 86) k = w (17 * a + 86) k := by
  obtain rfl | rfl | rfl | rfl | rfl | rfl | rfl | rfl | rfl | rfl | rfl : k = 8 ∨ k = 9 ∨ k = 10 ∨ k = 11 ∨ k = 13 ∨ k = 14 ∨ k = 15 ∨ k = 16 ∨ k = 17 ∨ k = 18 ∨ k = 19 := by omega
  · exact hT.kq hw (kA_8 (a := a) rfl ha) (by decide) (by decide) (by decide)
  · exact hT.kq hw (kA_9 (a := a) rfl ha) (by decide) (by decide) (by decide)
  · exact hT.kq hw (kA_10 (a := a) rfl ha) (by decide) (by decide) (by decide)
  · exact hT.kq hw (kA_11 (a := a) rfl ha) (by decide) (by decide) (by decide)
  · exact hT.kq hw (kA_13 (a := a) rfl ha) (by decide) (by decide) (by decide)
  · exact hT.kq hw (kA_14 (a := a) rfl ha) (by decide) (by decide) (by decide)
  · exact hT.kq hw (kA_15 (a := a) rfl ha) (by decide) (by decide) (by decide)
  · exact hT.kq hw (kA_16 (a := a) rfl ha) (by decide) (by decide) (by decide)
  · exact hT.kq hw (kA_17 (a := a) rfl ha) (by decide) (by decide) (by decide)
  · exact hT.kq hw (kA_18 (a := a) rfl ha) (by decide) (by decide) (by decide)
  · exact hT.kq hw (kA_19 (a := a) rfl ha) (by decide) (by decide) (by decide)
theorem kq_T {t k : Int} (hT : e_Has kTy w) (hw : e_rf w w') (ht : 0 ≤ t ∧ t ≤ 15) (hk : (1 ≤ k ∧ k ≤ 7) ∨ k = 10 ∨ k = 11 ∨ k = 14 ∨ k = 15) : w' (6 * t + 154) k = w (6 * t + 154) k := by
  obtain rfl | rfl | rfl | rfl | rfl | rfl | rfl | rfl | rfl | rfl | rfl : k = 1 ∨ k = 2 ∨ k = 3 ∨ k = 4 ∨ k = 5 ∨ k = 6 ∨ k = 7 ∨ k = 10 ∨ k = 11 ∨ k = 14 ∨ k = 15 := by omega
  · exact hT.kq hw (kT_1 (t := t) rfl ht) (by decide) (by decide) (by decide)
  · exact hT.kq hw (kT_2 (t := t) rfl ht) (by decide) (by decide) (by decide)
  · exact hT.kq hw (kT_3 (t := t) rfl ht) (by decide) (by decide) (by decide)
  · exact hT.kq hw (kT_4 (t := t) rfl ht) (by decide) (by decide) (by decide)
  · exact hT.kq hw (kT_5 (t := t) rfl ht) (by decide) (by decide) (by decide)
  · exact hT.kq hw (kT_6 (t := t) rfl ht) (by decide) (by decide) (by decide)
  · exact hT.kq hw (kT_7 (t := t) rfl ht) (by decide) (by decide) (by decide)
  · exact hT.kq hw (kT_10 (t := t) rfl ht) (by decide) (by decide) (by decide)
  · exact hT.kq hw (kT_11 (t := t) rfl ht) (by decide) (by decide) (by decide)
  · exact hT.kq hw (kT_14 (t := t) rfl ht) (by decide) (by decide) (by decide)
  · exact hT.kq hw (kT_15 (t := t) rfl ht) (by decide) (by decide) (by decide)
theorem oK.rf {a : Int} (ha : 0 ≤ a ∧ a ≤ 3) (hT : e_Has kTy w) (q : oK w a) (hw : e_rf w w') : oK w' a := by
  unfold oK at q ⊢
  rw [kq_A hT hw ha (by omega)]
  exact ⟨q.1.rf hw, q.2.rf hw⟩
theorem aMs.rf {a n st : Int} (hT : e_Has kTy w) (hw : e_rf w w') (ha : 0 ≤ a ∧ a ≤ 3) (hn : n ≤ 6) (q : aMs w a n st) : aMs w' a n st := fun i g1 g2 => jq.eq (fun k g3 g4 => kq_J hT hw ha (by omega) (by omega)) (q i g1 g2)
theorem aT.rf {a : Int} (hT : e_Has kTy w) (hw : e_rf w w') (ha : 0 ≤ a ∧ a ≤ 3) (q : aT w a) : aT w' a := by
  unfold aT at q ⊢
  rw [kq_A (k := 8) hT hw ha (by omega), kq_A (k := 11) hT hw ha (by omega)]
  exact fun g => ⟨by rw [(q g).1.rf hw]; exact (q g).1, fun j g1 g2 => by have z := (q g).2 j g1 g2; rw [z.rf hw]; exact z⟩
theorem aH.rf {a : Int} (hT : e_Has kTy w) (hw : e_rf w w') (ha : 0 ≤ a ∧ a ≤ 3) (q : aH w a) : aH w' a := by
  unfold aH at q ⊢
  rw [kq_A (k := 14) hT hw ha (by omega), hT.kq hw (c := 19) (k := 1) (lo := 0) (hi := 32) rfl (by decide) (by decide) (by decide)]
  intro g
  have z := q g
  refine ⟨z.1, ?_⟩
  rw [(show kn1 (w 36 (w (17 * a + 86) 14)) from by have z2 := z.2; unfold kn1; omega).rf hw]
  exact z.2
theorem yD.rf {m y : Int} (hm : m ≤ 6) (hw : e_rf w w') (q : yD w m y) : yD w' m y := by
  obtain ⟨q1, q2, q3⟩ := q
  have e0 : w' 270 y = w 270 y := (kn1.of q1 (by decide) (by decide)).rf hw
  have e1 : w' 271 y = w 271 y := (kn1.of q2 (by decide) (by decide)).rf hw
  refine ⟨by rw [e0]; exact q1, by rw [e1]; exact q2, fun k g1 g2 => ?_⟩
  rw [e0] at g2
  have z := q3 k g1 g2
  rw [(show kn1 (w 269 (1000 * y + k)) from by unfold kn1; omega).rf hw]
  exact z
theorem yP.rf {a m y s : Int} {v v' : Int → Int} (hT : e_Has kTy w) (hw : e_rf w w') (ha : 0 ≤ a ∧ a ≤ 3) (hm : m ≤ 6) (hs : 0 ≤ s) (hy : yD w m y) (hv : ∀ j, 0 ≤ j → j < m → v' j = v j) (q : yP w a m y s v) : yP w' a m y s v' := by
  obtain ⟨y1, y2, y3⟩ := hy
  have e0 : w' 270 y = w 270 y := (kn1.of y1 (by decide) (by decide)).rf hw
  have e1 : w' 271 y = w 271 y := (kn1.of y2 (by decide) (by decide)).rf hw
  obtain ⟨N, q1, q2⟩ := q
  refine ⟨N, fun j g1 g2 => by rw [hv j g1 g2]; exact q1 j g1 g2, fun k g1 g2 j g3 g4 => ?_⟩
  rw [e0] at g2
  have z := y3 k (by omega) g2
  rw [(show kn1 (w 269 (1000 * y + k)) from by unfold kn1; omega).rf hw, e1, kq_J (k := 1) hT hw ha (by omega) (by omega), kq_J (k := 2) hT hw ha (by omega) (by omega)]
  exact q2 k g1 g2 j g3 g4
theorem aW.rf {a : Int} (hT : e_Has kTy w) (hw : e_rf w w') (ha : 0 ≤ a ∧ a ≤ 3) (q : aW w a) : aW w' a := by
  have hn := kn_joints hT ha
  unfold aW at q ⊢
  obtain ⟨p1, p2, p3⟩ := q
  rw [kq_A (k := 8) hT hw ha (by omega), kq_A (k := 11) hT hw ha (by omega), kq_A (k := 17) hT hw ha (by omega), kq_A (k := 18) hT hw ha (by omega), kq_A (k := 19) hT hw ha (by omega)]
  refine ⟨fun g => (p1 g).rf hn.2 hw, fun g1 g2 => (p2 g1 g2).rf hT hw ha hn.2 (by decide) (p1 g1) (fun j g3 g4 => kq_J hT hw ha (by omega) (by decide)), fun g => ?_⟩
  have z := p3 g
  have zy := p1 z.2.1
  refine ⟨z.1, z.2.1, ?_, z.2.2.2.rf hT hw ha hn.2 g zy (fun j g3 g4 => kq_J hT hw ha (by omega) (by decide))⟩
  rw [(kn1.of zy.1 (by decide) (by decide)).rf hw]
  exact z.2.2.1
theorem aR.rf {a : Int} (hT : e_Has kTy w) (hw : e_rf w w') (ha : 0 ≤ a ∧ a ≤ 3) (q : aR w a) : aR w' a := by
  have hn := kn_joints hT ha
  obtain ⟨q1, q2, q3, q4, q5, q6⟩ := q
  refine ⟨q1.rf ha hT hw, q2.rf ha hT hw, ?_, q4.rf hT hw ha, q5.rf hT hw ha, q6.rf hT hw ha⟩
  rw [kq_A (k := 8) hT hw ha (by omega), kq_A (k := 11) hT hw ha (by omega)]
  exact q3.rf hT hw ha hn.2
theorem fK.rf (hT : e_Has kTy w) (hw : e_rf w w') (q : fK w) : fK w' := by
  have e0 : w' 19 0 = w 19 0 := hT.kq hw (lo := 0) (hi := 4) rfl (by decide) (by decide) (by decide)
  have e1 : w' 19 1 = w 19 1 := hT.kq hw (lo := 0) (hi := 32) rfl (by decide) (by decide) (by decide)
  have b1 := e_Has.get hT (c := 19) (k := 1) (lo := 0) (hi := 32) rfl (by decide)
  have b0 := e_Has.get hT (c := 19) (k := 0) (lo := 0) (hi := 4) rfl (by decide)
  refine ⟨fun b g1 g2 => ?_, fun p g1 g2 => ?_⟩
  · rw [e0] at g2
    obtain ⟨z1, z2⟩ := q.1 b g1 g2
    have e2 : w' 35 b = w 35 b := (kn1.of z1 (by decide) (by decide)).rf hw
    refine ⟨by rw [e2]; exact z1, fun i g3 g4 => ?_⟩
    rw [e2] at g4
    obtain ⟨z3, z4⟩ := z2 i g3 g4
    have e3 : w' (b + 31) i = w (b + 31) i := (show kn1 _ from by unfold kn1; omega).rf hw
    have e4 : w' 36 (w (b + 31) i) = w 36 (w (b + 31) i) := (show kn1 _ from by unfold kn1; omega).rf hw
    rw [e3, e1, e4]
    exact ⟨z3, z4⟩
  · rw [e1] at g2
    obtain ⟨z1, z2, z3⟩ := q.2 p g1 g2
    have e2 : w' 36 p = w 36 p := (kn1.of z1 (by decide) (by decide)).rf hw
    refine ⟨by rw [e2]; exact z1, fun g => ?_, fun g => ?_⟩
    · rw [e2] at g
      obtain ⟨z4, z5⟩ := z2 g
      rw [e2, e0, z5.rf hw]
      exact ⟨z4, z5⟩
    · rw [e2] at g
      obtain ⟨z4, z5⟩ := z3 g
      rw [z4.rf hw, z5.rf hw]
      exact ⟨z4, z5⟩
theorem pF.rf (hT : e_Has kTy w) (hw : e_rf w w') (q : pF w) : pF w' := fun p g1 g2 g3 => by
  rw [hT.kq hw (c := 16) (k := p) (lo := 0) (hi := 1) rfl (by decide) (by decide) (by decide)] at g3
  have z := q p g1 g2 g3
  rw [z.rf hw]
  exact z
theorem lgK.rf (hT : e_Has kTy w) (hw : e_rf w w') (q : lgK w) : lgK w' := fun i g1 g2 g3 => by
  rw [hT.kq hw (c := 74) (k := 1) (lo := 0) (hi := 2147483647) rfl (by decide) (by decide) (by decide)] at g3
  have z := q i g1 g2 g3
  rw [z.rf hw]
  exact z
theorem kn_cd {x : Int} (hx : isCd x) : kn1 x := by unfold isCd at hx; unfold kn1; omega
theorem kCo.rf (hT : e_Has kTy w) (hw : e_rf w w') (q : kCo w OP OD CL) : kCo w' OP OD CL := fun a g1 g2 => by
  obtain ⟨q1, q2, q3⟩ := q a g1 g2
  have hc := q1.1
  rw [(kn_cd hc).rf hw]
  refine ⟨⟨hc, fun p => ?_⟩, q2, ?_⟩
  · rw [hT.kq hw (kD_0 hc) (by decide) (by decide) (by decide), hT.kq hw (kD2 p rfl hc) (by decide) (by decide) (by decide)]
    exact q1.2 p
  · unfold kCe at q3 ⊢
    rw [hT.kq hw (kD_1 hc) (by decide) (by decide) (by decide)]
    exact ⟨fun n g3 g4 => by rw [hT.kq hw (kD1 n rfl hc) (by decide) (by decide) (by decide)]; exact q3.1 n g3 g4, q3.2⟩
theorem gK.rf {hh : Int} (hw : e_rf w w') (q : gK w hh) : gK w' hh := fun j g1 g2 g3 => by
  have z := q j g1 g2 g3
  rw [z.rf hw]
  exact z
theorem tS.rf {t H : Int} {op : Int → Int} (hT : e_Has kTy w) (hw : e_rf w w') (ht : 0 ≤ t ∧ t ≤ 15) (q : tS w (6 * t + 154) op H) : tS w' (6 * t + 154) op H := by
  have e15 := kq_T (k := 15) hT hw ht (by omega)
  have e4 := kq_T (k := 4) hT hw ht (by omega)
  obtain ⟨q0, q1, q2⟩ := q
  refine ⟨by rw [e15]; exact q0, fun i g1 g2 => ?_, fun i g1 g2 => ?_⟩
  · rw [e4] at g2
    obtain ⟨z1, z2, z3⟩ := q1 i g1 g2
    have a1 : w' (6 * t + 154 + 1) i = w (6 * t + 154 + 1) i := (show kn1 _ from z1).rf hw
    have a2 : w' (6 * t + 154 + 2) i = w (6 * t + 154 + 2) i := (show kn1 _ from by clear z2; unfold kn1; omega).rf hw
    rw [a1, a2]
    exact ⟨z1, z2, z3⟩
  · obtain ⟨z1, z2, z3⟩ := q2 i g1 g2
    have a3 : w' (6 * t + 154 + 3) i = w (6 * t + 154 + 3) i := (kn1.of z1.1 (by decide) (by decide)).rf hw
    have a4 : w' (6 * t + 154 + 4) i = w (6 * t + 154 + 4) i := (kn1.of z2.1 (by decide) (by decide)).rf hw
    refine ⟨by rw [a3]; exact z1, by rw [a4]; exact z2, ?_⟩
    rw [a4]
    intro g
    have y := z3 g
    rw [(show kn1 (w (6 * t + 154 + 5) i) from y.1).rf hw]
    exact y
theorem tQ.rf {hh t : Int} (hT : e_Has kTy w) (hw : e_rf w w') (hC : ∀ a, 0 ≤ a → a ≤ 3 → isCd (w (17 * a + 86) 7)) (ht : 0 ≤ t ∧ t ≤ 15) (q : tQ w OP CL hh t0 t) : tQ w' OP CL hh t0 t := by
  have e1 := kq_T (k := 1) hT hw ht (by omega)
  have e2 := kq_T (k := 2) hT hw ht (by omega)
  have e3 := kq_T (k := 3) hT hw ht (by omega)
  have e11 := kq_T (k := 11) hT hw ht (by omega)
  obtain ⟨⟨p1, p2, p3⟩, q2⟩ := q
  refine ⟨⟨by rw [e1, e2]; exact p1, fun g => ?_, fun g => ?_⟩, fun g1 g2 => ?_⟩
  · rw [e1] at g
    obtain ⟨z1, z2⟩ := p2 g
    rw [z1.rf hw, z2.rf hw]
    exact ⟨z1, z2⟩
  · rw [e1] at g
    obtain ⟨z1, z2⟩ := p3 g
    rw [(kn1.of z1 (by decide) (by decide)).rf hw, z2.rf hw]
    exact ⟨z1, z2⟩
  · rw [e1] at g1 g2
    obtain ⟨⟨⟨H, s1⟩, s2⟩, q3⟩ := q2 g1 g2
    have ha := p1 g1 g2
    have hb := e_Has.get hT (c := 6 * t + 154) (k := 2) (lo := -1) (hi := 3) (kT_2 (t := t) rfl ht) (by decide)
    have hc := hC _ ha hb.2
    rw [e2, e3, (kn_cd hc).rf hw, hT.kq hw (kD_1 hc) (by decide) (by decide) (by decide)]
    refine ⟨⟨⟨H, s1.rf hT hw ht⟩, ?_⟩, q3⟩
    rw [e11]
    intro g
    obtain ⟨z1, z2⟩ := s2 g
    have hr := e_Has.get hT (kD_1 hc) (by decide)
    rw [(show kn1 (w (6 * t + 154) 12) from by unfold kn1; omega).rf hw, z2.rf hw]
    exact ⟨z1, z2⟩
theorem kI.rf (hw : e_rf w w') (q : kI w OP OD CL h t0) : kI w' OP OD CL h t0 := by
  have hC := q.cd
  obtain ⟨q1, q2, q3, q4, q5, q6, q7, q8, q9⟩ := q
  refine ⟨q1.krf hw, fun a g1 g2 => (q2 a g1 g2).rf q1 hw ⟨g1, g2⟩, q3.rf q1 hw, q4.rf q1 hw, q5.rf q1 hw, fun g a g1 g2 g3 => ?_, q7.rf q1 hw, q8.rf hw, fun t g1 g2 => (q9 t g1 g2).rf q1 hw hC ⟨g1, g2⟩⟩
  rw [q1.kq hw (c := 74) (k := 3) (lo := 0) (hi := 1) rfl (by decide) (by decide) (by decide)] at g
  rw [q1.kq hw (c := 0) (k := 11) (lo := 0) (hi := 4) rfl (by decide) (by decide) (by decide)] at g3
  rw [kq_A (k := 11) q1 hw ⟨g1, g2⟩ (by omega)]
  exact q6 g a g1 g2 g3
end Kx
end
