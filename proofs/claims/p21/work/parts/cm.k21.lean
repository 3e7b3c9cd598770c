noncomputable section
/-! the class: excuse, halt, steps of ways -/
section Km
variable {w w' : eW} {OP OD CL : Int → Int → Int} {h t0 : Int}
/-- a task is excused -/
theorem kI.exc {t : Int} (q : kI w OP OD CL h t0) (hT : e_Has kTy w') (ht : 0 ≤ t ∧ t ≤ 15) (hw : e_up w (6 * t + 154) 1 6 = w') : kI w' OP OD CL h t0 := by
  have e1 : w' (6 * t + 154) 1 = 6 := by rw [← hw]; exact e_up_eq _ _ _ _
  refine kI.tk q hT ht (fun c k g => by rw [← hw]; exact e_up_ne _ _ (by by_cases g2 : c = 6 * t + 154; exact Or.inr (fun g3 => g (Or.inr (by omega))); exact Or.inl g2)) (fun s _ g => g) ⟨⟨fun _ g => by omega, fun g => by omega, fun g => by omega⟩, fun _ g => by omega⟩
end Km
theorem c_38 {d : Nat} {w : eW} (hT : e_Has kTy w) {a : Int} (ga : 0 ≤ a ∧ a ≤ 3) {OP OD CL : Int → Int → Int} {h t0 : Int} (q : kI w OP OD CL h t0) : e_Ok 20 elay kcode eI d 38 (0, [(0, (1, 8)), (1, (0, a))], [], w) (fun r w' => ∃ z : Int, r = [(0, z)] ∧ e_Has kTy w' ∧ (e_fr kNq w w' ∧ w' 74 0 = w 74 0 ∧ w' 74 1 = w 74 1) ∧ kI w' OP OD CL h t0) := by
  refine e_Ok.run (t' := (1, [(0, (1, 8)), (1, (0, a))], [(1, 8)], w)) 1 rfl ?_
  refine e_Ok.getr (z := 9) rfl (el_o rfl) rfl rfl (Eq.trans (e_Has.eq hT rfl) (by omega)) (by omega) ?_
  refine e_Ok.run (t' := (5, [(0, (1, 8)), (1, (0, a))], [(0, a), (1, 9)], w)) 1 rfl ?_
  refine e_Ok.aald (z := 17 * a + 86) rfl (el_o rfl) rfl (by omega) (Eq.trans (e_Has.eq hT (k9 (by omega))) (by omega)) (by omega) ?_
  have h1 := (e_Has.get hT (c := 17 * a + 86) (k := 16) (lo := (-1)) (hi := 15) (kA_16 (a := a) (by omega) (by omega)) (by decide))
  refine e_Ok.getf (z := w (17 * a + 86) 16) rfl (lA0 (a := a) (by omega) (by omega)) rfl rfl rfl (by omega) ?_
  refine e_Ok.run (t' := (11, [(2, (0, w (17 * a + 86) 16)), (0, (1, 8)), (1, (0, a))], [(0, w (17 * a + 86) 16)], w)) 2 rfl ?_
  refine e_Ok.if1 rfl (fun h2 => ?_) (fun h2 => ?_)
  · replace h2 : (w (17 * a + 86) 16 : Int) ≥ 0 := h2
    refine e_Ok.run (t' := (18, [(2, (0, w (17 * a + 86) 16)), (0, (1, 8)), (1, (0, a))], [(1, 8)], w)) 1 rfl ?_
    refine e_Ok.getr (z := 82) rfl (el_o rfl) rfl rfl (Eq.trans (e_Has.eq hT rfl) (by omega)) (by omega) ?_
    refine e_Ok.run (t' := (22, [(2, (0, w (17 * a + 86) 16)), (0, (1, 8)), (1, (0, a))], [(0, w (17 * a + 86) 16), (1, 82)], w)) 1 rfl ?_
    refine e_Ok.aald (z := 6 * w (17 * a + 86) 16 + 154) rfl (el_o rfl) rfl (by omega) (Eq.trans (e_Has.eq hT (k82 (by omega))) (by omega)) (by omega) ?_
    refine e_Ok.run (t' := (25, [(2, (0, w (17 * a + 86) 16)), (0, (1, 8)), (1, (0, a))], [(0, 6), (1, 6 * w (17 * a + 86) 16 + 154)], w)) 1 rfl ?_
    refine e_Ok.putf rfl (lT0 (t := (w (17 * a + 86) 16)) (by omega) (by omega)) rfl rfl ?_
    generalize hw3 : e_up w (6 * w (17 * a + 86) 16 + 154) 1 6 = w3
    have f4 : e_fr kNq w w3 := e_fr.up (e_fr.refl w) hw3 (by unfold kNq; omega)
    have hT5 : e_Has kTy w3 := e_Has.upr hT hw3 (kT_1 (t := (w (17 * a + 86) 16)) (by omega) (by omega)) (by omega)
    refine e_Ok.run (t' := (29, [(2, (0, w (17 * a + 86) 16)), (0, (1, 8)), (1, (0, a))], [(1, 8)], w3)) 1 rfl ?_
    refine e_Ok.getr (z := 9) rfl (el_o rfl) rfl rfl (by rw [← hw3]; exact (e_up_ne _ _ (Or.inr (by omega))).trans (Eq.trans (e_Has.eq hT rfl) (by omega))) (by omega) ?_
    refine e_Ok.run (t' := (33, [(2, (0, w (17 * a + 86) 16)), (0, (1, 8)), (1, (0, a))], [(0, a), (1, 9)], w3)) 1 rfl ?_
    refine e_Ok.aald (z := 17 * a + 86) rfl (el_o rfl) rfl (by omega) (by rw [← hw3]; exact (e_up_ne _ _ (Or.inl (by omega))).trans (Eq.trans (e_Has.eq hT (k9 (by omega))) (by omega))) (by omega) ?_
    refine e_Ok.run (t' := (35, [(2, (0, w (17 * a + 86) 16)), (0, (1, 8)), (1, (0, a))], [(0, (-1)), (1, 17 * a + 86)], w3)) 1 rfl ?_
    refine e_Ok.putf rfl (lA0 (a := a) (by omega) (by omega)) rfl rfl ?_
    generalize hw6 : e_up w3 (17 * a + 86) 16 (-1) = w6
    have f7 : e_fr kNq w w6 := e_fr.up f4 hw6 (by unfold kNq; omega)
    have hT8 : e_Has kTy w6 := e_Has.upr hT5 hw6 (kA_16 (a := a) (by omega) (by omega)) (by omega)
    refine e_Ok.run (t' := (39, [(2, (0, w (17 * a + 86) 16)), (0, (1, 8)), (1, (0, a))], [(0, w (17 * a + 86) 16)], w6)) 1 rfl ?_
    refine e_Ok.rets rfl rfl ?_
    have Q1 := kI.exc q hT5 (by omega) hw3
    have Q2 := kI.hu Q1 hT8 hw6 (hm_a (by omega) (by omega))
    exact ⟨_, rfl, hT8, ⟨f7, (by rw [← hw6]; exact (e_up_ne _ _ (Or.inr (by omega))).trans (by rw [← hw3]; exact (e_up_ne _ _ (Or.inr (by omega))).trans rfl)), (by rw [← hw6]; exact (e_up_ne _ _ (Or.inr (by omega))).trans (by rw [← hw3]; exact (e_up_ne _ _ (Or.inl (by omega))).trans rfl))⟩, Q2⟩
  · replace h2 : (w (17 * a + 86) 16 : Int) < 0 := by have q : ¬ ((w (17 * a + 86) 16 : Int) ≥ 0) := h2; omega
    refine e_Ok.run (t' := (16, [(2, (0, w (17 * a + 86) 16)), (0, (1, 8)), (1, (0, a))], [(0, (-2))], w)) 1 rfl ?_
    refine e_Ok.rets rfl rfl ?_
    exact ⟨_, rfl, hT, ⟨e_fr.refl w, rfl, rfl⟩, q⟩
theorem c_257 {d : Nat} (hd : 24 ≤ d) {w : eW} (hT : e_Has kTy w) {a : Int} (ga : -1 ≤ a ∧ a ≤ 3) {OP OD CL : Int → Int → Int} {h t0 : Int} (q : kI w OP OD CL h t0) (he : w 74 1 ≤ 2147000000) : e_Ok 20 elay kcode eI d 257 (0, [(0, (1, 0)), (1, (0, a))], [], w) (fun r w' => ∃ z : Int, r = [(0, z)] ∧ e_Has kTy w' ∧ (e_fr kNq w w' ∧ w' 74 0 = w 74 0) ∧ kI w' OP OD CL h t0 ∧ w 74 1 ≤ w' 74 1 ∧ w' 74 1 ≤ w 74 1 + 5) := by
  obtain ⟨d, rfl⟩ : ∃ e, d = e + 1 := ⟨d - 1, by omega⟩
  have h74 := e_Has.get hT (c := 74) (k := 1) (lo := 0) (hi := 2147483647) rfl (by decide)
  refine e_Ok.run (t' := (1, [(0, (1, 0)), (1, (0, a))], [(0, a)], w)) 1 rfl ?_
  refine e_Ok.if1 rfl (fun h1 => ?_) (fun h1 => ?_)
  · replace h1 : (a : Int) ≥ 0 := h1
    refine e_Ok.run (t' := (13, [(0, (1, 0)), (1, (0, a))], [(1, 0)], w)) 1 rfl ?_
    refine e_Ok.getr (z := 9) rfl (el_o rfl) rfl rfl (Eq.trans (e_Has.eq hT rfl) (by omega)) (by omega) ?_
    refine e_Ok.run (t' := (17, [(0, (1, 0)), (1, (0, a))], [(0, a), (1, 9)], w)) 1 rfl ?_
    refine e_Ok.aald (z := 17 * a + 86) rfl (el_o rfl) rfl (by omega) (Eq.trans (e_Has.eq hT (k9 (by omega))) (by omega)) (by omega) ?_
    have h2 := (e_Has.get hT (c := 17 * a + 86) (k := 11) (lo := 0) (hi := 2) (kA_11 (a := a) (by omega) (by omega)) (by decide))
    refine e_Ok.getf (z := w (17 * a + 86) 11) rfl (lA0 (a := a) (by omega) (by omega)) rfl rfl rfl (by omega) ?_
    refine e_Ok.run (t' := (23, [(2, (0, w (17 * a + 86) 11)), (0, (1, 0)), (1, (0, a))], [(1, 0)], w)) 2 rfl ?_
    refine e_Ok.getr (z := 8) rfl (el_o rfl) rfl rfl (Eq.trans (e_Has.eq hT rfl) (by omega)) (by omega) ?_
    refine e_Ok.run (t' := (27, [(2, (0, w (17 * a + 86) 11)), (0, (1, 0)), (1, (0, a))], [(0, a), (1, 8)], w)) 1 rfl ?_
    refine e_Ok.callV rfl (by omega) rfl rfl rfl rfl (c_40 (by omega) hT (by omega) q (by omega)) (fun r3 w4 h5 => ?_)
    obtain ⟨rfl, q6f, q6T, q6x⟩ := h5
    have f7 : e_fr kNq w w4 := e_fr.trans (e_fr.refl w) (e_fr.mono q6f (fun c k q => by exact nq_kBa (by omega) q))
    show e_Ok 20 elay kcode eI (d + 1) 257 (30, [(2, (0, w (17 * a + 86) 11)), (0, (1, 0)), (1, (0, a))], [], w4) _
    refine e_Ok.run (t' := (31, [(2, (0, w (17 * a + 86) 11)), (0, (1, 0)), (1, (0, a))], [(0, w (17 * a + 86) 11)], w4)) 1 rfl ?_
    refine e_Ok.rets rfl rfl ?_
    exact ⟨_, rfl, q6T, ⟨f7, q6f _ _ (by unfold kBa; omega)⟩, q6x.1, by have g := q6x.2; omega, by have g := q6x.2; omega⟩
  · replace h1 : (a : Int) < 0 := by have q : ¬ ((a : Int) ≥ 0) := h1; omega
    refine e_Ok.run (t' := (7, [(0, (1, 0)), (1, (0, a))], [(0, 0), (0, 4), (1, 0)], w)) 3 rfl ?_
    refine e_Ok.callV rfl (by omega) rfl rfl rfl rfl (c_265 (by omega) hT (by omega) (by omega) q (by omega)) (fun r8 w9 h10 => ?_)
    obtain ⟨rfl, q11T, q11f, q11x⟩ := h10
    have f12 : e_fr kNq w w9 := e_fr.trans (e_fr.refl w) (e_fr.mono q11f.1 (fun c k q => by exact q))
    show e_Ok 20 elay kcode eI (d + 1) 257 (10, [(0, (1, 0)), (1, (0, a))], [], w9) _
    refine e_Ok.run (t' := (11, [(0, (1, 0)), (1, (0, a))], [(0, 0)], w9)) 1 rfl ?_
    refine e_Ok.rets rfl rfl ?_
    exact ⟨_, rfl, q11T, q11f, q11x.1, by have g := q11x.2.2; omega, by have g := q11x.2.2; omega⟩
theorem c_95 {d : Nat} (hd : 21 ≤ d) {w : eW} (hT : e_Has kTy w) {y : Int} (g_y : (-1) ≤ y ∧ y ≤ 59) {m : Int} (hy : 0 ≤ y → yD w m y) : e_Ok 20 elay kcode eI d 95 (0, [(0, (1, 262)), (1, (0, y))], [], w) (fun r w' => ∃ z : Int, r = [(0, z)] ∧ w = w' ∧ (0 ≤ z ∧ z ≤ 1000) ∧ ((0 ≤ y → z = w 270 y) ∧ (y < 0 → z = 0))) := by
  obtain ⟨d, rfl⟩ : ∃ e, d = e + 1 := ⟨d - 1, by omega⟩
  have hy1 : 0 ≤ y → 0 ≤ w 270 y ∧ w 270 y ≤ 1000 := fun g => (hy g).1
  refine e_Ok.run (t' := (4, [(0, (1, 262)), (1, (0, y))], [(0, 59), (0, 0), (0, y)], w)) 3 rfl ?_
  refine e_Ok.callS rfl (by omega) rfl rfl (c_242 (by omega) (by omega) (by omega)) (fun r1 w2 h3 => ?_)
  obtain ⟨z4, rfl, rfl, q5⟩ := h3
  obtain ⟨rfl, q5⟩ | ⟨rfl, q5⟩ := q5
  · show e_Ok 20 elay kcode eI (d + 1) 95 (7, [(0, (1, 262)), (1, (0, y))], [(0, 1)], w) _
    refine e_Ok.if1 rfl (fun h6 => ?_) (fun h6 => ?_)
    · replace h6 : (1 : Int) = 0 := h6
      exfalso; omega
    · replace h6 : (1 : Int) ≠ 0 := by have q : ¬ ((1 : Int) = 0) := h6; omega
      refine e_Ok.run (t' := (11, [(0, (1, 262)), (1, (0, y))], [(1, 262)], w)) 1 rfl ?_
      refine e_Ok.getr (z := 270) rfl (el_o rfl) rfl rfl (Eq.trans (e_Has.eq hT rfl) (by omega)) (by omega) ?_
      refine e_Ok.run (t' := (15, [(0, (1, 262)), (1, (0, y))], [(0, y), (1, 270)], w)) 1 rfl ?_
      refine e_Ok.ald (z := w 270 y) rfl (el_o rfl) rfl (by omega) rfl (by omega) ?_
      refine e_Ok.run (t' := (20, [(0, (1, 262)), (1, (0, y))], [(0, w 270 y)], w)) 1 rfl ?_
      refine e_Ok.rets rfl rfl ?_
      exact ⟨_, rfl, rfl, ⟨by omega, by omega⟩, by omega⟩
  · show e_Ok 20 elay kcode eI (d + 1) 95 (7, [(0, (1, 262)), (1, (0, y))], [(0, 0)], w) _
    refine e_Ok.if1 rfl (fun h7 => ?_) (fun h7 => ?_)
    · replace h7 : (0 : Int) = 0 := h7
      refine e_Ok.run (t' := (20, [(0, (1, 262)), (1, (0, y))], [(0, 0)], w)) 1 rfl ?_
      refine e_Ok.rets rfl rfl ?_
      exact ⟨_, rfl, rfl, ⟨by omega, by omega⟩, by omega⟩
    · replace h7 : (0 : Int) ≠ 0 := by have q : ¬ ((0 : Int) = 0) := h7; omega
      exfalso; omega
theorem c_96 {d : Nat} (hd : 22 ≤ d) {w : eW} (hT : e_Has kTy w) {y j : Int} (g_y : (-1) ≤ y ∧ y ≤ 59) (g_j : (-1) ≤ j ∧ j ≤ 100000) {m : Int} (hy : 0 ≤ y → yD w m y) (hm : m ≤ 6) : e_Ok 20 elay kcode eI d 96 (0, [(0, (1, 262)), (1, (0, y)), (2, (0, j))], [], w) (fun r w' => ∃ z : Int, r = [(0, z)] ∧ w = w' ∧ ((-1) ≤ z ∧ z ≤ 11) ∧ ((0 ≤ y → 0 ≤ j → j < w 270 y → z = w 269 (1000 * y + j) ∧ 0 ≤ z ∧ z < 2 * m) ∧ ((y < 0 ∨ j < 0 ∨ w 270 y ≤ j) → z = -1))) := by
  obtain ⟨d, rfl⟩ : ∃ e, d = e + 1 := ⟨d - 1, by omega⟩
  refine e_Ok.run (t' := (4, [(0, (1, 262)), (1, (0, y)), (2, (0, j))], [(0, y), (1, 262), (0, 0), (0, j)], w)) 4 rfl ?_
  refine e_Ok.callV rfl (by omega) rfl rfl rfl rfl (c_95 (by omega) hT (by omega) hy) (fun r1 w2 h3 => ?_)
  obtain ⟨z5, rfl, rfl, q4r, q4x⟩ := h3
  show e_Ok 20 elay kcode eI (d + 1) 96 (7, [(0, (1, 262)), (1, (0, y)), (2, (0, j))], [(0, z5), (0, 0), (0, j)], w) _
  refine e_Ok.run (t' := (8, [(0, (1, 262)), (1, (0, y)), (2, (0, j))], [(0, 1), (0, z5), (0, 0), (0, j)], w)) 1 rfl ?_
  refine e_Ok.sub' (z := z5 - 1) rfl (by omega) (by omega) ?_
  refine e_Ok.callS rfl (by omega) rfl rfl (c_242 (by omega) (by omega) (by omega)) (fun r6 w7 h8 => ?_)
  obtain ⟨z9, rfl, rfl, q10⟩ := h8
  obtain ⟨rfl, q10⟩ | ⟨rfl, q10⟩ := q10
  · show e_Ok 20 elay kcode eI (d + 1) 96 (12, [(0, (1, 262)), (1, (0, y)), (2, (0, j))], [(0, 1)], w) _
    refine e_Ok.if1 rfl (fun h11 => ?_) (fun h11 => ?_)
    · replace h11 : (1 : Int) = 0 := h11
      exfalso; omega
    · replace h11 : (1 : Int) ≠ 0 := by have q : ¬ ((1 : Int) = 0) := h11; omega
      have hq := (hy (by omega)).2.2 j (by omega) (by omega)
      have hm2 := hm
      refine e_Ok.run (t' := (16, [(0, (1, 262)), (1, (0, y)), (2, (0, j))], [(1, 262)], w)) 1 rfl ?_
      refine e_Ok.getr (z := 269) rfl (el_o rfl) rfl rfl (Eq.trans (e_Has.eq hT rfl) (by omega)) (by omega) ?_
      refine e_Ok.run (t' := (23, [(0, (1, 262)), (1, (0, y)), (2, (0, j))], [(0, 1000), (0, y), (1, 269)], w)) 2 rfl ?_
      refine e_Ok.mul (z := 1000 * y) rfl (by omega) (by omega) ?_
      refine e_Ok.run (t' := (25, [(0, (1, 262)), (1, (0, y)), (2, (0, j))], [(0, j), (0, 1000 * y), (1, 269)], w)) 1 rfl ?_
      refine e_Ok.add (z := 1000 * y + j) rfl (by omega) (by omega) ?_
      refine e_Ok.ald (z := w 269 (1000 * y + j)) rfl (el_o rfl) rfl (by omega) rfl (by omega) ?_
      refine e_Ok.run (t' := (31, [(0, (1, 262)), (1, (0, y)), (2, (0, j))], [(0, w 269 (1000 * y + j))], w)) 1 rfl ?_
      refine e_Ok.rets rfl rfl ?_
      exact ⟨_, rfl, rfl, ⟨by omega, by omega⟩, by omega⟩
  · show e_Ok 20 elay kcode eI (d + 1) 96 (12, [(0, (1, 262)), (1, (0, y)), (2, (0, j))], [(0, 0)], w) _
    refine e_Ok.if1 rfl (fun h12 => ?_) (fun h12 => ?_)
    · replace h12 : (0 : Int) = 0 := h12
      refine e_Ok.run (t' := (31, [(0, (1, 262)), (1, (0, y)), (2, (0, j))], [(0, (-1))], w)) 1 rfl ?_
      refine e_Ok.rets rfl rfl ?_
      exact ⟨_, rfl, rfl, ⟨by omega, by omega⟩, by omega⟩
    · replace h12 : (0 : Int) ≠ 0 := by have q : ¬ ((0 : Int) = 0) := h12; omega
      exfalso; omega
end
