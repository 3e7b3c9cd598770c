noncomputable section
theorem mAc.rk1 {w : eW} (h : mAc w) : ∃ rk : Int → Int, (∀ p, 0 ≤ p → p ≤ 63 → (0 ≤ rk p ∧ rk p ≤ 63) ∧ (0 ≤ w 318 p → rk (w 318 p) < rk p)) ∧ rk (-1) = -1 := by
  obtain ⟨rk, h⟩ := h
  refine ⟨fun p => if p < 0 then -1 else rk p, fun p h0 h1 => ?_, rfl⟩
  have := h p h0 h1
  simp only [if_neg (show ¬ p < 0 by omega)]
  exact ⟨this.1, fun q => by rw [if_neg (by omega)]; exact this.2 q⟩
set_option maxHeartbeats 4000000 in
theorem c_295 {d : Nat} (hd : 22 ≤ d) {w : eW} (hT : e_Has mTy w) (hA : mAc w) {p1 p2 p3 : Int} (g1 : -2147483648 ≤ p1 ∧ p1 ≤ 2147483647) (g2 : -2147483648 ≤ p2 ∧ p2 ≤ 2147483647) (g3 : 0 ≤ p3 ∧ p3 ≤ 1) : e_Ok 20 elay ecode eI d 295 (0, [(0, (1, 275)), (1, (0, p1)), (2, (0, p2)), (3, (0, p3))], [], w) (fun r w' => ∃ z : Int, r = [(0, z)] ∧ e_Has mTy w' ∧ (w = w' ∨ (w 275 3 = 0 ∧ e_fr (mF (-1) 318 319) w w')) ∧ mAc w') := by
  obtain ⟨d, rfl⟩ : ∃ e, d = e + 1 := ⟨d - 1, by omega⟩
  obtain ⟨rk, hrk, hrm⟩ := mAc.rk1 hA
  refine e_Ok.run (t' := (6, [(0, (1, 275)), (1, (0, p1)), (2, (0, p2)), (3, (0, p3))], [(4, 63), (4, 0), (4, p1)], w)) 4 rfl ?_
  refine e_Ok.callS rfl (by omega) rfl rfl (c_266) (fun r1 w2 h3 => ?_)
  obtain ⟨z4, rfl, rfl, q5⟩ := h3
  obtain ⟨rfl, q5⟩ | ⟨rfl, q5⟩ := q5
  · show e_Ok 20 elay ecode eI (d + 1) 295 (9, [(0, (1, 275)), (1, (0, p1)), (2, (0, p2)), (3, (0, p3))], [(0, 1)], w) _
    refine e_Ok.if1 rfl (fun h6 => ?_) (fun h6 => ?_)
    · replace h6 : (1 : Int) = 0 := h6
      exfalso; omega
    · replace h6 : (1 : Int) ≠ 0 := by have q : ¬ ((1 : Int) = 0) := h6; omega
      refine e_Ok.run (t' := (18, [(0, (1, 275)), (1, (0, p1)), (2, (0, p2)), (3, (0, p3))], [(4, 63), (4, 0), (4, p2)], w)) 4 rfl ?_
      refine e_Ok.callS rfl (by omega) rfl rfl (c_266) (fun r7 w8 h9 => ?_)
      obtain ⟨z10, rfl, rfl, q11⟩ := h9
      obtain ⟨rfl, q11⟩ | ⟨rfl, q11⟩ := q11
      · show e_Ok 20 elay ecode eI (d + 1) 295 (21, [(0, (1, 275)), (1, (0, p1)), (2, (0, p2)), (3, (0, p3))], [(0, 1)], w) _
        refine e_Ok.if1 rfl (fun h12 => ?_) (fun h12 => ?_)
        · replace h12 : (1 : Int) ≠ 0 := h12
          refine e_Ok.run (t' := (32, [(5, (0, p1)), (4, (0, 0)), (0, (1, 275)), (1, (0, p1)), (2, (0, p2)), (3, (0, p3))], [], w)) 4 rfl ?_
          have hL13 : ∀ (nn : Nat) (y5 : Int), (-1 ≤ y5 ∧ y5 ≤ 63 ∧ -1 ≤ rk y5) ∧ ((∃ n, wHit w p2 n p1) → ∃ n, wHit w p2 n y5) → rk y5 + 1 < nn → e_Ok 20 elay ecode eI (d + 1) 295 (32, [(0, (1, 275)), (1, (0, p1)), (2, (0, p2)), (3, (0, p3)), (4, (0, 0)), (5, (0, y5))], [], w) (fun r w' => ∃ z : Int, r = [(0, z)] ∧ e_Has mTy w' ∧ (w = w' ∨ (w 275 3 = 0 ∧ e_fr (mF (-1) 318 319) w w')) ∧ mAc w') := by
            intro nn
            induction nn with
            | zero => intro y5 hj hm; obtain ⟨j15, j16⟩ := hj; exfalso; omega
            | succ nn ih14 =>
              intro y5 hj hm
              obtain ⟨j15, j16⟩ := hj
              refine e_Ok.run (t' := (34, [(0, (1, 275)), (1, (0, p1)), (2, (0, p2)), (3, (0, p3)), (4, (0, 0)), (5, (0, y5))], [(0, y5)], w)) 1 rfl ?_
              refine e_Ok.if1 rfl (fun h17 => ?_) (fun h17 => ?_)
              · replace h17 : (y5 : Int) < 0 := h17
                refine e_Ok.run (t' := (68, [(0, (1, 275)), (1, (0, p1)), (2, (0, p2)), (3, (0, p3)), (4, (0, 0)), (5, (0, y5))], [(1, 275)], w)) 1 rfl ?_
                have h18 := (e_Has.get hT (c := 275) (k := 3) (lo := 0) (hi := 1) rfl (by decide))
                refine e_Ok.getf (z := w 275 3) rfl (el_o rfl) rfl rfl rfl (by omega) ?_
                refine e_Ok.if1 rfl (fun h19 => ?_) (fun h19 => ?_)
                · replace h19 : (w 275 3 : Int) ≠ 0 := h19
                  refine e_Ok.run (t' := (90, [(0, (1, 275)), (1, (0, p1)), (2, (0, p2)), (3, (0, p3)), (4, (0, 0)), (5, (0, y5))], [(0, (-2))], w)) 1 rfl ?_
                  refine e_Ok.rets rfl rfl ?_
                  exact ⟨_, rfl, hT, Or.inl rfl, hA⟩
                · replace h19 : (w 275 3 : Int) = 0 := by have q : ¬ ((w 275 3 : Int) ≠ 0) := h19; omega
                  refine e_Ok.run (t' := (75, [(0, (1, 275)), (1, (0, p1)), (2, (0, p2)), (3, (0, p3)), (4, (0, 0)), (5, (0, y5))], [(1, 275)], w)) 1 rfl ?_
                  refine e_Ok.getr (z := 318) rfl (el_o rfl) rfl rfl (e_Has.eq hT rfl) (by omega) ?_
                  refine e_Ok.run (t' := (79, [(0, (1, 275)), (1, (0, p1)), (2, (0, p2)), (3, (0, p3)), (4, (0, 0)), (5, (0, y5))], [(0, p2), (1, 318)], w)) 1 rfl ?_
                  have h20 := (e_Has.get hT (c := 318) (k := p2) (lo := (-1)) (hi := 63) rfl (by decide))
                  refine e_Ok.ald (z := w 318 p2) rfl (el_o rfl) rfl (by omega) rfl (by omega) ?_
                  refine e_Ok.if1 rfl (fun h21 => ?_) (fun h21 => ?_)
                  · replace h21 : (w 318 p2 : Int) ≥ 0 := h21
                    refine e_Ok.run (t' := (90, [(0, (1, 275)), (1, (0, p1)), (2, (0, p2)), (3, (0, p3)), (4, (0, 0)), (5, (0, y5))], [(0, (-2))], w)) 1 rfl ?_
                    refine e_Ok.rets rfl rfl ?_
                    exact ⟨_, rfl, hT, Or.inl rfl, hA⟩
                  · replace h21 : (w 318 p2 : Int) < 0 := by have q : ¬ ((w 318 p2 : Int) ≥ 0) := h21; omega
                    refine e_Ok.run (t' := (85, [(0, (1, 275)), (1, (0, p1)), (2, (0, p2)), (3, (0, p3)), (4, (0, 0)), (5, (0, y5))], [(0, 0)], w)) 1 rfl ?_
                    refine e_Ok.if1 rfl (fun h22 => ?_) (fun h22 => ?_)
                    · replace h22 : (0 : Int) = 0 := h22
                      refine e_Ok.run (t' := (92, [(0, (1, 275)), (1, (0, p1)), (2, (0, p2)), (3, (0, p3)), (4, (0, 0)), (5, (0, y5))], [(1, 275)], w)) 1 rfl ?_
                      refine e_Ok.getr (z := 318) rfl (el_o rfl) rfl rfl (e_Has.eq hT rfl) (by omega) ?_
                      refine e_Ok.run (t' := (97, [(0, (1, 275)), (1, (0, p1)), (2, (0, p2)), (3, (0, p3)), (4, (0, 0)), (5, (0, y5))], [(0, p1), (0, p2), (1, 318)], w)) 2 rfl ?_
                      refine e_Ok.ast rfl (el_o rfl) rfl rfl (by omega) ?_
                      generalize hw23 : e_up w 318 p2 p1 = w23
                      have f24 : e_fr (mF (-1) 318 319) w w23 := e_fr.up (e_fr.refl w) hw23 (by unfold mF; omega)
                      have hT25 : e_Has mTy w23 := e_Has.upr hT hw23 rfl (by omega)
                      refine e_Ok.run (t' := (99, [(0, (1, 275)), (1, (0, p1)), (2, (0, p2)), (3, (0, p3)), (4, (0, 0)), (5, (0, y5))], [(1, 275)], w23)) 1 rfl ?_
                      refine e_Ok.getr (z := 319) rfl (el_o rfl) rfl rfl (by rw [← hw23]; exact (e_up_ne _ _ (Or.inl (by omega))).trans (e_Has.eq hT rfl)) (by omega) ?_
                      refine e_Ok.run (t' := (104, [(0, (1, 275)), (1, (0, p1)), (2, (0, p2)), (3, (0, p3)), (4, (0, 0)), (5, (0, y5))], [(0, p3), (0, p2), (1, 319)], w23)) 2 rfl ?_
                      refine e_Ok.ast rfl (el_o rfl) rfl (e_nar_b (by omega)) (by omega) ?_
                      generalize hw26 : e_up w23 319 p2 p3 = w26
                      have f27 : e_fr (mF (-1) 318 319) w w26 := e_fr.up f24 hw26 (by unfold mF; omega)
                      have hT28 : e_Has mTy w26 := e_Has.upr hT25 hw26 rfl (by omega)
                      refine e_Ok.run (t' := (106, [(0, (1, 275)), (1, (0, p1)), (2, (0, p2)), (3, (0, p3)), (4, (0, 0)), (5, (0, y5))], [(0, 0)], w26)) 1 rfl ?_
                      refine e_Ok.rets rfl rfl ?_
                      have hnh : ¬ ∃ n, wHit w p2 n p1 := fun hh => by
                        obtain ⟨n, hn⟩ := j16 hh
                        cases n with
                        | zero => have hn0 : y5 = p2 := hn; omega
                        | succ n => have := hn.1; omega
                      have hx : ∀ p, w26 318 p = if p = p2 then p1 else w 318 p := fun p => by rw [← hw26, e_up_ne _ _ (Or.inl (by decide)), ← hw23]; unfold e_up; by_cases e : p = p2 <;> simp [e]
                      exact ⟨_, rfl, hT28, Or.inr ⟨by omega, f27⟩, mAc.wire hA (fun p g1 g2 => e_Has.get hT (c := 318) (k := p) (lo := -1) (hi := 63) rfl (by decide)) (by omega) (by omega) hnh hx⟩
                    · replace h22 : (0 : Int) ≠ 0 := by have q : ¬ ((0 : Int) = 0) := h22; omega
                      exfalso; omega
              · replace h17 : (y5 : Int) ≥ 0 := by have q : ¬ ((y5 : Int) < 0) := h17; omega
                refine e_Ok.run (t' := (39, [(0, (1, 275)), (1, (0, p1)), (2, (0, p2)), (3, (0, p3)), (4, (0, 0)), (5, (0, y5))], [(0, 0)], w)) 1 rfl ?_
                refine e_Ok.if1 rfl (fun h29 => ?_) (fun h29 => ?_)
                · replace h29 : (0 : Int) ≠ 0 := h29
                  exfalso; omega
                · replace h29 : (0 : Int) = 0 := by have q : ¬ ((0 : Int) ≠ 0) := h29; omega
                  refine e_Ok.run (t' := (45, [(0, (1, 275)), (1, (0, p1)), (2, (0, p2)), (3, (0, p3)), (4, (0, 0)), (5, (0, y5))], [(0, p2), (0, y5)], w)) 2 rfl ?_
                  refine e_Ok.if2 rfl (fun h30 => ?_) (fun h30 => ?_)
                  · replace h30 : (y5 : Int) ≠ p2 := h30
                    refine e_Ok.run (t' := (56, [(4, (0, 0)), (0, (1, 275)), (1, (0, p1)), (2, (0, p2)), (3, (0, p3)), (5, (0, y5))], [(1, 275)], w)) 3 rfl ?_
                    refine e_Ok.getr (z := 318) rfl (el_o rfl) rfl rfl (e_Has.eq hT rfl) (by omega) ?_
                    refine e_Ok.run (t' := (61, [(4, (0, 0)), (0, (1, 275)), (1, (0, p1)), (2, (0, p2)), (3, (0, p3)), (5, (0, y5))], [(0, y5), (1, 318)], w)) 1 rfl ?_
                    have h31 := (e_Has.get hT (c := 318) (k := y5) (lo := (-1)) (hi := 63) rfl (by decide))
                    refine e_Ok.ald (z := w 318 y5) rfl (el_o rfl) rfl (by omega) rfl (by omega) ?_
                    refine e_Ok.run (t' := (64, [(5, (0, w 318 y5)), (4, (0, 0)), (0, (1, 275)), (1, (0, p1)), (2, (0, p2)), (3, (0, p3))], [], w)) 1 rfl ?_
                    have hg5 := hrk y5 (by omega) (by omega)
                    have hmu : rk (w 318 y5) + 1 < rk y5 + 1 ∧ -1 ≤ rk (w 318 y5) := by
                      by_cases e : 0 ≤ w 318 y5
                      · have q1 := hg5.2 e; have q2 := hrk (w 318 y5) e (by omega); omega
                      · rw [show w 318 y5 = -1 by omega, hrm]; omega
                    refine e_Ok.run (t' := (32, [(5, (0, w 318 y5)), (4, (0, 0)), (0, (1, 275)), (1, (0, p1)), (2, (0, p2)), (3, (0, p3))], [], w)) 1 rfl ?_
                    refine e_Ok.sub eAlk (e_sub_of rfl ?_) (ih14 (w 318 y5) ⟨by omega, (fun hh => by obtain ⟨n, hn⟩ := j16 hh; cases n with | zero => exact absurd (show y5 = p2 from hn) (by omega) | succ n => exact ⟨n, hn.2⟩)⟩ (by omega))
                    exact ⟨rfl, rfl, rfl, rfl, rfl, rfl, trivial⟩
                  · replace h30 : (y5 : Int) = p2 := by have q : ¬ ((y5 : Int) ≠ p2) := h30; omega
                    refine e_Ok.run (t' := (56, [(4, (0, 1)), (0, (1, 275)), (1, (0, p1)), (2, (0, p2)), (3, (0, p3)), (5, (0, y5))], [(1, 275)], w)) 4 rfl ?_
                    refine e_Ok.getr (z := 318) rfl (el_o rfl) rfl rfl (e_Has.eq hT rfl) (by omega) ?_
                    refine e_Ok.run (t' := (61, [(4, (0, 1)), (0, (1, 275)), (1, (0, p1)), (2, (0, p2)), (3, (0, p3)), (5, (0, y5))], [(0, y5), (1, 318)], w)) 1 rfl ?_
                    have h32 := (e_Has.get hT (c := 318) (k := y5) (lo := (-1)) (hi := 63) rfl (by decide))
                    refine e_Ok.ald (z := w 318 y5) rfl (el_o rfl) rfl (by omega) rfl (by omega) ?_
                    refine e_Ok.run (t' := (64, [(5, (0, w 318 y5)), (4, (0, 1)), (0, (1, 275)), (1, (0, p1)), (2, (0, p2)), (3, (0, p3))], [], w)) 1 rfl ?_
                    have hg5 := hrk y5 (by omega) (by omega)
                    have hmu : rk (w 318 y5) + 1 < rk y5 + 1 ∧ -1 ≤ rk (w 318 y5) := by
                      by_cases e : 0 ≤ w 318 y5
                      · have q1 := hg5.2 e; have q2 := hrk (w 318 y5) e (by omega); omega
                      · rw [show w 318 y5 = -1 by omega, hrm]; omega
                    refine e_Ok.run (t' := (32, [(5, (0, w 318 y5)), (4, (0, 1)), (0, (1, 275)), (1, (0, p1)), (2, (0, p2)), (3, (0, p3))], [], w)) 1 rfl ?_
                    refine e_Ok.run (t' := (34, [(5, (0, w 318 y5)), (4, (0, 1)), (0, (1, 275)), (1, (0, p1)), (2, (0, p2)), (3, (0, p3))], [(0, w 318 y5)], w)) 1 rfl ?_
                    refine e_Ok.if1 rfl (fun h33 => ?_) (fun h33 => ?_)
                    · replace h33 : (w 318 y5 : Int) < 0 := h33
                      refine e_Ok.run (t' := (68, [(5, (0, w 318 y5)), (4, (0, 1)), (0, (1, 275)), (1, (0, p1)), (2, (0, p2)), (3, (0, p3))], [(1, 275)], w)) 1 rfl ?_
                      have h34 := (e_Has.get hT (c := 275) (k := 3) (lo := 0) (hi := 1) rfl (by decide))
                      refine e_Ok.getf (z := w 275 3) rfl (el_o rfl) rfl rfl rfl (by omega) ?_
                      refine e_Ok.if1 rfl (fun h35 => ?_) (fun h35 => ?_)
                      · replace h35 : (w 275 3 : Int) ≠ 0 := h35
                        refine e_Ok.run (t' := (90, [(5, (0, w 318 y5)), (4, (0, 1)), (0, (1, 275)), (1, (0, p1)), (2, (0, p2)), (3, (0, p3))], [(0, (-2))], w)) 1 rfl ?_
                        refine e_Ok.rets rfl rfl ?_
                        exact ⟨_, rfl, hT, Or.inl rfl, hA⟩
                      · replace h35 : (w 275 3 : Int) = 0 := by have q : ¬ ((w 275 3 : Int) ≠ 0) := h35; omega
                        refine e_Ok.run (t' := (75, [(5, (0, w 318 y5)), (4, (0, 1)), (0, (1, 275)), (1, (0, p1)), (2, (0, p2)), (3, (0, p3))], [(1, 275)], w)) 1 rfl ?_
                        refine e_Ok.getr (z := 318) rfl (el_o rfl) rfl rfl (e_Has.eq hT rfl) (by omega) ?_
                        refine e_Ok.run (t' := (79, [(5, (0, w 318 y5)), (4, (0, 1)), (0, (1, 275)), (1, (0, p1)), (2, (0, p2)), (3, (0, p3))], [(0, p2), (1, 318)], w)) 1 rfl ?_
                        have h36 := (e_Has.get hT (c := 318) (k := p2) (lo := (-1)) (hi := 63) rfl (by decide))
                        refine e_Ok.ald (z := w 318 p2) rfl (el_o rfl) rfl (by omega) rfl (by omega) ?_
                        refine e_Ok.if1 rfl (fun h37 => ?_) (fun h37 => ?_)
                        · replace h37 : (w 318 p2 : Int) ≥ 0 := h37
                          refine e_Ok.run (t' := (90, [(5, (0, w 318 y5)), (4, (0, 1)), (0, (1, 275)), (1, (0, p1)), (2, (0, p2)), (3, (0, p3))], [(0, (-2))], w)) 1 rfl ?_
                          refine e_Ok.rets rfl rfl ?_
                          exact ⟨_, rfl, hT, Or.inl rfl, hA⟩
                        · replace h37 : (w 318 p2 : Int) < 0 := by have q : ¬ ((w 318 p2 : Int) ≥ 0) := h37; omega
                          refine e_Ok.run (t' := (85, [(5, (0, w 318 y5)), (4, (0, 1)), (0, (1, 275)), (1, (0, p1)), (2, (0, p2)), (3, (0, p3))], [(0, 1)], w)) 1 rfl ?_
                          refine e_Ok.if1 rfl (fun h38 => ?_) (fun h38 => ?_)
                          · replace h38 : (1 : Int) = 0 := h38
                            exfalso; omega
                          · replace h38 : (1 : Int) ≠ 0 := by have q : ¬ ((1 : Int) = 0) := h38; omega
                            refine e_Ok.run (t' := (90, [(5, (0, w 318 y5)), (4, (0, 1)), (0, (1, 275)), (1, (0, p1)), (2, (0, p2)), (3, (0, p3))], [(0, (-2))], w)) 1 rfl ?_
                            refine e_Ok.rets rfl rfl ?_
                            exact ⟨_, rfl, hT, Or.inl rfl, hA⟩
                    · replace h33 : (w 318 y5 : Int) ≥ 0 := by have q : ¬ ((w 318 y5 : Int) < 0) := h33; omega
                      refine e_Ok.run (t' := (39, [(5, (0, w 318 y5)), (4, (0, 1)), (0, (1, 275)), (1, (0, p1)), (2, (0, p2)), (3, (0, p3))], [(0, 1)], w)) 1 rfl ?_
                      refine e_Ok.if1 rfl (fun h39 => ?_) (fun h39 => ?_)
                      · replace h39 : (1 : Int) ≠ 0 := h39
                        refine e_Ok.run (t' := (68, [(5, (0, w 318 y5)), (4, (0, 1)), (0, (1, 275)), (1, (0, p1)), (2, (0, p2)), (3, (0, p3))], [(1, 275)], w)) 1 rfl ?_
                        have h40 := (e_Has.get hT (c := 275) (k := 3) (lo := 0) (hi := 1) rfl (by decide))
                        refine e_Ok.getf (z := w 275 3) rfl (el_o rfl) rfl rfl rfl (by omega) ?_
                        refine e_Ok.if1 rfl (fun h41 => ?_) (fun h41 => ?_)
                        · replace h41 : (w 275 3 : Int) ≠ 0 := h41
                          refine e_Ok.run (t' := (90, [(5, (0, w 318 y5)), (4, (0, 1)), (0, (1, 275)), (1, (0, p1)), (2, (0, p2)), (3, (0, p3))], [(0, (-2))], w)) 1 rfl ?_
                          refine e_Ok.rets rfl rfl ?_
                          exact ⟨_, rfl, hT, Or.inl rfl, hA⟩
                        · replace h41 : (w 275 3 : Int) = 0 := by have q : ¬ ((w 275 3 : Int) ≠ 0) := h41; omega
                          refine e_Ok.run (t' := (75, [(5, (0, w 318 y5)), (4, (0, 1)), (0, (1, 275)), (1, (0, p1)), (2, (0, p2)), (3, (0, p3))], [(1, 275)], w)) 1 rfl ?_
                          refine e_Ok.getr (z := 318) rfl (el_o rfl) rfl rfl (e_Has.eq hT rfl) (by omega) ?_
                          refine e_Ok.run (t' := (79, [(5, (0, w 318 y5)), (4, (0, 1)), (0, (1, 275)), (1, (0, p1)), (2, (0, p2)), (3, (0, p3))], [(0, p2), (1, 318)], w)) 1 rfl ?_
                          have h42 := (e_Has.get hT (c := 318) (k := p2) (lo := (-1)) (hi := 63) rfl (by decide))
                          refine e_Ok.ald (z := w 318 p2) rfl (el_o rfl) rfl (by omega) rfl (by omega) ?_
                          refine e_Ok.if1 rfl (fun h43 => ?_) (fun h43 => ?_)
                          · replace h43 : (w 318 p2 : Int) ≥ 0 := h43
                            refine e_Ok.run (t' := (90, [(5, (0, w 318 y5)), (4, (0, 1)), (0, (1, 275)), (1, (0, p1)), (2, (0, p2)), (3, (0, p3))], [(0, (-2))], w)) 1 rfl ?_
                            refine e_Ok.rets rfl rfl ?_
                            exact ⟨_, rfl, hT, Or.inl rfl, hA⟩
                          · replace h43 : (w 318 p2 : Int) < 0 := by have q : ¬ ((w 318 p2 : Int) ≥ 0) := h43; omega
                            refine e_Ok.run (t' := (85, [(5, (0, w 318 y5)), (4, (0, 1)), (0, (1, 275)), (1, (0, p1)), (2, (0, p2)), (3, (0, p3))], [(0, 1)], w)) 1 rfl ?_
                            refine e_Ok.if1 rfl (fun h44 => ?_) (fun h44 => ?_)
                            · replace h44 : (1 : Int) = 0 := h44
                              exfalso; omega
                            · replace h44 : (1 : Int) ≠ 0 := by have q : ¬ ((1 : Int) = 0) := h44; omega
                              refine e_Ok.run (t' := (90, [(5, (0, w 318 y5)), (4, (0, 1)), (0, (1, 275)), (1, (0, p1)), (2, (0, p2)), (3, (0, p3))], [(0, (-2))], w)) 1 rfl ?_
                              refine e_Ok.rets rfl rfl ?_
                              exact ⟨_, rfl, hT, Or.inl rfl, hA⟩
                      · replace h39 : (1 : Int) = 0 := by have q : ¬ ((1 : Int) ≠ 0) := h39; omega
                        exfalso; omega
          refine e_Ok.sub eAlk (e_sub_of rfl ?_) (hL13 (rk p1 + 1 + 1 : Int).toNat p1 ⟨by have := hrk p1 (by omega) (by omega); omega, (fun h => h)⟩ (by omega))
          exact ⟨rfl, rfl, rfl, rfl, rfl, rfl, trivial⟩
        · replace h12 : (1 : Int) = 0 := by have q : ¬ ((1 : Int) ≠ 0) := h12; omega
          exfalso; omega
      · show e_Ok 20 elay ecode eI (d + 1) 295 (21, [(0, (1, 275)), (1, (0, p1)), (2, (0, p2)), (3, (0, p3))], [(0, 0)], w) _
        refine e_Ok.if1 rfl (fun h45 => ?_) (fun h45 => ?_)
        · replace h45 : (0 : Int) ≠ 0 := h45
          exfalso; omega
        · replace h45 : (0 : Int) = 0 := by have q : ¬ ((0 : Int) ≠ 0) := h45; omega
          refine e_Ok.run (t' := (25, [(0, (1, 275)), (1, (0, p1)), (2, (0, p2)), (3, (0, p3))], [(0, (-1))], w)) 1 rfl ?_
          refine e_Ok.rets rfl rfl ?_
          exact ⟨_, rfl, hT, Or.inl rfl, hA⟩
  · show e_Ok 20 elay ecode eI (d + 1) 295 (9, [(0, (1, 275)), (1, (0, p1)), (2, (0, p2)), (3, (0, p3))], [(0, 0)], w) _
    refine e_Ok.if1 rfl (fun h46 => ?_) (fun h46 => ?_)
    · replace h46 : (0 : Int) = 0 := h46
      refine e_Ok.run (t' := (25, [(0, (1, 275)), (1, (0, p1)), (2, (0, p2)), (3, (0, p3))], [(0, (-1))], w)) 1 rfl ?_
      refine e_Ok.rets rfl rfl ?_
      exact ⟨_, rfl, hT, Or.inl rfl, hA⟩
    · replace h46 : (0 : Int) ≠ 0 := by have q : ¬ ((0 : Int) = 0) := h46; omega
      exfalso; omega
end
