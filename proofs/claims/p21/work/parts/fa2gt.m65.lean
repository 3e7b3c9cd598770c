noncomputable section
/-! the model: wire, exactly -/
set_option maxHeartbeats 4000000 in
theorem c_295_ex {d : Nat} (hd : 22 ≤ d) {w : eW} (hT : e_Has mTy w) (hA : mAc w) {p1 p2 p3 : Int} (g1 : -2147483648 ≤ p1 ∧ p1 ≤ 2147483647) (g2 : -2147483648 ≤ p2 ∧ p2 ≤ 2147483647) (g3 : 0 ≤ p3 ∧ p3 ≤ 1) : e_Ok 20 elay ecode eI d 295 (0, [(0, (1, 275)), (1, (0, p1)), (2, (0, p2)), (3, (0, p3))], [], w) (fun r w' => ∃ z : Int, r = [(0, z)] ∧ ((w = w' ∧ ((¬ ((0 ≤ p1 ∧ p1 ≤ 63) ∧ 0 ≤ p2 ∧ p2 ≤ 63) ∧ z = -1) ∨ (((0 ≤ p1 ∧ p1 ≤ 63) ∧ 0 ≤ p2 ∧ p2 ≤ 63) ∧ (w 275 3 ≠ 0 ∨ 0 ≤ w 318 p2 ∨ ∃ n, wHit w p2 n p1) ∧ z = -2))) ∨ ((((0 ≤ p1 ∧ p1 ≤ 63) ∧ 0 ≤ p2 ∧ p2 ≤ 63) ∧ ¬ (w 275 3 ≠ 0 ∨ 0 ≤ w 318 p2 ∨ ∃ n, wHit w p2 n p1)) ∧ z = 0 ∧ w' = e_up (e_up w 318 p2 p1) 319 p2 p3))) := by
  obtain ⟨d, rfl⟩ : ∃ e, d = e + 1 := ⟨d - 1, by omega⟩
  obtain ⟨rk, hrk, hrm⟩ := mAc.rk1 hA
  refine e_Ok.ps3 (x := (4, 63)) (y := (4, 0)) (z := (4, p1)) (q := 6) 4 rfl ?_
  refine e_Ok.callS rfl (e_dq hd rfl) rfl rfl (c_266) (fun r1 w2 h3 => ?_)
  obtain ⟨z4, rfl, rfl, q5⟩ := h3
  obtain ⟨rfl, q5⟩ | ⟨rfl, q5⟩ := q5
  · refine e_Ok.nrm (q := 9) (st' := [(0, 1)]) rfl rfl ?_
    refine e_Ok.if1 rfl (fun h6 => ?_) (fun h6 => ?_)
    · replace h6 : (1 : Int) = 0 := h6
      exfalso; omega
    · replace h6 : (1 : Int) ≠ 0 := (show ¬ ((1 : Int) = 0) from h6)
      refine e_Ok.ps3 (x := (4, 63)) (y := (4, 0)) (z := (4, p2)) (q := 18) 4 rfl ?_
      refine e_Ok.callS rfl (e_dq hd rfl) rfl rfl (c_266) (fun r7 w8 h9 => ?_)
      obtain ⟨z10, rfl, rfl, q11⟩ := h9
      obtain ⟨rfl, q11⟩ | ⟨rfl, q11⟩ := q11
      · refine e_Ok.nrm (q := 21) (st' := [(0, 1)]) rfl rfl ?_
        refine e_Ok.if1 rfl (fun h12 => ?_) (fun h12 => ?_)
        · replace h12 : (1 : Int) ≠ 0 := h12
          refine e_Ok.run (t' := (32, [(5, (0, p1)), (4, (0, 0)), (0, (1, 275)), (1, (0, p1)), (2, (0, p2)), (3, (0, p3))], [], w)) 4 rfl ?_
          have hL13 : ∀ (nn : Nat) (y5 : Int), (-1 ≤ y5 ∧ y5 ≤ 63 ∧ -1 ≤ rk y5) ∧ ((∃ n, wHit w p2 n p1) ↔ ∃ n, wHit w p2 n y5) → rk y5 + 1 < nn → e_Ok 20 elay ecode eI (d + 1) 295 (32, [(0, (1, 275)), (1, (0, p1)), (2, (0, p2)), (3, (0, p3)), (4, (0, 0)), (5, (0, y5))], [], w) (fun r w' => ∃ z : Int, r = [(0, z)] ∧ ((w = w' ∧ ((¬ ((0 ≤ p1 ∧ p1 ≤ 63) ∧ 0 ≤ p2 ∧ p2 ≤ 63) ∧ z = -1) ∨ (((0 ≤ p1 ∧ p1 ≤ 63) ∧ 0 ≤ p2 ∧ p2 ≤ 63) ∧ (w 275 3 ≠ 0 ∨ 0 ≤ w 318 p2 ∨ ∃ n, wHit w p2 n p1) ∧ z = -2))) ∨ ((((0 ≤ p1 ∧ p1 ≤ 63) ∧ 0 ≤ p2 ∧ p2 ≤ 63) ∧ ¬ (w 275 3 ≠ 0 ∨ 0 ≤ w 318 p2 ∨ ∃ n, wHit w p2 n p1)) ∧ z = 0 ∧ w' = e_up (e_up w 318 p2 p1) 319 p2 p3))) := by
            intro nn
            induction nn with
            | zero => intro y5 hj hm; obtain ⟨j15, j16⟩ := hj; exfalso; omega
            | succ nn ih14 =>
              intro y5 hj hm
              obtain ⟨j15, j16⟩ := hj
              refine e_Ok.run (t' := (34, [(0, (1, 275)), (1, (0, p1)), (2, (0, p2)), (3, (0, p3)), (4, (0, 0)), (5, (0, y5))], [(0, y5)], w)) 1 rfl ?_
              refine e_Ok.if1 rfl (fun h17 => ?_) (fun h17 => ?_)
              · replace h17 : (y5 : Int) < 0 := h17
                refine e_Ok.ps1 (x := (1, 275)) (q := 68) 1 rfl ?_
                have h18 := (e_Has.get hT (c := 275) (k := 3) (lo := 0) (hi := 1) rfl (by decide))
                refine e_Ok.getf (z := w 275 3) rfl (el_o rfl) rfl rfl rfl (e_bq h18 (by decide) (by decide)) ?_
                refine e_Ok.if1 rfl (fun h19 => ?_) (fun h19 => ?_)
                · replace h19 : (w 275 3 : Int) ≠ 0 := h19
                  refine e_Ok.ps1 (x := (0, (-2))) (q := 90) 1 rfl ?_
                  refine e_Ok.rets rfl rfl ?_
                  exact ⟨_, rfl, Or.inl ⟨rfl, by first | exact Or.inl ⟨by omega, rfl⟩ | exact Or.inr ⟨by omega, Or.inl (by omega), rfl⟩ | exact Or.inr ⟨by omega, Or.inr (Or.inl (by omega)), rfl⟩⟩⟩
                · replace h19 : (w 275 3 : Int) = 0 := Classical.not_not.mp (show ¬ ((w 275 3 : Int) ≠ 0) from h19)
                  refine e_Ok.ps1 (x := (1, 275)) (q := 75) 1 rfl ?_
                  refine e_Ok.getr (z := 318) rfl (el_o rfl) rfl rfl (e_Has.eq hT rfl) ⟨by decide, by decide⟩ ?_
                  refine e_Ok.ps1 (x := (0, p2)) (q := 79) 1 rfl ?_
                  have h20 := (e_Has.get hT (c := 318) (k := p2) (lo := (-1)) (hi := 63) rfl (by decide))
                  refine e_Ok.ald (z := w 318 p2) rfl (el_o rfl) rfl (by omega) rfl (e_bq h20 (by decide) (by decide)) ?_
                  refine e_Ok.if1 rfl (fun h21 => ?_) (fun h21 => ?_)
                  · replace h21 : (w 318 p2 : Int) ≥ 0 := h21
                    refine e_Ok.ps1 (x := (0, (-2))) (q := 90) 1 rfl ?_
                    refine e_Ok.rets rfl rfl ?_
                    exact ⟨_, rfl, Or.inl ⟨rfl, by first | exact Or.inl ⟨by omega, rfl⟩ | exact Or.inr ⟨by omega, Or.inl (by omega), rfl⟩ | exact Or.inr ⟨by omega, Or.inr (Or.inl (by omega)), rfl⟩⟩⟩
                  · replace h21 : (w 318 p2 : Int) < 0 := Int.not_le.mp (show ¬ ((w 318 p2 : Int) ≥ 0) from h21)
                    refine e_Ok.ps1 (x := (0, 0)) (q := 85) 1 rfl ?_
                    refine e_Ok.if1 rfl (fun h22 => ?_) (fun h22 => ?_)
                    · replace h22 : (0 : Int) = 0 := h22
                      refine e_Ok.ps1 (x := (1, 275)) (q := 92) 1 rfl ?_
                      refine e_Ok.getr (z := 318) rfl (el_o rfl) rfl rfl (e_Has.eq hT rfl) ⟨by decide, by decide⟩ ?_
                      refine e_Ok.ps2 (x := (0, p1)) (y := (0, p2)) (q := 97) 2 rfl ?_
                      refine e_Ok.ast rfl (el_o rfl) rfl rfl (by omega) ?_
                      generalize hw23 : e_up w 318 p2 p1 = w23
                      have f24 : e_fr (mF (-1) 318 319) w w23 := e_fr.up (e_fr.refl w) hw23 (by unfold mF; omega)
                      have hT25 : e_Has mTy w23 := e_Has.upr hT hw23 rfl (by omega)
                      refine e_Ok.ps1 (x := (1, 275)) (q := 99) 1 rfl ?_
                      refine e_Ok.getr (z := 319) rfl (el_o rfl) rfl rfl (e_uq hw23 (Or.inl (by decide)) (e_Has.eq hT rfl)) ⟨by decide, by decide⟩ ?_
                      refine e_Ok.ps2 (x := (0, p3)) (y := (0, p2)) (q := 104) 2 rfl ?_
                      refine e_Ok.ast rfl (el_o rfl) rfl (e_nar_b (by omega)) (by omega) ?_
                      generalize hw26 : e_up w23 319 p2 p3 = w26
                      have f27 : e_fr (mF (-1) 318 319) w w26 := e_fr.up f24 hw26 (by unfold mF; omega)
                      have hT28 : e_Has mTy w26 := e_Has.upr hT25 hw26 rfl (by omega)
                      refine e_Ok.ps1 (x := (0, 0)) (q := 106) 1 rfl ?_
                      refine e_Ok.rets rfl rfl ?_
                      have hnh : ¬ ∃ n, wHit w p2 n p1 := fun hh => by
                        obtain ⟨n, hn⟩ := j16.1 hh
                        cases n with
                        | zero => have hn0 : y5 = p2 := hn; omega
                        | succ n => have := hn.1; omega
                      exact ⟨_, rfl, Or.inr ⟨⟨by omega, fun g => g.elim (fun g => by omega) (fun g => g.elim (fun g => by omega) hnh)⟩, rfl, by rw [← hw26, ← hw23]⟩⟩
                    · replace h22 : (0 : Int) ≠ 0 := (show ¬ ((0 : Int) = 0) from h22)
                      exfalso; omega
              · replace h17 : (y5 : Int) ≥ 0 := Int.not_lt.mp (show ¬ ((y5 : Int) < 0) from h17)
                refine e_Ok.ps1 (x := (0, 0)) (q := 39) 1 rfl ?_
                refine e_Ok.if1 rfl (fun h29 => ?_) (fun h29 => ?_)
                · replace h29 : (0 : Int) ≠ 0 := h29
                  exfalso; omega
                · replace h29 : (0 : Int) = 0 := Classical.not_not.mp (show ¬ ((0 : Int) ≠ 0) from h29)
                  refine e_Ok.ps2 (x := (0, p2)) (y := (0, y5)) (q := 45) 2 rfl ?_
                  refine e_Ok.if2 rfl (fun h30 => ?_) (fun h30 => ?_)
                  · replace h30 : (y5 : Int) ≠ p2 := h30
                    refine e_Ok.run (t' := (56, [(4, (0, 0)), (0, (1, 275)), (1, (0, p1)), (2, (0, p2)), (3, (0, p3)), (5, (0, y5))], [(1, 275)], w)) 3 rfl ?_
                    refine e_Ok.getr (z := 318) rfl (el_o rfl) rfl rfl (e_Has.eq hT rfl) ⟨by decide, by decide⟩ ?_
                    refine e_Ok.ps1 (x := (0, y5)) (q := 61) 1 rfl ?_
                    have h31 := (e_Has.get hT (c := 318) (k := y5) (lo := (-1)) (hi := 63) rfl (by decide))
                    refine e_Ok.ald (z := w 318 y5) rfl (el_o rfl) rfl (by omega) rfl (e_bq h31 (by decide) (by decide)) ?_
                    refine e_Ok.run (t' := (64, [(5, (0, w 318 y5)), (4, (0, 0)), (0, (1, 275)), (1, (0, p1)), (2, (0, p2)), (3, (0, p3))], [], w)) 1 rfl ?_
                    have hg5 := hrk y5 (by omega) (by omega)
                    have hmu : rk (w 318 y5) + 1 < rk y5 + 1 ∧ -1 ≤ rk (w 318 y5) := by
                      by_cases e : 0 ≤ w 318 y5
                      · have q1 := hg5.2 e; have q2 := hrk (w 318 y5) e (by omega); omega
                      · rw [show w 318 y5 = -1 by omega, hrm]; omega
                    refine e_Ok.run (t' := (32, [(5, (0, w 318 y5)), (4, (0, 0)), (0, (1, 275)), (1, (0, p1)), (2, (0, p2)), (3, (0, p3))], [], w)) 1 rfl ?_
                    refine e_Ok.sub eAlk (e_sub_of rfl ?_) (ih14 (w 318 y5) ⟨by omega, ⟨(fun hh => by obtain ⟨n, hn⟩ := j16.1 hh; cases n with | zero => exact absurd (show y5 = p2 from hn) (by omega) | succ n => exact ⟨n, hn.2⟩), fun ⟨n, hn⟩ => j16.2 ⟨n + 1, by omega, hn⟩⟩⟩ (by omega))
                    exact ⟨rfl, rfl, rfl, rfl, rfl, rfl, trivial⟩
                  · replace h30 : (y5 : Int) = p2 := Classical.not_not.mp (show ¬ ((y5 : Int) ≠ p2) from h30)
                    refine e_Ok.run (t' := (56, [(4, (0, 1)), (0, (1, 275)), (1, (0, p1)), (2, (0, p2)), (3, (0, p3)), (5, (0, y5))], [(1, 275)], w)) 4 rfl ?_
                    refine e_Ok.getr (z := 318) rfl (el_o rfl) rfl rfl (e_Has.eq hT rfl) ⟨by decide, by decide⟩ ?_
                    refine e_Ok.ps1 (x := (0, y5)) (q := 61) 1 rfl ?_
                    have h32 := (e_Has.get hT (c := 318) (k := y5) (lo := (-1)) (hi := 63) rfl (by decide))
                    refine e_Ok.ald (z := w 318 y5) rfl (el_o rfl) rfl (by omega) rfl (e_bq h32 (by decide) (by decide)) ?_
                    refine e_Ok.run (t' := (64, [(5, (0, w 318 y5)), (4, (0, 1)), (0, (1, 275)), (1, (0, p1)), (2, (0, p2)), (3, (0, p3))], [], w)) 1 rfl ?_
                    have hg5 := hrk y5 (by omega) (by omega)
                    have hmu : rk (w 318 y5) + 1 < rk y5 + 1 ∧ -1 ≤ rk (w 318 y5) := by
                      by_cases e : 0 ≤ w 318 y5
                      · have q1 := hg5.2 e; have q2 := hrk (w 318 y5) e (by omega); omega
                      · rw [show w 318 y5 = -1 by omega, hrm]; omega
                    refine e_Ok.run (t' := (32, [(5, (0, w 318 y5)), (4, (0, 1)), (0, (1, 275)), (1, (0, p1)), (2, (0, p2)), (3, (0, p3))], [], w)) 1 rfl ?_
                    refine e_Ok.ps1 (x := (0, w 318 y5)) (q := 34) 1 rfl ?_
                    refine e_Ok.if1 rfl (fun h33 => ?_) (fun h33 => ?_)
                    · replace h33 : (w 318 y5 : Int) < 0 := h33
                      refine e_Ok.ps1 (x := (1, 275)) (q := 68) 1 rfl ?_
                      have h34 := (e_Has.get hT (c := 275) (k := 3) (lo := 0) (hi := 1) rfl (by decide))
                      refine e_Ok.getf (z := w 275 3) rfl (el_o rfl) rfl rfl rfl (e_bq h34 (by decide) (by decide)) ?_
                      refine e_Ok.if1 rfl (fun h35 => ?_) (fun h35 => ?_)
                      · replace h35 : (w 275 3 : Int) ≠ 0 := h35
                        refine e_Ok.ps1 (x := (0, (-2))) (q := 90) 1 rfl ?_
                        refine e_Ok.rets rfl rfl ?_
                        exact ⟨_, rfl, Or.inl ⟨rfl, by first | exact Or.inr ⟨by omega, Or.inr (Or.inr (j16.2 ⟨0, h30⟩)), rfl⟩⟩⟩
                      · replace h35 : (w 275 3 : Int) = 0 := Classical.not_not.mp (show ¬ ((w 275 3 : Int) ≠ 0) from h35)
                        refine e_Ok.ps1 (x := (1, 275)) (q := 75) 1 rfl ?_
                        refine e_Ok.getr (z := 318) rfl (el_o rfl) rfl rfl (e_Has.eq hT rfl) ⟨by decide, by decide⟩ ?_
                        refine e_Ok.ps1 (x := (0, p2)) (q := 79) 1 rfl ?_
                        have h36 := (e_Has.get hT (c := 318) (k := p2) (lo := (-1)) (hi := 63) rfl (by decide))
                        refine e_Ok.ald (z := w 318 p2) rfl (el_o rfl) rfl (by omega) rfl (e_bq h36 (by decide) (by decide)) ?_
                        refine e_Ok.if1 rfl (fun h37 => ?_) (fun h37 => ?_)
                        · replace h37 : (w 318 p2 : Int) ≥ 0 := h37
                          refine e_Ok.ps1 (x := (0, (-2))) (q := 90) 1 rfl ?_
                          refine e_Ok.rets rfl rfl ?_
                          exact ⟨_, rfl, Or.inl ⟨rfl, by first | exact Or.inr ⟨by omega, Or.inr (Or.inr (j16.2 ⟨0, h30⟩)), rfl⟩⟩⟩
                        · replace h37 : (w 318 p2 : Int) < 0 := Int.not_le.mp (show ¬ ((w 318 p2 : Int) ≥ 0) from h37)
                          refine e_Ok.ps1 (x := (0, 1)) (q := 85) 1 rfl ?_
                          refine e_Ok.if1 rfl (fun h38 => ?_) (fun h38 => ?_)
                          · replace h38 : (1 : Int) = 0 := h38
                            exfalso; omega
                          · replace h38 : (1 : Int) ≠ 0 := (show ¬ ((1 : Int) = 0) from h38)
                            refine e_Ok.ps1 (x := (0, (-2))) (q := 90) 1 rfl ?_
                            refine e_Ok.rets rfl rfl ?_
                            exact ⟨_, rfl, Or.inl ⟨rfl, by first | exact Or.inr ⟨by omega, Or.inr (Or.inr (j16.2 ⟨0, h30⟩)), rfl⟩⟩⟩
                    · replace h33 : (w 318 y5 : Int) ≥ 0 := Int.not_lt.mp (show ¬ ((w 318 y5 : Int) < 0) from h33)
                      refine e_Ok.ps1 (x := (0, 1)) (q := 39) 1 rfl ?_
                      refine e_Ok.if1 rfl (fun h39 => ?_) (fun h39 => ?_)
                      · replace h39 : (1 : Int) ≠ 0 := h39
                        refine e_Ok.ps1 (x := (1, 275)) (q := 68) 1 rfl ?_
                        have h40 := (e_Has.get hT (c := 275) (k := 3) (lo := 0) (hi := 1) rfl (by decide))
                        refine e_Ok.getf (z := w 275 3) rfl (el_o rfl) rfl rfl rfl (e_bq h40 (by decide) (by decide)) ?_
                        refine e_Ok.if1 rfl (fun h41 => ?_) (fun h41 => ?_)
                        · replace h41 : (w 275 3 : Int) ≠ 0 := h41
                          refine e_Ok.ps1 (x := (0, (-2))) (q := 90) 1 rfl ?_
                          refine e_Ok.rets rfl rfl ?_
                          exact ⟨_, rfl, Or.inl ⟨rfl, by first | exact Or.inr ⟨by omega, Or.inr (Or.inr (j16.2 ⟨0, h30⟩)), rfl⟩⟩⟩
                        · replace h41 : (w 275 3 : Int) = 0 := Classical.not_not.mp (show ¬ ((w 275 3 : Int) ≠ 0) from h41)
                          refine e_Ok.ps1 (x := (1, 275)) (q := 75) 1 rfl ?_
                          refine e_Ok.getr (z := 318) rfl (el_o rfl) rfl rfl (e_Has.eq hT rfl) ⟨by decide, by decide⟩ ?_
                          refine e_Ok.ps1 (x := (0, p2)) (q := 79) 1 rfl ?_
                          have h42 := (e_Has.get hT (c := 318) (k := p2) (lo := (-1)) (hi := 63) rfl (by decide))
                          refine e_Ok.ald (z := w 318 p2) rfl (el_o rfl) rfl (by omega) rfl (e_bq h42 (by decide) (by decide)) ?_
                          refine e_Ok.if1 rfl (fun h43 => ?_) (fun h43 => ?_)
                          · replace h43 : (w 318 p2 : Int) ≥ 0 := h43
                            refine e_Ok.ps1 (x := (0, (-2))) (q := 90) 1 rfl ?_
                            refine e_Ok.rets rfl rfl ?_
                            exact ⟨_, rfl, Or.inl ⟨rfl, by first | exact Or.inr ⟨by omega, Or.inr (Or.inr (j16.2 ⟨0, h30⟩)), rfl⟩⟩⟩
                          · replace h43 : (w 318 p2 : Int) < 0 := Int.not_le.mp (show ¬ ((w 318 p2 : Int) ≥ 0) from h43)
                            refine e_Ok.ps1 (x := (0, 1)) (q := 85) 1 rfl ?_
                            refine e_Ok.if1 rfl (fun h44 => ?_) (fun h44 => ?_)
                            · replace h44 : (1 : Int) = 0 := h44
                              exfalso; omega
                            · replace h44 : (1 : Int) ≠ 0 := (show ¬ ((1 : Int) = 0) from h44)
                              refine e_Ok.ps1 (x := (0, (-2))) (q := 90) 1 rfl ?_
                              refine e_Ok.rets rfl rfl ?_
                              exact ⟨_, rfl, Or.inl ⟨rfl, by first | exact Or.inr ⟨by omega, Or.inr (Or.inr (j16.2 ⟨0, h30⟩)), rfl⟩⟩⟩
                      · replace h39 : (1 : Int) = 0 := Classical.not_not.mp (show ¬ ((1 : Int) ≠ 0) from h39)
                        exfalso; omega
          refine e_Ok.sub eAlk (e_sub_of rfl ?_) (hL13 (rk p1 + 1 + 1 : Int).toNat p1 ⟨by have := hrk p1 (by omega) (by omega); omega, Iff.rfl⟩ (by omega))
          exact ⟨rfl, rfl, rfl, rfl, rfl, rfl, trivial⟩
        · replace h12 : (1 : Int) = 0 := Classical.not_not.mp (show ¬ ((1 : Int) ≠ 0) from h12)
          exfalso; omega
      · refine e_Ok.nrm (q := 21) (st' := [(0, 0)]) rfl rfl ?_
        refine e_Ok.if1 rfl (fun h45 => ?_) (fun h45 => ?_)
        · replace h45 : (0 : Int) ≠ 0 := h45
          exfalso; omega
        · replace h45 : (0 : Int) = 0 := Classical.not_not.mp (show ¬ ((0 : Int) ≠ 0) from h45)
          refine e_Ok.ps1 (x := (0, (-1))) (q := 25) 1 rfl ?_
          refine e_Ok.rets rfl rfl ?_
          exact ⟨_, rfl, Or.inl ⟨rfl, by first | exact Or.inl ⟨by omega, rfl⟩ | exact Or.inr ⟨by omega, Or.inl (by omega), rfl⟩ | exact Or.inr ⟨by omega, Or.inr (Or.inl (by omega)), rfl⟩⟩⟩
  · refine e_Ok.nrm (q := 9) (st' := [(0, 0)]) rfl rfl ?_
    refine e_Ok.if1 rfl (fun h46 => ?_) (fun h46 => ?_)
    · replace h46 : (0 : Int) = 0 := h46
      refine e_Ok.ps1 (x := (0, (-1))) (q := 25) 1 rfl ?_
      refine e_Ok.rets rfl rfl ?_
      exact ⟨_, rfl, Or.inl ⟨rfl, by first | exact Or.inl ⟨by omega, rfl⟩ | exact Or.inr ⟨by omega, Or.inl (by omega), rfl⟩ | exact Or.inr ⟨by omega, Or.inr (Or.inl (by omega)), rfl⟩⟩⟩
    · replace h46 : (0 : Int) ≠ 0 := (show ¬ ((0 : Int) = 0) from h46)
      exfalso; omega
end
