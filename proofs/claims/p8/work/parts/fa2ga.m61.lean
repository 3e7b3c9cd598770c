noncomputable section
/-! the model: what builds a cell, exactly -/
theorem c_271_ex {d : Nat} (hd : 22 ≤ d) {w : eW} (hT : e_Has mTy w) {a j : Int} : e_Ok 20 elay ecode eI d 271 (0, [(0, (1, 275)), (1, (0, a)), (2, (0, j))], [], w) (fun r w' => ∃ z : Int, r = [(0, z)] ∧ w = w' ∧ ((z = 1 ∧ (0 ≤ a ∧ a < w 275 10) ∧ 0 ≤ j ∧ j < w 286 a) ∨ (z = 0 ∧ ¬ ((0 ≤ a ∧ a < w 275 10) ∧ 0 ≤ j ∧ j < w 286 a)))) := by
  obtain ⟨d, rfl⟩ : ∃ e, d = e + 1 := ⟨d - 1, by omega⟩
  refine e_Ok.ps2 (x := (0, a)) (y := (1, 275)) (q := 2) 2 rfl ?_
  refine e_Ok.callV rfl (e_dq hd rfl) rfl rfl rfl rfl (c_270 (e_dq hd rfl) hT) (fun r1 w2 h3 => ?_)
  have h4 := e_Has.get hT (c := 275) (k := 10) (lo := 0) (hi := 4) (mt_o rfl) (by decide)
  obtain ⟨z5, rfl, rfl, q6⟩ := h3
  obtain ⟨rfl, q6⟩ | ⟨rfl, q6⟩ := q6
  · refine e_Ok.nrm (q := 5) (st' := [(0, 1)]) rfl rfl ?_
    refine e_Ok.if1 rfl (fun h7 => ?_) (fun h7 => ?_)
    · replace h7 : (1 : Int) = 0 := h7
      exfalso; omega
    · replace h7 : (1 : Int) ≠ 0 := (show ¬ ((1 : Int) = 0) from h7)
      refine e_Ok.ps3 (x := (1, 275)) (y := (4, 0)) (z := (4, j)) (q := 12) 4 rfl ?_
      refine e_Ok.getr (z := 286) rfl (el_o rfl) rfl (ef_o rfl) (e_Has.eq hT (mt_o rfl)) ⟨by decide, by decide⟩ ?_
      refine e_Ok.ps1 (x := (0, a)) (q := 16) 1 rfl ?_
      have h8 := (e_Has.get hT (c := 286) (k := a) (lo := 0) (hi := 6) (mt_o rfl) (by decide))
      refine e_Ok.ald (z := w 286 a) rfl (el_o rfl) rfl (by omega) rfl (e_bq h8 (by decide) (by decide)) ?_
      refine e_Ok.ps1 (x := (0, 1)) (q := 18) 1 rfl ?_
      refine e_Ok.sub' (z := w 286 a - 1) rfl rfl (by omega) ?_
      refine e_Ok.run (t' := (20, [(0, (1, 275)), (1, (0, a)), (2, (0, j))], [(4, w 286 a - 1), (4, 0), (4, j)], w)) 1 rfl ?_
      refine e_Ok.callS rfl (e_dq hd rfl) rfl rfl (c_266) (fun r9 w10 h11 => ?_)
      obtain ⟨z12, rfl, rfl, q13⟩ := h11
      obtain ⟨rfl, q13⟩ | ⟨rfl, q13⟩ := q13
      · refine e_Ok.nrm (q := 23) (st' := [(0, 1)]) rfl rfl ?_
        refine e_Ok.if1 rfl (fun h14 => ?_) (fun h14 => ?_)
        · replace h14 : (1 : Int) = 0 := h14
          exfalso; omega
        · replace h14 : (1 : Int) ≠ 0 := (show ¬ ((1 : Int) = 0) from h14)
          refine e_Ok.ps1 (x := (0, 1)) (q := 31) 2 rfl ?_
          refine e_Ok.rets rfl rfl ?_
          exact ⟨_, rfl, rfl, Or.inl ⟨rfl, by omega⟩⟩
      · refine e_Ok.nrm (q := 23) (st' := [(0, 0)]) rfl rfl ?_
        refine e_Ok.if1 rfl (fun h15 => ?_) (fun h15 => ?_)
        · replace h15 : (0 : Int) = 0 := h15
          refine e_Ok.ps1 (x := (0, 0)) (q := 31) 1 rfl ?_
          refine e_Ok.rets rfl rfl ?_
          exact ⟨_, rfl, rfl, Or.inr ⟨rfl, by omega⟩⟩
        · replace h15 : (0 : Int) ≠ 0 := (show ¬ ((0 : Int) = 0) from h15)
          exfalso; omega
  · refine e_Ok.nrm (q := 5) (st' := [(0, 0)]) rfl rfl ?_
    refine e_Ok.if1 rfl (fun h16 => ?_) (fun h16 => ?_)
    · replace h16 : (0 : Int) = 0 := h16
      refine e_Ok.ps1 (x := (0, 0)) (q := 31) 1 rfl ?_
      refine e_Ok.rets rfl rfl ?_
      exact ⟨_, rfl, rfl, Or.inr ⟨rfl, by omega⟩⟩
    · replace h16 : (0 : Int) ≠ 0 := (show ¬ ((0 : Int) = 0) from h16)
      exfalso; omega
theorem c_278_ex {d : Nat} (hd : 24 ≤ d) {w : eW} (hT : e_Has mTy w) {p1 p2 p3 p4 : Int} (g1 : (-2147483648) ≤ p1 ∧ p1 ≤ 2147483647) (g2 : (-2147483648) ≤ p2 ∧ p2 ≤ 2147483647) (g3 : (-2147483648) ≤ p3 ∧ p3 ≤ 2147483647) (g4 : (-2147483648) ≤ p4 ∧ p4 ≤ 2147483647) : e_Ok 20 elay ecode eI d 278 (0, [(0, (1, 275)), (1, (0, p1)), (2, (0, p2)), (3, (0, p3)), (4, (0, p4))], [], w) (fun r w' => ∃ z : Int, r = [(0, z)] ∧ ((w = w' ∧ ((¬ ((-8000 ≤ p1 ∧ p1 ≤ 8000) ∧ (-8000 ≤ p2 ∧ p2 ≤ 8000) ∧ (0 ≤ p3 ∧ p3 ≤ 4095) ∧ (0 ≤ p4 ∧ p4 ≤ 800)) ∧ z = -1) ∨ (((-8000 ≤ p1 ∧ p1 ≤ 8000) ∧ (-8000 ≤ p2 ∧ p2 ≤ 8000) ∧ (0 ≤ p3 ∧ p3 ≤ 4095) ∧ (0 ≤ p4 ∧ p4 ≤ 800)) ∧ ((w 275 3 ≠ 0 ∧ z = -2) ∨ (w 275 3 = 0 ∧ w 275 10 = 4 ∧ z = -3))))) ∨ ((((-8000 ≤ p1 ∧ p1 ≤ 8000) ∧ (-8000 ≤ p2 ∧ p2 ≤ 8000) ∧ (0 ≤ p3 ∧ p3 ≤ 4095) ∧ (0 ≤ p4 ∧ p4 ≤ 800)) ∧ w 275 3 = 0 ∧ ¬ (w 275 10 = 4)) ∧ z = w 275 10 ∧ w' = e_up (e_up (e_up (e_up (e_up w 282 (w 275 10) (p1)) 283 (w 275 10) (p2)) 284 (w 275 10) (p3)) 285 (w 275 10) (p4)) 275 (10) (w 275 10 + 1)))) := by
  obtain ⟨d, rfl⟩ : ∃ e, d = e + 1 := ⟨d - 1, by omega⟩
  have hop := e_Has.get hT (c := 275) (k := 3) (lo := 0) (hi := 1) (mt_o rfl) (by decide)
  have hr := e_Has.get hT (c := 275) (k := 10) (lo := 0) (hi := 4) (mt_o rfl) (by decide)
  refine e_Ok.ps3 (x := (4, 8000)) (y := (4, (-8000))) (z := (4, p1)) (q := 8) 4 rfl ?_
  refine e_Ok.callS rfl (e_dq hd rfl) rfl rfl (c_266) (fun r1 w2 h3 => ?_)
  obtain ⟨z4, rfl, rfl, q5⟩ := h3
  obtain ⟨rfl, q5⟩ | ⟨rfl, q5⟩ := q5
  · refine e_Ok.nrm (q := 11) (st' := [(0, 1)]) rfl rfl ?_
    refine e_Ok.if1 rfl (fun h6 => ?_) (fun h6 => ?_)
    · replace h6 : (1 : Int) = 0 := h6
      exfalso; omega
    · replace h6 : (1 : Int) ≠ 0 := (show ¬ ((1 : Int) = 0) from h6)
      refine e_Ok.ps3 (x := (4, 8000)) (y := (4, (-8000))) (z := (4, p2)) (q := 22) 4 rfl ?_
      refine e_Ok.callS rfl (e_dq hd rfl) rfl rfl (c_266) (fun r7 w8 h9 => ?_)
      obtain ⟨z10, rfl, rfl, q11⟩ := h9
      obtain ⟨rfl, q11⟩ | ⟨rfl, q11⟩ := q11
      · refine e_Ok.nrm (q := 25) (st' := [(0, 1)]) rfl rfl ?_
        refine e_Ok.if1 rfl (fun h12 => ?_) (fun h12 => ?_)
        · replace h12 : (1 : Int) = 0 := h12
          exfalso; omega
        · replace h12 : (1 : Int) ≠ 0 := (show ¬ ((1 : Int) = 0) from h12)
          refine e_Ok.ps3 (x := (4, 4095)) (y := (4, 0)) (z := (4, p3)) (q := 34) 4 rfl ?_
          refine e_Ok.callS rfl (e_dq hd rfl) rfl rfl (c_266) (fun r13 w14 h15 => ?_)
          obtain ⟨z16, rfl, rfl, q17⟩ := h15
          obtain ⟨rfl, q17⟩ | ⟨rfl, q17⟩ := q17
          · refine e_Ok.nrm (q := 37) (st' := [(0, 1)]) rfl rfl ?_
            refine e_Ok.if1 rfl (fun h18 => ?_) (fun h18 => ?_)
            · replace h18 : (1 : Int) = 0 := h18
              exfalso; omega
            · replace h18 : (1 : Int) ≠ 0 := (show ¬ ((1 : Int) = 0) from h18)
              refine e_Ok.ps3 (x := (4, 800)) (y := (4, 0)) (z := (4, p4)) (q := 47) 4 rfl ?_
              refine e_Ok.callS rfl (e_dq hd rfl) rfl rfl (c_266) (fun r19 w20 h21 => ?_)
              obtain ⟨z22, rfl, rfl, q23⟩ := h21
              obtain ⟨rfl, q23⟩ | ⟨rfl, q23⟩ := q23
              · refine e_Ok.nrm (q := 50) (st' := [(0, 1)]) rfl rfl ?_
                refine e_Ok.if1 rfl (fun h24 => ?_) (fun h24 => ?_)
                · replace h24 : (1 : Int) ≠ 0 := h24
                  refine e_Ok.ps1 (x := (1, 275)) (q := 56) 1 rfl ?_
                  refine e_Ok.getf (z := w 275 3) rfl (el_o rfl) rfl (ef_o rfl) rfl (by omega) ?_
                  refine e_Ok.if1 rfl (fun h25 => ?_) (fun h25 => ?_)
                  · replace h25 : (w 275 3 : Int) = 0 := h25
                    refine e_Ok.ps1 (x := (1, 275)) (q := 66) 1 rfl ?_
                    refine e_Ok.getf (z := w 275 10) rfl (el_o rfl) rfl (ef_o rfl) rfl (by omega) ?_
                    refine e_Ok.ps1 (x := (0, 4)) (q := 70) 1 rfl ?_
                    refine e_Ok.if2 rfl (fun h26 => ?_) (fun h26 => ?_)
                    · replace h26 : (w 275 10 : Int) ≠ 4 := h26
                      refine e_Ok.ps1 (x := (1, 275)) (q := 77) 1 rfl ?_
                      refine e_Ok.getr (z := 282) rfl (el_o rfl) rfl (ef_o rfl) (e_Has.eq hT (mt_o rfl)) ⟨by decide, by decide⟩ ?_
                      refine e_Ok.ps1 (x := (1, 275)) (q := 81) 1 rfl ?_
                      refine e_Ok.getf (z := w 275 10) rfl (el_o rfl) rfl (ef_o rfl) rfl (by omega) ?_
                      refine e_Ok.ps1 (x := (0, p1)) (q := 85) 1 rfl ?_
                      refine e_Ok.ast rfl (el_o rfl) rfl rfl (by omega) ?_
                      generalize hw27 : e_up w 282 (w 275 10) p1 = w27
                      refine e_Ok.ps1 (x := (1, 275)) (q := 87) 1 rfl ?_
                      refine e_Ok.getr (z := 283) rfl (el_o rfl) rfl (ef_o rfl) (e_uq hw27 (Or.inl (by decide)) (e_Has.eq hT (mt_o rfl))) ⟨by decide, by decide⟩ ?_
                      refine e_Ok.ps1 (x := (1, 275)) (q := 91) 1 rfl ?_
                      refine e_Ok.getf (z := w 275 10) rfl (el_o rfl) rfl (ef_o rfl) (e_uq hw27 (Or.inl (by decide)) rfl) (by omega) ?_
                      refine e_Ok.ps1 (x := (0, p2)) (q := 95) 1 rfl ?_
                      refine e_Ok.ast rfl (el_o rfl) rfl rfl (by omega) ?_
                      generalize hw28 : e_up w27 283 (w 275 10) p2 = w28
                      refine e_Ok.ps1 (x := (1, 275)) (q := 97) 1 rfl ?_
                      refine e_Ok.getr (z := 284) rfl (el_o rfl) rfl (ef_o rfl) (e_uq hw28 (Or.inl (by decide)) (e_uq hw27 (Or.inl (by decide)) (e_Has.eq hT (mt_o rfl)))) ⟨by decide, by decide⟩ ?_
                      refine e_Ok.ps1 (x := (1, 275)) (q := 101) 1 rfl ?_
                      refine e_Ok.getf (z := w 275 10) rfl (el_o rfl) rfl (ef_o rfl) (e_uq hw28 (Or.inl (by decide)) (e_uq hw27 (Or.inl (by decide)) rfl)) (by omega) ?_
                      refine e_Ok.ps1 (x := (0, p3)) (q := 105) 1 rfl ?_
                      refine e_Ok.ast rfl (el_o rfl) rfl rfl (by omega) ?_
                      generalize hw29 : e_up w28 284 (w 275 10) p3 = w29
                      refine e_Ok.ps1 (x := (1, 275)) (q := 107) 1 rfl ?_
                      refine e_Ok.getr (z := 285) rfl (el_o rfl) rfl (ef_o rfl) (e_uq hw29 (Or.inl (by decide)) (e_uq hw28 (Or.inl (by decide)) (e_uq hw27 (Or.inl (by decide)) (e_Has.eq hT (mt_o rfl))))) ⟨by decide, by decide⟩ ?_
                      refine e_Ok.ps1 (x := (1, 275)) (q := 111) 1 rfl ?_
                      refine e_Ok.getf (z := w 275 10) rfl (el_o rfl) rfl (ef_o rfl) (e_uq hw29 (Or.inl (by decide)) (e_uq hw28 (Or.inl (by decide)) (e_uq hw27 (Or.inl (by decide)) rfl))) (by omega) ?_
                      refine e_Ok.ps1 (x := (0, p4)) (q := 116) 1 rfl ?_
                      refine e_Ok.ast rfl (el_o rfl) rfl rfl (by omega) ?_
                      generalize hw30 : e_up w29 285 (w 275 10) p4 = w30
                      refine e_Ok.ps2 (x := (1, 275)) (y := (1, 275)) (q := 119) 2 rfl ?_
                      refine e_Ok.getf (z := w 275 10) rfl (el_o rfl) rfl (ef_o rfl) (e_uq hw30 (Or.inl (by decide)) (e_uq hw29 (Or.inl (by decide)) (e_uq hw28 (Or.inl (by decide)) (e_uq hw27 (Or.inl (by decide)) rfl)))) (by omega) ?_
                      refine e_Ok.ps1 (x := (0, 1)) (q := 123) 1 rfl ?_
                      refine e_Ok.add (z := w 275 10 + 1) rfl rfl (by omega) ?_
                      refine e_Ok.putf rfl (el_o rfl) rfl (ef_o rfl) ?_
                      generalize hw31 : e_up w30 275 10 (w 275 10 + 1) = w31
                      refine e_Ok.ps1 (x := (1, 275)) (q := 128) 1 rfl ?_
                      refine e_Ok.getf (z := w 275 10 + 1) rfl (el_o rfl) rfl (ef_o rfl) (e_ue hw31) (by omega) ?_
                      refine e_Ok.ps1 (x := (0, 1)) (q := 132) 1 rfl ?_
                      refine e_Ok.sub' (z := w 275 10) rfl (by omega) (by omega) ?_
                      refine e_Ok.rets rfl rfl ?_
                      exact ⟨_, rfl, Or.inr ⟨by omega, by omega, by rw [← hw31, ← hw30, ← hw29, ← hw28, ← hw27]⟩⟩
                    · replace h26 : (w 275 10 : Int) = 4 := Classical.not_not.mp (show ¬ ((w 275 10 : Int) ≠ 4) from h26)
                      refine e_Ok.ps1 (x := (0, (-3))) (q := 75) 1 rfl ?_
                      refine e_Ok.rets rfl rfl ?_
                      exact ⟨_, rfl, Or.inl ⟨rfl, by omega⟩⟩
                  · replace h25 : (w 275 3 : Int) ≠ 0 := (show ¬ ((w 275 3 : Int) = 0) from h25)
                    refine e_Ok.ps1 (x := (0, (-2))) (q := 64) 1 rfl ?_
                    refine e_Ok.rets rfl rfl ?_
                    exact ⟨_, rfl, Or.inl ⟨rfl, by omega⟩⟩
                · replace h24 : (1 : Int) = 0 := Classical.not_not.mp (show ¬ ((1 : Int) ≠ 0) from h24)
                  exfalso; omega
              · refine e_Ok.nrm (q := 50) (st' := [(0, 0)]) rfl rfl ?_
                refine e_Ok.if1 rfl (fun h32 => ?_) (fun h32 => ?_)
                · replace h32 : (0 : Int) ≠ 0 := h32
                  exfalso; omega
                · replace h32 : (0 : Int) = 0 := Classical.not_not.mp (show ¬ ((0 : Int) ≠ 0) from h32)
                  refine e_Ok.ps1 (x := (0, (-1))) (q := 54) 1 rfl ?_
                  refine e_Ok.rets rfl rfl ?_
                  exact ⟨_, rfl, Or.inl ⟨rfl, by omega⟩⟩
          · refine e_Ok.nrm (q := 37) (st' := [(0, 0)]) rfl rfl ?_
            refine e_Ok.if1 rfl (fun h33 => ?_) (fun h33 => ?_)
            · replace h33 : (0 : Int) = 0 := h33
              refine e_Ok.ps1 (x := (0, (-1))) (q := 54) 1 rfl ?_
              refine e_Ok.rets rfl rfl ?_
              exact ⟨_, rfl, Or.inl ⟨rfl, by omega⟩⟩
            · replace h33 : (0 : Int) ≠ 0 := (show ¬ ((0 : Int) = 0) from h33)
              exfalso; omega
      · refine e_Ok.nrm (q := 25) (st' := [(0, 0)]) rfl rfl ?_
        refine e_Ok.if1 rfl (fun h34 => ?_) (fun h34 => ?_)
        · replace h34 : (0 : Int) = 0 := h34
          refine e_Ok.ps1 (x := (0, (-1))) (q := 54) 1 rfl ?_
          refine e_Ok.rets rfl rfl ?_
          exact ⟨_, rfl, Or.inl ⟨rfl, by omega⟩⟩
        · replace h34 : (0 : Int) ≠ 0 := (show ¬ ((0 : Int) = 0) from h34)
          exfalso; omega
  · refine e_Ok.nrm (q := 11) (st' := [(0, 0)]) rfl rfl ?_
    refine e_Ok.if1 rfl (fun h35 => ?_) (fun h35 => ?_)
    · replace h35 : (0 : Int) = 0 := h35
      refine e_Ok.ps1 (x := (0, (-1))) (q := 54) 1 rfl ?_
      refine e_Ok.rets rfl rfl ?_
      exact ⟨_, rfl, Or.inl ⟨rfl, by omega⟩⟩
    · replace h35 : (0 : Int) ≠ 0 := (show ¬ ((0 : Int) = 0) from h35)
      exfalso; omega
theorem c_280_ex {d : Nat} (hd : 24 ≤ d) {w : eW} (hT : e_Has mTy w) {p1 p2 p3 : Int} (g1 : (-2147483648) ≤ p1 ∧ p1 ≤ 2147483647) (g2 : (-2147483648) ≤ p2 ∧ p2 ≤ 2147483647) (g3 : (-2147483648) ≤ p3 ∧ p3 ≤ 2147483647) : e_Ok 20 elay ecode eI d 280 (0, [(0, (1, 275)), (1, (0, p1)), (2, (0, p2)), (3, (0, p3))], [], w) (fun r w' => ∃ z : Int, r = [(0, z)] ∧ ((w = w' ∧ ((¬ ((0 ≤ p1 ∧ p1 < w 275 10) ∧ (0 ≤ p2 ∧ p2 < w 286 p1) ∧ (0 ≤ p3 ∧ p3 ≤ 800)) ∧ z = -1) ∨ (((0 ≤ p1 ∧ p1 < w 275 10) ∧ (0 ≤ p2 ∧ p2 < w 286 p1) ∧ (0 ≤ p3 ∧ p3 ≤ 800)) ∧ w 275 3 ≠ 0 ∧ z = -2))) ∨ ((((0 ≤ p1 ∧ p1 < w 275 10) ∧ (0 ≤ p2 ∧ p2 < w 286 p1) ∧ (0 ≤ p3 ∧ p3 ≤ 800)) ∧ w 275 3 = 0) ∧ z = w 293 (6 * p1 + p2) ∧ w' = e_up w 293 (6 * p1 + p2) (p3)))) := by
  obtain ⟨d, rfl⟩ : ∃ e, d = e + 1 := ⟨d - 1, by omega⟩
  have hop := e_Has.get hT (c := 275) (k := 3) (lo := 0) (hi := 1) (mt_o rfl) (by decide)
  refine e_Ok.ps3 (x := (0, p2)) (y := (0, p1)) (z := (1, 275)) (q := 3) 3 rfl ?_
  refine e_Ok.callV rfl (e_dq hd rfl) rfl rfl rfl rfl (c_271_ex (e_dq hd rfl) hT) (fun r1 w2 h3 => ?_)
  obtain ⟨z4, rfl, rfl, q5⟩ := h3
  have h6 := e_Has.get hT (c := 275) (k := 10) (lo := 0) (hi := 4) (mt_o rfl) (by decide)
  have h7 := e_Has.get hT (c := 286) (k := p1) (lo := 0) (hi := 6) (mt_o rfl) (by decide)
  obtain ⟨rfl, q5⟩ | ⟨rfl, q5⟩ := q5
  · refine e_Ok.nrm (q := 6) (st' := [(0, 1)]) rfl rfl ?_
    refine e_Ok.if1 rfl (fun h8 => ?_) (fun h8 => ?_)
    · replace h8 : (1 : Int) = 0 := h8
      exfalso; omega
    · replace h8 : (1 : Int) ≠ 0 := (show ¬ ((1 : Int) = 0) from h8)
      refine e_Ok.ps3 (x := (4, 800)) (y := (4, 0)) (z := (4, p3)) (q := 15) 4 rfl ?_
      refine e_Ok.callS rfl (e_dq hd rfl) rfl rfl (c_266) (fun r9 w10 h11 => ?_)
      obtain ⟨z12, rfl, rfl, q13⟩ := h11
      obtain ⟨rfl, q13⟩ | ⟨rfl, q13⟩ := q13
      · refine e_Ok.nrm (q := 18) (st' := [(0, 1)]) rfl rfl ?_
        refine e_Ok.if1 rfl (fun h14 => ?_) (fun h14 => ?_)
        · replace h14 : (1 : Int) ≠ 0 := h14
          refine e_Ok.ps1 (x := (1, 275)) (q := 24) 1 rfl ?_
          refine e_Ok.getf (z := w 275 3) rfl (el_o rfl) rfl (ef_o rfl) rfl (by omega) ?_
          refine e_Ok.if1 rfl (fun h15 => ?_) (fun h15 => ?_)
          · replace h15 : (w 275 3 : Int) = 0 := h15
            refine e_Ok.ps1 (x := (1, 275)) (q := 34) 1 rfl ?_
            refine e_Ok.getr (z := 293) rfl (el_o rfl) rfl (ef_o rfl) (e_Has.eq hT (mt_o rfl)) ⟨by decide, by decide⟩ ?_
            refine e_Ok.ps2 (x := (0, p1)) (y := (0, 6)) (q := 40) 2 rfl ?_
            refine e_Ok.mul (z := 6 * p1) rfl rfl (by omega) ?_
            refine e_Ok.ps1 (x := (0, p2)) (q := 42) 1 rfl ?_
            refine e_Ok.add (z := 6 * p1 + p2) rfl rfl (by omega) ?_
            have h16 := (e_Has.get hT (c := 293) (k := 6 * p1 + p2) (lo := 0) (hi := 800) (mt_o rfl) (by decide))
            refine e_Ok.ald (z := w 293 (6 * p1 + p2)) rfl (el_o rfl) rfl (by omega) rfl (e_bq h16 (by decide) (by decide)) ?_
            refine e_Ok.run (t' := (47, [(4, (0, w 293 (6 * p1 + p2))), (0, (1, 275)), (1, (0, p1)), (2, (0, p2)), (3, (0, p3))], [(1, 275)], w)) 2 rfl ?_
            refine e_Ok.getr (z := 293) rfl (el_o rfl) rfl (ef_o rfl) (e_Has.eq hT (mt_o rfl)) ⟨by decide, by decide⟩ ?_
            refine e_Ok.ps2 (x := (0, p1)) (y := (0, 6)) (q := 53) 2 rfl ?_
            refine e_Ok.mul (z := 6 * p1) rfl rfl (by omega) ?_
            refine e_Ok.ps1 (x := (0, p2)) (q := 55) 1 rfl ?_
            refine e_Ok.add (z := 6 * p1 + p2) rfl rfl (by omega) ?_
            refine e_Ok.ps1 (x := (0, p3)) (q := 57) 1 rfl ?_
            refine e_Ok.ast rfl (el_o rfl) rfl rfl (by omega) ?_
            generalize hw17 : e_up w 293 (6 * p1 + p2) p3 = w17
            refine e_Ok.ps1 (x := (0, w 293 (6 * p1 + p2))) (q := 60) 1 rfl ?_
            refine e_Ok.rets rfl rfl ?_
            exact ⟨_, rfl, Or.inr ⟨by omega, by omega, by rw [← hw17]⟩⟩
          · replace h15 : (w 275 3 : Int) ≠ 0 := (show ¬ ((w 275 3 : Int) = 0) from h15)
            refine e_Ok.ps1 (x := (0, (-2))) (q := 32) 1 rfl ?_
            refine e_Ok.rets rfl rfl ?_
            exact ⟨_, rfl, Or.inl ⟨rfl, by omega⟩⟩
        · replace h14 : (1 : Int) = 0 := Classical.not_not.mp (show ¬ ((1 : Int) ≠ 0) from h14)
          exfalso; omega
      · refine e_Ok.nrm (q := 18) (st' := [(0, 0)]) rfl rfl ?_
        refine e_Ok.if1 rfl (fun h18 => ?_) (fun h18 => ?_)
        · replace h18 : (0 : Int) ≠ 0 := h18
          exfalso; omega
        · replace h18 : (0 : Int) = 0 := Classical.not_not.mp (show ¬ ((0 : Int) ≠ 0) from h18)
          refine e_Ok.ps1 (x := (0, (-1))) (q := 22) 1 rfl ?_
          refine e_Ok.rets rfl rfl ?_
          exact ⟨_, rfl, Or.inl ⟨rfl, by omega⟩⟩
  · refine e_Ok.nrm (q := 6) (st' := [(0, 0)]) rfl rfl ?_
    refine e_Ok.if1 rfl (fun h19 => ?_) (fun h19 => ?_)
    · replace h19 : (0 : Int) = 0 := h19
      refine e_Ok.ps1 (x := (0, (-1))) (q := 22) 1 rfl ?_
      refine e_Ok.rets rfl rfl ?_
      exact ⟨_, rfl, Or.inl ⟨rfl, by omega⟩⟩
    · replace h19 : (0 : Int) ≠ 0 := (show ¬ ((0 : Int) = 0) from h19)
      exfalso; omega
end
