noncomputable section
/-! the model: what builds a cell, exactly -/
theorem c_272_ex {d : Nat} (hd : 21 ≤ d) {w : eW} {x y : Int} : e_Ok 20 elay ecode eI d 272 (0, [(0, (0, x)), (1, (0, y))], [], w) (fun r w' => ∃ z : Int, r = [(0, z)] ∧ w = w' ∧ ((z = 1 ∧ (-16000 ≤ x ∧ x ≤ 16000) ∧ -16000 ≤ y ∧ y ≤ 16000) ∨ (z = 0 ∧ ¬ ((-16000 ≤ x ∧ x ≤ 16000) ∧ -16000 ≤ y ∧ y ≤ 16000)))) := by
  obtain ⟨d, rfl⟩ : ∃ e, d = e + 1 := ⟨d - 1, by omega⟩
  refine e_Ok.ps3 (x := (4, 16000)) (y := (4, (-16000))) (z := (4, x)) (q := 8) 4 rfl ?_
  refine e_Ok.callS rfl (e_dq hd rfl) rfl rfl (c_266) (fun r1 w2 h3 => ?_)
  obtain ⟨z4, rfl, rfl, q5⟩ := h3
  obtain ⟨rfl, q5⟩ | ⟨rfl, q5⟩ := q5
  · refine e_Ok.nrm (q := 11) (st' := [(0, 1)]) rfl rfl ?_
    refine e_Ok.if1 rfl (fun h6 => ?_) (fun h6 => ?_)
    · replace h6 : (1 : Int) = 0 := h6
      exfalso; omega
    · replace h6 : (1 : Int) ≠ 0 := (show ¬ ((1 : Int) = 0) from h6)
      refine e_Ok.ps3 (x := (4, 16000)) (y := (4, (-16000))) (z := (4, y)) (q := 22) 4 rfl ?_
      refine e_Ok.callS rfl (e_dq hd rfl) rfl rfl (c_266) (fun r7 w8 h9 => ?_)
      obtain ⟨z10, rfl, rfl, q11⟩ := h9
      obtain ⟨rfl, q11⟩ | ⟨rfl, q11⟩ := q11
      · refine e_Ok.nrm (q := 25) (st' := [(0, 1)]) rfl rfl ?_
        refine e_Ok.if1 rfl (fun h12 => ?_) (fun h12 => ?_)
        · replace h12 : (1 : Int) = 0 := h12
          exfalso; omega
        · replace h12 : (1 : Int) ≠ 0 := (show ¬ ((1 : Int) = 0) from h12)
          refine e_Ok.ps1 (x := (0, 1)) (q := 33) 2 rfl ?_
          refine e_Ok.rets rfl rfl ?_
          exact ⟨_, rfl, rfl, Or.inl ⟨rfl, by omega⟩⟩
      · refine e_Ok.nrm (q := 25) (st' := [(0, 0)]) rfl rfl ?_
        refine e_Ok.if1 rfl (fun h13 => ?_) (fun h13 => ?_)
        · replace h13 : (0 : Int) = 0 := h13
          refine e_Ok.ps1 (x := (0, 0)) (q := 33) 1 rfl ?_
          refine e_Ok.rets rfl rfl ?_
          exact ⟨_, rfl, rfl, Or.inr ⟨rfl, by omega⟩⟩
        · replace h13 : (0 : Int) ≠ 0 := (show ¬ ((0 : Int) = 0) from h13)
          exfalso; omega
  · refine e_Ok.nrm (q := 11) (st' := [(0, 0)]) rfl rfl ?_
    refine e_Ok.if1 rfl (fun h14 => ?_) (fun h14 => ?_)
    · replace h14 : (0 : Int) = 0 := h14
      refine e_Ok.ps1 (x := (0, 0)) (q := 33) 1 rfl ?_
      refine e_Ok.rets rfl rfl ?_
      exact ⟨_, rfl, rfl, Or.inr ⟨rfl, by omega⟩⟩
    · replace h14 : (0 : Int) ≠ 0 := (show ¬ ((0 : Int) = 0) from h14)
      exfalso; omega
theorem c_273_ex {d : Nat} (hd : 22 ≤ d) {w : eW} {x y u v : Int} (hu : -2147483648 ≤ u ∧ u ≤ 2147483647) (hv : -2147483648 ≤ v ∧ v ≤ 2147483647) : e_Ok 20 elay ecode eI d 273 (0, [(0, (0, x)), (1, (0, y)), (2, (0, u)), (3, (0, v))], [], w) (fun r w' => ∃ z : Int, r = [(0, z)] ∧ w = w' ∧ ((z = 1 ∧ (-16000 ≤ x ∧ x ≤ 16000) ∧ (-16000 ≤ y ∧ y ≤ 16000) ∧ (0 ≤ u ∧ x + u ≤ 16000) ∧ 0 ≤ v ∧ y + v ≤ 16000) ∨ (z = 0 ∧ ¬ ((-16000 ≤ x ∧ x ≤ 16000) ∧ (-16000 ≤ y ∧ y ≤ 16000) ∧ (0 ≤ u ∧ x + u ≤ 16000) ∧ 0 ≤ v ∧ y + v ≤ 16000)))) := by
  obtain ⟨d, rfl⟩ : ∃ e, d = e + 1 := ⟨d - 1, by omega⟩
  refine e_Ok.ps2 (x := (0, y)) (y := (0, x)) (q := 2) 2 rfl ?_
  refine e_Ok.callS rfl (e_dq hd rfl) rfl rfl (c_272_ex (e_dq hd rfl)) (fun r1 w2 h3 => ?_)
  obtain ⟨z4, rfl, rfl, q5⟩ := h3
  obtain ⟨rfl, q5⟩ | ⟨rfl, q5⟩ := q5
  · refine e_Ok.nrm (q := 5) (st' := [(0, 1)]) rfl rfl ?_
    refine e_Ok.if1 rfl (fun h6 => ?_) (fun h6 => ?_)
    · replace h6 : (1 : Int) = 0 := h6
      exfalso; omega
    · replace h6 : (1 : Int) ≠ 0 := (show ¬ ((1 : Int) = 0) from h6)
      refine e_Ok.ps1 (x := (0, u)) (q := 9) 1 rfl ?_
      refine e_Ok.if1 rfl (fun h7 => ?_) (fun h7 => ?_)
      · replace h7 : (u : Int) < 0 := h7
        refine e_Ok.ps1 (x := (0, 0)) (q := 45) 1 rfl ?_
        refine e_Ok.rets rfl rfl ?_
        exact ⟨_, rfl, rfl, Or.inr ⟨rfl, by omega⟩⟩
      · replace h7 : (u : Int) ≥ 0 := Int.not_lt.mp (show ¬ ((u : Int) < 0) from h7)
        refine e_Ok.ps1 (x := (0, v)) (q := 13) 1 rfl ?_
        refine e_Ok.if1 rfl (fun h8 => ?_) (fun h8 => ?_)
        · replace h8 : (v : Int) < 0 := h8
          refine e_Ok.ps1 (x := (0, 0)) (q := 45) 1 rfl ?_
          refine e_Ok.rets rfl rfl ?_
          exact ⟨_, rfl, rfl, Or.inr ⟨rfl, by omega⟩⟩
        · replace h8 : (v : Int) ≥ 0 := Int.not_lt.mp (show ¬ ((v : Int) < 0) from h8)
          refine e_Ok.ps2 (x := (4, u)) (y := (4, x)) (q := 20) 4 rfl ?_
          refine e_Ok.addL (z := x + u) rfl (by omega) (by omega) ?_
          refine e_Ok.ps1 (x := (4, 16000)) (q := 24) 1 rfl ?_
          refine e_Ok.lcmp rfl (fun z10 z10a z10b z10c => ?_)
          refine e_Ok.if1 rfl (fun h11 => ?_) (fun h11 => ?_)
          · replace h11 : (z10 : Int) > 0 := h11
            refine e_Ok.ps1 (x := (0, 0)) (q := 45) 1 rfl ?_
            refine e_Ok.rets rfl rfl ?_
            exact ⟨_, rfl, rfl, Or.inr ⟨rfl, by omega⟩⟩
          · replace h11 : (z10 : Int) ≤ 0 := Int.not_lt.mp (show ¬ ((z10 : Int) > 0) from h11)
            refine e_Ok.ps2 (x := (4, v)) (y := (4, y)) (q := 32) 4 rfl ?_
            refine e_Ok.addL (z := y + v) rfl (by omega) (by omega) ?_
            refine e_Ok.ps1 (x := (4, 16000)) (q := 36) 1 rfl ?_
            refine e_Ok.lcmp rfl (fun z13 z13a z13b z13c => ?_)
            refine e_Ok.if1 rfl (fun h14 => ?_) (fun h14 => ?_)
            · replace h14 : (z13 : Int) > 0 := h14
              refine e_Ok.ps1 (x := (0, 0)) (q := 45) 1 rfl ?_
              refine e_Ok.rets rfl rfl ?_
              exact ⟨_, rfl, rfl, Or.inr ⟨rfl, by omega⟩⟩
            · replace h14 : (z13 : Int) ≤ 0 := Int.not_lt.mp (show ¬ ((z13 : Int) > 0) from h14)
              refine e_Ok.ps1 (x := (0, 1)) (q := 45) 2 rfl ?_
              refine e_Ok.rets rfl rfl ?_
              exact ⟨_, rfl, rfl, Or.inl ⟨rfl, by omega⟩⟩
  · refine e_Ok.nrm (q := 5) (st' := [(0, 0)]) rfl rfl ?_
    refine e_Ok.if1 rfl (fun h15 => ?_) (fun h15 => ?_)
    · replace h15 : (0 : Int) = 0 := h15
      refine e_Ok.ps1 (x := (0, 0)) (q := 45) 1 rfl ?_
      refine e_Ok.rets rfl rfl ?_
      exact ⟨_, rfl, rfl, Or.inr ⟨rfl, by omega⟩⟩
    · replace h15 : (0 : Int) ≠ 0 := (show ¬ ((0 : Int) = 0) from h15)
      exfalso; omega
theorem c_278_ex {d : Nat} (hd : 24 ≤ d) {w : eW} (hT : e_Has mTy w) {p1 p2 p3 p4 : Int} (g1 : (-2147483648) ≤ p1 ∧ p1 ≤ 2147483647) (g2 : (-2147483648) ≤ p2 ∧ p2 ≤ 2147483647) (g3 : (-2147483648) ≤ p3 ∧ p3 ≤ 2147483647) (g4 : (-2147483648) ≤ p4 ∧ p4 ≤ 2147483647) : e_Ok 20 elay ecode eI d 278 (0, [(0, (1, 275)), (1, (0, p1)), (2, (0, p2)), (3, (0, p3)), (4, (0, p4))], [], w) (fun r w' => ∃ z : Int, r = [(0, z)] ∧ ((w = w' ∧ ((¬ ((-8000 ≤ p1 ∧ p1 ≤ 8000) ∧ (-8000 ≤ p2 ∧ p2 ≤ 8000) ∧ (0 ≤ p3 ∧ p3 ≤ 4095) ∧ (0 ≤ p4 ∧ p4 ≤ 800)) ∧ z = -1) ∨ (((-8000 ≤ p1 ∧ p1 ≤ 8000) ∧ (-8000 ≤ p2 ∧ p2 ≤ 8000) ∧ (0 ≤ p3 ∧ p3 ≤ 4095) ∧ (0 ≤ p4 ∧ p4 ≤ 800)) ∧ ((w 275 3 ≠ 0 ∧ z = -2) ∨ (w 275 3 = 0 ∧ w 275 10 = 4 ∧ z = -3))))) ∨ ((((-8000 ≤ p1 ∧ p1 ≤ 8000) ∧ (-8000 ≤ p2 ∧ p2 ≤ 8000) ∧ (0 ≤ p3 ∧ p3 ≤ 4095) ∧ (0 ≤ p4 ∧ p4 ≤ 800)) ∧ w 275 3 = 0 ∧ ¬ (w 275 10 = 4)) ∧ z = w 275 10 ∧ w' = e_up (e_up (e_up (e_up (e_up w 282 (w 275 10) (p1)) 283 (w 275 10) (p2)) 284 (w 275 10) (p3)) 285 (w 275 10) (p4)) 275 (10) (w 275 10 + 1)))) := by
  obtain ⟨d, rfl⟩ : ∃ e, d = e + 1 := ⟨d - 1, by omega⟩
  have hop := e_Has.get hT (c := 275) (k := 3) (lo := 0) (hi := 1) (mt_o rfl) (by decide)
  have hr := e_Has.get hT (c := 275) (k := 10) (lo := 0) (hi := 4) (mt_o rfl) (by decide)
  refine e_Ok.ps3 (x := (4, 8000)) (y := (4, (-8000))) (z := (4, p1)) (q := 8) 4 rfl ?_
  refine e_Ok.callS rfl (e_dq hd rfl) rfl rfl (c_266) (fun r1 w2 h3 => ?_)
  obtain ⟨z4, rfl, rfl, q5⟩ := h3
  obtain ⟨rfl, q5⟩ | ⟨rfl, q5⟩ := q5
  · refine e_Ok.nrm (q := 11) (st' := [(0, 1)]) rfl rfl ?_
    refine e_Ok.if1 rfl (fun h6 => ?_) (fun h6 => ?_)
    · replace h6 : (1 : Int) = 0 := h6
      exfalso; omega
    · replace h6 : (1 : Int) ≠ 0 := (show ¬ ((1 : Int) = 0) from h6)
      refine e_Ok.ps3 (x := (4, 8000)) (y := (4, (-8000))) (z := (4, p2)) (q := 22) 4 rfl ?_
      refine e_Ok.callS rfl (e_dq hd rfl) rfl rfl (c_266) (fun r7 w8 h9 => ?_)
      obtain ⟨z10, rfl, rfl, q11⟩ := h9
      obtain ⟨rfl, q11⟩ | ⟨rfl, q11⟩ := q11
      · refine e_Ok.nrm (q := 25) (st' := [(0, 1)]) rfl rfl ?_
        refine e_Ok.if1 rfl (fun h12 => ?_) (fun h12 => ?_)
        · replace h12 : (1 : Int) = 0 := h12
          exfalso; omega
        · replace h12 : (1 : Int) ≠ 0 := (show ¬ ((1 : Int) = 0) from h12)
          refine e_Ok.ps3 (x := (4, 4095)) (y := (4, 0)) (z := (4, p3)) (q := 34) 4 rfl ?_
          refine e_Ok.callS rfl (e_dq hd rfl) rfl rfl (c_266) (fun r13 w14 h15 => ?_)
          obtain ⟨z16, rfl, rfl, q17⟩ := h15
          obtain ⟨rfl, q17⟩ | ⟨rfl, q17⟩ := q17
          · refine e_Ok.nrm (q := 37) (st' := [(0, 1)]) rfl rfl ?_
            refine e_Ok.if1 rfl (fun h18 => ?_) (fun h18 => ?_)
            · replace h18 : (1 : Int) = 0 := h18
              exfalso; omega
            · replace h18 : (1 : Int) ≠ 0 := (show ¬ ((1 : Int) = 0) from h18)
              refine e_Ok.ps3 (x := (4, 800)) (y := (4, 0)) (z := (4, p4)) (q := 47) 4 rfl ?_
              refine e_Ok.callS rfl (e_dq hd rfl) rfl rfl (c_266) (fun r19 w20 h21 => ?_)
              obtain ⟨z22, rfl, rfl, q23⟩ := h21
              obtain ⟨rfl, q23⟩ | ⟨rfl, q23⟩ := q23
              · refine e_Ok.nrm (q := 50) (st' := [(0, 1)]) rfl rfl ?_
                refine e_Ok.if1 rfl (fun h24 => ?_) (fun h24 => ?_)
                · replace h24 : (1 : Int) ≠ 0 := h24
                  refine e_Ok.ps1 (x := (1, 275)) (q := 56) 1 rfl ?_
                  refine e_Ok.getf (z := w 275 3) rfl (el_o rfl) rfl (ef_o rfl) rfl (by omega) ?_
                  refine e_Ok.if1 rfl (fun h25 => ?_) (fun h25 => ?_)
                  · replace h25 : (w 275 3 : Int) = 0 := h25
                    refine e_Ok.ps1 (x := (1, 275)) (q := 66) 1 rfl ?_
                    refine e_Ok.getf (z := w 275 10) rfl (el_o rfl) rfl (ef_o rfl) rfl (by omega) ?_
                    refine e_Ok.ps1 (x := (0, 4)) (q := 70) 1 rfl ?_
                    refine e_Ok.if2 rfl (fun h26 => ?_) (fun h26 => ?_)
                    · replace h26 : (w 275 10 : Int) ≠ 4 := h26
                      refine e_Ok.ps1 (x := (1, 275)) (q := 77) 1 rfl ?_
                      refine e_Ok.getr (z := 282) rfl (el_o rfl) rfl (ef_o rfl) (e_Has.eq hT (mt_o rfl)) ⟨by decide, by decide⟩ ?_
                      refine e_Ok.ps1 (x := (1, 275)) (q := 81) 1 rfl ?_
                      refine e_Ok.getf (z := w 275 10) rfl (el_o rfl) rfl (ef_o rfl) rfl (by omega) ?_
                      refine e_Ok.ps1 (x := (0, p1)) (q := 85) 1 rfl ?_
                      refine e_Ok.ast rfl (el_o rfl) rfl rfl (by omega) ?_
                      generalize hw27 : e_up w 282 (w 275 10) p1 = w27
                      refine e_Ok.ps1 (x := (1, 275)) (q := 87) 1 rfl ?_
                      refine e_Ok.getr (z := 283) rfl (el_o rfl) rfl (ef_o rfl) (e_uq hw27 (Or.inl (by decide)) (e_Has.eq hT (mt_o rfl))) ⟨by decide, by decide⟩ ?_
                      refine e_Ok.ps1 (x := (1, 275)) (q := 91) 1 rfl ?_
                      refine e_Ok.getf (z := w 275 10) rfl (el_o rfl) rfl (ef_o rfl) (e_uq hw27 (Or.inl (by decide)) rfl) (by omega) ?_
                      refine e_Ok.ps1 (x := (0, p2)) (q := 95) 1 rfl ?_
                      refine e_Ok.ast rfl (el_o rfl) rfl rfl (by omega) ?_
                      generalize hw28 : e_up w27 283 (w 275 10) p2 = w28
                      refine e_Ok.ps1 (x := (1, 275)) (q := 97) 1 rfl ?_
                      refine e_Ok.getr (z := 284) rfl (el_o rfl) rfl (ef_o rfl) (e_uq hw28 (Or.inl (by decide)) (e_uq hw27 (Or.inl (by decide)) (e_Has.eq hT (mt_o rfl)))) ⟨by decide, by decide⟩ ?_
                      refine e_Ok.ps1 (x := (1, 275)) (q := 101) 1 rfl ?_
                      refine e_Ok.getf (z := w 275 10) rfl (el_o rfl) rfl (ef_o rfl) (e_uq hw28 (Or.inl (by decide)) (e_uq hw27 (Or.inl (by decide)) rfl)) (by omega) ?_
                      refine e_Ok.ps1 (x := (0, p3)) (q := 105) 1 rfl ?_
                      refine e_Ok.ast rfl (el_o rfl) rfl rfl (by omega) ?_
                      generalize hw29 : e_up w28 284 (w 275 10) p3 = w29
                      refine e_Ok.ps1 (x := (1, 275)) (q := 107) 1 rfl ?_
                      refine e_Ok.getr (z := 285) rfl (el_o rfl) rfl (ef_o rfl) (e_uq hw29 (Or.inl (by decide)) (e_uq hw28 (Or.inl (by decide)) (e_uq hw27 (Or.inl (by decide)) (e_Has.eq hT (mt_o rfl))))) ⟨by decide, by decide⟩ ?_
                      refine e_Ok.ps1 (x := (1, 275)) (q := 111) 1 rfl ?_
                      refine e_Ok.getf (z := w 275 10) rfl (el_o rfl) rfl (ef_o rfl) (e_uq hw29 (Or.inl (by decide)) (e_uq hw28 (Or.inl (by decide)) (e_uq hw27 (Or.inl (by decide)) rfl))) (by omega) ?_
                      refine e_Ok.ps1 (x := (0, p4)) (q := 116) 1 rfl ?_
                      refine e_Ok.ast rfl (el_o rfl) rfl rfl (by omega) ?_
                      generalize hw30 : e_up w29 285 (w 275 10) p4 = w30
                      refine e_Ok.ps2 (x := (1, 275)) (y := (1, 275)) (q := 119) 2 rfl ?_
                      refine e_Ok.getf (z := w 275 10) rfl (el_o rfl) rfl (ef_o rfl) (e_uq hw30 (Or.inl (by decide)) (e_uq hw29 (Or.inl (by decide)) (e_uq hw28 (Or.inl (by decide)) (e_uq hw27 (Or.inl (by decide)) rfl)))) (by omega) ?_
                      refine e_Ok.ps1 (x := (0, 1)) (q := 123) 1 rfl ?_
                      refine e_Ok.add (z := w 275 10 + 1) rfl rfl (by omega) ?_
                      refine e_Ok.putf rfl (el_o rfl) rfl (ef_o rfl) ?_
                      generalize hw31 : e_up w30 275 10 (w 275 10 + 1) = w31
                      refine e_Ok.ps1 (x := (1, 275)) (q := 128) 1 rfl ?_
                      refine e_Ok.getf (z := w 275 10 + 1) rfl (el_o rfl) rfl (ef_o rfl) (e_ue hw31) (by omega) ?_
                      refine e_Ok.ps1 (x := (0, 1)) (q := 132) 1 rfl ?_
                      refine e_Ok.sub' (z := w 275 10) rfl (by omega) (by omega) ?_
                      refine e_Ok.rets rfl rfl ?_
                      exact ⟨_, rfl, Or.inr ⟨by omega, by omega, by rw [← hw31, ← hw30, ← hw29, ← hw28, ← hw27]⟩⟩
                    · replace h26 : (w 275 10 : Int) = 4 := Classical.not_not.mp (show ¬ ((w 275 10 : Int) ≠ 4) from h26)
                      refine e_Ok.ps1 (x := (0, (-3))) (q := 75) 1 rfl ?_
                      refine e_Ok.rets rfl rfl ?_
                      exact ⟨_, rfl, Or.inl ⟨rfl, by omega⟩⟩
                  · replace h25 : (w 275 3 : Int) ≠ 0 := (show ¬ ((w 275 3 : Int) = 0) from h25)
                    refine e_Ok.ps1 (x := (0, (-2))) (q := 64) 1 rfl ?_
                    refine e_Ok.rets rfl rfl ?_
                    exact ⟨_, rfl, Or.inl ⟨rfl, by omega⟩⟩
                · replace h24 : (1 : Int) = 0 := Classical.not_not.mp (show ¬ ((1 : Int) ≠ 0) from h24)
                  exfalso; omega
              · refine e_Ok.nrm (q := 50) (st' := [(0, 0)]) rfl rfl ?_
                refine e_Ok.if1 rfl (fun h32 => ?_) (fun h32 => ?_)
                · replace h32 : (0 : Int) ≠ 0 := h32
                  exfalso; omega
                · replace h32 : (0 : Int) = 0 := Classical.not_not.mp (show ¬ ((0 : Int) ≠ 0) from h32)
                  refine e_Ok.ps1 (x := (0, (-1))) (q := 54) 1 rfl ?_
                  refine e_Ok.rets rfl rfl ?_
                  exact ⟨_, rfl, Or.inl ⟨rfl, by omega⟩⟩
          · refine e_Ok.nrm (q := 37) (st' := [(0, 0)]) rfl rfl ?_
            refine e_Ok.if1 rfl (fun h33 => ?_) (fun h33 => ?_)
            · replace h33 : (0 : Int) = 0 := h33
              refine e_Ok.ps1 (x := (0, (-1))) (q := 54) 1 rfl ?_
              refine e_Ok.rets rfl rfl ?_
              exact ⟨_, rfl, Or.inl ⟨rfl, by omega⟩⟩
            · replace h33 : (0 : Int) ≠ 0 := (show ¬ ((0 : Int) = 0) from h33)
              exfalso; omega
      · refine e_Ok.nrm (q := 25) (st' := [(0, 0)]) rfl rfl ?_
        refine e_Ok.if1 rfl (fun h34 => ?_) (fun h34 => ?_)
        · replace h34 : (0 : Int) = 0 := h34
          refine e_Ok.ps1 (x := (0, (-1))) (q := 54) 1 rfl ?_
          refine e_Ok.rets rfl rfl ?_
          exact ⟨_, rfl, Or.inl ⟨rfl, by omega⟩⟩
        · replace h34 : (0 : Int) ≠ 0 := (show ¬ ((0 : Int) = 0) from h34)
          exfalso; omega
  · refine e_Ok.nrm (q := 11) (st' := [(0, 0)]) rfl rfl ?_
    refine e_Ok.if1 rfl (fun h35 => ?_) (fun h35 => ?_)
    · replace h35 : (0 : Int) = 0 := h35
      refine e_Ok.ps1 (x := (0, (-1))) (q := 54) 1 rfl ?_
      refine e_Ok.rets rfl rfl ?_
      exact ⟨_, rfl, Or.inl ⟨rfl, by omega⟩⟩
    · replace h35 : (0 : Int) ≠ 0 := (show ¬ ((0 : Int) = 0) from h35)
      exfalso; omega
theorem c_282_ex {d : Nat} (hd : 24 ≤ d) {w : eW} (hT : e_Has mTy w) {p1 p2 p3 p4 p5 : Int} (g1 : 0 ≤ p1 ∧ p1 ≤ 1) (g2 : (-2147483648) ≤ p2 ∧ p2 ≤ 2147483647) (g3 : (-2147483648) ≤ p3 ∧ p3 ≤ 2147483647) (g4 : (-2147483648) ≤ p4 ∧ p4 ≤ 2147483647) (g5 : (-2147483648) ≤ p5 ∧ p5 ≤ 2147483647) : e_Ok 20 elay ecode eI d 282 (0, [(0, (1, 275)), (1, (0, p1)), (2, (0, p2)), (3, (0, p3)), (4, (0, p4)), (5, (0, p5))], [], w) (fun r w' => ∃ z : Int, r = [(0, z)] ∧ ((w = w' ∧ ((¬ ((0 : Int) ≤ 0) ∧ z = -1) ∨ (((0 : Int) ≤ 0) ∧ ((w 275 3 ≠ 0 ∧ z = -2) ∨ (w 275 3 = 0 ∧ w 275 23 = 16 ∧ z = -3))))) ∨ ((((0 : Int) ≤ 0) ∧ w 275 3 = 0 ∧ ¬ (w 275 23 = 16)) ∧ z = w 275 23 ∧ w' = e_up (e_up (e_up (e_up (e_up (e_up w 294 (w 275 23) (p1)) 295 (w 275 23) (p2)) 296 (w 275 23) (p3)) 297 (w 275 23) (p4)) 298 (w 275 23) (p5)) 275 (23) (w 275 23 + 1)))) := by
  have hop := e_Has.get hT (c := 275) (k := 3) (lo := 0) (hi := 1) (mt_o rfl) (by decide)
  refine e_Ok.ps1 (x := (1, 275)) (q := 1) 1 rfl ?_
  refine e_Ok.getf (z := w 275 3) rfl (el_o rfl) rfl (ef_o rfl) rfl (by omega) ?_
  refine e_Ok.if1 rfl (fun h1 => ?_) (fun h1 => ?_)
  · replace h1 : (w 275 3 : Int) = 0 := h1
    refine e_Ok.ps1 (x := (1, 275)) (q := 11) 1 rfl ?_
    have h2 := (e_Has.get hT (c := 275) (k := 23) (lo := 0) (hi := 16) (mt_o rfl) (by decide))
    refine e_Ok.getf (z := w 275 23) rfl (el_o rfl) rfl (ef_o rfl) rfl (e_bq h2 (by decide) (by decide)) ?_
    refine e_Ok.ps1 (x := (0, 16)) (q := 16) 1 rfl ?_
    refine e_Ok.if2 rfl (fun h3 => ?_) (fun h3 => ?_)
    · replace h3 : (w 275 23 : Int) ≠ 16 := h3
      refine e_Ok.ps1 (x := (1, 275)) (q := 23) 1 rfl ?_
      refine e_Ok.getr (z := 294) rfl (el_o rfl) rfl (ef_o rfl) (e_Has.eq hT (mt_o rfl)) ⟨by decide, by decide⟩ ?_
      refine e_Ok.ps1 (x := (1, 275)) (q := 27) 1 rfl ?_
      refine e_Ok.getf (z := w 275 23) rfl (el_o rfl) rfl (ef_o rfl) rfl (by omega) ?_
      refine e_Ok.ps1 (x := (0, p1)) (q := 31) 1 rfl ?_
      refine e_Ok.ast rfl (el_o rfl) rfl (e_nar_b (by omega)) (by omega) ?_
      generalize hw4 : e_up w 294 (w 275 23) p1 = w4
      refine e_Ok.ps1 (x := (1, 275)) (q := 33) 1 rfl ?_
      refine e_Ok.getr (z := 295) rfl (el_o rfl) rfl (ef_o rfl) (e_uq hw4 (Or.inl (by decide)) (e_Has.eq hT (mt_o rfl))) ⟨by decide, by decide⟩ ?_
      refine e_Ok.ps1 (x := (1, 275)) (q := 37) 1 rfl ?_
      refine e_Ok.getf (z := w 275 23) rfl (el_o rfl) rfl (ef_o rfl) (e_uq hw4 (Or.inl (by decide)) rfl) (by omega) ?_
      refine e_Ok.ps1 (x := (0, p2)) (q := 41) 1 rfl ?_
      refine e_Ok.ast rfl (el_o rfl) rfl rfl (by omega) ?_
      generalize hw5 : e_up w4 295 (w 275 23) p2 = w5
      refine e_Ok.ps1 (x := (1, 275)) (q := 43) 1 rfl ?_
      refine e_Ok.getr (z := 296) rfl (el_o rfl) rfl (ef_o rfl) (e_uq hw5 (Or.inl (by decide)) (e_uq hw4 (Or.inl (by decide)) (e_Has.eq hT (mt_o rfl)))) ⟨by decide, by decide⟩ ?_
      refine e_Ok.ps1 (x := (1, 275)) (q := 47) 1 rfl ?_
      refine e_Ok.getf (z := w 275 23) rfl (el_o rfl) rfl (ef_o rfl) (e_uq hw5 (Or.inl (by decide)) (e_uq hw4 (Or.inl (by decide)) rfl)) (by omega) ?_
      refine e_Ok.ps1 (x := (0, p3)) (q := 51) 1 rfl ?_
      refine e_Ok.ast rfl (el_o rfl) rfl rfl (by omega) ?_
      generalize hw6 : e_up w5 296 (w 275 23) p3 = w6
      refine e_Ok.ps1 (x := (1, 275)) (q := 53) 1 rfl ?_
      refine e_Ok.getr (z := 297) rfl (el_o rfl) rfl (ef_o rfl) (e_uq hw6 (Or.inl (by decide)) (e_uq hw5 (Or.inl (by decide)) (e_uq hw4 (Or.inl (by decide)) (e_Has.eq hT (mt_o rfl))))) ⟨by decide, by decide⟩ ?_
      refine e_Ok.ps1 (x := (1, 275)) (q := 57) 1 rfl ?_
      refine e_Ok.getf (z := w 275 23) rfl (el_o rfl) rfl (ef_o rfl) (e_uq hw6 (Or.inl (by decide)) (e_uq hw5 (Or.inl (by decide)) (e_uq hw4 (Or.inl (by decide)) rfl))) (by omega) ?_
      refine e_Ok.ps1 (x := (0, p4)) (q := 62) 1 rfl ?_
      refine e_Ok.ast rfl (el_o rfl) rfl rfl (by omega) ?_
      generalize hw7 : e_up w6 297 (w 275 23) p4 = w7
      refine e_Ok.ps1 (x := (1, 275)) (q := 64) 1 rfl ?_
      refine e_Ok.getr (z := 298) rfl (el_o rfl) rfl (ef_o rfl) (e_uq hw7 (Or.inl (by decide)) (e_uq hw6 (Or.inl (by decide)) (e_uq hw5 (Or.inl (by decide)) (e_uq hw4 (Or.inl (by decide)) (e_Has.eq hT (mt_o rfl)))))) ⟨by decide, by decide⟩ ?_
      refine e_Ok.ps1 (x := (1, 275)) (q := 68) 1 rfl ?_
      refine e_Ok.getf (z := w 275 23) rfl (el_o rfl) rfl (ef_o rfl) (e_uq hw7 (Or.inl (by decide)) (e_uq hw6 (Or.inl (by decide)) (e_uq hw5 (Or.inl (by decide)) (e_uq hw4 (Or.inl (by decide)) rfl)))) (by omega) ?_
      refine e_Ok.ps1 (x := (0, p5)) (q := 73) 1 rfl ?_
      refine e_Ok.ast rfl (el_o rfl) rfl rfl (by omega) ?_
      generalize hw8 : e_up w7 298 (w 275 23) p5 = w8
      refine e_Ok.ps2 (x := (1, 275)) (y := (1, 275)) (q := 76) 2 rfl ?_
      refine e_Ok.getf (z := w 275 23) rfl (el_o rfl) rfl (ef_o rfl) (e_uq hw8 (Or.inl (by decide)) (e_uq hw7 (Or.inl (by decide)) (e_uq hw6 (Or.inl (by decide)) (e_uq hw5 (Or.inl (by decide)) (e_uq hw4 (Or.inl (by decide)) rfl))))) (by omega) ?_
      refine e_Ok.ps1 (x := (0, 1)) (q := 80) 1 rfl ?_
      refine e_Ok.add (z := w 275 23 + 1) rfl rfl (by omega) ?_
      refine e_Ok.putf rfl (el_o rfl) rfl (ef_o rfl) ?_
      generalize hw9 : e_up w8 275 23 (w 275 23 + 1) = w9
      refine e_Ok.ps1 (x := (1, 275)) (q := 85) 1 rfl ?_
      refine e_Ok.getf (z := w 275 23 + 1) rfl (el_o rfl) rfl (ef_o rfl) (e_ue hw9) (by omega) ?_
      refine e_Ok.ps1 (x := (0, 1)) (q := 89) 1 rfl ?_
      refine e_Ok.sub' (z := w 275 23) rfl (by omega) (by omega) ?_
      refine e_Ok.rets rfl rfl ?_
      exact ⟨_, rfl, Or.inr ⟨by omega, by omega, by rw [← hw9, ← hw8, ← hw7, ← hw6, ← hw5, ← hw4]⟩⟩
    · replace h3 : (w 275 23 : Int) = 16 := Classical.not_not.mp (show ¬ ((w 275 23 : Int) ≠ 16) from h3)
      refine e_Ok.ps1 (x := (0, (-3))) (q := 21) 1 rfl ?_
      refine e_Ok.rets rfl rfl ?_
      exact ⟨_, rfl, Or.inl ⟨rfl, by omega⟩⟩
  · replace h1 : (w 275 3 : Int) ≠ 0 := (show ¬ ((w 275 3 : Int) = 0) from h1)
    refine e_Ok.ps1 (x := (0, (-2))) (q := 9) 1 rfl ?_
    refine e_Ok.rets rfl rfl ?_
    exact ⟨_, rfl, Or.inl ⟨rfl, by omega⟩⟩
theorem c_283_ex {d : Nat} (hd : 26 ≤ d) {w : eW} (hT : e_Has mTy w) {p1 p2 p3 : Int} (g1 : (-2147483648) ≤ p1 ∧ p1 ≤ 2147483647) (g2 : (-2147483648) ≤ p2 ∧ p2 ≤ 2147483647) (g3 : (-2147483648) ≤ p3 ∧ p3 ≤ 2147483647) : e_Ok 20 elay ecode eI d 283 (0, [(0, (1, 275)), (1, (0, p1)), (2, (0, p2)), (3, (0, p3))], [], w) (fun r w' => ∃ z : Int, r = [(0, z)] ∧ ((w = w' ∧ ((¬ ((-16000 ≤ p1 ∧ p1 ≤ 16000) ∧ (-16000 ≤ p2 ∧ p2 ≤ 16000) ∧ 0 ≤ p3 ∧ p3 ≤ 8000) ∧ z = -1) ∨ (((-16000 ≤ p1 ∧ p1 ≤ 16000) ∧ (-16000 ≤ p2 ∧ p2 ≤ 16000) ∧ 0 ≤ p3 ∧ p3 ≤ 8000) ∧ ((w 275 3 ≠ 0 ∧ z = -2) ∨ (w 275 3 = 0 ∧ w 275 23 = 16 ∧ z = -3))))) ∨ ((((-16000 ≤ p1 ∧ p1 ≤ 16000) ∧ (-16000 ≤ p2 ∧ p2 ≤ 16000) ∧ 0 ≤ p3 ∧ p3 ≤ 8000) ∧ w 275 3 = 0 ∧ ¬ (w 275 23 = 16)) ∧ z = w 275 23 ∧ w' = e_up (e_up (e_up (e_up (e_up (e_up w 294 (w 275 23) (0)) 295 (w 275 23) (p1)) 296 (w 275 23) (p2)) 297 (w 275 23) (p3)) 298 (w 275 23) (0)) 275 (23) (w 275 23 + 1)))) := by
  obtain ⟨d, rfl⟩ : ∃ e, d = e + 1 := ⟨d - 1, by omega⟩
  have hop := e_Has.get hT (c := 275) (k := 3) (lo := 0) (hi := 1) (mt_o rfl) (by decide)
  refine e_Ok.ps2 (x := (0, p2)) (y := (0, p1)) (q := 2) 2 rfl ?_
  refine e_Ok.callS rfl (e_dq hd rfl) rfl rfl (c_272_ex (e_dq hd rfl)) (fun r1 w2 h3 => ?_)
  obtain ⟨z4, rfl, rfl, q5⟩ := h3
  obtain ⟨rfl, q5⟩ | ⟨rfl, q5⟩ := q5
  · refine e_Ok.nrm (q := 5) (st' := [(0, 1)]) rfl rfl ?_
    refine e_Ok.if1 rfl (fun h6 => ?_) (fun h6 => ?_)
    · replace h6 : (1 : Int) = 0 := h6
      exfalso; omega
    · replace h6 : (1 : Int) ≠ 0 := (show ¬ ((1 : Int) = 0) from h6)
      refine e_Ok.ps3 (x := (4, 8000)) (y := (4, 0)) (z := (4, p3)) (q := 14) 4 rfl ?_
      refine e_Ok.callS rfl (e_dq hd rfl) rfl rfl (c_266) (fun r7 w8 h9 => ?_)
      obtain ⟨z10, rfl, rfl, q11⟩ := h9
      obtain ⟨rfl, q11⟩ | ⟨rfl, q11⟩ := q11
      · refine e_Ok.nrm (q := 17) (st' := [(0, 1)]) rfl rfl ?_
        refine e_Ok.if1 rfl (fun h12 => ?_) (fun h12 => ?_)
        · replace h12 : (1 : Int) = 0 := h12
          exfalso; omega
        · replace h12 : (1 : Int) ≠ 0 := (show ¬ ((1 : Int) = 0) from h12)
          refine e_Ok.run (t' := (26, [(0, (1, 275)), (1, (0, p1)), (2, (0, p2)), (3, (0, p3))], [(0, 0), (0, p3), (0, p2), (0, p1), (0, 0), (1, 275)], w)) 6 rfl ?_
          refine e_Ok.callV rfl (e_dq hd rfl) rfl rfl rfl rfl (c_282_ex (e_dq hd rfl) hT (by omega) (by omega) (by omega) (by omega) (by omega)) (fun r13 w14 h15 => ?_)
          obtain ⟨z16, rfl, q17⟩ := h15
          refine e_Ok.nrm (q := 29) (st' := [(0, z16)]) rfl rfl ?_
          refine e_Ok.ps0 (q := 33) 1 rfl ?_
          refine e_Ok.rets rfl rfl ?_
          exact ⟨_, rfl, Or.elim q17 (fun h => Or.inl ⟨h.1, by have e := h.2; omega⟩) (fun h => Or.inr ⟨by have e := h.1; omega, h.2.1, h.2.2⟩)⟩
      · refine e_Ok.nrm (q := 17) (st' := [(0, 0)]) rfl rfl ?_
        refine e_Ok.if1 rfl (fun h18 => ?_) (fun h18 => ?_)
        · replace h18 : (0 : Int) = 0 := h18
          refine e_Ok.ps1 (x := (0, (-1))) (q := 33) 1 rfl ?_
          refine e_Ok.rets rfl rfl ?_
          exact ⟨_, rfl, Or.inl ⟨rfl, by omega⟩⟩
        · replace h18 : (0 : Int) ≠ 0 := (show ¬ ((0 : Int) = 0) from h18)
          exfalso; omega
  · refine e_Ok.nrm (q := 5) (st' := [(0, 0)]) rfl rfl ?_
    refine e_Ok.if1 rfl (fun h19 => ?_) (fun h19 => ?_)
    · replace h19 : (0 : Int) = 0 := h19
      refine e_Ok.ps1 (x := (0, (-1))) (q := 33) 1 rfl ?_
      refine e_Ok.rets rfl rfl ?_
      exact ⟨_, rfl, Or.inl ⟨rfl, by omega⟩⟩
    · replace h19 : (0 : Int) ≠ 0 := (show ¬ ((0 : Int) = 0) from h19)
      exfalso; omega
theorem c_284_ex {d : Nat} (hd : 26 ≤ d) {w : eW} (hT : e_Has mTy w) {p1 p2 p3 p4 : Int} (g1 : (-2147483648) ≤ p1 ∧ p1 ≤ 2147483647) (g2 : (-2147483648) ≤ p2 ∧ p2 ≤ 2147483647) (g3 : (-2147483648) ≤ p3 ∧ p3 ≤ 2147483647) (g4 : (-2147483648) ≤ p4 ∧ p4 ≤ 2147483647) : e_Ok 20 elay ecode eI d 284 (0, [(0, (1, 275)), (1, (0, p1)), (2, (0, p2)), (3, (0, p3)), (4, (0, p4))], [], w) (fun r w' => ∃ z : Int, r = [(0, z)] ∧ ((w = w' ∧ ((¬ ((-16000 ≤ p1 ∧ p1 ≤ 16000) ∧ (-16000 ≤ p2 ∧ p2 ≤ 16000) ∧ (0 ≤ p3 ∧ p1 + p3 ≤ 16000) ∧ 0 ≤ p4 ∧ p2 + p4 ≤ 16000) ∧ z = -1) ∨ (((-16000 ≤ p1 ∧ p1 ≤ 16000) ∧ (-16000 ≤ p2 ∧ p2 ≤ 16000) ∧ (0 ≤ p3 ∧ p1 + p3 ≤ 16000) ∧ 0 ≤ p4 ∧ p2 + p4 ≤ 16000) ∧ ((w 275 3 ≠ 0 ∧ z = -2) ∨ (w 275 3 = 0 ∧ w 275 23 = 16 ∧ z = -3))))) ∨ ((((-16000 ≤ p1 ∧ p1 ≤ 16000) ∧ (-16000 ≤ p2 ∧ p2 ≤ 16000) ∧ (0 ≤ p3 ∧ p1 + p3 ≤ 16000) ∧ 0 ≤ p4 ∧ p2 + p4 ≤ 16000) ∧ w 275 3 = 0 ∧ ¬ (w 275 23 = 16)) ∧ z = w 275 23 ∧ w' = e_up (e_up (e_up (e_up (e_up (e_up w 294 (w 275 23) (1)) 295 (w 275 23) (p1)) 296 (w 275 23) (p2)) 297 (w 275 23) (p3)) 298 (w 275 23) (p4)) 275 (23) (w 275 23 + 1)))) := by
  obtain ⟨d, rfl⟩ : ∃ e, d = e + 1 := ⟨d - 1, by omega⟩
  have hop := e_Has.get hT (c := 275) (k := 3) (lo := 0) (hi := 1) (mt_o rfl) (by decide)
  refine e_Ok.ps4 (x := (0, p4)) (y := (0, p3)) (z := (0, p2)) (u := (0, p1)) (q := 5) 4 rfl ?_
  refine e_Ok.callS rfl (e_dq hd rfl) rfl rfl (c_273_ex (e_dq hd rfl) (by omega) (by omega)) (fun r1 w2 h3 => ?_)
  obtain ⟨z4, rfl, rfl, q5⟩ := h3
  obtain ⟨rfl, q5⟩ | ⟨rfl, q5⟩ := q5
  · refine e_Ok.nrm (q := 8) (st' := [(0, 1)]) rfl rfl ?_
    refine e_Ok.if1 rfl (fun h6 => ?_) (fun h6 => ?_)
    · replace h6 : (1 : Int) = 0 := h6
      exfalso; omega
    · replace h6 : (1 : Int) ≠ 0 := (show ¬ ((1 : Int) = 0) from h6)
      refine e_Ok.run (t' := (18, [(0, (1, 275)), (1, (0, p1)), (2, (0, p2)), (3, (0, p3)), (4, (0, p4))], [(0, p4), (0, p3), (0, p2), (0, p1), (0, 1), (1, 275)], w)) 6 rfl ?_
      refine e_Ok.callV rfl (e_dq hd rfl) rfl rfl rfl rfl (c_282_ex (e_dq hd rfl) hT (by omega) (by omega) (by omega) (by omega) (by omega)) (fun r7 w8 h9 => ?_)
      obtain ⟨z10, rfl, q11⟩ := h9
      refine e_Ok.nrm (q := 21) (st' := [(0, z10)]) rfl rfl ?_
      refine e_Ok.ps0 (q := 25) 1 rfl ?_
      refine e_Ok.rets rfl rfl ?_
      exact ⟨_, rfl, Or.elim q11 (fun h => Or.inl ⟨h.1, by have e := h.2; omega⟩) (fun h => Or.inr ⟨by have e := h.1; omega, h.2.1, h.2.2⟩)⟩
  · refine e_Ok.nrm (q := 8) (st' := [(0, 0)]) rfl rfl ?_
    refine e_Ok.if1 rfl (fun h12 => ?_) (fun h12 => ?_)
    · replace h12 : (0 : Int) = 0 := h12
      refine e_Ok.ps1 (x := (0, (-1))) (q := 25) 1 rfl ?_
      refine e_Ok.rets rfl rfl ?_
      exact ⟨_, rfl, Or.inl ⟨rfl, by omega⟩⟩
    · replace h12 : (0 : Int) ≠ 0 := (show ¬ ((0 : Int) = 0) from h12)
      exfalso; omega
end
