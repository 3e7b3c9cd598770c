noncomputable section
/-! the model: what builds a cell, exactly -/
theorem c_272_ex {d : Nat} (hd : 21 ≤ d) {w : eW} {x y : Int} : e_Ok 20 elay ecode eI d 272 (0, [(0, (0, x)), (1, (0, y))], [], w) (fun r w' => ∃ z : Int, r = [(0, z)] ∧ w = w' ∧ ((z = 1 ∧ (-16000 ≤ x ∧ x ≤ 16000) ∧ -16000 ≤ y ∧ y ≤ 16000) ∨ (z = 0 ∧ ¬ ((-16000 ≤ x ∧ x ≤ 16000) ∧ -16000 ≤ y ∧ y ≤ 16000)))) := by
  obtain ⟨d, rfl⟩ : ∃ e, d = e + 1 := ⟨d - 1, by omega⟩
  refine e_Ok.ps3 (x := (4, 16000)) (y := (4, (-16000))) (z := (4, x)) (q := 8) 4 rfl ?_
  refine e_Ok.callS rfl (e_dq hd rfl) rfl rfl (c_266) (fun r1 w2 h3 => ?_)
  obtain ⟨z4, rfl, rfl, q5⟩ := h3
  obtain ⟨rfl, q5⟩ | ⟨rfl, q5⟩ := q5
  · refine e_Ok.nrm (q := 11) (st' := [(0, 1)]) rfl rfl ?_
    refine e_Ok.if1 rfl (fun h6 => ?_) (fun h6 => ?_)
    · replace h6 : (1 : Int) = 0 := h6
      exfalso; omega
    · replace h6 : (1 : Int) ≠ 0 := (show ¬ ((1 : Int) = 0) from h6)
      refine e_Ok.ps3 (x := (4, 16000)) (y := (4, (-16000))) (z := (4, y)) (q := 22) 4 rfl ?_
      refine e_Ok.callS rfl (e_dq hd rfl) rfl rfl (c_266) (fun r7 w8 h9 => ?_)
      obtain ⟨z10, rfl, rfl, q11⟩ := h9
      obtain ⟨rfl, q11⟩ | ⟨rfl, q11⟩ := q11
      · refine e_Ok.nrm (q := 25) (st' := [(0, 1)]) rfl rfl ?_
        refine e_Ok.if1 rfl (fun h12 => ?_) (fun h12 => ?_)
        · replace h12 : (1 : Int) = 0 := h12
          exfalso; omega
        · replace h12 : (1 : Int) ≠ 0 := (show ¬ ((1 : Int) = 0) from h12)
          refine e_Ok.ps1 (x := (0, 1)) (q := 33) 2 rfl ?_
          refine e_Ok.rets rfl rfl ?_
          exact ⟨_, rfl, rfl, Or.inl ⟨rfl, by omega⟩⟩
      · refine e_Ok.nrm (q := 25) (st' := [(0, 0)]) rfl rfl ?_
        refine e_Ok.if1 rfl (fun h13 => ?_) (fun h13 => ?_)
        · replace h13 : (0 : Int) = 0 := h13
          refine e_Ok.ps1 (x := (0, 0)) (q := 33) 1 rfl ?_
          refine e_Ok.rets rfl rfl ?_
          exact ⟨_, rfl, rfl, Or.inr ⟨rfl, by omega⟩⟩
        · replace h13 : (0 : Int) ≠ 0 := (show ¬ ((0 : Int) = 0) from h13)
          exfalso; omega
  · refine e_Ok.nrm (q := 11) (st' := [(0, 0)]) rfl rfl ?_
    refine e_Ok.if1 rfl (fun h14 => ?_) (fun h14 => ?_)
    · replace h14 : (0 : Int) = 0 := h14
      refine e_Ok.ps1 (x := (0, 0)) (q := 33) 1 rfl ?_
      refine e_Ok.rets rfl rfl ?_
      exact ⟨_, rfl, rfl, Or.inr ⟨rfl, by omega⟩⟩
    · replace h14 : (0 : Int) ≠ 0 := (show ¬ ((0 : Int) = 0) from h14)
      exfalso; omega
theorem c_273_ex {d : Nat} (hd : 22 ≤ d) {w : eW} {x y u v : Int} (hu : -2147483648 ≤ u ∧ u ≤ 2147483647) (hv : -2147483648 ≤ v ∧ v ≤ 2147483647) : e_Ok 20 elay ecode eI d 273 (0, [(0, (0, x)), (1, (0, y)), (2, (0, u)), (3, (0, v))], [], w) (fun r w' => ∃ z : Int, r = [(0, z)] ∧ w = w' ∧ ((z = 1 ∧ (-16000 ≤ x ∧ x ≤ 16000) ∧ (-16000 ≤ y ∧ y ≤ 16000) ∧ (0 ≤ u ∧ x + u ≤ 16000) ∧ 0 ≤ v ∧ y + v ≤ 16000) ∨ (z = 0 ∧ ¬ ((-16000 ≤ x ∧ x ≤ 16000) ∧ (-16000 ≤ y ∧ y ≤ 16000) ∧ (0 ≤ u ∧ x + u ≤ 16000) ∧ 0 ≤ v ∧ y + v ≤ 16000)))) := by
  obtain ⟨d, rfl⟩ : ∃ e, d = e + 1 := ⟨d - 1, by omega⟩
  refine e_Ok.ps2 (x := (0, y)) (y := (0, x)) (q := 2) 2 rfl ?_
  refine e_Ok.callS rfl (e_dq hd rfl) rfl rfl (c_272_ex (e_dq hd rfl)) (fun r1 w2 h3 => ?_)
  obtain ⟨z4, rfl, rfl, q5⟩ := h3
  obtain ⟨rfl, q5⟩ | ⟨rfl, q5⟩ := q5
  · refine e_Ok.nrm (q := 5) (st' := [(0, 1)]) rfl rfl ?_
    refine e_Ok.if1 rfl (fun h6 => ?_) (fun h6 => ?_)
    · replace h6 : (1 : Int) = 0 := h6
      exfalso; omega
    · replace h6 : (1 : Int) ≠ 0 := (show ¬ ((1 : Int) = 0) from h6)
      refine e_Ok.ps1 (x := (0, u)) (q := 9) 1 rfl ?_
      refine e_Ok.if1 rfl (fun h7 => ?_) (fun h7 => ?_)
      · replace h7 : (u : Int) < 0 := h7
        refine e_Ok.ps1 (x := (0, 0)) (q := 45) 1 rfl ?_
        refine e_Ok.rets rfl rfl ?_
        exact ⟨_, rfl, rfl, Or.inr ⟨rfl, by omega⟩⟩
      · replace h7 : (u : Int) ≥ 0 := Int.not_lt.mp (show ¬ ((u : Int) < 0) from h7)
        refine e_Ok.ps1 (x := (0, v)) (q := 13) 1 rfl ?_
        refine e_Ok.if1 rfl (fun h8 => ?_) (fun h8 => ?_)
        · replace h8 : (v : Int) < 0 := h8
          refine e_Ok.ps1 (x := (0, 0)) (q := 45) 1 rfl ?_
          refine e_Ok.rets rfl rfl ?_
          exact ⟨_, rfl, rfl, Or.inr ⟨rfl, by omega⟩⟩
        · replace h8 : (v : Int) ≥ 0 := Int.not_lt.mp (show ¬ ((v : Int) < 0) from h8)
          refine e_Ok.ps2 (x := (4, u)) (y := (4, x)) (q := 20) 4 rfl ?_
          refine e_Ok.addL (z := x + u) rfl (by omega) (by omega) ?_
          refine e_Ok.ps1 (x := (4, 16000)) (q := 24) 1 rfl ?_
          refine e_Ok.lcmp rfl (fun z10 z10a z10b z10c => ?_)
          refine e_Ok.if1 rfl (fun h11 => ?_) (fun h11 => ?_)
          · replace h11 : (z10 : Int) > 0 := h11
            refine e_Ok.ps1 (x := (0, 0)) (q := 45) 1 rfl ?_
            refine e_Ok.rets rfl rfl ?_
            exact ⟨_, rfl, rfl, Or.inr ⟨rfl, by omega⟩⟩
          · replace h11 : (z10 : Int) ≤ 0 := Int.not_lt.mp (show ¬ ((z10 : Int) > 0) from h11)
            refine e_Ok.ps2 (x := (4, v)) (y := (4, y)) (q := 32) 4 rfl ?_
            refine e_Ok.addL (z := y + v) rfl (by omega) (by omega) ?_
            refine e_Ok.ps1 (x := (4, 16000)) (q := 36) 1 rfl ?_
            refine e_Ok.lcmp rfl (fun z13 z13a z13b z13c => ?_)
            refine e_Ok.if1 rfl (fun h14 => ?_) (fun h14 => ?_)
            · replace h14 : (z13 : Int) > 0 := h14
              refine e_Ok.ps1 (x := (0, 0)) (q := 45) 1 rfl ?_
              refine e_Ok.rets rfl rfl ?_
              exact ⟨_, rfl, rfl, Or.inr ⟨rfl, by omega⟩⟩
            · replace h14 : (z13 : Int) ≤ 0 := Int.not_lt.mp (show ¬ ((z13 : Int) > 0) from h14)
              refine e_Ok.ps1 (x := (0, 1)) (q := 45) 2 rfl ?_
              refine e_Ok.rets rfl rfl ?_
              exact ⟨_, rfl, rfl, Or.inl ⟨rfl, by omega⟩⟩
  · refine e_Ok.nrm (q := 5) (st' := [(0, 0)]) rfl rfl ?_
    refine e_Ok.if1 rfl (fun h15 => ?_) (fun h15 => ?_)
    · replace h15 : (0 : Int) = 0 := h15
      refine e_Ok.ps1 (x := (0, 0)) (q := 45) 1 rfl ?_
      refine e_Ok.rets rfl rfl ?_
      exact ⟨_, rfl, rfl, Or.inr ⟨rfl, by omega⟩⟩
    · replace h15 : (0 : Int) ≠ 0 := (show ¬ ((0 : Int) = 0) from h15)
      exfalso; omega
theorem c_287_ex {d : Nat} (hd : 24 ≤ d) {w : eW} (hT : e_Has mTy w) {p1 p2 : Int} (g1 : (-2147483648) ≤ p1 ∧ p1 ≤ 2147483647) (g2 : (-2147483648) ≤ p2 ∧ p2 ≤ 2147483647) : e_Ok 20 elay ecode eI d 287 (0, [(0, (1, 275)), (1, (0, p1)), (2, (0, p2))], [], w) (fun r w' => ∃ z : Int, r = [(0, z)] ∧ ((w = w' ∧ ((¬ ((0 ≤ p1 ∧ p1 < w 275 30) ∧ (0 ≤ p2 ∧ p2 ≤ 100)) ∧ z = -1) ∨ (((0 ≤ p1 ∧ p1 < w 275 30) ∧ (0 ≤ p2 ∧ p2 ≤ 100)) ∧ w 275 3 ≠ 0 ∧ z = -2))) ∨ ((((0 ≤ p1 ∧ p1 < w 275 30) ∧ (0 ≤ p2 ∧ p2 ≤ 100)) ∧ w 275 3 = 0) ∧ z = w 304 p1 ∧ w' = e_up w 304 (p1) (p2)))) := by
  obtain ⟨d, rfl⟩ : ∃ e, d = e + 1 := ⟨d - 1, by omega⟩
  have hop := e_Has.get hT (c := 275) (k := 3) (lo := 0) (hi := 1) (mt_o rfl) (by decide)
  refine e_Ok.ps3 (x := (1, 275)) (y := (4, 0)) (z := (4, p1)) (q := 4) 4 rfl ?_
  have h1 := (e_Has.get hT (c := 275) (k := 30) (lo := 0) (hi := 4) (mt_o rfl) (by decide))
  refine e_Ok.getf (z := w 275 30) rfl (el_o rfl) rfl (ef_o rfl) rfl (e_bq h1 (by decide) (by decide)) ?_
  refine e_Ok.ps1 (x := (0, 1)) (q := 8) 1 rfl ?_
  refine e_Ok.sub' (z := w 275 30 - 1) rfl rfl (by omega) ?_
  refine e_Ok.run (t' := (10, [(0, (1, 275)), (1, (0, p1)), (2, (0, p2))], [(4, w 275 30 - 1), (4, 0), (4, p1)], w)) 1 rfl ?_
  refine e_Ok.callS rfl (e_dq hd rfl) rfl rfl (c_266) (fun r2 w3 h4 => ?_)
  obtain ⟨z5, rfl, rfl, q6⟩ := h4
  obtain ⟨rfl, q6⟩ | ⟨rfl, q6⟩ := q6
  · refine e_Ok.nrm (q := 13) (st' := [(0, 1)]) rfl rfl ?_
    refine e_Ok.if1 rfl (fun h7 => ?_) (fun h7 => ?_)
    · replace h7 : (1 : Int) = 0 := h7
      exfalso; omega
    · replace h7 : (1 : Int) ≠ 0 := (show ¬ ((1 : Int) = 0) from h7)
      refine e_Ok.ps3 (x := (4, 100)) (y := (4, 0)) (z := (4, p2)) (q := 22) 4 rfl ?_
      refine e_Ok.callS rfl (e_dq hd rfl) rfl rfl (c_266) (fun r8 w9 h10 => ?_)
      obtain ⟨z11, rfl, rfl, q12⟩ := h10
      obtain ⟨rfl, q12⟩ | ⟨rfl, q12⟩ := q12
      · refine e_Ok.nrm (q := 25) (st' := [(0, 1)]) rfl rfl ?_
        refine e_Ok.if1 rfl (fun h13 => ?_) (fun h13 => ?_)
        · replace h13 : (1 : Int) ≠ 0 := h13
          refine e_Ok.ps1 (x := (1, 275)) (q := 31) 1 rfl ?_
          refine e_Ok.getf (z := w 275 3) rfl (el_o rfl) rfl (ef_o rfl) rfl (by omega) ?_
          refine e_Ok.if1 rfl (fun h14 => ?_) (fun h14 => ?_)
          · replace h14 : (w 275 3 : Int) = 0 := h14
            refine e_Ok.ps1 (x := (1, 275)) (q := 41) 1 rfl ?_
            refine e_Ok.getr (z := 304) rfl (el_o rfl) rfl (ef_o rfl) (e_Has.eq hT (mt_o rfl)) ⟨by decide, by decide⟩ ?_
            refine e_Ok.ps1 (x := (0, p1)) (q := 45) 1 rfl ?_
            have h15 := (e_Has.get hT (c := 304) (k := p1) (lo := 0) (hi := 100) (mt_o rfl) (by decide))
            refine e_Ok.ald (z := w 304 p1) rfl (el_o rfl) rfl (by omega) rfl (e_bq h15 (by decide) (by decide)) ?_
            refine e_Ok.run (t' := (48, [(3, (0, w 304 p1)), (0, (1, 275)), (1, (0, p1)), (2, (0, p2))], [(1, 275)], w)) 2 rfl ?_
            refine e_Ok.getr (z := 304) rfl (el_o rfl) rfl (ef_o rfl) (e_Has.eq hT (mt_o rfl)) ⟨by decide, by decide⟩ ?_
            refine e_Ok.ps2 (x := (0, p2)) (y := (0, p1)) (q := 53) 2 rfl ?_
            refine e_Ok.ast rfl (el_o rfl) rfl rfl (by omega) ?_
            generalize hw16 : e_up w 304 p1 p2 = w16
            refine e_Ok.ps1 (x := (0, w 304 p1)) (q := 55) 1 rfl ?_
            refine e_Ok.rets rfl rfl ?_
            exact ⟨_, rfl, Or.inr ⟨by omega, by omega, by rw [← hw16]⟩⟩
          · replace h14 : (w 275 3 : Int) ≠ 0 := (show ¬ ((w 275 3 : Int) = 0) from h14)
            refine e_Ok.ps1 (x := (0, (-2))) (q := 39) 1 rfl ?_
            refine e_Ok.rets rfl rfl ?_
            exact ⟨_, rfl, Or.inl ⟨rfl, by omega⟩⟩
        · replace h13 : (1 : Int) = 0 := Classical.not_not.mp (show ¬ ((1 : Int) ≠ 0) from h13)
          exfalso; omega
      · refine e_Ok.nrm (q := 25) (st' := [(0, 0)]) rfl rfl ?_
        refine e_Ok.if1 rfl (fun h17 => ?_) (fun h17 => ?_)
        · replace h17 : (0 : Int) ≠ 0 := h17
          exfalso; omega
        · replace h17 : (0 : Int) = 0 := Classical.not_not.mp (show ¬ ((0 : Int) ≠ 0) from h17)
          refine e_Ok.ps1 (x := (0, (-1))) (q := 29) 1 rfl ?_
          refine e_Ok.rets rfl rfl ?_
          exact ⟨_, rfl, Or.inl ⟨rfl, by omega⟩⟩
  · refine e_Ok.nrm (q := 13) (st' := [(0, 0)]) rfl rfl ?_
    refine e_Ok.if1 rfl (fun h18 => ?_) (fun h18 => ?_)
    · replace h18 : (0 : Int) = 0 := h18
      refine e_Ok.ps1 (x := (0, (-1))) (q := 29) 1 rfl ?_
      refine e_Ok.rets rfl rfl ?_
      exact ⟨_, rfl, Or.inl ⟨rfl, by omega⟩⟩
    · replace h18 : (0 : Int) ≠ 0 := (show ¬ ((0 : Int) = 0) from h18)
      exfalso; omega
theorem c_292_ex {d : Nat} (hd : 24 ≤ d) {w : eW} (hT : e_Has mTy w) {p1 p2 : Int} (g1 : (-2147483648) ≤ p1 ∧ p1 ≤ 2147483647) (g2 : (-2147483648) ≤ p2 ∧ p2 ≤ 2147483647) : e_Ok 20 elay ecode eI d 292 (0, [(0, (1, 275)), (1, (0, p1)), (2, (0, p2))], [], w) (fun r w' => ∃ z : Int, r = [(0, z)] ∧ ((w = w' ∧ ((¬ ((0 ≤ p1 ∧ p1 < w 275 42) ∧ (-1 ≤ p2 ∧ p2 ≤ 32000)) ∧ z = -1) ∨ (((0 ≤ p1 ∧ p1 < w 275 42) ∧ (-1 ≤ p2 ∧ p2 ≤ 32000)) ∧ w 275 3 ≠ 0 ∧ z = -2))) ∨ ((((0 ≤ p1 ∧ p1 < w 275 42) ∧ (-1 ≤ p2 ∧ p2 ≤ 32000)) ∧ w 275 3 = 0) ∧ z = w 315 p1 ∧ w' = e_up w 315 (p1) (p2)))) := by
  obtain ⟨d, rfl⟩ : ∃ e, d = e + 1 := ⟨d - 1, by omega⟩
  have hop := e_Has.get hT (c := 275) (k := 3) (lo := 0) (hi := 1) (mt_o rfl) (by decide)
  refine e_Ok.ps3 (x := (1, 275)) (y := (4, 0)) (z := (4, p1)) (q := 4) 4 rfl ?_
  have h1 := (e_Has.get hT (c := 275) (k := 42) (lo := 0) (hi := 8) (mt_o rfl) (by decide))
  refine e_Ok.getf (z := w 275 42) rfl (el_o rfl) rfl (ef_o rfl) rfl (e_bq h1 (by decide) (by decide)) ?_
  refine e_Ok.ps1 (x := (0, 1)) (q := 8) 1 rfl ?_
  refine e_Ok.sub' (z := w 275 42 - 1) rfl rfl (by omega) ?_
  refine e_Ok.run (t' := (10, [(0, (1, 275)), (1, (0, p1)), (2, (0, p2))], [(4, w 275 42 - 1), (4, 0), (4, p1)], w)) 1 rfl ?_
  refine e_Ok.callS rfl (e_dq hd rfl) rfl rfl (c_266) (fun r2 w3 h4 => ?_)
  obtain ⟨z5, rfl, rfl, q6⟩ := h4
  obtain ⟨rfl, q6⟩ | ⟨rfl, q6⟩ := q6
  · refine e_Ok.nrm (q := 13) (st' := [(0, 1)]) rfl rfl ?_
    refine e_Ok.if1 rfl (fun h7 => ?_) (fun h7 => ?_)
    · replace h7 : (1 : Int) = 0 := h7
      exfalso; omega
    · replace h7 : (1 : Int) ≠ 0 := (show ¬ ((1 : Int) = 0) from h7)
      refine e_Ok.ps3 (x := (4, 32000)) (y := (4, (-1))) (z := (4, p2)) (q := 24) 4 rfl ?_
      refine e_Ok.callS rfl (e_dq hd rfl) rfl rfl (c_266) (fun r8 w9 h10 => ?_)
      obtain ⟨z11, rfl, rfl, q12⟩ := h10
      obtain ⟨rfl, q12⟩ | ⟨rfl, q12⟩ := q12
      · refine e_Ok.nrm (q := 27) (st' := [(0, 1)]) rfl rfl ?_
        refine e_Ok.if1 rfl (fun h13 => ?_) (fun h13 => ?_)
        · replace h13 : (1 : Int) ≠ 0 := h13
          refine e_Ok.ps1 (x := (1, 275)) (q := 33) 1 rfl ?_
          refine e_Ok.getf (z := w 275 3) rfl (el_o rfl) rfl (ef_o rfl) rfl (by omega) ?_
          refine e_Ok.if1 rfl (fun h14 => ?_) (fun h14 => ?_)
          · replace h14 : (w 275 3 : Int) = 0 := h14
            refine e_Ok.ps1 (x := (1, 275)) (q := 43) 1 rfl ?_
            refine e_Ok.getr (z := 315) rfl (el_o rfl) rfl (ef_o rfl) (e_Has.eq hT (mt_o rfl)) ⟨by decide, by decide⟩ ?_
            refine e_Ok.ps1 (x := (0, p1)) (q := 47) 1 rfl ?_
            have h15 := (e_Has.get hT (c := 315) (k := p1) (lo := (-2147483648)) (hi := 2147483647) (mt_o rfl) (by decide))
            refine e_Ok.ald (z := w 315 p1) rfl (el_o rfl) rfl (by omega) rfl (e_bq h15 (by decide) (by decide)) ?_
            refine e_Ok.run (t' := (50, [(3, (0, w 315 p1)), (0, (1, 275)), (1, (0, p1)), (2, (0, p2))], [(1, 275)], w)) 2 rfl ?_
            refine e_Ok.getr (z := 315) rfl (el_o rfl) rfl (ef_o rfl) (e_Has.eq hT (mt_o rfl)) ⟨by decide, by decide⟩ ?_
            refine e_Ok.ps2 (x := (0, p2)) (y := (0, p1)) (q := 55) 2 rfl ?_
            refine e_Ok.ast rfl (el_o rfl) rfl rfl (by omega) ?_
            generalize hw16 : e_up w 315 p1 p2 = w16
            refine e_Ok.ps1 (x := (0, w 315 p1)) (q := 57) 1 rfl ?_
            refine e_Ok.rets rfl rfl ?_
            exact ⟨_, rfl, Or.inr ⟨by omega, by omega, by rw [← hw16]⟩⟩
          · replace h14 : (w 275 3 : Int) ≠ 0 := (show ¬ ((w 275 3 : Int) = 0) from h14)
            refine e_Ok.ps1 (x := (0, (-2))) (q := 41) 1 rfl ?_
            refine e_Ok.rets rfl rfl ?_
            exact ⟨_, rfl, Or.inl ⟨rfl, by omega⟩⟩
        · replace h13 : (1 : Int) = 0 := Classical.not_not.mp (show ¬ ((1 : Int) ≠ 0) from h13)
          exfalso; omega
      · refine e_Ok.nrm (q := 27) (st' := [(0, 0)]) rfl rfl ?_
        refine e_Ok.if1 rfl (fun h17 => ?_) (fun h17 => ?_)
        · replace h17 : (0 : Int) ≠ 0 := h17
          exfalso; omega
        · replace h17 : (0 : Int) = 0 := Classical.not_not.mp (show ¬ ((0 : Int) ≠ 0) from h17)
          refine e_Ok.ps1 (x := (0, (-1))) (q := 31) 1 rfl ?_
          refine e_Ok.rets rfl rfl ?_
          exact ⟨_, rfl, Or.inl ⟨rfl, by omega⟩⟩
  · refine e_Ok.nrm (q := 13) (st' := [(0, 0)]) rfl rfl ?_
    refine e_Ok.if1 rfl (fun h18 => ?_) (fun h18 => ?_)
    · replace h18 : (0 : Int) = 0 := h18
      refine e_Ok.ps1 (x := (0, (-1))) (q := 31) 1 rfl ?_
      refine e_Ok.rets rfl rfl ?_
      exact ⟨_, rfl, Or.inl ⟨rfl, by omega⟩⟩
    · replace h18 : (0 : Int) ≠ 0 := (show ¬ ((0 : Int) = 0) from h18)
      exfalso; omega
theorem c_293_ex {d : Nat} (hd : 24 ≤ d) {w : eW} (hT : e_Has mTy w) {p1 : Int} (g1 : (-2147483648) ≤ p1 ∧ p1 ≤ 2147483647) : e_Ok 20 elay ecode eI d 293 (0, [(0, (1, 275)), (1, (0, p1))], [], w) (fun r w' => ∃ z : Int, r = [(0, z)] ∧ ((w = w' ∧ ((¬ ((0 ≤ p1 ∧ p1 ≤ 1000)) ∧ z = -1) ∨ (((0 ≤ p1 ∧ p1 ≤ 1000)) ∧ ((w 275 3 ≠ 0 ∧ z = -2) ∨ (w 275 3 = 0 ∧ w 275 49 = 8 ∧ z = -3))))) ∨ ((((0 ≤ p1 ∧ p1 ≤ 1000)) ∧ w 275 3 = 0 ∧ ¬ (w 275 49 = 8)) ∧ z = w 275 49 ∧ w' = e_up (e_up w 316 (w 275 49) (p1)) 275 (49) (w 275 49 + 1)))) := by
  obtain ⟨d, rfl⟩ : ∃ e, d = e + 1 := ⟨d - 1, by omega⟩
  have hop := e_Has.get hT (c := 275) (k := 3) (lo := 0) (hi := 1) (mt_o rfl) (by decide)
  refine e_Ok.ps3 (x := (4, 1000)) (y := (4, 0)) (z := (4, p1)) (q := 6) 4 rfl ?_
  refine e_Ok.callS rfl (e_dq hd rfl) rfl rfl (c_266) (fun r1 w2 h3 => ?_)
  obtain ⟨z4, rfl, rfl, q5⟩ := h3
  obtain ⟨rfl, q5⟩ | ⟨rfl, q5⟩ := q5
  · refine e_Ok.nrm (q := 9) (st' := [(0, 1)]) rfl rfl ?_
    refine e_Ok.if1 rfl (fun h6 => ?_) (fun h6 => ?_)
    · replace h6 : (1 : Int) ≠ 0 := h6
      refine e_Ok.ps1 (x := (1, 275)) (q := 15) 1 rfl ?_
      refine e_Ok.getf (z := w 275 3) rfl (el_o rfl) rfl (ef_o rfl) rfl (by omega) ?_
      refine e_Ok.if1 rfl (fun h7 => ?_) (fun h7 => ?_)
      · replace h7 : (w 275 3 : Int) = 0 := h7
        refine e_Ok.ps1 (x := (1, 275)) (q := 25) 1 rfl ?_
        have h8 := (e_Has.get hT (c := 275) (k := 49) (lo := 0) (hi := 8) (mt_o rfl) (by decide))
        refine e_Ok.getf (z := w 275 49) rfl (el_o rfl) rfl (ef_o rfl) rfl (e_bq h8 (by decide) (by decide)) ?_
        refine e_Ok.ps1 (x := (0, 8)) (q := 30) 1 rfl ?_
        refine e_Ok.if2 rfl (fun h9 => ?_) (fun h9 => ?_)
        · replace h9 : (w 275 49 : Int) ≠ 8 := h9
          refine e_Ok.ps1 (x := (1, 275)) (q := 37) 1 rfl ?_
          refine e_Ok.getr (z := 316) rfl (el_o rfl) rfl (ef_o rfl) (e_Has.eq hT (mt_o rfl)) ⟨by decide, by decide⟩ ?_
          refine e_Ok.ps1 (x := (1, 275)) (q := 41) 1 rfl ?_
          refine e_Ok.getf (z := w 275 49) rfl (el_o rfl) rfl (ef_o rfl) rfl (by omega) ?_
          refine e_Ok.ps1 (x := (0, p1)) (q := 45) 1 rfl ?_
          refine e_Ok.ast rfl (el_o rfl) rfl rfl (by omega) ?_
          generalize hw10 : e_up w 316 (w 275 49) p1 = w10
          refine e_Ok.ps2 (x := (1, 275)) (y := (1, 275)) (q := 48) 2 rfl ?_
          refine e_Ok.getf (z := w 275 49) rfl (el_o rfl) rfl (ef_o rfl) (e_uq hw10 (Or.inl (by decide)) rfl) (by omega) ?_
          refine e_Ok.ps1 (x := (0, 1)) (q := 52) 1 rfl ?_
          refine e_Ok.add (z := w 275 49 + 1) rfl rfl (by omega) ?_
          refine e_Ok.putf rfl (el_o rfl) rfl (ef_o rfl) ?_
          generalize hw11 : e_up w10 275 49 (w 275 49 + 1) = w11
          refine e_Ok.ps1 (x := (1, 275)) (q := 57) 1 rfl ?_
          refine e_Ok.getf (z := w 275 49 + 1) rfl (el_o rfl) rfl (ef_o rfl) (e_ue hw11) (by omega) ?_
          refine e_Ok.ps1 (x := (0, 1)) (q := 61) 1 rfl ?_
          refine e_Ok.sub' (z := w 275 49) rfl (by omega) (by omega) ?_
          refine e_Ok.rets rfl rfl ?_
          exact ⟨_, rfl, Or.inr ⟨by omega, by omega, by rw [← hw11, ← hw10]⟩⟩
        · replace h9 : (w 275 49 : Int) = 8 := Classical.not_not.mp (show ¬ ((w 275 49 : Int) ≠ 8) from h9)
          refine e_Ok.ps1 (x := (0, (-3))) (q := 35) 1 rfl ?_
          refine e_Ok.rets rfl rfl ?_
          exact ⟨_, rfl, Or.inl ⟨rfl, by omega⟩⟩
      · replace h7 : (w 275 3 : Int) ≠ 0 := (show ¬ ((w 275 3 : Int) = 0) from h7)
        refine e_Ok.ps1 (x := (0, (-2))) (q := 23) 1 rfl ?_
        refine e_Ok.rets rfl rfl ?_
        exact ⟨_, rfl, Or.inl ⟨rfl, by omega⟩⟩
    · replace h6 : (1 : Int) = 0 := Classical.not_not.mp (show ¬ ((1 : Int) ≠ 0) from h6)
      exfalso; omega
  · refine e_Ok.nrm (q := 9) (st' := [(0, 0)]) rfl rfl ?_
    refine e_Ok.if1 rfl (fun h12 => ?_) (fun h12 => ?_)
    · replace h12 : (0 : Int) ≠ 0 := h12
      exfalso; omega
    · replace h12 : (0 : Int) = 0 := Classical.not_not.mp (show ¬ ((0 : Int) ≠ 0) from h12)
      refine e_Ok.ps1 (x := (0, (-1))) (q := 13) 1 rfl ?_
      refine e_Ok.rets rfl rfl ?_
      exact ⟨_, rfl, Or.inl ⟨rfl, by omega⟩⟩
theorem c_291_ex {d : Nat} (hd : 24 ≤ d) {w : eW} (hT : e_Has mTy w) {p1 p2 p3 p4 p5 : Int} (g1 : (-2147483648) ≤ p1 ∧ p1 ≤ 2147483647) (g2 : (-2147483648) ≤ p2 ∧ p2 ≤ 2147483647) (g3 : (-2147483648) ≤ p3 ∧ p3 ≤ 2147483647) (g4 : (-2147483648) ≤ p4 ∧ p4 ≤ 2147483647) (g5 : (-2147483648) ≤ p5 ∧ p5 ≤ 2147483647) : e_Ok 20 elay ecode eI d 291 (0, [(0, (1, 275)), (1, (0, p1)), (2, (0, p2)), (3, (0, p3)), (4, (0, p4)), (5, (0, p5))], [], w) (fun r w' => ∃ z : Int, r = [(0, z)] ∧ ((w = w' ∧ ((¬ ((0 ≤ p1 ∧ p1 < w 275 10) ∧ (-16000 ≤ p2 ∧ p2 ≤ 16000) ∧ (-16000 ≤ p3 ∧ p3 ≤ 16000) ∧ (0 ≤ p4 ∧ p2 + p4 ≤ 16000) ∧ 0 ≤ p5 ∧ p3 + p5 ≤ 16000) ∧ z = -1) ∨ (((0 ≤ p1 ∧ p1 < w 275 10) ∧ (-16000 ≤ p2 ∧ p2 ≤ 16000) ∧ (-16000 ≤ p3 ∧ p3 ≤ 16000) ∧ (0 ≤ p4 ∧ p2 + p4 ≤ 16000) ∧ 0 ≤ p5 ∧ p3 + p5 ≤ 16000) ∧ ((w 275 3 ≠ 0 ∧ z = -2) ∨ (w 275 3 = 0 ∧ w 275 42 = 8 ∧ z = -3))))) ∨ ((((0 ≤ p1 ∧ p1 < w 275 10) ∧ (-16000 ≤ p2 ∧ p2 ≤ 16000) ∧ (-16000 ≤ p3 ∧ p3 ≤ 16000) ∧ (0 ≤ p4 ∧ p2 + p4 ≤ 16000) ∧ 0 ≤ p5 ∧ p3 + p5 ≤ 16000) ∧ w 275 3 = 0 ∧ ¬ (w 275 42 = 8)) ∧ z = w 275 42 ∧ w' = e_up (e_up (e_up (e_up (e_up (e_up (e_up w 310 (w 275 42) (p1)) 311 (w 275 42) (p2)) 312 (w 275 42) (p3)) 313 (w 275 42) (p4)) 314 (w 275 42) (p5)) 315 (w 275 42) (-1)) 275 (42) (w 275 42 + 1)))) := by
  obtain ⟨d, rfl⟩ : ∃ e, d = e + 1 := ⟨d - 1, by omega⟩
  have hop := e_Has.get hT (c := 275) (k := 3) (lo := 0) (hi := 1) (mt_o rfl) (by decide)
  refine e_Ok.ps2 (x := (0, p1)) (y := (1, 275)) (q := 2) 2 rfl ?_
  refine e_Ok.callV rfl (e_dq hd rfl) rfl rfl rfl rfl (c_270 (e_dq hd rfl) hT) (fun r1 w2 h3 => ?_)
  have h4 := e_Has.get hT (c := 275) (k := 10) (lo := 0) (hi := 4) (mt_o rfl) (by decide)
  obtain ⟨z5, rfl, rfl, q6⟩ := h3
  obtain ⟨rfl, q6⟩ | ⟨rfl, q6⟩ := q6
  · refine e_Ok.nrm (q := 5) (st' := [(0, 1)]) rfl rfl ?_
    refine e_Ok.if1 rfl (fun h7 => ?_) (fun h7 => ?_)
    · replace h7 : (1 : Int) = 0 := h7
      exfalso; omega
    · replace h7 : (1 : Int) ≠ 0 := (show ¬ ((1 : Int) = 0) from h7)
      refine e_Ok.ps4 (x := (0, p5)) (y := (0, p4)) (z := (0, p3)) (u := (0, p2)) (q := 14) 4 rfl ?_
      refine e_Ok.callS rfl (e_dq hd rfl) rfl rfl (c_273_ex (e_dq hd rfl) (by omega) (by omega)) (fun r8 w9 h10 => ?_)
      obtain ⟨z11, rfl, rfl, q12⟩ := h10
      obtain ⟨rfl, q12⟩ | ⟨rfl, q12⟩ := q12
      · refine e_Ok.nrm (q := 17) (st' := [(0, 1)]) rfl rfl ?_
        refine e_Ok.if1 rfl (fun h13 => ?_) (fun h13 => ?_)
        · replace h13 : (1 : Int) ≠ 0 := h13
          refine e_Ok.ps1 (x := (1, 275)) (q := 23) 1 rfl ?_
          refine e_Ok.getf (z := w 275 3) rfl (el_o rfl) rfl (ef_o rfl) rfl (by omega) ?_
          refine e_Ok.if1 rfl (fun h14 => ?_) (fun h14 => ?_)
          · replace h14 : (w 275 3 : Int) = 0 := h14
            refine e_Ok.ps1 (x := (1, 275)) (q := 33) 1 rfl ?_
            have h15 := (e_Has.get hT (c := 275) (k := 42) (lo := 0) (hi := 8) (mt_o rfl) (by decide))
            refine e_Ok.getf (z := w 275 42) rfl (el_o rfl) rfl (ef_o rfl) rfl (e_bq h15 (by decide) (by decide)) ?_
            refine e_Ok.ps1 (x := (0, 8)) (q := 38) 1 rfl ?_
            refine e_Ok.if2 rfl (fun h16 => ?_) (fun h16 => ?_)
            · replace h16 : (w 275 42 : Int) ≠ 8 := h16
              refine e_Ok.ps1 (x := (1, 275)) (q := 45) 1 rfl ?_
              refine e_Ok.getr (z := 310) rfl (el_o rfl) rfl (ef_o rfl) (e_Has.eq hT (mt_o rfl)) ⟨by decide, by decide⟩ ?_
              refine e_Ok.ps1 (x := (1, 275)) (q := 49) 1 rfl ?_
              refine e_Ok.getf (z := w 275 42) rfl (el_o rfl) rfl (ef_o rfl) rfl (by omega) ?_
              refine e_Ok.ps1 (x := (0, p1)) (q := 53) 1 rfl ?_
              refine e_Ok.ast rfl (el_o rfl) rfl rfl (by omega) ?_
              generalize hw17 : e_up w 310 (w 275 42) p1 = w17
              refine e_Ok.ps1 (x := (1, 275)) (q := 55) 1 rfl ?_
              refine e_Ok.getr (z := 311) rfl (el_o rfl) rfl (ef_o rfl) (e_uq hw17 (Or.inl (by decide)) (e_Has.eq hT (mt_o rfl))) ⟨by decide, by decide⟩ ?_
              refine e_Ok.ps1 (x := (1, 275)) (q := 59) 1 rfl ?_
              refine e_Ok.getf (z := w 275 42) rfl (el_o rfl) rfl (ef_o rfl) (e_uq hw17 (Or.inl (by decide)) rfl) (by omega) ?_
              refine e_Ok.ps1 (x := (0, p2)) (q := 63) 1 rfl ?_
              refine e_Ok.ast rfl (el_o rfl) rfl rfl (by omega) ?_
              generalize hw18 : e_up w17 311 (w 275 42) p2 = w18
              refine e_Ok.ps1 (x := (1, 275)) (q := 65) 1 rfl ?_
              refine e_Ok.getr (z := 312) rfl (el_o rfl) rfl (ef_o rfl) (e_uq hw18 (Or.inl (by decide)) (e_uq hw17 (Or.inl (by decide)) (e_Has.eq hT (mt_o rfl)))) ⟨by decide, by decide⟩ ?_
              refine e_Ok.ps1 (x := (1, 275)) (q := 69) 1 rfl ?_
              refine e_Ok.getf (z := w 275 42) rfl (el_o rfl) rfl (ef_o rfl) (e_uq hw18 (Or.inl (by decide)) (e_uq hw17 (Or.inl (by decide)) rfl)) (by omega) ?_
              refine e_Ok.ps1 (x := (0, p3)) (q := 73) 1 rfl ?_
              refine e_Ok.ast rfl (el_o rfl) rfl rfl (by omega) ?_
              generalize hw19 : e_up w18 312 (w 275 42) p3 = w19
              refine e_Ok.ps1 (x := (1, 275)) (q := 75) 1 rfl ?_
              refine e_Ok.getr (z := 313) rfl (el_o rfl) rfl (ef_o rfl) (e_uq hw19 (Or.inl (by decide)) (e_uq hw18 (Or.inl (by decide)) (e_uq hw17 (Or.inl (by decide)) (e_Has.eq hT (mt_o rfl))))) ⟨by decide, by decide⟩ ?_
              refine e_Ok.ps1 (x := (1, 275)) (q := 79) 1 rfl ?_
              refine e_Ok.getf (z := w 275 42) rfl (el_o rfl) rfl (ef_o rfl) (e_uq hw19 (Or.inl (by decide)) (e_uq hw18 (Or.inl (by decide)) (e_uq hw17 (Or.inl (by decide)) rfl))) (by omega) ?_
              refine e_Ok.ps1 (x := (0, p4)) (q := 84) 1 rfl ?_
              refine e_Ok.ast rfl (el_o rfl) rfl rfl (by omega) ?_
              generalize hw20 : e_up w19 313 (w 275 42) p4 = w20
              refine e_Ok.ps1 (x := (1, 275)) (q := 86) 1 rfl ?_
              refine e_Ok.getr (z := 314) rfl (el_o rfl) rfl (ef_o rfl) (e_uq hw20 (Or.inl (by decide)) (e_uq hw19 (Or.inl (by decide)) (e_uq hw18 (Or.inl (by decide)) (e_uq hw17 (Or.inl (by decide)) (e_Has.eq hT (mt_o rfl)))))) ⟨by decide, by decide⟩ ?_
              refine e_Ok.ps1 (x := (1, 275)) (q := 90) 1 rfl ?_
              refine e_Ok.getf (z := w 275 42) rfl (el_o rfl) rfl (ef_o rfl) (e_uq hw20 (Or.inl (by decide)) (e_uq hw19 (Or.inl (by decide)) (e_uq hw18 (Or.inl (by decide)) (e_uq hw17 (Or.inl (by decide)) rfl)))) (by omega) ?_
              refine e_Ok.ps1 (x := (0, p5)) (q := 95) 1 rfl ?_
              refine e_Ok.ast rfl (el_o rfl) rfl rfl (by omega) ?_
              generalize hw21 : e_up w20 314 (w 275 42) p5 = w21
              refine e_Ok.ps1 (x := (1, 275)) (q := 97) 1 rfl ?_
              refine e_Ok.getr (z := 315) rfl (el_o rfl) rfl (ef_o rfl) (e_uq hw21 (Or.inl (by decide)) (e_uq hw20 (Or.inl (by decide)) (e_uq hw19 (Or.inl (by decide)) (e_uq hw18 (Or.inl (by decide)) (e_uq hw17 (Or.inl (by decide)) (e_Has.eq hT (mt_o rfl))))))) ⟨by decide, by decide⟩ ?_
              refine e_Ok.ps1 (x := (1, 275)) (q := 101) 1 rfl ?_
              refine e_Ok.getf (z := w 275 42) rfl (el_o rfl) rfl (ef_o rfl) (e_uq hw21 (Or.inl (by decide)) (e_uq hw20 (Or.inl (by decide)) (e_uq hw19 (Or.inl (by decide)) (e_uq hw18 (Or.inl (by decide)) (e_uq hw17 (Or.inl (by decide)) rfl))))) (by omega) ?_
              refine e_Ok.ps1 (x := (0, (-1))) (q := 105) 1 rfl ?_
              refine e_Ok.ast rfl (el_o rfl) rfl rfl (by omega) ?_
              generalize hw22 : e_up w21 315 (w 275 42) (-1) = w22
              refine e_Ok.ps2 (x := (1, 275)) (y := (1, 275)) (q := 108) 2 rfl ?_
              refine e_Ok.getf (z := w 275 42) rfl (el_o rfl) rfl (ef_o rfl) (e_uq hw22 (Or.inl (by decide)) (e_uq hw21 (Or.inl (by decide)) (e_uq hw20 (Or.inl (by decide)) (e_uq hw19 (Or.inl (by decide)) (e_uq hw18 (Or.inl (by decide)) (e_uq hw17 (Or.inl (by decide)) rfl)))))) (by omega) ?_
              refine e_Ok.ps1 (x := (0, 1)) (q := 112) 1 rfl ?_
              refine e_Ok.add (z := w 275 42 + 1) rfl rfl (by omega) ?_
              refine e_Ok.putf rfl (el_o rfl) rfl (ef_o rfl) ?_
              generalize hw23 : e_up w22 275 42 (w 275 42 + 1) = w23
              refine e_Ok.ps1 (x := (1, 275)) (q := 117) 1 rfl ?_
              refine e_Ok.getf (z := w 275 42 + 1) rfl (el_o rfl) rfl (ef_o rfl) (e_ue hw23) (by omega) ?_
              refine e_Ok.ps1 (x := (0, 1)) (q := 121) 1 rfl ?_
              refine e_Ok.sub' (z := w 275 42) rfl (by omega) (by omega) ?_
              refine e_Ok.rets rfl rfl ?_
              exact ⟨_, rfl, Or.inr ⟨by omega, by omega, by rw [← hw23, ← hw22, ← hw21, ← hw20, ← hw19, ← hw18, ← hw17]⟩⟩
            · replace h16 : (w 275 42 : Int) = 8 := Classical.not_not.mp (show ¬ ((w 275 42 : Int) ≠ 8) from h16)
              refine e_Ok.ps1 (x := (0, (-3))) (q := 43) 1 rfl ?_
              refine e_Ok.rets rfl rfl ?_
              exact ⟨_, rfl, Or.inl ⟨rfl, by omega⟩⟩
          · replace h14 : (w 275 3 : Int) ≠ 0 := (show ¬ ((w 275 3 : Int) = 0) from h14)
            refine e_Ok.ps1 (x := (0, (-2))) (q := 31) 1 rfl ?_
            refine e_Ok.rets rfl rfl ?_
            exact ⟨_, rfl, Or.inl ⟨rfl, by omega⟩⟩
        · replace h13 : (1 : Int) = 0 := Classical.not_not.mp (show ¬ ((1 : Int) ≠ 0) from h13)
          exfalso; omega
      · refine e_Ok.nrm (q := 17) (st' := [(0, 0)]) rfl rfl ?_
        refine e_Ok.if1 rfl (fun h24 => ?_) (fun h24 => ?_)
        · replace h24 : (0 : Int) ≠ 0 := h24
          exfalso; omega
        · replace h24 : (0 : Int) = 0 := Classical.not_not.mp (show ¬ ((0 : Int) ≠ 0) from h24)
          refine e_Ok.ps1 (x := (0, (-1))) (q := 21) 1 rfl ?_
          refine e_Ok.rets rfl rfl ?_
          exact ⟨_, rfl, Or.inl ⟨rfl, by omega⟩⟩
  · refine e_Ok.nrm (q := 5) (st' := [(0, 0)]) rfl rfl ?_
    refine e_Ok.if1 rfl (fun h25 => ?_) (fun h25 => ?_)
    · replace h25 : (0 : Int) = 0 := h25
      refine e_Ok.ps1 (x := (0, (-1))) (q := 21) 1 rfl ?_
      refine e_Ok.rets rfl rfl ?_
      exact ⟨_, rfl, Or.inl ⟨rfl, by omega⟩⟩
    · replace h25 : (0 : Int) ≠ 0 := (show ¬ ((0 : Int) = 0) from h25)
      exfalso; omega
set_option maxHeartbeats 4000000 in
theorem c_286_ex {d : Nat} (hd : 24 ≤ d) {w : eW} (hT : e_Has mTy w) {p1 p2 p3 p4 p5 : Int} (g1 : (-2147483648) ≤ p1 ∧ p1 ≤ 2147483647) (g2 : (-2147483648) ≤ p2 ∧ p2 ≤ 2147483647) (g3 : (-2147483648) ≤ p3 ∧ p3 ≤ 2147483647) (g4 : (-2147483648) ≤ p4 ∧ p4 ≤ 2147483647) (g5 : (-2147483648) ≤ p5 ∧ p5 ≤ 2147483647) : e_Ok 20 elay ecode eI d 286 (0, [(0, (1, 275)), (1, (0, p1)), (2, (0, p2)), (3, (0, p3)), (4, (0, p4)), (5, (0, p5))], [], w) (fun r w' => ∃ z : Int, r = [(0, z)] ∧ ((w = w' ∧ ((¬ ((-16000 ≤ p1 ∧ p1 ≤ 16000) ∧ (-16000 ≤ p2 ∧ p2 ≤ 16000) ∧ (0 ≤ p3 ∧ p3 ≤ 3) ∧ (0 ≤ p4 ∧ p4 ≤ 16000) ∧ (0 ≤ p5 ∧ p5 ≤ 2000) ∧ (p3 = 0 → p1 + p4 ≤ 16000) ∧ (p3 = 1 → p2 + p4 ≤ 16000) ∧ (p3 = 2 → -16000 ≤ p1 - p4) ∧ (p3 = 3 → -16000 ≤ p2 - p4)) ∧ z = -1) ∨ (((-16000 ≤ p1 ∧ p1 ≤ 16000) ∧ (-16000 ≤ p2 ∧ p2 ≤ 16000) ∧ (0 ≤ p3 ∧ p3 ≤ 3) ∧ (0 ≤ p4 ∧ p4 ≤ 16000) ∧ (0 ≤ p5 ∧ p5 ≤ 2000) ∧ (p3 = 0 → p1 + p4 ≤ 16000) ∧ (p3 = 1 → p2 + p4 ≤ 16000) ∧ (p3 = 2 → -16000 ≤ p1 - p4) ∧ (p3 = 3 → -16000 ≤ p2 - p4)) ∧ ((w 275 3 ≠ 0 ∧ z = -2) ∨ (w 275 3 = 0 ∧ w 275 30 = 4 ∧ z = -3))))) ∨ ((((-16000 ≤ p1 ∧ p1 ≤ 16000) ∧ (-16000 ≤ p2 ∧ p2 ≤ 16000) ∧ (0 ≤ p3 ∧ p3 ≤ 3) ∧ (0 ≤ p4 ∧ p4 ≤ 16000) ∧ (0 ≤ p5 ∧ p5 ≤ 2000) ∧ (p3 = 0 → p1 + p4 ≤ 16000) ∧ (p3 = 1 → p2 + p4 ≤ 16000) ∧ (p3 = 2 → -16000 ≤ p1 - p4) ∧ (p3 = 3 → -16000 ≤ p2 - p4)) ∧ w 275 3 = 0 ∧ ¬ (w 275 30 = 4)) ∧ z = w 275 30 ∧ w' = e_up (e_up (e_up (e_up (e_up (e_up (e_up (e_up w 300 (w 275 30) (p1)) 301 (w 275 30) (p2)) 302 (w 275 30) (p3)) 303 (w 275 30) (p4)) 304 (w 275 30) (0)) 306 (w 275 30) (-1)) 305 (w 275 30) (p5)) 275 (30) (w 275 30 + 1)))) := by
  obtain ⟨d, rfl⟩ : ∃ e, d = e + 1 := ⟨d - 1, by omega⟩
  have hop := e_Has.get hT (c := 275) (k := 3) (lo := 0) (hi := 1) (mt_o rfl) (by decide)
  refine e_Ok.ps2 (x := (0, p2)) (y := (0, p1)) (q := 2) 2 rfl ?_
  refine e_Ok.callS rfl (e_dq hd rfl) rfl rfl (c_272_ex (e_dq hd rfl)) (fun r1 w2 h3 => ?_)
  obtain ⟨z4, rfl, rfl, q5⟩ := h3
  obtain ⟨rfl, q5⟩ | ⟨rfl, q5⟩ := q5
  · refine e_Ok.nrm (q := 5) (st' := [(0, 1)]) rfl rfl ?_
    refine e_Ok.if1 rfl (fun h6 => ?_) (fun h6 => ?_)
    · replace h6 : (1 : Int) = 0 := h6
      exfalso; omega
    · replace h6 : (1 : Int) ≠ 0 := (show ¬ ((1 : Int) = 0) from h6)
      refine e_Ok.ps3 (x := (4, 3)) (y := (4, 0)) (z := (4, p3)) (q := 14) 4 rfl ?_
      refine e_Ok.callS rfl (e_dq hd rfl) rfl rfl (c_266) (fun r7 w8 h9 => ?_)
      obtain ⟨z10, rfl, rfl, q11⟩ := h9
      obtain ⟨rfl, q11⟩ | ⟨rfl, q11⟩ := q11
      · refine e_Ok.nrm (q := 17) (st' := [(0, 1)]) rfl rfl ?_
        refine e_Ok.if1 rfl (fun h12 => ?_) (fun h12 => ?_)
        · replace h12 : (1 : Int) = 0 := h12
          exfalso; omega
        · replace h12 : (1 : Int) ≠ 0 := (show ¬ ((1 : Int) = 0) from h12)
          refine e_Ok.ps3 (x := (4, 16000)) (y := (4, 0)) (z := (4, p4)) (q := 27) 4 rfl ?_
          refine e_Ok.callS rfl (e_dq hd rfl) rfl rfl (c_266) (fun r13 w14 h15 => ?_)
          obtain ⟨z16, rfl, rfl, q17⟩ := h15
          obtain ⟨rfl, q17⟩ | ⟨rfl, q17⟩ := q17
          · refine e_Ok.nrm (q := 30) (st' := [(0, 1)]) rfl rfl ?_
            refine e_Ok.if1 rfl (fun h18 => ?_) (fun h18 => ?_)
            · replace h18 : (1 : Int) = 0 := h18
              exfalso; omega
            · replace h18 : (1 : Int) ≠ 0 := (show ¬ ((1 : Int) = 0) from h18)
              refine e_Ok.ps3 (x := (4, 2000)) (y := (4, 0)) (z := (4, p5)) (q := 40) 4 rfl ?_
              refine e_Ok.callS rfl (e_dq hd rfl) rfl rfl (c_266) (fun r19 w20 h21 => ?_)
              obtain ⟨z22, rfl, rfl, q23⟩ := h21
              obtain ⟨rfl, q23⟩ | ⟨rfl, q23⟩ := q23
              · refine e_Ok.nrm (q := 43) (st' := [(0, 1)]) rfl rfl ?_
                refine e_Ok.if1 rfl (fun h24 => ?_) (fun h24 => ?_)
                · replace h24 : (1 : Int) ≠ 0 := h24
                  refine e_Ok.ps2 (x := (0, 2)) (y := (0, p3)) (q := 50) 2 rfl ?_
                  refine e_Ok.if2 rfl (fun h25 => ?_) (fun h25 => ?_)
                  · replace h25 : (p3 : Int) ≥ 2 := h25
                    refine e_Ok.ps1 (x := (0, p4)) (q := 60) 1 rfl ?_
                    refine e_Ok.neg (z := -p4) rfl (by omega) (by omega) ?_
                    refine e_Ok.run (t' := (65, [(6, (0, -p4)), (0, (1, 275)), (1, (0, p1)), (2, (0, p2)), (3, (0, p3)), (4, (0, p4)), (5, (0, p5))], [(0, 2), (0, p3)], w)) 3 rfl ?_
                    refine e_Ok.remn (fun z26 hz26 => ?_) rfl (by omega) (by omega)
                    replace hz26 : z26 = p3 % 2 := hz26
                    have z26r : 0 ≤ z26 ∧ z26 ≤ 1 := by omega
                    refine e_Ok.if1 rfl (fun h27 => ?_) (fun h27 => ?_)
                    · replace h27 : (z26 : Int) ≠ 0 := h27
                      refine e_Ok.ps3 (x := (0, 2)) (y := (0, p3)) (z := (0, p1)) (q := 79) 3 rfl ?_
                      refine e_Ok.remn (fun z28 hz28 => ?_) rfl (by omega) (by omega)
                      replace hz28 : z28 = p3 % 2 := hz28
                      have z28r : 0 ≤ z28 ∧ z28 ≤ 1 := by omega
                      refine e_Ok.if1 rfl (fun h29 => ?_) (fun h29 => ?_)
                      · replace h29 : (z28 : Int) ≠ 0 := h29
                        refine e_Ok.ps2 (x := (0, -p4)) (y := (0, p2)) (q := 90) 2 rfl ?_
                        refine e_Ok.add (z := p2 - p4) rfl (by omega) (by omega) ?_
                        refine e_Ok.callS rfl (e_dq hd rfl) rfl rfl (c_272_ex (e_dq hd rfl)) (fun r30 w31 h32 => ?_)
                        obtain ⟨z33, rfl, rfl, q34⟩ := h32
                        obtain ⟨rfl, q34⟩ | ⟨rfl, q34⟩ := q34
                        · refine e_Ok.nrm (q := 94) (st' := [(0, 1)]) rfl rfl ?_
                          refine e_Ok.if1 rfl (fun h35 => ?_) (fun h35 => ?_)
                          · replace h35 : (1 : Int) ≠ 0 := h35
                            refine e_Ok.ps1 (x := (1, 275)) (q := 100) 1 rfl ?_
                            refine e_Ok.getf (z := w 275 3) rfl (el_o rfl) rfl (ef_o rfl) rfl (by omega) ?_
                            refine e_Ok.if1 rfl (fun h36 => ?_) (fun h36 => ?_)
                            · replace h36 : (w 275 3 : Int) = 0 := h36
                              refine e_Ok.ps1 (x := (1, 275)) (q := 110) 1 rfl ?_
                              have h37 := (e_Has.get hT (c := 275) (k := 30) (lo := 0) (hi := 4) (mt_o rfl) (by decide))
                              refine e_Ok.getf (z := w 275 30) rfl (el_o rfl) rfl (ef_o rfl) rfl (e_bq h37 (by decide) (by decide)) ?_
                              refine e_Ok.ps1 (x := (0, 4)) (q := 114) 1 rfl ?_
                              refine e_Ok.if2 rfl (fun h38 => ?_) (fun h38 => ?_)
                              · replace h38 : (w 275 30 : Int) ≠ 4 := h38
                                refine e_Ok.ps1 (x := (1, 275)) (q := 121) 1 rfl ?_
                                refine e_Ok.getr (z := 300) rfl (el_o rfl) rfl (ef_o rfl) (e_Has.eq hT (mt_o rfl)) ⟨by decide, by decide⟩ ?_
                                refine e_Ok.ps1 (x := (1, 275)) (q := 125) 1 rfl ?_
                                refine e_Ok.getf (z := w 275 30) rfl (el_o rfl) rfl (ef_o rfl) rfl (by omega) ?_
                                refine e_Ok.ps1 (x := (0, p1)) (q := 129) 1 rfl ?_
                                refine e_Ok.ast rfl (el_o rfl) rfl rfl (by omega) ?_
                                generalize hw40 : e_up w 300 (w 275 30) p1 = w40
                                refine e_Ok.ps1 (x := (1, 275)) (q := 131) 1 rfl ?_
                                refine e_Ok.getr (z := 301) rfl (el_o rfl) rfl (ef_o rfl) (e_uq hw40 (Or.inl (by decide)) (e_Has.eq hT (mt_o rfl))) ⟨by decide, by decide⟩ ?_
                                refine e_Ok.ps1 (x := (1, 275)) (q := 135) 1 rfl ?_
                                refine e_Ok.getf (z := w 275 30) rfl (el_o rfl) rfl (ef_o rfl) (e_uq hw40 (Or.inl (by decide)) rfl) (by omega) ?_
                                refine e_Ok.ps1 (x := (0, p2)) (q := 139) 1 rfl ?_
                                refine e_Ok.ast rfl (el_o rfl) rfl rfl (by omega) ?_
                                generalize hw41 : e_up w40 301 (w 275 30) p2 = w41
                                refine e_Ok.ps1 (x := (1, 275)) (q := 141) 1 rfl ?_
                                refine e_Ok.getr (z := 302) rfl (el_o rfl) rfl (ef_o rfl) (e_uq hw41 (Or.inl (by decide)) (e_uq hw40 (Or.inl (by decide)) (e_Has.eq hT (mt_o rfl)))) ⟨by decide, by decide⟩ ?_
                                refine e_Ok.ps1 (x := (1, 275)) (q := 145) 1 rfl ?_
                                refine e_Ok.getf (z := w 275 30) rfl (el_o rfl) rfl (ef_o rfl) (e_uq hw41 (Or.inl (by decide)) (e_uq hw40 (Or.inl (by decide)) rfl)) (by omega) ?_
                                refine e_Ok.ps1 (x := (0, p3)) (q := 149) 1 rfl ?_
                                refine e_Ok.ast rfl (el_o rfl) rfl rfl (by omega) ?_
                                generalize hw42 : e_up w41 302 (w 275 30) p3 = w42
                                refine e_Ok.ps1 (x := (1, 275)) (q := 151) 1 rfl ?_
                                refine e_Ok.getr (z := 303) rfl (el_o rfl) rfl (ef_o rfl) (e_uq hw42 (Or.inl (by decide)) (e_uq hw41 (Or.inl (by decide)) (e_uq hw40 (Or.inl (by decide)) (e_Has.eq hT (mt_o rfl))))) ⟨by decide, by decide⟩ ?_
                                refine e_Ok.ps1 (x := (1, 275)) (q := 155) 1 rfl ?_
                                refine e_Ok.getf (z := w 275 30) rfl (el_o rfl) rfl (ef_o rfl) (e_uq hw42 (Or.inl (by decide)) (e_uq hw41 (Or.inl (by decide)) (e_uq hw40 (Or.inl (by decide)) rfl))) (by omega) ?_
                                refine e_Ok.ps1 (x := (0, p4)) (q := 160) 1 rfl ?_
                                refine e_Ok.ast rfl (el_o rfl) rfl rfl (by omega) ?_
                                generalize hw43 : e_up w42 303 (w 275 30) p4 = w43
                                refine e_Ok.ps1 (x := (1, 275)) (q := 162) 1 rfl ?_
                                refine e_Ok.getr (z := 304) rfl (el_o rfl) rfl (ef_o rfl) (e_uq hw43 (Or.inl (by decide)) (e_uq hw42 (Or.inl (by decide)) (e_uq hw41 (Or.inl (by decide)) (e_uq hw40 (Or.inl (by decide)) (e_Has.eq hT (mt_o rfl)))))) ⟨by decide, by decide⟩ ?_
                                refine e_Ok.ps1 (x := (1, 275)) (q := 166) 1 rfl ?_
                                refine e_Ok.getf (z := w 275 30) rfl (el_o rfl) rfl (ef_o rfl) (e_uq hw43 (Or.inl (by decide)) (e_uq hw42 (Or.inl (by decide)) (e_uq hw41 (Or.inl (by decide)) (e_uq hw40 (Or.inl (by decide)) rfl)))) (by omega) ?_
                                refine e_Ok.ps1 (x := (0, 0)) (q := 170) 1 rfl ?_
                                refine e_Ok.ast rfl (el_o rfl) rfl rfl (by omega) ?_
                                generalize hw44 : e_up w43 304 (w 275 30) 0 = w44
                                refine e_Ok.ps1 (x := (1, 275)) (q := 172) 1 rfl ?_
                                refine e_Ok.getr (z := 306) rfl (el_o rfl) rfl (ef_o rfl) (e_uq hw44 (Or.inl (by decide)) (e_uq hw43 (Or.inl (by decide)) (e_uq hw42 (Or.inl (by decide)) (e_uq hw41 (Or.inl (by decide)) (e_uq hw40 (Or.inl (by decide)) (e_Has.eq hT (mt_o rfl))))))) ⟨by decide, by decide⟩ ?_
                                refine e_Ok.ps1 (x := (1, 275)) (q := 176) 1 rfl ?_
                                refine e_Ok.getf (z := w 275 30) rfl (el_o rfl) rfl (ef_o rfl) (e_uq hw44 (Or.inl (by decide)) (e_uq hw43 (Or.inl (by decide)) (e_uq hw42 (Or.inl (by decide)) (e_uq hw41 (Or.inl (by decide)) (e_uq hw40 (Or.inl (by decide)) rfl))))) (by omega) ?_
                                refine e_Ok.ps1 (x := (0, (-1))) (q := 180) 1 rfl ?_
                                refine e_Ok.ast rfl (el_o rfl) rfl rfl (by omega) ?_
                                generalize hw45 : e_up w44 306 (w 275 30) (-1) = w45
                                refine e_Ok.ps1 (x := (1, 275)) (q := 182) 1 rfl ?_
                                refine e_Ok.getr (z := 305) rfl (el_o rfl) rfl (ef_o rfl) (e_uq hw45 (Or.inl (by decide)) (e_uq hw44 (Or.inl (by decide)) (e_uq hw43 (Or.inl (by decide)) (e_uq hw42 (Or.inl (by decide)) (e_uq hw41 (Or.inl (by decide)) (e_uq hw40 (Or.inl (by decide)) (e_Has.eq hT (mt_o rfl)))))))) ⟨by decide, by decide⟩ ?_
                                refine e_Ok.ps1 (x := (1, 275)) (q := 186) 1 rfl ?_
                                refine e_Ok.getf (z := w 275 30) rfl (el_o rfl) rfl (ef_o rfl) (e_uq hw45 (Or.inl (by decide)) (e_uq hw44 (Or.inl (by decide)) (e_uq hw43 (Or.inl (by decide)) (e_uq hw42 (Or.inl (by decide)) (e_uq hw41 (Or.inl (by decide)) (e_uq hw40 (Or.inl (by decide)) rfl)))))) (by omega) ?_
                                refine e_Ok.ps1 (x := (0, p5)) (q := 191) 1 rfl ?_
                                refine e_Ok.ast rfl (el_o rfl) rfl rfl (by omega) ?_
                                generalize hw46 : e_up w45 305 (w 275 30) p5 = w46
                                refine e_Ok.ps2 (x := (1, 275)) (y := (1, 275)) (q := 194) 2 rfl ?_
                                refine e_Ok.getf (z := w 275 30) rfl (el_o rfl) rfl (ef_o rfl) (e_uq hw46 (Or.inl (by decide)) (e_uq hw45 (Or.inl (by decide)) (e_uq hw44 (Or.inl (by decide)) (e_uq hw43 (Or.inl (by decide)) (e_uq hw42 (Or.inl (by decide)) (e_uq hw41 (Or.inl (by decide)) (e_uq hw40 (Or.inl (by decide)) rfl))))))) (by omega) ?_
                                refine e_Ok.ps1 (x := (0, 1)) (q := 198) 1 rfl ?_
                                refine e_Ok.add (z := w 275 30 + 1) rfl rfl (by omega) ?_
                                refine e_Ok.putf rfl (el_o rfl) rfl (ef_o rfl) ?_
                                generalize hw47 : e_up w46 275 30 (w 275 30 + 1) = w47
                                refine e_Ok.ps1 (x := (1, 275)) (q := 203) 1 rfl ?_
                                refine e_Ok.getf (z := w 275 30 + 1) rfl (el_o rfl) rfl (ef_o rfl) (e_ue hw47) (by omega) ?_
                                refine e_Ok.ps1 (x := (0, 1)) (q := 207) 1 rfl ?_
                                refine e_Ok.sub' (z := w 275 30) rfl (by omega) (by omega) ?_
                                refine e_Ok.rets rfl rfl ?_
                                exact ⟨_, rfl, Or.inr ⟨by omega, by omega, by rw [← hw47, ← hw46, ← hw45, ← hw44, ← hw43, ← hw42, ← hw41, ← hw40]⟩⟩
                              · replace h38 : (w 275 30 : Int) = 4 := Classical.not_not.mp (show ¬ ((w 275 30 : Int) ≠ 4) from h38)
                                refine e_Ok.ps1 (x := (0, (-3))) (q := 119) 1 rfl ?_
                                refine e_Ok.rets rfl rfl ?_
                                exact ⟨_, rfl, Or.inl ⟨rfl, by omega⟩⟩
                            · replace h36 : (w 275 3 : Int) ≠ 0 := (show ¬ ((w 275 3 : Int) = 0) from h36)
                              refine e_Ok.ps1 (x := (0, (-2))) (q := 108) 1 rfl ?_
                              refine e_Ok.rets rfl rfl ?_
                              exact ⟨_, rfl, Or.inl ⟨rfl, by omega⟩⟩
                          · replace h35 : (1 : Int) = 0 := Classical.not_not.mp (show ¬ ((1 : Int) ≠ 0) from h35)
                            exfalso; omega
                        · refine e_Ok.nrm (q := 94) (st' := [(0, 0)]) rfl rfl ?_
                          refine e_Ok.if1 rfl (fun h48 => ?_) (fun h48 => ?_)
                          · replace h48 : (0 : Int) ≠ 0 := h48
                            exfalso; omega
                          · replace h48 : (0 : Int) = 0 := Classical.not_not.mp (show ¬ ((0 : Int) ≠ 0) from h48)
                            refine e_Ok.ps1 (x := (0, (-1))) (q := 98) 1 rfl ?_
                            refine e_Ok.rets rfl rfl ?_
                            exact ⟨_, rfl, Or.inl ⟨rfl, by omega⟩⟩
                      · replace h29 : (z28 : Int) = 0 := Classical.not_not.mp (show ¬ ((z28 : Int) ≠ 0) from h29)
                        refine e_Ok.ps1 (x := (0, p2)) (q := 91) 2 rfl ?_
                        refine e_Ok.callS rfl (e_dq hd rfl) rfl rfl (c_272_ex (e_dq hd rfl)) (fun r49 w50 h51 => ?_)
                        obtain ⟨z52, rfl, rfl, q53⟩ := h51
                        obtain ⟨rfl, q53⟩ | ⟨rfl, q53⟩ := q53
                        · refine e_Ok.nrm (q := 94) (st' := [(0, 1)]) rfl rfl ?_
                          refine e_Ok.if1 rfl (fun h54 => ?_) (fun h54 => ?_)
                          · replace h54 : (1 : Int) ≠ 0 := h54
                            refine e_Ok.ps1 (x := (1, 275)) (q := 100) 1 rfl ?_
                            refine e_Ok.getf (z := w 275 3) rfl (el_o rfl) rfl (ef_o rfl) rfl (by omega) ?_
                            refine e_Ok.if1 rfl (fun h55 => ?_) (fun h55 => ?_)
                            · replace h55 : (w 275 3 : Int) = 0 := h55
                              refine e_Ok.ps1 (x := (1, 275)) (q := 110) 1 rfl ?_
                              have h56 := (e_Has.get hT (c := 275) (k := 30) (lo := 0) (hi := 4) (mt_o rfl) (by decide))
                              refine e_Ok.getf (z := w 275 30) rfl (el_o rfl) rfl (ef_o rfl) rfl (e_bq h56 (by decide) (by decide)) ?_
                              refine e_Ok.ps1 (x := (0, 4)) (q := 114) 1 rfl ?_
                              refine e_Ok.if2 rfl (fun h57 => ?_) (fun h57 => ?_)
                              · replace h57 : (w 275 30 : Int) ≠ 4 := h57
                                refine e_Ok.ps1 (x := (1, 275)) (q := 121) 1 rfl ?_
                                refine e_Ok.getr (z := 300) rfl (el_o rfl) rfl (ef_o rfl) (e_Has.eq hT (mt_o rfl)) ⟨by decide, by decide⟩ ?_
                                refine e_Ok.ps1 (x := (1, 275)) (q := 125) 1 rfl ?_
                                refine e_Ok.getf (z := w 275 30) rfl (el_o rfl) rfl (ef_o rfl) rfl (by omega) ?_
                                refine e_Ok.ps1 (x := (0, p1)) (q := 129) 1 rfl ?_
                                refine e_Ok.ast rfl (el_o rfl) rfl rfl (by omega) ?_
                                generalize hw58 : e_up w 300 (w 275 30) p1 = w58
                                refine e_Ok.ps1 (x := (1, 275)) (q := 131) 1 rfl ?_
                                refine e_Ok.getr (z := 301) rfl (el_o rfl) rfl (ef_o rfl) (e_uq hw58 (Or.inl (by decide)) (e_Has.eq hT (mt_o rfl))) ⟨by decide, by decide⟩ ?_
                                refine e_Ok.ps1 (x := (1, 275)) (q := 135) 1 rfl ?_
                                refine e_Ok.getf (z := w 275 30) rfl (el_o rfl) rfl (ef_o rfl) (e_uq hw58 (Or.inl (by decide)) rfl) (by omega) ?_
                                refine e_Ok.ps1 (x := (0, p2)) (q := 139) 1 rfl ?_
                                refine e_Ok.ast rfl (el_o rfl) rfl rfl (by omega) ?_
                                generalize hw59 : e_up w58 301 (w 275 30) p2 = w59
                                refine e_Ok.ps1 (x := (1, 275)) (q := 141) 1 rfl ?_
                                refine e_Ok.getr (z := 302) rfl (el_o rfl) rfl (ef_o rfl) (e_uq hw59 (Or.inl (by decide)) (e_uq hw58 (Or.inl (by decide)) (e_Has.eq hT (mt_o rfl)))) ⟨by decide, by decide⟩ ?_
                                refine e_Ok.ps1 (x := (1, 275)) (q := 145) 1 rfl ?_
                                refine e_Ok.getf (z := w 275 30) rfl (el_o rfl) rfl (ef_o rfl) (e_uq hw59 (Or.inl (by decide)) (e_uq hw58 (Or.inl (by decide)) rfl)) (by omega) ?_
                                refine e_Ok.ps1 (x := (0, p3)) (q := 149) 1 rfl ?_
                                refine e_Ok.ast rfl (el_o rfl) rfl rfl (by omega) ?_
                                generalize hw60 : e_up w59 302 (w 275 30) p3 = w60
                                refine e_Ok.ps1 (x := (1, 275)) (q := 151) 1 rfl ?_
                                refine e_Ok.getr (z := 303) rfl (el_o rfl) rfl (ef_o rfl) (e_uq hw60 (Or.inl (by decide)) (e_uq hw59 (Or.inl (by decide)) (e_uq hw58 (Or.inl (by decide)) (e_Has.eq hT (mt_o rfl))))) ⟨by decide, by decide⟩ ?_
                                refine e_Ok.ps1 (x := (1, 275)) (q := 155) 1 rfl ?_
                                refine e_Ok.getf (z := w 275 30) rfl (el_o rfl) rfl (ef_o rfl) (e_uq hw60 (Or.inl (by decide)) (e_uq hw59 (Or.inl (by decide)) (e_uq hw58 (Or.inl (by decide)) rfl))) (by omega) ?_
                                refine e_Ok.ps1 (x := (0, p4)) (q := 160) 1 rfl ?_
                                refine e_Ok.ast rfl (el_o rfl) rfl rfl (by omega) ?_
                                generalize hw61 : e_up w60 303 (w 275 30) p4 = w61
                                refine e_Ok.ps1 (x := (1, 275)) (q := 162) 1 rfl ?_
                                refine e_Ok.getr (z := 304) rfl (el_o rfl) rfl (ef_o rfl) (e_uq hw61 (Or.inl (by decide)) (e_uq hw60 (Or.inl (by decide)) (e_uq hw59 (Or.inl (by decide)) (e_uq hw58 (Or.inl (by decide)) (e_Has.eq hT (mt_o rfl)))))) ⟨by decide, by decide⟩ ?_
                                refine e_Ok.ps1 (x := (1, 275)) (q := 166) 1 rfl ?_
                                refine e_Ok.getf (z := w 275 30) rfl (el_o rfl) rfl (ef_o rfl) (e_uq hw61 (Or.inl (by decide)) (e_uq hw60 (Or.inl (by decide)) (e_uq hw59 (Or.inl (by decide)) (e_uq hw58 (Or.inl (by decide)) rfl)))) (by omega) ?_
                                refine e_Ok.ps1 (x := (0, 0)) (q := 170) 1 rfl ?_
                                refine e_Ok.ast rfl (el_o rfl) rfl rfl (by omega) ?_
                                generalize hw62 : e_up w61 304 (w 275 30) 0 = w62
                                refine e_Ok.ps1 (x := (1, 275)) (q := 172) 1 rfl ?_
                                refine e_Ok.getr (z := 306) rfl (el_o rfl) rfl (ef_o rfl) (e_uq hw62 (Or.inl (by decide)) (e_uq hw61 (Or.inl (by decide)) (e_uq hw60 (Or.inl (by decide)) (e_uq hw59 (Or.inl (by decide)) (e_uq hw58 (Or.inl (by decide)) (e_Has.eq hT (mt_o rfl))))))) ⟨by decide, by decide⟩ ?_
                                refine e_Ok.ps1 (x := (1, 275)) (q := 176) 1 rfl ?_
                                refine e_Ok.getf (z := w 275 30) rfl (el_o rfl) rfl (ef_o rfl) (e_uq hw62 (Or.inl (by decide)) (e_uq hw61 (Or.inl (by decide)) (e_uq hw60 (Or.inl (by decide)) (e_uq hw59 (Or.inl (by decide)) (e_uq hw58 (Or.inl (by decide)) rfl))))) (by omega) ?_
                                refine e_Ok.ps1 (x := (0, (-1))) (q := 180) 1 rfl ?_
                                refine e_Ok.ast rfl (el_o rfl) rfl rfl (by omega) ?_
                                generalize hw63 : e_up w62 306 (w 275 30) (-1) = w63
                                refine e_Ok.ps1 (x := (1, 275)) (q := 182) 1 rfl ?_
                                refine e_Ok.getr (z := 305) rfl (el_o rfl) rfl (ef_o rfl) (e_uq hw63 (Or.inl (by decide)) (e_uq hw62 (Or.inl (by decide)) (e_uq hw61 (Or.inl (by decide)) (e_uq hw60 (Or.inl (by decide)) (e_uq hw59 (Or.inl (by decide)) (e_uq hw58 (Or.inl (by decide)) (e_Has.eq hT (mt_o rfl)))))))) ⟨by decide, by decide⟩ ?_
                                refine e_Ok.ps1 (x := (1, 275)) (q := 186) 1 rfl ?_
                                refine e_Ok.getf (z := w 275 30) rfl (el_o rfl) rfl (ef_o rfl) (e_uq hw63 (Or.inl (by decide)) (e_uq hw62 (Or.inl (by decide)) (e_uq hw61 (Or.inl (by decide)) (e_uq hw60 (Or.inl (by decide)) (e_uq hw59 (Or.inl (by decide)) (e_uq hw58 (Or.inl (by decide)) rfl)))))) (by omega) ?_
                                refine e_Ok.ps1 (x := (0, p5)) (q := 191) 1 rfl ?_
                                refine e_Ok.ast rfl (el_o rfl) rfl rfl (by omega) ?_
                                generalize hw64 : e_up w63 305 (w 275 30) p5 = w64
                                refine e_Ok.ps2 (x := (1, 275)) (y := (1, 275)) (q := 194) 2 rfl ?_
                                refine e_Ok.getf (z := w 275 30) rfl (el_o rfl) rfl (ef_o rfl) (e_uq hw64 (Or.inl (by decide)) (e_uq hw63 (Or.inl (by decide)) (e_uq hw62 (Or.inl (by decide)) (e_uq hw61 (Or.inl (by decide)) (e_uq hw60 (Or.inl (by decide)) (e_uq hw59 (Or.inl (by decide)) (e_uq hw58 (Or.inl (by decide)) rfl))))))) (by omega) ?_
                                refine e_Ok.ps1 (x := (0, 1)) (q := 198) 1 rfl ?_
                                refine e_Ok.add (z := w 275 30 + 1) rfl rfl (by omega) ?_
                                refine e_Ok.putf rfl (el_o rfl) rfl (ef_o rfl) ?_
                                generalize hw65 : e_up w64 275 30 (w 275 30 + 1) = w65
                                refine e_Ok.ps1 (x := (1, 275)) (q := 203) 1 rfl ?_
                                refine e_Ok.getf (z := w 275 30 + 1) rfl (el_o rfl) rfl (ef_o rfl) (e_ue hw65) (by omega) ?_
                                refine e_Ok.ps1 (x := (0, 1)) (q := 207) 1 rfl ?_
                                refine e_Ok.sub' (z := w 275 30) rfl (by omega) (by omega) ?_
                                refine e_Ok.rets rfl rfl ?_
                                exact ⟨_, rfl, Or.inr ⟨by omega, by omega, by rw [← hw65, ← hw64, ← hw63, ← hw62, ← hw61, ← hw60, ← hw59, ← hw58]⟩⟩
                              · replace h57 : (w 275 30 : Int) = 4 := Classical.not_not.mp (show ¬ ((w 275 30 : Int) ≠ 4) from h57)
                                refine e_Ok.ps1 (x := (0, (-3))) (q := 119) 1 rfl ?_
                                refine e_Ok.rets rfl rfl ?_
                                exact ⟨_, rfl, Or.inl ⟨rfl, by omega⟩⟩
                            · replace h55 : (w 275 3 : Int) ≠ 0 := (show ¬ ((w 275 3 : Int) = 0) from h55)
                              refine e_Ok.ps1 (x := (0, (-2))) (q := 108) 1 rfl ?_
                              refine e_Ok.rets rfl rfl ?_
                              exact ⟨_, rfl, Or.inl ⟨rfl, by omega⟩⟩
                          · replace h54 : (1 : Int) = 0 := Classical.not_not.mp (show ¬ ((1 : Int) ≠ 0) from h54)
                            exfalso; omega
                        · refine e_Ok.nrm (q := 94) (st' := [(0, 0)]) rfl rfl ?_
                          refine e_Ok.if1 rfl (fun h66 => ?_) (fun h66 => ?_)
                          · replace h66 : (0 : Int) ≠ 0 := h66
                            exfalso; omega
                          · replace h66 : (0 : Int) = 0 := Classical.not_not.mp (show ¬ ((0 : Int) ≠ 0) from h66)
                            refine e_Ok.ps1 (x := (0, (-1))) (q := 98) 1 rfl ?_
                            refine e_Ok.rets rfl rfl ?_
                            exact ⟨_, rfl, Or.inl ⟨rfl, by omega⟩⟩
                    · replace h27 : (z26 : Int) = 0 := Classical.not_not.mp (show ¬ ((z26 : Int) ≠ 0) from h27)
                      refine e_Ok.ps2 (x := (0, -p4)) (y := (0, p1)) (q := 72) 2 rfl ?_
                      refine e_Ok.add (z := p1 - p4) rfl (by omega) (by omega) ?_
                      refine e_Ok.ps2 (x := (0, 2)) (y := (0, p3)) (q := 79) 3 rfl ?_
                      refine e_Ok.remn (fun z67 hz67 => ?_) rfl (by omega) (by omega)
                      replace hz67 : z67 = p3 % 2 := hz67
                      have z67r : 0 ≤ z67 ∧ z67 ≤ 1 := by omega
                      refine e_Ok.if1 rfl (fun h68 => ?_) (fun h68 => ?_)
                      · replace h68 : (z67 : Int) ≠ 0 := h68
                        refine e_Ok.ps2 (x := (0, -p4)) (y := (0, p2)) (q := 90) 2 rfl ?_
                        refine e_Ok.add (z := p2 - p4) rfl (by omega) (by omega) ?_
                        refine e_Ok.callS rfl (e_dq hd rfl) rfl rfl (c_272_ex (e_dq hd rfl)) (fun r69 w70 h71 => ?_)
                        obtain ⟨z72, rfl, rfl, q73⟩ := h71
                        obtain ⟨rfl, q73⟩ | ⟨rfl, q73⟩ := q73
                        · refine e_Ok.nrm (q := 94) (st' := [(0, 1)]) rfl rfl ?_
                          refine e_Ok.if1 rfl (fun h74 => ?_) (fun h74 => ?_)
                          · replace h74 : (1 : Int) ≠ 0 := h74
                            refine e_Ok.ps1 (x := (1, 275)) (q := 100) 1 rfl ?_
                            refine e_Ok.getf (z := w 275 3) rfl (el_o rfl) rfl (ef_o rfl) rfl (by omega) ?_
                            refine e_Ok.if1 rfl (fun h75 => ?_) (fun h75 => ?_)
                            · replace h75 : (w 275 3 : Int) = 0 := h75
                              refine e_Ok.ps1 (x := (1, 275)) (q := 110) 1 rfl ?_
                              have h76 := (e_Has.get hT (c := 275) (k := 30) (lo := 0) (hi := 4) (mt_o rfl) (by decide))
                              refine e_Ok.getf (z := w 275 30) rfl (el_o rfl) rfl (ef_o rfl) rfl (e_bq h76 (by decide) (by decide)) ?_
                              refine e_Ok.ps1 (x := (0, 4)) (q := 114) 1 rfl ?_
                              refine e_Ok.if2 rfl (fun h77 => ?_) (fun h77 => ?_)
                              · replace h77 : (w 275 30 : Int) ≠ 4 := h77
                                refine e_Ok.ps1 (x := (1, 275)) (q := 121) 1 rfl ?_
                                refine e_Ok.getr (z := 300) rfl (el_o rfl) rfl (ef_o rfl) (e_Has.eq hT (mt_o rfl)) ⟨by decide, by decide⟩ ?_
                                refine e_Ok.ps1 (x := (1, 275)) (q := 125) 1 rfl ?_
                                refine e_Ok.getf (z := w 275 30) rfl (el_o rfl) rfl (ef_o rfl) rfl (by omega) ?_
                                refine e_Ok.ps1 (x := (0, p1)) (q := 129) 1 rfl ?_
                                refine e_Ok.ast rfl (el_o rfl) rfl rfl (by omega) ?_
                                generalize hw78 : e_up w 300 (w 275 30) p1 = w78
                                refine e_Ok.ps1 (x := (1, 275)) (q := 131) 1 rfl ?_
                                refine e_Ok.getr (z := 301) rfl (el_o rfl) rfl (ef_o rfl) (e_uq hw78 (Or.inl (by decide)) (e_Has.eq hT (mt_o rfl))) ⟨by decide, by decide⟩ ?_
                                refine e_Ok.ps1 (x := (1, 275)) (q := 135) 1 rfl ?_
                                refine e_Ok.getf (z := w 275 30) rfl (el_o rfl) rfl (ef_o rfl) (e_uq hw78 (Or.inl (by decide)) rfl) (by omega) ?_
                                refine e_Ok.ps1 (x := (0, p2)) (q := 139) 1 rfl ?_
                                refine e_Ok.ast rfl (el_o rfl) rfl rfl (by omega) ?_
                                generalize hw79 : e_up w78 301 (w 275 30) p2 = w79
                                refine e_Ok.ps1 (x := (1, 275)) (q := 141) 1 rfl ?_
                                refine e_Ok.getr (z := 302) rfl (el_o rfl) rfl (ef_o rfl) (e_uq hw79 (Or.inl (by decide)) (e_uq hw78 (Or.inl (by decide)) (e_Has.eq hT (mt_o rfl)))) ⟨by decide, by decide⟩ ?_
                                refine e_Ok.ps1 (x := (1, 275)) (q := 145) 1 rfl ?_
                                refine e_Ok.getf (z := w 275 30) rfl (el_o rfl) rfl (ef_o rfl) (e_uq hw79 (Or.inl (by decide)) (e_uq hw78 (Or.inl (by decide)) rfl)) (by omega) ?_
                                refine e_Ok.ps1 (x := (0, p3)) (q := 149) 1 rfl ?_
                                refine e_Ok.ast rfl (el_o rfl) rfl rfl (by omega) ?_
                                generalize hw80 : e_up w79 302 (w 275 30) p3 = w80
                                refine e_Ok.ps1 (x := (1, 275)) (q := 151) 1 rfl ?_
                                refine e_Ok.getr (z := 303) rfl (el_o rfl) rfl (ef_o rfl) (e_uq hw80 (Or.inl (by decide)) (e_uq hw79 (Or.inl (by decide)) (e_uq hw78 (Or.inl (by decide)) (e_Has.eq hT (mt_o rfl))))) ⟨by decide, by decide⟩ ?_
                                refine e_Ok.ps1 (x := (1, 275)) (q := 155) 1 rfl ?_
                                refine e_Ok.getf (z := w 275 30) rfl (el_o rfl) rfl (ef_o rfl) (e_uq hw80 (Or.inl (by decide)) (e_uq hw79 (Or.inl (by decide)) (e_uq hw78 (Or.inl (by decide)) rfl))) (by omega) ?_
                                refine e_Ok.ps1 (x := (0, p4)) (q := 160) 1 rfl ?_
                                refine e_Ok.ast rfl (el_o rfl) rfl rfl (by omega) ?_
                                generalize hw81 : e_up w80 303 (w 275 30) p4 = w81
                                refine e_Ok.ps1 (x := (1, 275)) (q := 162) 1 rfl ?_
                                refine e_Ok.getr (z := 304) rfl (el_o rfl) rfl (ef_o rfl) (e_uq hw81 (Or.inl (by decide)) (e_uq hw80 (Or.inl (by decide)) (e_uq hw79 (Or.inl (by decide)) (e_uq hw78 (Or.inl (by decide)) (e_Has.eq hT (mt_o rfl)))))) ⟨by decide, by decide⟩ ?_
                                refine e_Ok.ps1 (x := (1, 275)) (q := 166) 1 rfl ?_
                                refine e_Ok.getf (z := w 275 30) rfl (el_o rfl) rfl (ef_o rfl) (e_uq hw81 (Or.inl (by decide)) (e_uq hw80 (Or.inl (by decide)) (e_uq hw79 (Or.inl (by decide)) (e_uq hw78 (Or.inl (by decide)) rfl)))) (by omega) ?_
                                refine e_Ok.ps1 (x := (0, 0)) (q := 170) 1 rfl ?_
                                refine e_Ok.ast rfl (el_o rfl) rfl rfl (by omega) ?_
                                generalize hw82 : e_up w81 304 (w 275 30) 0 = w82
                                refine e_Ok.ps1 (x := (1, 275)) (q := 172) 1 rfl ?_
                                refine e_Ok.getr (z := 306) rfl (el_o rfl) rfl (ef_o rfl) (e_uq hw82 (Or.inl (by decide)) (e_uq hw81 (Or.inl (by decide)) (e_uq hw80 (Or.inl (by decide)) (e_uq hw79 (Or.inl (by decide)) (e_uq hw78 (Or.inl (by decide)) (e_Has.eq hT (mt_o rfl))))))) ⟨by decide, by decide⟩ ?_
                                refine e_Ok.ps1 (x := (1, 275)) (q := 176) 1 rfl ?_
                                refine e_Ok.getf (z := w 275 30) rfl (el_o rfl) rfl (ef_o rfl) (e_uq hw82 (Or.inl (by decide)) (e_uq hw81 (Or.inl (by decide)) (e_uq hw80 (Or.inl (by decide)) (e_uq hw79 (Or.inl (by decide)) (e_uq hw78 (Or.inl (by decide)) rfl))))) (by omega) ?_
                                refine e_Ok.ps1 (x := (0, (-1))) (q := 180) 1 rfl ?_
                                refine e_Ok.ast rfl (el_o rfl) rfl rfl (by omega) ?_
                                generalize hw83 : e_up w82 306 (w 275 30) (-1) = w83
                                refine e_Ok.ps1 (x := (1, 275)) (q := 182) 1 rfl ?_
                                refine e_Ok.getr (z := 305) rfl (el_o rfl) rfl (ef_o rfl) (e_uq hw83 (Or.inl (by decide)) (e_uq hw82 (Or.inl (by decide)) (e_uq hw81 (Or.inl (by decide)) (e_uq hw80 (Or.inl (by decide)) (e_uq hw79 (Or.inl (by decide)) (e_uq hw78 (Or.inl (by decide)) (e_Has.eq hT (mt_o rfl)))))))) ⟨by decide, by decide⟩ ?_
                                refine e_Ok.ps1 (x := (1, 275)) (q := 186) 1 rfl ?_
                                refine e_Ok.getf (z := w 275 30) rfl (el_o rfl) rfl (ef_o rfl) (e_uq hw83 (Or.inl (by decide)) (e_uq hw82 (Or.inl (by decide)) (e_uq hw81 (Or.inl (by decide)) (e_uq hw80 (Or.inl (by decide)) (e_uq hw79 (Or.inl (by decide)) (e_uq hw78 (Or.inl (by decide)) rfl)))))) (by omega) ?_
                                refine e_Ok.ps1 (x := (0, p5)) (q := 191) 1 rfl ?_
                                refine e_Ok.ast rfl (el_o rfl) rfl rfl (by omega) ?_
                                generalize hw84 : e_up w83 305 (w 275 30) p5 = w84
                                refine e_Ok.ps2 (x := (1, 275)) (y := (1, 275)) (q := 194) 2 rfl ?_
                                refine e_Ok.getf (z := w 275 30) rfl (el_o rfl) rfl (ef_o rfl) (e_uq hw84 (Or.inl (by decide)) (e_uq hw83 (Or.inl (by decide)) (e_uq hw82 (Or.inl (by decide)) (e_uq hw81 (Or.inl (by decide)) (e_uq hw80 (Or.inl (by decide)) (e_uq hw79 (Or.inl (by decide)) (e_uq hw78 (Or.inl (by decide)) rfl))))))) (by omega) ?_
                                refine e_Ok.ps1 (x := (0, 1)) (q := 198) 1 rfl ?_
                                refine e_Ok.add (z := w 275 30 + 1) rfl rfl (by omega) ?_
                                refine e_Ok.putf rfl (el_o rfl) rfl (ef_o rfl) ?_
                                generalize hw85 : e_up w84 275 30 (w 275 30 + 1) = w85
                                refine e_Ok.ps1 (x := (1, 275)) (q := 203) 1 rfl ?_
                                refine e_Ok.getf (z := w 275 30 + 1) rfl (el_o rfl) rfl (ef_o rfl) (e_ue hw85) (by omega) ?_
                                refine e_Ok.ps1 (x := (0, 1)) (q := 207) 1 rfl ?_
                                refine e_Ok.sub' (z := w 275 30) rfl (by omega) (by omega) ?_
                                refine e_Ok.rets rfl rfl ?_
                                exact ⟨_, rfl, Or.inr ⟨by omega, by omega, by rw [← hw85, ← hw84, ← hw83, ← hw82, ← hw81, ← hw80, ← hw79, ← hw78]⟩⟩
                              · replace h77 : (w 275 30 : Int) = 4 := Classical.not_not.mp (show ¬ ((w 275 30 : Int) ≠ 4) from h77)
                                refine e_Ok.ps1 (x := (0, (-3))) (q := 119) 1 rfl ?_
                                refine e_Ok.rets rfl rfl ?_
                                exact ⟨_, rfl, Or.inl ⟨rfl, by omega⟩⟩
                            · replace h75 : (w 275 3 : Int) ≠ 0 := (show ¬ ((w 275 3 : Int) = 0) from h75)
                              refine e_Ok.ps1 (x := (0, (-2))) (q := 108) 1 rfl ?_
                              refine e_Ok.rets rfl rfl ?_
                              exact ⟨_, rfl, Or.inl ⟨rfl, by omega⟩⟩
                          · replace h74 : (1 : Int) = 0 := Classical.not_not.mp (show ¬ ((1 : Int) ≠ 0) from h74)
                            exfalso; omega
                        · refine e_Ok.nrm (q := 94) (st' := [(0, 0)]) rfl rfl ?_
                          refine e_Ok.if1 rfl (fun h86 => ?_) (fun h86 => ?_)
                          · replace h86 : (0 : Int) ≠ 0 := h86
                            exfalso; omega
                          · replace h86 : (0 : Int) = 0 := Classical.not_not.mp (show ¬ ((0 : Int) ≠ 0) from h86)
                            refine e_Ok.ps1 (x := (0, (-1))) (q := 98) 1 rfl ?_
                            refine e_Ok.rets rfl rfl ?_
                            exact ⟨_, rfl, Or.inl ⟨rfl, by omega⟩⟩
                      · replace h68 : (z67 : Int) = 0 := Classical.not_not.mp (show ¬ ((z67 : Int) ≠ 0) from h68)
                        refine e_Ok.ps1 (x := (0, p2)) (q := 91) 2 rfl ?_
                        refine e_Ok.callS rfl (e_dq hd rfl) rfl rfl (c_272_ex (e_dq hd rfl)) (fun r87 w88 h89 => ?_)
                        obtain ⟨z90, rfl, rfl, q91⟩ := h89
                        obtain ⟨rfl, q91⟩ | ⟨rfl, q91⟩ := q91
                        · refine e_Ok.nrm (q := 94) (st' := [(0, 1)]) rfl rfl ?_
                          refine e_Ok.if1 rfl (fun h92 => ?_) (fun h92 => ?_)
                          · replace h92 : (1 : Int) ≠ 0 := h92
                            refine e_Ok.ps1 (x := (1, 275)) (q := 100) 1 rfl ?_
                            refine e_Ok.getf (z := w 275 3) rfl (el_o rfl) rfl (ef_o rfl) rfl (by omega) ?_
                            refine e_Ok.if1 rfl (fun h93 => ?_) (fun h93 => ?_)
                            · replace h93 : (w 275 3 : Int) = 0 := h93
                              refine e_Ok.ps1 (x := (1, 275)) (q := 110) 1 rfl ?_
                              have h94 := (e_Has.get hT (c := 275) (k := 30) (lo := 0) (hi := 4) (mt_o rfl) (by decide))
                              refine e_Ok.getf (z := w 275 30) rfl (el_o rfl) rfl (ef_o rfl) rfl (e_bq h94 (by decide) (by decide)) ?_
                              refine e_Ok.ps1 (x := (0, 4)) (q := 114) 1 rfl ?_
                              refine e_Ok.if2 rfl (fun h95 => ?_) (fun h95 => ?_)
                              · replace h95 : (w 275 30 : Int) ≠ 4 := h95
                                refine e_Ok.ps1 (x := (1, 275)) (q := 121) 1 rfl ?_
                                refine e_Ok.getr (z := 300) rfl (el_o rfl) rfl (ef_o rfl) (e_Has.eq hT (mt_o rfl)) ⟨by decide, by decide⟩ ?_
                                refine e_Ok.ps1 (x := (1, 275)) (q := 125) 1 rfl ?_
                                refine e_Ok.getf (z := w 275 30) rfl (el_o rfl) rfl (ef_o rfl) rfl (by omega) ?_
                                refine e_Ok.ps1 (x := (0, p1)) (q := 129) 1 rfl ?_
                                refine e_Ok.ast rfl (el_o rfl) rfl rfl (by omega) ?_
                                generalize hw101 : e_up w 300 (w 275 30) p1 = w101
                                refine e_Ok.ps1 (x := (1, 275)) (q := 131) 1 rfl ?_
                                refine e_Ok.getr (z := 301) rfl (el_o rfl) rfl (ef_o rfl) (e_uq hw101 (Or.inl (by decide)) (e_Has.eq hT (mt_o rfl))) ⟨by decide, by decide⟩ ?_
                                refine e_Ok.ps1 (x := (1, 275)) (q := 135) 1 rfl ?_
                                refine e_Ok.getf (z := w 275 30) rfl (el_o rfl) rfl (ef_o rfl) (e_uq hw101 (Or.inl (by decide)) rfl) (by omega) ?_
                                refine e_Ok.ps1 (x := (0, p2)) (q := 139) 1 rfl ?_
                                refine e_Ok.ast rfl (el_o rfl) rfl rfl (by omega) ?_
                                generalize hw103 : e_up w101 301 (w 275 30) p2 = w103
                                refine e_Ok.ps1 (x := (1, 275)) (q := 141) 1 rfl ?_
                                refine e_Ok.getr (z := 302) rfl (el_o rfl) rfl (ef_o rfl) (e_uq hw103 (Or.inl (by decide)) (e_uq hw101 (Or.inl (by decide)) (e_Has.eq hT (mt_o rfl)))) ⟨by decide, by decide⟩ ?_
                                refine e_Ok.ps1 (x := (1, 275)) (q := 145) 1 rfl ?_
                                refine e_Ok.getf (z := w 275 30) rfl (el_o rfl) rfl (ef_o rfl) (e_uq hw103 (Or.inl (by decide)) (e_uq hw101 (Or.inl (by decide)) rfl)) (by omega) ?_
                                refine e_Ok.ps1 (x := (0, p3)) (q := 149) 1 rfl ?_
                                refine e_Ok.ast rfl (el_o rfl) rfl rfl (by omega) ?_
                                generalize hw104 : e_up w103 302 (w 275 30) p3 = w104
                                refine e_Ok.ps1 (x := (1, 275)) (q := 151) 1 rfl ?_
                                refine e_Ok.getr (z := 303) rfl (el_o rfl) rfl (ef_o rfl) (e_uq hw104 (Or.inl (by decide)) (e_uq hw103 (Or.inl (by decide)) (e_uq hw101 (Or.inl (by decide)) (e_Has.eq hT (mt_o rfl))))) ⟨by decide, by decide⟩ ?_
                                refine e_Ok.ps1 (x := (1, 275)) (q := 155) 1 rfl ?_
                                refine e_Ok.getf (z := w 275 30) rfl (el_o rfl) rfl (ef_o rfl) (e_uq hw104 (Or.inl (by decide)) (e_uq hw103 (Or.inl (by decide)) (e_uq hw101 (Or.inl (by decide)) rfl))) (by omega) ?_
                                refine e_Ok.ps1 (x := (0, p4)) (q := 160) 1 rfl ?_
                                refine e_Ok.ast rfl (el_o rfl) rfl rfl (by omega) ?_
                                generalize hw105 : e_up w104 303 (w 275 30) p4 = w105
                                refine e_Ok.ps1 (x := (1, 275)) (q := 162) 1 rfl ?_
                                refine e_Ok.getr (z := 304) rfl (el_o rfl) rfl (ef_o rfl) (e_uq hw105 (Or.inl (by decide)) (e_uq hw104 (Or.inl (by decide)) (e_uq hw103 (Or.inl (by decide)) (e_uq hw101 (Or.inl (by decide)) (e_Has.eq hT (mt_o rfl)))))) ⟨by decide, by decide⟩ ?_
                                refine e_Ok.ps1 (x := (1, 275)) (q := 166) 1 rfl ?_
                                refine e_Ok.getf (z := w 275 30) rfl (el_o rfl) rfl (ef_o rfl) (e_uq hw105 (Or.inl (by decide)) (e_uq hw104 (Or.inl (by decide)) (e_uq hw103 (Or.inl (by decide)) (e_uq hw101 (Or.inl (by decide)) rfl)))) (by omega) ?_
                                refine e_Ok.ps1 (x := (0, 0)) (q := 170) 1 rfl ?_
                                refine e_Ok.ast rfl (el_o rfl) rfl rfl (by omega) ?_
                                generalize hw106 : e_up w105 304 (w 275 30) 0 = w106
                                refine e_Ok.ps1 (x := (1, 275)) (q := 172) 1 rfl ?_
                                refine e_Ok.getr (z := 306) rfl (el_o rfl) rfl (ef_o rfl) (e_uq hw106 (Or.inl (by decide)) (e_uq hw105 (Or.inl (by decide)) (e_uq hw104 (Or.inl (by decide)) (e_uq hw103 (Or.inl (by decide)) (e_uq hw101 (Or.inl (by decide)) (e_Has.eq hT (mt_o rfl))))))) ⟨by decide, by decide⟩ ?_
                                refine e_Ok.ps1 (x := (1, 275)) (q := 176) 1 rfl ?_
                                refine e_Ok.getf (z := w 275 30) rfl (el_o rfl) rfl (ef_o rfl) (e_uq hw106 (Or.inl (by decide)) (e_uq hw105 (Or.inl (by decide)) (e_uq hw104 (Or.inl (by decide)) (e_uq hw103 (Or.inl (by decide)) (e_uq hw101 (Or.inl (by decide)) rfl))))) (by omega) ?_
                                refine e_Ok.ps1 (x := (0, (-1))) (q := 180) 1 rfl ?_
                                refine e_Ok.ast rfl (el_o rfl) rfl rfl (by omega) ?_
                                generalize hw107 : e_up w106 306 (w 275 30) (-1) = w107
                                refine e_Ok.ps1 (x := (1, 275)) (q := 182) 1 rfl ?_
                                refine e_Ok.getr (z := 305) rfl (el_o rfl) rfl (ef_o rfl) (e_uq hw107 (Or.inl (by decide)) (e_uq hw106 (Or.inl (by decide)) (e_uq hw105 (Or.inl (by decide)) (e_uq hw104 (Or.inl (by decide)) (e_uq hw103 (Or.inl (by decide)) (e_uq hw101 (Or.inl (by decide)) (e_Has.eq hT (mt_o rfl)))))))) ⟨by decide, by decide⟩ ?_
                                refine e_Ok.ps1 (x := (1, 275)) (q := 186) 1 rfl ?_
                                refine e_Ok.getf (z := w 275 30) rfl (el_o rfl) rfl (ef_o rfl) (e_uq hw107 (Or.inl (by decide)) (e_uq hw106 (Or.inl (by decide)) (e_uq hw105 (Or.inl (by decide)) (e_uq hw104 (Or.inl (by decide)) (e_uq hw103 (Or.inl (by decide)) (e_uq hw101 (Or.inl (by decide)) rfl)))))) (by omega) ?_
                                refine e_Ok.ps1 (x := (0, p5)) (q := 191) 1 rfl ?_
                                refine e_Ok.ast rfl (el_o rfl) rfl rfl (by omega) ?_
                                generalize hw108 : e_up w107 305 (w 275 30) p5 = w108
                                refine e_Ok.ps2 (x := (1, 275)) (y := (1, 275)) (q := 194) 2 rfl ?_
                                refine e_Ok.getf (z := w 275 30) rfl (el_o rfl) rfl (ef_o rfl) (e_uq hw108 (Or.inl (by decide)) (e_uq hw107 (Or.inl (by decide)) (e_uq hw106 (Or.inl (by decide)) (e_uq hw105 (Or.inl (by decide)) (e_uq hw104 (Or.inl (by decide)) (e_uq hw103 (Or.inl (by decide)) (e_uq hw101 (Or.inl (by decide)) rfl))))))) (by omega) ?_
                                refine e_Ok.ps1 (x := (0, 1)) (q := 198) 1 rfl ?_
                                refine e_Ok.add (z := w 275 30 + 1) rfl rfl (by omega) ?_
                                refine e_Ok.putf rfl (el_o rfl) rfl (ef_o rfl) ?_
                                generalize hw109 : e_up w108 275 30 (w 275 30 + 1) = w109
                                refine e_Ok.ps1 (x := (1, 275)) (q := 203) 1 rfl ?_
                                refine e_Ok.getf (z := w 275 30 + 1) rfl (el_o rfl) rfl (ef_o rfl) (e_ue hw109) (by omega) ?_
                                refine e_Ok.ps1 (x := (0, 1)) (q := 207) 1 rfl ?_
                                refine e_Ok.sub' (z := w 275 30) rfl (by omega) (by omega) ?_
                                refine e_Ok.rets rfl rfl ?_
                                exact ⟨_, rfl, Or.inr ⟨by omega, by omega, by rw [← hw109, ← hw108, ← hw107, ← hw106, ← hw105, ← hw104, ← hw103, ← hw101]⟩⟩
                              · replace h95 : (w 275 30 : Int) = 4 := Classical.not_not.mp (show ¬ ((w 275 30 : Int) ≠ 4) from h95)
                                refine e_Ok.ps1 (x := (0, (-3))) (q := 119) 1 rfl ?_
                                refine e_Ok.rets rfl rfl ?_
                                exact ⟨_, rfl, Or.inl ⟨rfl, by omega⟩⟩
                            · replace h93 : (w 275 3 : Int) ≠ 0 := (show ¬ ((w 275 3 : Int) = 0) from h93)
                              refine e_Ok.ps1 (x := (0, (-2))) (q := 108) 1 rfl ?_
                              refine e_Ok.rets rfl rfl ?_
                              exact ⟨_, rfl, Or.inl ⟨rfl, by omega⟩⟩
                          · replace h92 : (1 : Int) = 0 := Classical.not_not.mp (show ¬ ((1 : Int) ≠ 0) from h92)
                            exfalso; omega
                        · refine e_Ok.nrm (q := 94) (st' := [(0, 0)]) rfl rfl ?_
                          refine e_Ok.if1 rfl (fun h110 => ?_) (fun h110 => ?_)
                          · replace h110 : (0 : Int) ≠ 0 := h110
                            exfalso; omega
                          · replace h110 : (0 : Int) = 0 := Classical.not_not.mp (show ¬ ((0 : Int) ≠ 0) from h110)
                            refine e_Ok.ps1 (x := (0, (-1))) (q := 98) 1 rfl ?_
                            refine e_Ok.rets rfl rfl ?_
                            exact ⟨_, rfl, Or.inl ⟨rfl, by omega⟩⟩
                  · replace h25 : (p3 : Int) < 2 := Int.not_le.mp (show ¬ ((p3 : Int) ≥ 2) from h25)
                    refine e_Ok.run (t' := (65, [(6, (0, p4)), (0, (1, 275)), (1, (0, p1)), (2, (0, p2)), (3, (0, p3)), (4, (0, p4)), (5, (0, p5))], [(0, 2), (0, p3)], w)) 5 rfl ?_
                    refine e_Ok.remn (fun z111 hz111 => ?_) rfl (by omega) (by omega)
                    replace hz111 : z111 = p3 % 2 := hz111
                    have z111r : 0 ≤ z111 ∧ z111 ≤ 1 := by omega
                    refine e_Ok.if1 rfl (fun h112 => ?_) (fun h112 => ?_)
                    · replace h112 : (z111 : Int) ≠ 0 := h112
                      refine e_Ok.ps3 (x := (0, 2)) (y := (0, p3)) (z := (0, p1)) (q := 79) 3 rfl ?_
                      refine e_Ok.remn (fun z113 hz113 => ?_) rfl (by omega) (by omega)
                      replace hz113 : z113 = p3 % 2 := hz113
                      have z113r : 0 ≤ z113 ∧ z113 ≤ 1 := by omega
                      refine e_Ok.if1 rfl (fun h114 => ?_) (fun h114 => ?_)
                      · replace h114 : (z113 : Int) ≠ 0 := h114
                        refine e_Ok.ps2 (x := (0, p4)) (y := (0, p2)) (q := 90) 2 rfl ?_
                        refine e_Ok.add (z := p2 + p4) rfl rfl (by omega) ?_
                        refine e_Ok.callS rfl (e_dq hd rfl) rfl rfl (c_272_ex (e_dq hd rfl)) (fun r115 w116 h117 => ?_)
                        obtain ⟨z118, rfl, rfl, q119⟩ := h117
                        obtain ⟨rfl, q119⟩ | ⟨rfl, q119⟩ := q119
                        · refine e_Ok.nrm (q := 94) (st' := [(0, 1)]) rfl rfl ?_
                          refine e_Ok.if1 rfl (fun h120 => ?_) (fun h120 => ?_)
                          · replace h120 : (1 : Int) ≠ 0 := h120
                            refine e_Ok.ps1 (x := (1, 275)) (q := 100) 1 rfl ?_
                            refine e_Ok.getf (z := w 275 3) rfl (el_o rfl) rfl (ef_o rfl) rfl (by omega) ?_
                            refine e_Ok.if1 rfl (fun h121 => ?_) (fun h121 => ?_)
                            · replace h121 : (w 275 3 : Int) = 0 := h121
                              refine e_Ok.ps1 (x := (1, 275)) (q := 110) 1 rfl ?_
                              have h122 := (e_Has.get hT (c := 275) (k := 30) (lo := 0) (hi := 4) (mt_o rfl) (by decide))
                              refine e_Ok.getf (z := w 275 30) rfl (el_o rfl) rfl (ef_o rfl) rfl (e_bq h122 (by decide) (by decide)) ?_
                              refine e_Ok.ps1 (x := (0, 4)) (q := 114) 1 rfl ?_
                              refine e_Ok.if2 rfl (fun h123 => ?_) (fun h123 => ?_)
                              · replace h123 : (w 275 30 : Int) ≠ 4 := h123
                                refine e_Ok.ps1 (x := (1, 275)) (q := 121) 1 rfl ?_
                                refine e_Ok.getr (z := 300) rfl (el_o rfl) rfl (ef_o rfl) (e_Has.eq hT (mt_o rfl)) ⟨by decide, by decide⟩ ?_
                                refine e_Ok.ps1 (x := (1, 275)) (q := 125) 1 rfl ?_
                                refine e_Ok.getf (z := w 275 30) rfl (el_o rfl) rfl (ef_o rfl) rfl (by omega) ?_
                                refine e_Ok.ps1 (x := (0, p1)) (q := 129) 1 rfl ?_
                                refine e_Ok.ast rfl (el_o rfl) rfl rfl (by omega) ?_
                                generalize hw124 : e_up w 300 (w 275 30) p1 = w124
                                refine e_Ok.ps1 (x := (1, 275)) (q := 131) 1 rfl ?_
                                refine e_Ok.getr (z := 301) rfl (el_o rfl) rfl (ef_o rfl) (e_uq hw124 (Or.inl (by decide)) (e_Has.eq hT (mt_o rfl))) ⟨by decide, by decide⟩ ?_
                                refine e_Ok.ps1 (x := (1, 275)) (q := 135) 1 rfl ?_
                                refine e_Ok.getf (z := w 275 30) rfl (el_o rfl) rfl (ef_o rfl) (e_uq hw124 (Or.inl (by decide)) rfl) (by omega) ?_
                                refine e_Ok.ps1 (x := (0, p2)) (q := 139) 1 rfl ?_
                                refine e_Ok.ast rfl (el_o rfl) rfl rfl (by omega) ?_
                                generalize hw125 : e_up w124 301 (w 275 30) p2 = w125
                                refine e_Ok.ps1 (x := (1, 275)) (q := 141) 1 rfl ?_
                                refine e_Ok.getr (z := 302) rfl (el_o rfl) rfl (ef_o rfl) (e_uq hw125 (Or.inl (by decide)) (e_uq hw124 (Or.inl (by decide)) (e_Has.eq hT (mt_o rfl)))) ⟨by decide, by decide⟩ ?_
                                refine e_Ok.ps1 (x := (1, 275)) (q := 145) 1 rfl ?_
                                refine e_Ok.getf (z := w 275 30) rfl (el_o rfl) rfl (ef_o rfl) (e_uq hw125 (Or.inl (by decide)) (e_uq hw124 (Or.inl (by decide)) rfl)) (by omega) ?_
                                refine e_Ok.ps1 (x := (0, p3)) (q := 149) 1 rfl ?_
                                refine e_Ok.ast rfl (el_o rfl) rfl rfl (by omega) ?_
                                generalize hw126 : e_up w125 302 (w 275 30) p3 = w126
                                refine e_Ok.ps1 (x := (1, 275)) (q := 151) 1 rfl ?_
                                refine e_Ok.getr (z := 303) rfl (el_o rfl) rfl (ef_o rfl) (e_uq hw126 (Or.inl (by decide)) (e_uq hw125 (Or.inl (by decide)) (e_uq hw124 (Or.inl (by decide)) (e_Has.eq hT (mt_o rfl))))) ⟨by decide, by decide⟩ ?_
                                refine e_Ok.ps1 (x := (1, 275)) (q := 155) 1 rfl ?_
                                refine e_Ok.getf (z := w 275 30) rfl (el_o rfl) rfl (ef_o rfl) (e_uq hw126 (Or.inl (by decide)) (e_uq hw125 (Or.inl (by decide)) (e_uq hw124 (Or.inl (by decide)) rfl))) (by omega) ?_
                                refine e_Ok.ps1 (x := (0, p4)) (q := 160) 1 rfl ?_
                                refine e_Ok.ast rfl (el_o rfl) rfl rfl (by omega) ?_
                                generalize hw127 : e_up w126 303 (w 275 30) p4 = w127
                                refine e_Ok.ps1 (x := (1, 275)) (q := 162) 1 rfl ?_
                                refine e_Ok.getr (z := 304) rfl (el_o rfl) rfl (ef_o rfl) (e_uq hw127 (Or.inl (by decide)) (e_uq hw126 (Or.inl (by decide)) (e_uq hw125 (Or.inl (by decide)) (e_uq hw124 (Or.inl (by decide)) (e_Has.eq hT (mt_o rfl)))))) ⟨by decide, by decide⟩ ?_
                                refine e_Ok.ps1 (x := (1, 275)) (q := 166) 1 rfl ?_
                                refine e_Ok.getf (z := w 275 30) rfl (el_o rfl) rfl (ef_o rfl) (e_uq hw127 (Or.inl (by decide)) (e_uq hw126 (Or.inl (by decide)) (e_uq hw125 (Or.inl (by decide)) (e_uq hw124 (Or.inl (by decide)) rfl)))) (by omega) ?_
                                refine e_Ok.ps1 (x := (0, 0)) (q := 170) 1 rfl ?_
                                refine e_Ok.ast rfl (el_o rfl) rfl rfl (by omega) ?_
                                generalize hw128 : e_up w127 304 (w 275 30) 0 = w128
                                refine e_Ok.ps1 (x := (1, 275)) (q := 172) 1 rfl ?_
                                refine e_Ok.getr (z := 306) rfl (el_o rfl) rfl (ef_o rfl) (e_uq hw128 (Or.inl (by decide)) (e_uq hw127 (Or.inl (by decide)) (e_uq hw126 (Or.inl (by decide)) (e_uq hw125 (Or.inl (by decide)) (e_uq hw124 (Or.inl (by decide)) (e_Has.eq hT (mt_o rfl))))))) ⟨by decide, by decide⟩ ?_
                                refine e_Ok.ps1 (x := (1, 275)) (q := 176) 1 rfl ?_
                                refine e_Ok.getf (z := w 275 30) rfl (el_o rfl) rfl (ef_o rfl) (e_uq hw128 (Or.inl (by decide)) (e_uq hw127 (Or.inl (by decide)) (e_uq hw126 (Or.inl (by decide)) (e_uq hw125 (Or.inl (by decide)) (e_uq hw124 (Or.inl (by decide)) rfl))))) (by omega) ?_
                                refine e_Ok.ps1 (x := (0, (-1))) (q := 180) 1 rfl ?_
                                refine e_Ok.ast rfl (el_o rfl) rfl rfl (by omega) ?_
                                generalize hw129 : e_up w128 306 (w 275 30) (-1) = w129
                                refine e_Ok.ps1 (x := (1, 275)) (q := 182) 1 rfl ?_
                                refine e_Ok.getr (z := 305) rfl (el_o rfl) rfl (ef_o rfl) (e_uq hw129 (Or.inl (by decide)) (e_uq hw128 (Or.inl (by decide)) (e_uq hw127 (Or.inl (by decide)) (e_uq hw126 (Or.inl (by decide)) (e_uq hw125 (Or.inl (by decide)) (e_uq hw124 (Or.inl (by decide)) (e_Has.eq hT (mt_o rfl)))))))) ⟨by decide, by decide⟩ ?_
                                refine e_Ok.ps1 (x := (1, 275)) (q := 186) 1 rfl ?_
                                refine e_Ok.getf (z := w 275 30) rfl (el_o rfl) rfl (ef_o rfl) (e_uq hw129 (Or.inl (by decide)) (e_uq hw128 (Or.inl (by decide)) (e_uq hw127 (Or.inl (by decide)) (e_uq hw126 (Or.inl (by decide)) (e_uq hw125 (Or.inl (by decide)) (e_uq hw124 (Or.inl (by decide)) rfl)))))) (by omega) ?_
                                refine e_Ok.ps1 (x := (0, p5)) (q := 191) 1 rfl ?_
                                refine e_Ok.ast rfl (el_o rfl) rfl rfl (by omega) ?_
                                generalize hw130 : e_up w129 305 (w 275 30) p5 = w130
                                refine e_Ok.ps2 (x := (1, 275)) (y := (1, 275)) (q := 194) 2 rfl ?_
                                refine e_Ok.getf (z := w 275 30) rfl (el_o rfl) rfl (ef_o rfl) (e_uq hw130 (Or.inl (by decide)) (e_uq hw129 (Or.inl (by decide)) (e_uq hw128 (Or.inl (by decide)) (e_uq hw127 (Or.inl (by decide)) (e_uq hw126 (Or.inl (by decide)) (e_uq hw125 (Or.inl (by decide)) (e_uq hw124 (Or.inl (by decide)) rfl))))))) (by omega) ?_
                                refine e_Ok.ps1 (x := (0, 1)) (q := 198) 1 rfl ?_
                                refine e_Ok.add (z := w 275 30 + 1) rfl rfl (by omega) ?_
                                refine e_Ok.putf rfl (el_o rfl) rfl (ef_o rfl) ?_
                                generalize hw131 : e_up w130 275 30 (w 275 30 + 1) = w131
                                refine e_Ok.ps1 (x := (1, 275)) (q := 203) 1 rfl ?_
                                refine e_Ok.getf (z := w 275 30 + 1) rfl (el_o rfl) rfl (ef_o rfl) (e_ue hw131) (by omega) ?_
                                refine e_Ok.ps1 (x := (0, 1)) (q := 207) 1 rfl ?_
                                refine e_Ok.sub' (z := w 275 30) rfl (by omega) (by omega) ?_
                                refine e_Ok.rets rfl rfl ?_
                                exact ⟨_, rfl, Or.inr ⟨by omega, by omega, by rw [← hw131, ← hw130, ← hw129, ← hw128, ← hw127, ← hw126, ← hw125, ← hw124]⟩⟩
                              · replace h123 : (w 275 30 : Int) = 4 := Classical.not_not.mp (show ¬ ((w 275 30 : Int) ≠ 4) from h123)
                                refine e_Ok.ps1 (x := (0, (-3))) (q := 119) 1 rfl ?_
                                refine e_Ok.rets rfl rfl ?_
                                exact ⟨_, rfl, Or.inl ⟨rfl, by omega⟩⟩
                            · replace h121 : (w 275 3 : Int) ≠ 0 := (show ¬ ((w 275 3 : Int) = 0) from h121)
                              refine e_Ok.ps1 (x := (0, (-2))) (q := 108) 1 rfl ?_
                              refine e_Ok.rets rfl rfl ?_
                              exact ⟨_, rfl, Or.inl ⟨rfl, by omega⟩⟩
                          · replace h120 : (1 : Int) = 0 := Classical.not_not.mp (show ¬ ((1 : Int) ≠ 0) from h120)
                            exfalso; omega
                        · refine e_Ok.nrm (q := 94) (st' := [(0, 0)]) rfl rfl ?_
                          refine e_Ok.if1 rfl (fun h132 => ?_) (fun h132 => ?_)
                          · replace h132 : (0 : Int) ≠ 0 := h132
                            exfalso; omega
                          · replace h132 : (0 : Int) = 0 := Classical.not_not.mp (show ¬ ((0 : Int) ≠ 0) from h132)
                            refine e_Ok.ps1 (x := (0, (-1))) (q := 98) 1 rfl ?_
                            refine e_Ok.rets rfl rfl ?_
                            exact ⟨_, rfl, Or.inl ⟨rfl, by omega⟩⟩
                      · replace h114 : (z113 : Int) = 0 := Classical.not_not.mp (show ¬ ((z113 : Int) ≠ 0) from h114)
                        refine e_Ok.ps1 (x := (0, p2)) (q := 91) 2 rfl ?_
                        refine e_Ok.callS rfl (e_dq hd rfl) rfl rfl (c_272_ex (e_dq hd rfl)) (fun r133 w134 h135 => ?_)
                        obtain ⟨z136, rfl, rfl, q137⟩ := h135
                        obtain ⟨rfl, q137⟩ | ⟨rfl, q137⟩ := q137
                        · refine e_Ok.nrm (q := 94) (st' := [(0, 1)]) rfl rfl ?_
                          refine e_Ok.if1 rfl (fun h138 => ?_) (fun h138 => ?_)
                          · replace h138 : (1 : Int) ≠ 0 := h138
                            refine e_Ok.ps1 (x := (1, 275)) (q := 100) 1 rfl ?_
                            refine e_Ok.getf (z := w 275 3) rfl (el_o rfl) rfl (ef_o rfl) rfl (by omega) ?_
                            refine e_Ok.if1 rfl (fun h139 => ?_) (fun h139 => ?_)
                            · replace h139 : (w 275 3 : Int) = 0 := h139
                              refine e_Ok.ps1 (x := (1, 275)) (q := 110) 1 rfl ?_
                              have h140 := (e_Has.get hT (c := 275) (k := 30) (lo := 0) (hi := 4) (mt_o rfl) (by decide))
                              refine e_Ok.getf (z := w 275 30) rfl (el_o rfl) rfl (ef_o rfl) rfl (e_bq h140 (by decide) (by decide)) ?_
                              refine e_Ok.ps1 (x := (0, 4)) (q := 114) 1 rfl ?_
                              refine e_Ok.if2 rfl (fun h141 => ?_) (fun h141 => ?_)
                              · replace h141 : (w 275 30 : Int) ≠ 4 := h141
                                refine e_Ok.ps1 (x := (1, 275)) (q := 121) 1 rfl ?_
                                refine e_Ok.getr (z := 300) rfl (el_o rfl) rfl (ef_o rfl) (e_Has.eq hT (mt_o rfl)) ⟨by decide, by decide⟩ ?_
                                refine e_Ok.ps1 (x := (1, 275)) (q := 125) 1 rfl ?_
                                refine e_Ok.getf (z := w 275 30) rfl (el_o rfl) rfl (ef_o rfl) rfl (by omega) ?_
                                refine e_Ok.ps1 (x := (0, p1)) (q := 129) 1 rfl ?_
                                refine e_Ok.ast rfl (el_o rfl) rfl rfl (by omega) ?_
                                generalize hw142 : e_up w 300 (w 275 30) p1 = w142
                                refine e_Ok.ps1 (x := (1, 275)) (q := 131) 1 rfl ?_
                                refine e_Ok.getr (z := 301) rfl (el_o rfl) rfl (ef_o rfl) (e_uq hw142 (Or.inl (by decide)) (e_Has.eq hT (mt_o rfl))) ⟨by decide, by decide⟩ ?_
                                refine e_Ok.ps1 (x := (1, 275)) (q := 135) 1 rfl ?_
                                refine e_Ok.getf (z := w 275 30) rfl (el_o rfl) rfl (ef_o rfl) (e_uq hw142 (Or.inl (by decide)) rfl) (by omega) ?_
                                refine e_Ok.ps1 (x := (0, p2)) (q := 139) 1 rfl ?_
                                refine e_Ok.ast rfl (el_o rfl) rfl rfl (by omega) ?_
                                generalize hw143 : e_up w142 301 (w 275 30) p2 = w143
                                refine e_Ok.ps1 (x := (1, 275)) (q := 141) 1 rfl ?_
                                refine e_Ok.getr (z := 302) rfl (el_o rfl) rfl (ef_o rfl) (e_uq hw143 (Or.inl (by decide)) (e_uq hw142 (Or.inl (by decide)) (e_Has.eq hT (mt_o rfl)))) ⟨by decide, by decide⟩ ?_
                                refine e_Ok.ps1 (x := (1, 275)) (q := 145) 1 rfl ?_
                                refine e_Ok.getf (z := w 275 30) rfl (el_o rfl) rfl (ef_o rfl) (e_uq hw143 (Or.inl (by decide)) (e_uq hw142 (Or.inl (by decide)) rfl)) (by omega) ?_
                                refine e_Ok.ps1 (x := (0, p3)) (q := 149) 1 rfl ?_
                                refine e_Ok.ast rfl (el_o rfl) rfl rfl (by omega) ?_
                                generalize hw144 : e_up w143 302 (w 275 30) p3 = w144
                                refine e_Ok.ps1 (x := (1, 275)) (q := 151) 1 rfl ?_
                                refine e_Ok.getr (z := 303) rfl (el_o rfl) rfl (ef_o rfl) (e_uq hw144 (Or.inl (by decide)) (e_uq hw143 (Or.inl (by decide)) (e_uq hw142 (Or.inl (by decide)) (e_Has.eq hT (mt_o rfl))))) ⟨by decide, by decide⟩ ?_
                                refine e_Ok.ps1 (x := (1, 275)) (q := 155) 1 rfl ?_
                                refine e_Ok.getf (z := w 275 30) rfl (el_o rfl) rfl (ef_o rfl) (e_uq hw144 (Or.inl (by decide)) (e_uq hw143 (Or.inl (by decide)) (e_uq hw142 (Or.inl (by decide)) rfl))) (by omega) ?_
                                refine e_Ok.ps1 (x := (0, p4)) (q := 160) 1 rfl ?_
                                refine e_Ok.ast rfl (el_o rfl) rfl rfl (by omega) ?_
                                generalize hw145 : e_up w144 303 (w 275 30) p4 = w145
                                refine e_Ok.ps1 (x := (1, 275)) (q := 162) 1 rfl ?_
                                refine e_Ok.getr (z := 304) rfl (el_o rfl) rfl (ef_o rfl) (e_uq hw145 (Or.inl (by decide)) (e_uq hw144 (Or.inl (by decide)) (e_uq hw143 (Or.inl (by decide)) (e_uq hw142 (Or.inl (by decide)) (e_Has.eq hT (mt_o rfl)))))) ⟨by decide, by decide⟩ ?_
                                refine e_Ok.ps1 (x := (1, 275)) (q := 166) 1 rfl ?_
                                refine e_Ok.getf (z := w 275 30) rfl (el_o rfl) rfl (ef_o rfl) (e_uq hw145 (Or.inl (by decide)) (e_uq hw144 (Or.inl (by decide)) (e_uq hw143 (Or.inl (by decide)) (e_uq hw142 (Or.inl (by decide)) rfl)))) (by omega) ?_
                                refine e_Ok.ps1 (x := (0, 0)) (q := 170) 1 rfl ?_
                                refine e_Ok.ast rfl (el_o rfl) rfl rfl (by omega) ?_
                                generalize hw146 : e_up w145 304 (w 275 30) 0 = w146
                                refine e_Ok.ps1 (x := (1, 275)) (q := 172) 1 rfl ?_
                                refine e_Ok.getr (z := 306) rfl (el_o rfl) rfl (ef_o rfl) (e_uq hw146 (Or.inl (by decide)) (e_uq hw145 (Or.inl (by decide)) (e_uq hw144 (Or.inl (by decide)) (e_uq hw143 (Or.inl (by decide)) (e_uq hw142 (Or.inl (by decide)) (e_Has.eq hT (mt_o rfl))))))) ⟨by decide, by decide⟩ ?_
                                refine e_Ok.ps1 (x := (1, 275)) (q := 176) 1 rfl ?_
                                refine e_Ok.getf (z := w 275 30) rfl (el_o rfl) rfl (ef_o rfl) (e_uq hw146 (Or.inl (by decide)) (e_uq hw145 (Or.inl (by decide)) (e_uq hw144 (Or.inl (by decide)) (e_uq hw143 (Or.inl (by decide)) (e_uq hw142 (Or.inl (by decide)) rfl))))) (by omega) ?_
                                refine e_Ok.ps1 (x := (0, (-1))) (q := 180) 1 rfl ?_
                                refine e_Ok.ast rfl (el_o rfl) rfl rfl (by omega) ?_
                                generalize hw147 : e_up w146 306 (w 275 30) (-1) = w147
                                refine e_Ok.ps1 (x := (1, 275)) (q := 182) 1 rfl ?_
                                refine e_Ok.getr (z := 305) rfl (el_o rfl) rfl (ef_o rfl) (e_uq hw147 (Or.inl (by decide)) (e_uq hw146 (Or.inl (by decide)) (e_uq hw145 (Or.inl (by decide)) (e_uq hw144 (Or.inl (by decide)) (e_uq hw143 (Or.inl (by decide)) (e_uq hw142 (Or.inl (by decide)) (e_Has.eq hT (mt_o rfl)))))))) ⟨by decide, by decide⟩ ?_
                                refine e_Ok.ps1 (x := (1, 275)) (q := 186) 1 rfl ?_
                                refine e_Ok.getf (z := w 275 30) rfl (el_o rfl) rfl (ef_o rfl) (e_uq hw147 (Or.inl (by decide)) (e_uq hw146 (Or.inl (by decide)) (e_uq hw145 (Or.inl (by decide)) (e_uq hw144 (Or.inl (by decide)) (e_uq hw143 (Or.inl (by decide)) (e_uq hw142 (Or.inl (by decide)) rfl)))))) (by omega) ?_
                                refine e_Ok.ps1 (x := (0, p5)) (q := 191) 1 rfl ?_
                                refine e_Ok.ast rfl (el_o rfl) rfl rfl (by omega) ?_
                                generalize hw148 : e_up w147 305 (w 275 30) p5 = w148
                                refine e_Ok.ps2 (x := (1, 275)) (y := (1, 275)) (q := 194) 2 rfl ?_
                                refine e_Ok.getf (z := w 275 30) rfl (el_o rfl) rfl (ef_o rfl) (e_uq hw148 (Or.inl (by decide)) (e_uq hw147 (Or.inl (by decide)) (e_uq hw146 (Or.inl (by decide)) (e_uq hw145 (Or.inl (by decide)) (e_uq hw144 (Or.inl (by decide)) (e_uq hw143 (Or.inl (by decide)) (e_uq hw142 (Or.inl (by decide)) rfl))))))) (by omega) ?_
                                refine e_Ok.ps1 (x := (0, 1)) (q := 198) 1 rfl ?_
                                refine e_Ok.add (z := w 275 30 + 1) rfl rfl (by omega) ?_
                                refine e_Ok.putf rfl (el_o rfl) rfl (ef_o rfl) ?_
                                generalize hw149 : e_up w148 275 30 (w 275 30 + 1) = w149
                                refine e_Ok.ps1 (x := (1, 275)) (q := 203) 1 rfl ?_
                                refine e_Ok.getf (z := w 275 30 + 1) rfl (el_o rfl) rfl (ef_o rfl) (e_ue hw149) (by omega) ?_
                                refine e_Ok.ps1 (x := (0, 1)) (q := 207) 1 rfl ?_
                                refine e_Ok.sub' (z := w 275 30) rfl (by omega) (by omega) ?_
                                refine e_Ok.rets rfl rfl ?_
                                exact ⟨_, rfl, Or.inr ⟨by omega, by omega, by rw [← hw149, ← hw148, ← hw147, ← hw146, ← hw145, ← hw144, ← hw143, ← hw142]⟩⟩
                              · replace h141 : (w 275 30 : Int) = 4 := Classical.not_not.mp (show ¬ ((w 275 30 : Int) ≠ 4) from h141)
                                refine e_Ok.ps1 (x := (0, (-3))) (q := 119) 1 rfl ?_
                                refine e_Ok.rets rfl rfl ?_
                                exact ⟨_, rfl, Or.inl ⟨rfl, by omega⟩⟩
                            · replace h139 : (w 275 3 : Int) ≠ 0 := (show ¬ ((w 275 3 : Int) = 0) from h139)
                              refine e_Ok.ps1 (x := (0, (-2))) (q := 108) 1 rfl ?_
                              refine e_Ok.rets rfl rfl ?_
                              exact ⟨_, rfl, Or.inl ⟨rfl, by omega⟩⟩
                          · replace h138 : (1 : Int) = 0 := Classical.not_not.mp (show ¬ ((1 : Int) ≠ 0) from h138)
                            exfalso; omega
                        · refine e_Ok.nrm (q := 94) (st' := [(0, 0)]) rfl rfl ?_
                          refine e_Ok.if1 rfl (fun h150 => ?_) (fun h150 => ?_)
                          · replace h150 : (0 : Int) ≠ 0 := h150
                            exfalso; omega
                          · replace h150 : (0 : Int) = 0 := Classical.not_not.mp (show ¬ ((0 : Int) ≠ 0) from h150)
                            refine e_Ok.ps1 (x := (0, (-1))) (q := 98) 1 rfl ?_
                            refine e_Ok.rets rfl rfl ?_
                            exact ⟨_, rfl, Or.inl ⟨rfl, by omega⟩⟩
                    · replace h112 : (z111 : Int) = 0 := Classical.not_not.mp (show ¬ ((z111 : Int) ≠ 0) from h112)
                      refine e_Ok.ps2 (x := (0, p4)) (y := (0, p1)) (q := 72) 2 rfl ?_
                      refine e_Ok.add (z := p1 + p4) rfl rfl (by omega) ?_
                      refine e_Ok.ps2 (x := (0, 2)) (y := (0, p3)) (q := 79) 3 rfl ?_
                      refine e_Ok.remn (fun z151 hz151 => ?_) rfl (by omega) (by omega)
                      replace hz151 : z151 = p3 % 2 := hz151
                      have z151r : 0 ≤ z151 ∧ z151 ≤ 1 := by omega
                      refine e_Ok.if1 rfl (fun h152 => ?_) (fun h152 => ?_)
                      · replace h152 : (z151 : Int) ≠ 0 := h152
                        refine e_Ok.ps2 (x := (0, p4)) (y := (0, p2)) (q := 90) 2 rfl ?_
                        refine e_Ok.add (z := p2 + p4) rfl rfl (by omega) ?_
                        refine e_Ok.callS rfl (e_dq hd rfl) rfl rfl (c_272_ex (e_dq hd rfl)) (fun r153 w154 h155 => ?_)
                        obtain ⟨z156, rfl, rfl, q157⟩ := h155
                        obtain ⟨rfl, q157⟩ | ⟨rfl, q157⟩ := q157
                        · refine e_Ok.nrm (q := 94) (st' := [(0, 1)]) rfl rfl ?_
                          refine e_Ok.if1 rfl (fun h158 => ?_) (fun h158 => ?_)
                          · replace h158 : (1 : Int) ≠ 0 := h158
                            refine e_Ok.ps1 (x := (1, 275)) (q := 100) 1 rfl ?_
                            refine e_Ok.getf (z := w 275 3) rfl (el_o rfl) rfl (ef_o rfl) rfl (by omega) ?_
                            refine e_Ok.if1 rfl (fun h159 => ?_) (fun h159 => ?_)
                            · replace h159 : (w 275 3 : Int) = 0 := h159
                              refine e_Ok.ps1 (x := (1, 275)) (q := 110) 1 rfl ?_
                              have h160 := (e_Has.get hT (c := 275) (k := 30) (lo := 0) (hi := 4) (mt_o rfl) (by decide))
                              refine e_Ok.getf (z := w 275 30) rfl (el_o rfl) rfl (ef_o rfl) rfl (e_bq h160 (by decide) (by decide)) ?_
                              refine e_Ok.ps1 (x := (0, 4)) (q := 114) 1 rfl ?_
                              refine e_Ok.if2 rfl (fun h161 => ?_) (fun h161 => ?_)
                              · replace h161 : (w 275 30 : Int) ≠ 4 := h161
                                refine e_Ok.ps1 (x := (1, 275)) (q := 121) 1 rfl ?_
                                refine e_Ok.getr (z := 300) rfl (el_o rfl) rfl (ef_o rfl) (e_Has.eq hT (mt_o rfl)) ⟨by decide, by decide⟩ ?_
                                refine e_Ok.ps1 (x := (1, 275)) (q := 125) 1 rfl ?_
                                refine e_Ok.getf (z := w 275 30) rfl (el_o rfl) rfl (ef_o rfl) rfl (by omega) ?_
                                refine e_Ok.ps1 (x := (0, p1)) (q := 129) 1 rfl ?_
                                refine e_Ok.ast rfl (el_o rfl) rfl rfl (by omega) ?_
                                generalize hw162 : e_up w 300 (w 275 30) p1 = w162
                                refine e_Ok.ps1 (x := (1, 275)) (q := 131) 1 rfl ?_
                                refine e_Ok.getr (z := 301) rfl (el_o rfl) rfl (ef_o rfl) (e_uq hw162 (Or.inl (by decide)) (e_Has.eq hT (mt_o rfl))) ⟨by decide, by decide⟩ ?_
                                refine e_Ok.ps1 (x := (1, 275)) (q := 135) 1 rfl ?_
                                refine e_Ok.getf (z := w 275 30) rfl (el_o rfl) rfl (ef_o rfl) (e_uq hw162 (Or.inl (by decide)) rfl) (by omega) ?_
                                refine e_Ok.ps1 (x := (0, p2)) (q := 139) 1 rfl ?_
                                refine e_Ok.ast rfl (el_o rfl) rfl rfl (by omega) ?_
                                generalize hw163 : e_up w162 301 (w 275 30) p2 = w163
                                refine e_Ok.ps1 (x := (1, 275)) (q := 141) 1 rfl ?_
                                refine e_Ok.getr (z := 302) rfl (el_o rfl) rfl (ef_o rfl) (e_uq hw163 (Or.inl (by decide)) (e_uq hw162 (Or.inl (by decide)) (e_Has.eq hT (mt_o rfl)))) ⟨by decide, by decide⟩ ?_
                                refine e_Ok.ps1 (x := (1, 275)) (q := 145) 1 rfl ?_
                                refine e_Ok.getf (z := w 275 30) rfl (el_o rfl) rfl (ef_o rfl) (e_uq hw163 (Or.inl (by decide)) (e_uq hw162 (Or.inl (by decide)) rfl)) (by omega) ?_
                                refine e_Ok.ps1 (x := (0, p3)) (q := 149) 1 rfl ?_
                                refine e_Ok.ast rfl (el_o rfl) rfl rfl (by omega) ?_
                                generalize hw164 : e_up w163 302 (w 275 30) p3 = w164
                                refine e_Ok.ps1 (x := (1, 275)) (q := 151) 1 rfl ?_
                                refine e_Ok.getr (z := 303) rfl (el_o rfl) rfl (ef_o rfl) (e_uq hw164 (Or.inl (by decide)) (e_uq hw163 (Or.inl (by decide)) (e_uq hw162 (Or.inl (by decide)) (e_Has.eq hT (mt_o rfl))))) ⟨by decide, by decide⟩ ?_
                                refine e_Ok.ps1 (x := (1, 275)) (q := 155) 1 rfl ?_
                                refine e_Ok.getf (z := w 275 30) rfl (el_o rfl) rfl (ef_o rfl) (e_uq hw164 (Or.inl (by decide)) (e_uq hw163 (Or.inl (by decide)) (e_uq hw162 (Or.inl (by decide)) rfl))) (by omega) ?_
                                refine e_Ok.ps1 (x := (0, p4)) (q := 160) 1 rfl ?_
                                refine e_Ok.ast rfl (el_o rfl) rfl rfl (by omega) ?_
                                generalize hw165 : e_up w164 303 (w 275 30) p4 = w165
                                refine e_Ok.ps1 (x := (1, 275)) (q := 162) 1 rfl ?_
                                refine e_Ok.getr (z := 304) rfl (el_o rfl) rfl (ef_o rfl) (e_uq hw165 (Or.inl (by decide)) (e_uq hw164 (Or.inl (by decide)) (e_uq hw163 (Or.inl (by decide)) (e_uq hw162 (Or.inl (by decide)) (e_Has.eq hT (mt_o rfl)))))) ⟨by decide, by decide⟩ ?_
                                refine e_Ok.ps1 (x := (1, 275)) (q := 166) 1 rfl ?_
                                refine e_Ok.getf (z := w 275 30) rfl (el_o rfl) rfl (ef_o rfl) (e_uq hw165 (Or.inl (by decide)) (e_uq hw164 (Or.inl (by decide)) (e_uq hw163 (Or.inl (by decide)) (e_uq hw162 (Or.inl (by decide)) rfl)))) (by omega) ?_
                                refine e_Ok.ps1 (x := (0, 0)) (q := 170) 1 rfl ?_
                                refine e_Ok.ast rfl (el_o rfl) rfl rfl (by omega) ?_
                                generalize hw166 : e_up w165 304 (w 275 30) 0 = w166
                                refine e_Ok.ps1 (x := (1, 275)) (q := 172) 1 rfl ?_
                                refine e_Ok.getr (z := 306) rfl (el_o rfl) rfl (ef_o rfl) (e_uq hw166 (Or.inl (by decide)) (e_uq hw165 (Or.inl (by decide)) (e_uq hw164 (Or.inl (by decide)) (e_uq hw163 (Or.inl (by decide)) (e_uq hw162 (Or.inl (by decide)) (e_Has.eq hT (mt_o rfl))))))) ⟨by decide, by decide⟩ ?_
                                refine e_Ok.ps1 (x := (1, 275)) (q := 176) 1 rfl ?_
                                refine e_Ok.getf (z := w 275 30) rfl (el_o rfl) rfl (ef_o rfl) (e_uq hw166 (Or.inl (by decide)) (e_uq hw165 (Or.inl (by decide)) (e_uq hw164 (Or.inl (by decide)) (e_uq hw163 (Or.inl (by decide)) (e_uq hw162 (Or.inl (by decide)) rfl))))) (by omega) ?_
                                refine e_Ok.ps1 (x := (0, (-1))) (q := 180) 1 rfl ?_
                                refine e_Ok.ast rfl (el_o rfl) rfl rfl (by omega) ?_
                                generalize hw167 : e_up w166 306 (w 275 30) (-1) = w167
                                refine e_Ok.ps1 (x := (1, 275)) (q := 182) 1 rfl ?_
                                refine e_Ok.getr (z := 305) rfl (el_o rfl) rfl (ef_o rfl) (e_uq hw167 (Or.inl (by decide)) (e_uq hw166 (Or.inl (by decide)) (e_uq hw165 (Or.inl (by decide)) (e_uq hw164 (Or.inl (by decide)) (e_uq hw163 (Or.inl (by decide)) (e_uq hw162 (Or.inl (by decide)) (e_Has.eq hT (mt_o rfl)))))))) ⟨by decide, by decide⟩ ?_
                                refine e_Ok.ps1 (x := (1, 275)) (q := 186) 1 rfl ?_
                                refine e_Ok.getf (z := w 275 30) rfl (el_o rfl) rfl (ef_o rfl) (e_uq hw167 (Or.inl (by decide)) (e_uq hw166 (Or.inl (by decide)) (e_uq hw165 (Or.inl (by decide)) (e_uq hw164 (Or.inl (by decide)) (e_uq hw163 (Or.inl (by decide)) (e_uq hw162 (Or.inl (by decide)) rfl)))))) (by omega) ?_
                                refine e_Ok.ps1 (x := (0, p5)) (q := 191) 1 rfl ?_
                                refine e_Ok.ast rfl (el_o rfl) rfl rfl (by omega) ?_
                                generalize hw168 : e_up w167 305 (w 275 30) p5 = w168
                                refine e_Ok.ps2 (x := (1, 275)) (y := (1, 275)) (q := 194) 2 rfl ?_
                                refine e_Ok.getf (z := w 275 30) rfl (el_o rfl) rfl (ef_o rfl) (e_uq hw168 (Or.inl (by decide)) (e_uq hw167 (Or.inl (by decide)) (e_uq hw166 (Or.inl (by decide)) (e_uq hw165 (Or.inl (by decide)) (e_uq hw164 (Or.inl (by decide)) (e_uq hw163 (Or.inl (by decide)) (e_uq hw162 (Or.inl (by decide)) rfl))))))) (by omega) ?_
                                refine e_Ok.ps1 (x := (0, 1)) (q := 198) 1 rfl ?_
                                refine e_Ok.add (z := w 275 30 + 1) rfl rfl (by omega) ?_
                                refine e_Ok.putf rfl (el_o rfl) rfl (ef_o rfl) ?_
                                generalize hw169 : e_up w168 275 30 (w 275 30 + 1) = w169
                                refine e_Ok.ps1 (x := (1, 275)) (q := 203) 1 rfl ?_
                                refine e_Ok.getf (z := w 275 30 + 1) rfl (el_o rfl) rfl (ef_o rfl) (e_ue hw169) (by omega) ?_
                                refine e_Ok.ps1 (x := (0, 1)) (q := 207) 1 rfl ?_
                                refine e_Ok.sub' (z := w 275 30) rfl (by omega) (by omega) ?_
                                refine e_Ok.rets rfl rfl ?_
                                exact ⟨_, rfl, Or.inr ⟨by omega, by omega, by rw [← hw169, ← hw168, ← hw167, ← hw166, ← hw165, ← hw164, ← hw163, ← hw162]⟩⟩
                              · replace h161 : (w 275 30 : Int) = 4 := Classical.not_not.mp (show ¬ ((w 275 30 : Int) ≠ 4) from h161)
                                refine e_Ok.ps1 (x := (0, (-3))) (q := 119) 1 rfl ?_
                                refine e_Ok.rets rfl rfl ?_
                                exact ⟨_, rfl, Or.inl ⟨rfl, by omega⟩⟩
                            · replace h159 : (w 275 3 : Int) ≠ 0 := (show ¬ ((w 275 3 : Int) = 0) from h159)
                              refine e_Ok.ps1 (x := (0, (-2))) (q := 108) 1 rfl ?_
                              refine e_Ok.rets rfl rfl ?_
                              exact ⟨_, rfl, Or.inl ⟨rfl, by omega⟩⟩
                          · replace h158 : (1 : Int) = 0 := Classical.not_not.mp (show ¬ ((1 : Int) ≠ 0) from h158)
                            exfalso; omega
                        · refine e_Ok.nrm (q := 94) (st' := [(0, 0)]) rfl rfl ?_
                          refine e_Ok.if1 rfl (fun h170 => ?_) (fun h170 => ?_)
                          · replace h170 : (0 : Int) ≠ 0 := h170
                            exfalso; omega
                          · replace h170 : (0 : Int) = 0 := Classical.not_not.mp (show ¬ ((0 : Int) ≠ 0) from h170)
                            refine e_Ok.ps1 (x := (0, (-1))) (q := 98) 1 rfl ?_
                            refine e_Ok.rets rfl rfl ?_
                            exact ⟨_, rfl, Or.inl ⟨rfl, by omega⟩⟩
                      · replace h152 : (z151 : Int) = 0 := Classical.not_not.mp (show ¬ ((z151 : Int) ≠ 0) from h152)
                        refine e_Ok.ps1 (x := (0, p2)) (q := 91) 2 rfl ?_
                        refine e_Ok.callS rfl (e_dq hd rfl) rfl rfl (c_272_ex (e_dq hd rfl)) (fun r171 w172 h173 => ?_)
                        obtain ⟨z174, rfl, rfl, q175⟩ := h173
                        obtain ⟨rfl, q175⟩ | ⟨rfl, q175⟩ := q175
                        · refine e_Ok.nrm (q := 94) (st' := [(0, 1)]) rfl rfl ?_
                          refine e_Ok.if1 rfl (fun h176 => ?_) (fun h176 => ?_)
                          · replace h176 : (1 : Int) ≠ 0 := h176
                            refine e_Ok.ps1 (x := (1, 275)) (q := 100) 1 rfl ?_
                            refine e_Ok.getf (z := w 275 3) rfl (el_o rfl) rfl (ef_o rfl) rfl (by omega) ?_
                            refine e_Ok.if1 rfl (fun h177 => ?_) (fun h177 => ?_)
                            · replace h177 : (w 275 3 : Int) = 0 := h177
                              refine e_Ok.ps1 (x := (1, 275)) (q := 110) 1 rfl ?_
                              have h178 := (e_Has.get hT (c := 275) (k := 30) (lo := 0) (hi := 4) (mt_o rfl) (by decide))
                              refine e_Ok.getf (z := w 275 30) rfl (el_o rfl) rfl (ef_o rfl) rfl (e_bq h178 (by decide) (by decide)) ?_
                              refine e_Ok.ps1 (x := (0, 4)) (q := 114) 1 rfl ?_
                              refine e_Ok.if2 rfl (fun h179 => ?_) (fun h179 => ?_)
                              · replace h179 : (w 275 30 : Int) ≠ 4 := h179
                                refine e_Ok.ps1 (x := (1, 275)) (q := 121) 1 rfl ?_
                                refine e_Ok.getr (z := 300) rfl (el_o rfl) rfl (ef_o rfl) (e_Has.eq hT (mt_o rfl)) ⟨by decide, by decide⟩ ?_
                                refine e_Ok.ps1 (x := (1, 275)) (q := 125) 1 rfl ?_
                                refine e_Ok.getf (z := w 275 30) rfl (el_o rfl) rfl (ef_o rfl) rfl (by omega) ?_
                                refine e_Ok.ps1 (x := (0, p1)) (q := 129) 1 rfl ?_
                                refine e_Ok.ast rfl (el_o rfl) rfl rfl (by omega) ?_
                                generalize hw180 : e_up w 300 (w 275 30) p1 = w180
                                refine e_Ok.ps1 (x := (1, 275)) (q := 131) 1 rfl ?_
                                refine e_Ok.getr (z := 301) rfl (el_o rfl) rfl (ef_o rfl) (e_uq hw180 (Or.inl (by decide)) (e_Has.eq hT (mt_o rfl))) ⟨by decide, by decide⟩ ?_
                                refine e_Ok.ps1 (x := (1, 275)) (q := 135) 1 rfl ?_
                                refine e_Ok.getf (z := w 275 30) rfl (el_o rfl) rfl (ef_o rfl) (e_uq hw180 (Or.inl (by decide)) rfl) (by omega) ?_
                                refine e_Ok.ps1 (x := (0, p2)) (q := 139) 1 rfl ?_
                                refine e_Ok.ast rfl (el_o rfl) rfl rfl (by omega) ?_
                                generalize hw181 : e_up w180 301 (w 275 30) p2 = w181
                                refine e_Ok.ps1 (x := (1, 275)) (q := 141) 1 rfl ?_
                                refine e_Ok.getr (z := 302) rfl (el_o rfl) rfl (ef_o rfl) (e_uq hw181 (Or.inl (by decide)) (e_uq hw180 (Or.inl (by decide)) (e_Has.eq hT (mt_o rfl)))) ⟨by decide, by decide⟩ ?_
                                refine e_Ok.ps1 (x := (1, 275)) (q := 145) 1 rfl ?_
                                refine e_Ok.getf (z := w 275 30) rfl (el_o rfl) rfl (ef_o rfl) (e_uq hw181 (Or.inl (by decide)) (e_uq hw180 (Or.inl (by decide)) rfl)) (by omega) ?_
                                refine e_Ok.ps1 (x := (0, p3)) (q := 149) 1 rfl ?_
                                refine e_Ok.ast rfl (el_o rfl) rfl rfl (by omega) ?_
                                generalize hw182 : e_up w181 302 (w 275 30) p3 = w182
                                refine e_Ok.ps1 (x := (1, 275)) (q := 151) 1 rfl ?_
                                refine e_Ok.getr (z := 303) rfl (el_o rfl) rfl (ef_o rfl) (e_uq hw182 (Or.inl (by decide)) (e_uq hw181 (Or.inl (by decide)) (e_uq hw180 (Or.inl (by decide)) (e_Has.eq hT (mt_o rfl))))) ⟨by decide, by decide⟩ ?_
                                refine e_Ok.ps1 (x := (1, 275)) (q := 155) 1 rfl ?_
                                refine e_Ok.getf (z := w 275 30) rfl (el_o rfl) rfl (ef_o rfl) (e_uq hw182 (Or.inl (by decide)) (e_uq hw181 (Or.inl (by decide)) (e_uq hw180 (Or.inl (by decide)) rfl))) (by omega) ?_
                                refine e_Ok.ps1 (x := (0, p4)) (q := 160) 1 rfl ?_
                                refine e_Ok.ast rfl (el_o rfl) rfl rfl (by omega) ?_
                                generalize hw183 : e_up w182 303 (w 275 30) p4 = w183
                                refine e_Ok.ps1 (x := (1, 275)) (q := 162) 1 rfl ?_
                                refine e_Ok.getr (z := 304) rfl (el_o rfl) rfl (ef_o rfl) (e_uq hw183 (Or.inl (by decide)) (e_uq hw182 (Or.inl (by decide)) (e_uq hw181 (Or.inl (by decide)) (e_uq hw180 (Or.inl (by decide)) (e_Has.eq hT (mt_o rfl)))))) ⟨by decide, by decide⟩ ?_
                                refine e_Ok.ps1 (x := (1, 275)) (q := 166) 1 rfl ?_
                                refine e_Ok.getf (z := w 275 30) rfl (el_o rfl) rfl (ef_o rfl) (e_uq hw183 (Or.inl (by decide)) (e_uq hw182 (Or.inl (by decide)) (e_uq hw181 (Or.inl (by decide)) (e_uq hw180 (Or.inl (by decide)) rfl)))) (by omega) ?_
                                refine e_Ok.ps1 (x := (0, 0)) (q := 170) 1 rfl ?_
                                refine e_Ok.ast rfl (el_o rfl) rfl rfl (by omega) ?_
                                generalize hw184 : e_up w183 304 (w 275 30) 0 = w184
                                refine e_Ok.ps1 (x := (1, 275)) (q := 172) 1 rfl ?_
                                refine e_Ok.getr (z := 306) rfl (el_o rfl) rfl (ef_o rfl) (e_uq hw184 (Or.inl (by decide)) (e_uq hw183 (Or.inl (by decide)) (e_uq hw182 (Or.inl (by decide)) (e_uq hw181 (Or.inl (by decide)) (e_uq hw180 (Or.inl (by decide)) (e_Has.eq hT (mt_o rfl))))))) ⟨by decide, by decide⟩ ?_
                                refine e_Ok.ps1 (x := (1, 275)) (q := 176) 1 rfl ?_
                                refine e_Ok.getf (z := w 275 30) rfl (el_o rfl) rfl (ef_o rfl) (e_uq hw184 (Or.inl (by decide)) (e_uq hw183 (Or.inl (by decide)) (e_uq hw182 (Or.inl (by decide)) (e_uq hw181 (Or.inl (by decide)) (e_uq hw180 (Or.inl (by decide)) rfl))))) (by omega) ?_
                                refine e_Ok.ps1 (x := (0, (-1))) (q := 180) 1 rfl ?_
                                refine e_Ok.ast rfl (el_o rfl) rfl rfl (by omega) ?_
                                generalize hw185 : e_up w184 306 (w 275 30) (-1) = w185
                                refine e_Ok.ps1 (x := (1, 275)) (q := 182) 1 rfl ?_
                                refine e_Ok.getr (z := 305) rfl (el_o rfl) rfl (ef_o rfl) (e_uq hw185 (Or.inl (by decide)) (e_uq hw184 (Or.inl (by decide)) (e_uq hw183 (Or.inl (by decide)) (e_uq hw182 (Or.inl (by decide)) (e_uq hw181 (Or.inl (by decide)) (e_uq hw180 (Or.inl (by decide)) (e_Has.eq hT (mt_o rfl)))))))) ⟨by decide, by decide⟩ ?_
                                refine e_Ok.ps1 (x := (1, 275)) (q := 186) 1 rfl ?_
                                refine e_Ok.getf (z := w 275 30) rfl (el_o rfl) rfl (ef_o rfl) (e_uq hw185 (Or.inl (by decide)) (e_uq hw184 (Or.inl (by decide)) (e_uq hw183 (Or.inl (by decide)) (e_uq hw182 (Or.inl (by decide)) (e_uq hw181 (Or.inl (by decide)) (e_uq hw180 (Or.inl (by decide)) rfl)))))) (by omega) ?_
                                refine e_Ok.ps1 (x := (0, p5)) (q := 191) 1 rfl ?_
                                refine e_Ok.ast rfl (el_o rfl) rfl rfl (by omega) ?_
                                generalize hw186 : e_up w185 305 (w 275 30) p5 = w186
                                refine e_Ok.ps2 (x := (1, 275)) (y := (1, 275)) (q := 194) 2 rfl ?_
                                refine e_Ok.getf (z := w 275 30) rfl (el_o rfl) rfl (ef_o rfl) (e_uq hw186 (Or.inl (by decide)) (e_uq hw185 (Or.inl (by decide)) (e_uq hw184 (Or.inl (by decide)) (e_uq hw183 (Or.inl (by decide)) (e_uq hw182 (Or.inl (by decide)) (e_uq hw181 (Or.inl (by decide)) (e_uq hw180 (Or.inl (by decide)) rfl))))))) (by omega) ?_
                                refine e_Ok.ps1 (x := (0, 1)) (q := 198) 1 rfl ?_
                                refine e_Ok.add (z := w 275 30 + 1) rfl rfl (by omega) ?_
                                refine e_Ok.putf rfl (el_o rfl) rfl (ef_o rfl) ?_
                                generalize hw187 : e_up w186 275 30 (w 275 30 + 1) = w187
                                refine e_Ok.ps1 (x := (1, 275)) (q := 203) 1 rfl ?_
                                refine e_Ok.getf (z := w 275 30 + 1) rfl (el_o rfl) rfl (ef_o rfl) (e_ue hw187) (by omega) ?_
                                refine e_Ok.ps1 (x := (0, 1)) (q := 207) 1 rfl ?_
                                refine e_Ok.sub' (z := w 275 30) rfl (by omega) (by omega) ?_
                                refine e_Ok.rets rfl rfl ?_
                                exact ⟨_, rfl, Or.inr ⟨by omega, by omega, by rw [← hw187, ← hw186, ← hw185, ← hw184, ← hw183, ← hw182, ← hw181, ← hw180]⟩⟩
                              · replace h179 : (w 275 30 : Int) = 4 := Classical.not_not.mp (show ¬ ((w 275 30 : Int) ≠ 4) from h179)
                                refine e_Ok.ps1 (x := (0, (-3))) (q := 119) 1 rfl ?_
                                refine e_Ok.rets rfl rfl ?_
                                exact ⟨_, rfl, Or.inl ⟨rfl, by omega⟩⟩
                            · replace h177 : (w 275 3 : Int) ≠ 0 := (show ¬ ((w 275 3 : Int) = 0) from h177)
                              refine e_Ok.ps1 (x := (0, (-2))) (q := 108) 1 rfl ?_
                              refine e_Ok.rets rfl rfl ?_
                              exact ⟨_, rfl, Or.inl ⟨rfl, by omega⟩⟩
                          · replace h176 : (1 : Int) = 0 := Classical.not_not.mp (show ¬ ((1 : Int) ≠ 0) from h176)
                            exfalso; omega
                        · refine e_Ok.nrm (q := 94) (st' := [(0, 0)]) rfl rfl ?_
                          refine e_Ok.if1 rfl (fun h188 => ?_) (fun h188 => ?_)
                          · replace h188 : (0 : Int) ≠ 0 := h188
                            exfalso; omega
                          · replace h188 : (0 : Int) = 0 := Classical.not_not.mp (show ¬ ((0 : Int) ≠ 0) from h188)
                            refine e_Ok.ps1 (x := (0, (-1))) (q := 98) 1 rfl ?_
                            refine e_Ok.rets rfl rfl ?_
                            exact ⟨_, rfl, Or.inl ⟨rfl, by omega⟩⟩
                · replace h24 : (1 : Int) = 0 := Classical.not_not.mp (show ¬ ((1 : Int) ≠ 0) from h24)
                  exfalso; omega
              · refine e_Ok.nrm (q := 43) (st' := [(0, 0)]) rfl rfl ?_
                refine e_Ok.if1 rfl (fun h189 => ?_) (fun h189 => ?_)
                · replace h189 : (0 : Int) ≠ 0 := h189
                  exfalso; omega
                · replace h189 : (0 : Int) = 0 := Classical.not_not.mp (show ¬ ((0 : Int) ≠ 0) from h189)
                  refine e_Ok.ps1 (x := (0, (-1))) (q := 47) 1 rfl ?_
                  refine e_Ok.rets rfl rfl ?_
                  exact ⟨_, rfl, Or.inl ⟨rfl, by omega⟩⟩
          · refine e_Ok.nrm (q := 30) (st' := [(0, 0)]) rfl rfl ?_
            refine e_Ok.if1 rfl (fun h190 => ?_) (fun h190 => ?_)
            · replace h190 : (0 : Int) = 0 := h190
              refine e_Ok.ps1 (x := (0, (-1))) (q := 47) 1 rfl ?_
              refine e_Ok.rets rfl rfl ?_
              exact ⟨_, rfl, Or.inl ⟨rfl, by omega⟩⟩
            · replace h190 : (0 : Int) ≠ 0 := (show ¬ ((0 : Int) = 0) from h190)
              exfalso; omega
      · refine e_Ok.nrm (q := 17) (st' := [(0, 0)]) rfl rfl ?_
        refine e_Ok.if1 rfl (fun h191 => ?_) (fun h191 => ?_)
        · replace h191 : (0 : Int) = 0 := h191
          refine e_Ok.ps1 (x := (0, (-1))) (q := 47) 1 rfl ?_
          refine e_Ok.rets rfl rfl ?_
          exact ⟨_, rfl, Or.inl ⟨rfl, by omega⟩⟩
        · replace h191 : (0 : Int) ≠ 0 := (show ¬ ((0 : Int) = 0) from h191)
          exfalso; omega
  · refine e_Ok.nrm (q := 5) (st' := [(0, 0)]) rfl rfl ?_
    refine e_Ok.if1 rfl (fun h192 => ?_) (fun h192 => ?_)
    · replace h192 : (0 : Int) = 0 := h192
      refine e_Ok.ps1 (x := (0, (-1))) (q := 47) 1 rfl ?_
      refine e_Ok.rets rfl rfl ?_
      exact ⟨_, rfl, Or.inl ⟨rfl, by omega⟩⟩
    · replace h192 : (0 : Int) ≠ 0 := (show ¬ ((0 : Int) = 0) from h192)
      exfalso; omega
theorem c_282_ex {d : Nat} (hd : 24 ≤ d) {w : eW} (hT : e_Has mTy w) {p1 p2 p3 p4 p5 : Int} (g1 : 0 ≤ p1 ∧ p1 ≤ 1) (g2 : (-2147483648) ≤ p2 ∧ p2 ≤ 2147483647) (g3 : (-2147483648) ≤ p3 ∧ p3 ≤ 2147483647) (g4 : (-2147483648) ≤ p4 ∧ p4 ≤ 2147483647) (g5 : (-2147483648) ≤ p5 ∧ p5 ≤ 2147483647) : e_Ok 20 elay ecode eI d 282 (0, [(0, (1, 275)), (1, (0, p1)), (2, (0, p2)), (3, (0, p3)), (4, (0, p4)), (5, (0, p5))], [], w) (fun r w' => ∃ z : Int, r = [(0, z)] ∧ ((w = w' ∧ ((¬ ((0 : Int) ≤ 0) ∧ z = -1) ∨ (((0 : Int) ≤ 0) ∧ ((w 275 3 ≠ 0 ∧ z = -2) ∨ (w 275 3 = 0 ∧ w 275 23 = 16 ∧ z = -3))))) ∨ ((((0 : Int) ≤ 0) ∧ w 275 3 = 0 ∧ ¬ (w 275 23 = 16)) ∧ z = w 275 23 ∧ w' = e_up (e_up (e_up (e_up (e_up (e_up w 294 (w 275 23) (p1)) 295 (w 275 23) (p2)) 296 (w 275 23) (p3)) 297 (w 275 23) (p4)) 298 (w 275 23) (p5)) 275 (23) (w 275 23 + 1)))) := by
  have hop := e_Has.get hT (c := 275) (k := 3) (lo := 0) (hi := 1) (mt_o rfl) (by decide)
  refine e_Ok.ps1 (x := (1, 275)) (q := 1) 1 rfl ?_
  refine e_Ok.getf (z := w 275 3) rfl (el_o rfl) rfl (ef_o rfl) rfl (by omega) ?_
  refine e_Ok.if1 rfl (fun h1 => ?_) (fun h1 => ?_)
  · replace h1 : (w 275 3 : Int) = 0 := h1
    refine e_Ok.ps1 (x := (1, 275)) (q := 11) 1 rfl ?_
    have h2 := (e_Has.get hT (c := 275) (k := 23) (lo := 0) (hi := 16) (mt_o rfl) (by decide))
    refine e_Ok.getf (z := w 275 23) rfl (el_o rfl) rfl (ef_o rfl) rfl (e_bq h2 (by decide) (by decide)) ?_
    refine e_Ok.ps1 (x := (0, 16)) (q := 16) 1 rfl ?_
    refine e_Ok.if2 rfl (fun h3 => ?_) (fun h3 => ?_)
    · replace h3 : (w 275 23 : Int) ≠ 16 := h3
      refine e_Ok.ps1 (x := (1, 275)) (q := 23) 1 rfl ?_
      refine e_Ok.getr (z := 294) rfl (el_o rfl) rfl (ef_o rfl) (e_Has.eq hT (mt_o rfl)) ⟨by decide, by decide⟩ ?_
      refine e_Ok.ps1 (x := (1, 275)) (q := 27) 1 rfl ?_
      refine e_Ok.getf (z := w 275 23) rfl (el_o rfl) rfl (ef_o rfl) rfl (by omega) ?_
      refine e_Ok.ps1 (x := (0, p1)) (q := 31) 1 rfl ?_
      refine e_Ok.ast rfl (el_o rfl) rfl (e_nar_b (by omega)) (by omega) ?_
      generalize hw4 : e_up w 294 (w 275 23) p1 = w4
      refine e_Ok.ps1 (x := (1, 275)) (q := 33) 1 rfl ?_
      refine e_Ok.getr (z := 295) rfl (el_o rfl) rfl (ef_o rfl) (e_uq hw4 (Or.inl (by decide)) (e_Has.eq hT (mt_o rfl))) ⟨by decide, by decide⟩ ?_
      refine e_Ok.ps1 (x := (1, 275)) (q := 37) 1 rfl ?_
      refine e_Ok.getf (z := w 275 23) rfl (el_o rfl) rfl (ef_o rfl) (e_uq hw4 (Or.inl (by decide)) rfl) (by omega) ?_
      refine e_Ok.ps1 (x := (0, p2)) (q := 41) 1 rfl ?_
      refine e_Ok.ast rfl (el_o rfl) rfl rfl (by omega) ?_
      generalize hw5 : e_up w4 295 (w 275 23) p2 = w5
      refine e_Ok.ps1 (x := (1, 275)) (q := 43) 1 rfl ?_
      refine e_Ok.getr (z := 296) rfl (el_o rfl) rfl (ef_o rfl) (e_uq hw5 (Or.inl (by decide)) (e_uq hw4 (Or.inl (by decide)) (e_Has.eq hT (mt_o rfl)))) ⟨by decide, by decide⟩ ?_
      refine e_Ok.ps1 (x := (1, 275)) (q := 47) 1 rfl ?_
      refine e_Ok.getf (z := w 275 23) rfl (el_o rfl) rfl (ef_o rfl) (e_uq hw5 (Or.inl (by decide)) (e_uq hw4 (Or.inl (by decide)) rfl)) (by omega) ?_
      refine e_Ok.ps1 (x := (0, p3)) (q := 51) 1 rfl ?_
      refine e_Ok.ast rfl (el_o rfl) rfl rfl (by omega) ?_
      generalize hw6 : e_up w5 296 (w 275 23) p3 = w6
      refine e_Ok.ps1 (x := (1, 275)) (q := 53) 1 rfl ?_
      refine e_Ok.getr (z := 297) rfl (el_o rfl) rfl (ef_o rfl) (e_uq hw6 (Or.inl (by decide)) (e_uq hw5 (Or.inl (by decide)) (e_uq hw4 (Or.inl (by decide)) (e_Has.eq hT (mt_o rfl))))) ⟨by decide, by decide⟩ ?_
      refine e_Ok.ps1 (x := (1, 275)) (q := 57) 1 rfl ?_
      refine e_Ok.getf (z := w 275 23) rfl (el_o rfl) rfl (ef_o rfl) (e_uq hw6 (Or.inl (by decide)) (e_uq hw5 (Or.inl (by decide)) (e_uq hw4 (Or.inl (by decide)) rfl))) (by omega) ?_
      refine e_Ok.ps1 (x := (0, p4)) (q := 62) 1 rfl ?_
      refine e_Ok.ast rfl (el_o rfl) rfl rfl (by omega) ?_
      generalize hw7 : e_up w6 297 (w 275 23) p4 = w7
      refine e_Ok.ps1 (x := (1, 275)) (q := 64) 1 rfl ?_
      refine e_Ok.getr (z := 298) rfl (el_o rfl) rfl (ef_o rfl) (e_uq hw7 (Or.inl (by decide)) (e_uq hw6 (Or.inl (by decide)) (e_uq hw5 (Or.inl (by decide)) (e_uq hw4 (Or.inl (by decide)) (e_Has.eq hT (mt_o rfl)))))) ⟨by decide, by decide⟩ ?_
      refine e_Ok.ps1 (x := (1, 275)) (q := 68) 1 rfl ?_
      refine e_Ok.getf (z := w 275 23) rfl (el_o rfl) rfl (ef_o rfl) (e_uq hw7 (Or.inl (by decide)) (e_uq hw6 (Or.inl (by decide)) (e_uq hw5 (Or.inl (by decide)) (e_uq hw4 (Or.inl (by decide)) rfl)))) (by omega) ?_
      refine e_Ok.ps1 (x := (0, p5)) (q := 73) 1 rfl ?_
      refine e_Ok.ast rfl (el_o rfl) rfl rfl (by omega) ?_
      generalize hw8 : e_up w7 298 (w 275 23) p5 = w8
      refine e_Ok.ps2 (x := (1, 275)) (y := (1, 275)) (q := 76) 2 rfl ?_
      refine e_Ok.getf (z := w 275 23) rfl (el_o rfl) rfl (ef_o rfl) (e_uq hw8 (Or.inl (by decide)) (e_uq hw7 (Or.inl (by decide)) (e_uq hw6 (Or.inl (by decide)) (e_uq hw5 (Or.inl (by decide)) (e_uq hw4 (Or.inl (by decide)) rfl))))) (by omega) ?_
      refine e_Ok.ps1 (x := (0, 1)) (q := 80) 1 rfl ?_
      refine e_Ok.add (z := w 275 23 + 1) rfl rfl (by omega) ?_
      refine e_Ok.putf rfl (el_o rfl) rfl (ef_o rfl) ?_
      generalize hw9 : e_up w8 275 23 (w 275 23 + 1) = w9
      refine e_Ok.ps1 (x := (1, 275)) (q := 85) 1 rfl ?_
      refine e_Ok.getf (z := w 275 23 + 1) rfl (el_o rfl) rfl (ef_o rfl) (e_ue hw9) (by omega) ?_
      refine e_Ok.ps1 (x := (0, 1)) (q := 89) 1 rfl ?_
      refine e_Ok.sub' (z := w 275 23) rfl (by omega) (by omega) ?_
      refine e_Ok.rets rfl rfl ?_
      exact ⟨_, rfl, Or.inr ⟨by omega, by omega, by rw [← hw9, ← hw8, ← hw7, ← hw6, ← hw5, ← hw4]⟩⟩
    · replace h3 : (w 275 23 : Int) = 16 := Classical.not_not.mp (show ¬ ((w 275 23 : Int) ≠ 16) from h3)
      refine e_Ok.ps1 (x := (0, (-3))) (q := 21) 1 rfl ?_
      refine e_Ok.rets rfl rfl ?_
      exact ⟨_, rfl, Or.inl ⟨rfl, by omega⟩⟩
  · replace h1 : (w 275 3 : Int) ≠ 0 := (show ¬ ((w 275 3 : Int) = 0) from h1)
    refine e_Ok.ps1 (x := (0, (-2))) (q := 9) 1 rfl ?_
    refine e_Ok.rets rfl rfl ?_
    exact ⟨_, rfl, Or.inl ⟨rfl, by omega⟩⟩
theorem c_283_ex {d : Nat} (hd : 26 ≤ d) {w : eW} (hT : e_Has mTy w) {p1 p2 p3 : Int} (g1 : (-2147483648) ≤ p1 ∧ p1 ≤ 2147483647) (g2 : (-2147483648) ≤ p2 ∧ p2 ≤ 2147483647) (g3 : (-2147483648) ≤ p3 ∧ p3 ≤ 2147483647) : e_Ok 20 elay ecode eI d 283 (0, [(0, (1, 275)), (1, (0, p1)), (2, (0, p2)), (3, (0, p3))], [], w) (fun r w' => ∃ z : Int, r = [(0, z)] ∧ ((w = w' ∧ ((¬ ((-16000 ≤ p1 ∧ p1 ≤ 16000) ∧ (-16000 ≤ p2 ∧ p2 ≤ 16000) ∧ 0 ≤ p3 ∧ p3 ≤ 8000) ∧ z = -1) ∨ (((-16000 ≤ p1 ∧ p1 ≤ 16000) ∧ (-16000 ≤ p2 ∧ p2 ≤ 16000) ∧ 0 ≤ p3 ∧ p3 ≤ 8000) ∧ ((w 275 3 ≠ 0 ∧ z = -2) ∨ (w 275 3 = 0 ∧ w 275 23 = 16 ∧ z = -3))))) ∨ ((((-16000 ≤ p1 ∧ p1 ≤ 16000) ∧ (-16000 ≤ p2 ∧ p2 ≤ 16000) ∧ 0 ≤ p3 ∧ p3 ≤ 8000) ∧ w 275 3 = 0 ∧ ¬ (w 275 23 = 16)) ∧ z = w 275 23 ∧ w' = e_up (e_up (e_up (e_up (e_up (e_up w 294 (w 275 23) (0)) 295 (w 275 23) (p1)) 296 (w 275 23) (p2)) 297 (w 275 23) (p3)) 298 (w 275 23) (0)) 275 (23) (w 275 23 + 1)))) := by
  obtain ⟨d, rfl⟩ : ∃ e, d = e + 1 := ⟨d - 1, by omega⟩
  have hop := e_Has.get hT (c := 275) (k := 3) (lo := 0) (hi := 1) (mt_o rfl) (by decide)
  refine e_Ok.ps2 (x := (0, p2)) (y := (0, p1)) (q := 2) 2 rfl ?_
  refine e_Ok.callS rfl (e_dq hd rfl) rfl rfl (c_272_ex (e_dq hd rfl)) (fun r1 w2 h3 => ?_)
  obtain ⟨z4, rfl, rfl, q5⟩ := h3
  obtain ⟨rfl, q5⟩ | ⟨rfl, q5⟩ := q5
  · refine e_Ok.nrm (q := 5) (st' := [(0, 1)]) rfl rfl ?_
    refine e_Ok.if1 rfl (fun h6 => ?_) (fun h6 => ?_)
    · replace h6 : (1 : Int) = 0 := h6
      exfalso; omega
    · replace h6 : (1 : Int) ≠ 0 := (show ¬ ((1 : Int) = 0) from h6)
      refine e_Ok.ps3 (x := (4, 8000)) (y := (4, 0)) (z := (4, p3)) (q := 14) 4 rfl ?_
      refine e_Ok.callS rfl (e_dq hd rfl) rfl rfl (c_266) (fun r7 w8 h9 => ?_)
      obtain ⟨z10, rfl, rfl, q11⟩ := h9
      obtain ⟨rfl, q11⟩ | ⟨rfl, q11⟩ := q11
      · refine e_Ok.nrm (q := 17) (st' := [(0, 1)]) rfl rfl ?_
        refine e_Ok.if1 rfl (fun h12 => ?_) (fun h12 => ?_)
        · replace h12 : (1 : Int) = 0 := h12
          exfalso; omega
        · replace h12 : (1 : Int) ≠ 0 := (show ¬ ((1 : Int) = 0) from h12)
          refine e_Ok.run (t' := (26, [(0, (1, 275)), (1, (0, p1)), (2, (0, p2)), (3, (0, p3))], [(0, 0), (0, p3), (0, p2), (0, p1), (0, 0), (1, 275)], w)) 6 rfl ?_
          refine e_Ok.callV rfl (e_dq hd rfl) rfl rfl rfl rfl (c_282_ex (e_dq hd rfl) hT (by omega) (by omega) (by omega) (by omega) (by omega)) (fun r13 w14 h15 => ?_)
          obtain ⟨z16, rfl, q17⟩ := h15
          refine e_Ok.nrm (q := 29) (st' := [(0, z16)]) rfl rfl ?_
          refine e_Ok.ps0 (q := 33) 1 rfl ?_
          refine e_Ok.rets rfl rfl ?_
          exact ⟨_, rfl, Or.elim q17 (fun h => Or.inl ⟨h.1, by have e := h.2; omega⟩) (fun h => Or.inr ⟨by have e := h.1; omega, h.2.1, h.2.2⟩)⟩
      · refine e_Ok.nrm (q := 17) (st' := [(0, 0)]) rfl rfl ?_
        refine e_Ok.if1 rfl (fun h18 => ?_) (fun h18 => ?_)
        · replace h18 : (0 : Int) = 0 := h18
          refine e_Ok.ps1 (x := (0, (-1))) (q := 33) 1 rfl ?_
          refine e_Ok.rets rfl rfl ?_
          exact ⟨_, rfl, Or.inl ⟨rfl, by omega⟩⟩
        · replace h18 : (0 : Int) ≠ 0 := (show ¬ ((0 : Int) = 0) from h18)
          exfalso; omega
  · refine e_Ok.nrm (q := 5) (st' := [(0, 0)]) rfl rfl ?_
    refine e_Ok.if1 rfl (fun h19 => ?_) (fun h19 => ?_)
    · replace h19 : (0 : Int) = 0 := h19
      refine e_Ok.ps1 (x := (0, (-1))) (q := 33) 1 rfl ?_
      refine e_Ok.rets rfl rfl ?_
      exact ⟨_, rfl, Or.inl ⟨rfl, by omega⟩⟩
    · replace h19 : (0 : Int) ≠ 0 := (show ¬ ((0 : Int) = 0) from h19)
      exfalso; omega
theorem c_284_ex {d : Nat} (hd : 26 ≤ d) {w : eW} (hT : e_Has mTy w) {p1 p2 p3 p4 : Int} (g1 : (-2147483648) ≤ p1 ∧ p1 ≤ 2147483647) (g2 : (-2147483648) ≤ p2 ∧ p2 ≤ 2147483647) (g3 : (-2147483648) ≤ p3 ∧ p3 ≤ 2147483647) (g4 : (-2147483648) ≤ p4 ∧ p4 ≤ 2147483647) : e_Ok 20 elay ecode eI d 284 (0, [(0, (1, 275)), (1, (0, p1)), (2, (0, p2)), (3, (0, p3)), (4, (0, p4))], [], w) (fun r w' => ∃ z : Int, r = [(0, z)] ∧ ((w = w' ∧ ((¬ ((-16000 ≤ p1 ∧ p1 ≤ 16000) ∧ (-16000 ≤ p2 ∧ p2 ≤ 16000) ∧ (0 ≤ p3 ∧ p1 + p3 ≤ 16000) ∧ 0 ≤ p4 ∧ p2 + p4 ≤ 16000) ∧ z = -1) ∨ (((-16000 ≤ p1 ∧ p1 ≤ 16000) ∧ (-16000 ≤ p2 ∧ p2 ≤ 16000) ∧ (0 ≤ p3 ∧ p1 + p3 ≤ 16000) ∧ 0 ≤ p4 ∧ p2 + p4 ≤ 16000) ∧ ((w 275 3 ≠ 0 ∧ z = -2) ∨ (w 275 3 = 0 ∧ w 275 23 = 16 ∧ z = -3))))) ∨ ((((-16000 ≤ p1 ∧ p1 ≤ 16000) ∧ (-16000 ≤ p2 ∧ p2 ≤ 16000) ∧ (0 ≤ p3 ∧ p1 + p3 ≤ 16000) ∧ 0 ≤ p4 ∧ p2 + p4 ≤ 16000) ∧ w 275 3 = 0 ∧ ¬ (w 275 23 = 16)) ∧ z = w 275 23 ∧ w' = e_up (e_up (e_up (e_up (e_up (e_up w 294 (w 275 23) (1)) 295 (w 275 23) (p1)) 296 (w 275 23) (p2)) 297 (w 275 23) (p3)) 298 (w 275 23) (p4)) 275 (23) (w 275 23 + 1)))) := by
  obtain ⟨d, rfl⟩ : ∃ e, d = e + 1 := ⟨d - 1, by omega⟩
  have hop := e_Has.get hT (c := 275) (k := 3) (lo := 0) (hi := 1) (mt_o rfl) (by decide)
  refine e_Ok.ps4 (x := (0, p4)) (y := (0, p3)) (z := (0, p2)) (u := (0, p1)) (q := 5) 4 rfl ?_
  refine e_Ok.callS rfl (e_dq hd rfl) rfl rfl (c_273_ex (e_dq hd rfl) (by omega) (by omega)) (fun r1 w2 h3 => ?_)
  obtain ⟨z4, rfl, rfl, q5⟩ := h3
  obtain ⟨rfl, q5⟩ | ⟨rfl, q5⟩ := q5
  · refine e_Ok.nrm (q := 8) (st' := [(0, 1)]) rfl rfl ?_
    refine e_Ok.if1 rfl (fun h6 => ?_) (fun h6 => ?_)
    · replace h6 : (1 : Int) = 0 := h6
      exfalso; omega
    · replace h6 : (1 : Int) ≠ 0 := (show ¬ ((1 : Int) = 0) from h6)
      refine e_Ok.run (t' := (18, [(0, (1, 275)), (1, (0, p1)), (2, (0, p2)), (3, (0, p3)), (4, (0, p4))], [(0, p4), (0, p3), (0, p2), (0, p1), (0, 1), (1, 275)], w)) 6 rfl ?_
      refine e_Ok.callV rfl (e_dq hd rfl) rfl rfl rfl rfl (c_282_ex (e_dq hd rfl) hT (by omega) (by omega) (by omega) (by omega) (by omega)) (fun r7 w8 h9 => ?_)
      obtain ⟨z10, rfl, q11⟩ := h9
      refine e_Ok.nrm (q := 21) (st' := [(0, z10)]) rfl rfl ?_
      refine e_Ok.ps0 (q := 25) 1 rfl ?_
      refine e_Ok.rets rfl rfl ?_
      exact ⟨_, rfl, Or.elim q11 (fun h => Or.inl ⟨h.1, by have e := h.2; omega⟩) (fun h => Or.inr ⟨by have e := h.1; omega, h.2.1, h.2.2⟩)⟩
  · refine e_Ok.nrm (q := 8) (st' := [(0, 0)]) rfl rfl ?_
    refine e_Ok.if1 rfl (fun h12 => ?_) (fun h12 => ?_)
    · replace h12 : (0 : Int) = 0 := h12
      refine e_Ok.ps1 (x := (0, (-1))) (q := 25) 1 rfl ?_
      refine e_Ok.rets rfl rfl ?_
      exact ⟨_, rfl, Or.inl ⟨rfl, by omega⟩⟩
    · replace h12 : (0 : Int) ≠ 0 := (show ¬ ((0 : Int) = 0) from h12)
      exfalso; omega
end
