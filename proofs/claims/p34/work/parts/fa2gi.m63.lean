noncomputable section
/-! the model: part, lay: answer and count -/
set_option maxHeartbeats 4000000 in
theorem c_289_ex {d : Nat} (hd : 24 ≤ d) {w : eW} (hT : e_Has mTy w) {p1 p2 p3 : Int} (g1 : -2147483648 ≤ p1 ∧ p1 ≤ 2147483647) (g2 : -2147483648 ≤ p2 ∧ p2 ≤ 2147483647) (g3 : -2147483648 ≤ p3 ∧ p3 ≤ 2147483647) (hOr : mOr w (w 275 40)) : e_Ok 20 elay ecode eI d 289 (0, [(0, (1, 275)), (1, (0, p1)), (2, (0, p2)), (3, (0, p3))], [], w) (fun r w' => ∃ z : Int, r = [(0, z)] ∧ ((w' 275 40 = w 275 40 ∧ ((¬ ((0 ≤ p1 ∧ p1 < w 275 30) ∧ (0 ≤ p2 ∧ p2 ≤ w 303 p1) ∧ (0 ≤ p3 ∧ p3 ≤ 800)) ∧ z = -1) ∨ (((0 ≤ p1 ∧ p1 < w 275 30) ∧ (0 ≤ p2 ∧ p2 ≤ w 303 p1) ∧ (0 ≤ p3 ∧ p3 ≤ 800)) ∧ ((w 275 3 ≠ 0 ∧ z = -2) ∨ (w 275 3 = 0 ∧ w 275 40 = 32 ∧ z = -3))))) ∨ ((((0 ≤ p1 ∧ p1 < w 275 30) ∧ (0 ≤ p2 ∧ p2 ≤ w 303 p1) ∧ (0 ≤ p3 ∧ p3 ≤ 800)) ∧ w 275 3 = 0 ∧ ¬ (w 275 40 = 32)) ∧ z = w 275 40 ∧ w' 275 40 = w 275 40 + 1))) := by
  obtain ⟨d, rfl⟩ : ∃ e, d = e + 1 := ⟨d - 1, by omega⟩
  have hpp := e_Has.get hT (c := 275) (k := 40) (lo := 0) (hi := 32) (mt_o rfl) (by decide)
  have hop := e_Has.get hT (c := 275) (k := 3) (lo := 0) (hi := 1) (mt_o rfl) (by decide)
  have hbb := e_Has.get hT (c := 275) (k := 30) (lo := 0) (hi := 4) (mt_o rfl) (by decide)
  refine e_Ok.ps3 (x := (1, 275)) (y := (4, 0)) (z := (4, p1)) (q := 4) 4 rfl ?_
  have h1 := (e_Has.get hT (c := 275) (k := 30) (lo := 0) (hi := 4) (mt_o rfl) (by decide))
  refine e_Ok.getf (z := w 275 30) rfl (el_o rfl) rfl (ef_o rfl) rfl (e_bq h1 (by decide) (by decide)) ?_
  refine e_Ok.ps1 (x := (0, 1)) (q := 8) 1 rfl ?_
  refine e_Ok.sub' (z := w 275 30 - 1) rfl rfl (by omega) ?_
  refine e_Ok.run (t' := (10, [(0, (1, 275)), (1, (0, p1)), (2, (0, p2)), (3, (0, p3))], [(4, w 275 30 - 1), (4, 0), (4, p1)], w)) 1 rfl ?_
  refine e_Ok.callS rfl (e_dq hd rfl) rfl rfl (c_266) (fun r2 w3 h4 => ?_)
  obtain ⟨z5, rfl, rfl, q6⟩ := h4
  obtain ⟨rfl, q6⟩ | ⟨rfl, q6⟩ := q6
  · refine e_Ok.nrm (q := 13) (st' := [(0, 1)]) rfl rfl ?_
    refine e_Ok.if1 rfl (fun h7 => ?_) (fun h7 => ?_)
    · replace h7 : (1 : Int) = 0 := h7
      exfalso; omega
    · replace h7 : (1 : Int) ≠ 0 := (show ¬ ((1 : Int) = 0) from h7)
      refine e_Ok.ps3 (x := (1, 275)) (y := (4, 0)) (z := (4, p2)) (q := 20) 4 rfl ?_
      refine e_Ok.getr (z := 303) rfl (el_o rfl) rfl (ef_o rfl) (e_Has.eq hT (mt_o rfl)) ⟨by decide, by decide⟩ ?_
      refine e_Ok.ps1 (x := (0, p1)) (q := 24) 1 rfl ?_
      have h8 := (e_Has.get hT (c := 303) (k := p1) (lo := 0) (hi := 16000) (mt_o rfl) (by decide))
      refine e_Ok.ald (z := w 303 p1) rfl (el_o rfl) rfl (by omega) rfl (e_bq h8 (by decide) (by decide)) ?_
      refine e_Ok.run (t' := (26, [(0, (1, 275)), (1, (0, p1)), (2, (0, p2)), (3, (0, p3))], [(4, w 303 p1), (4, 0), (4, p2)], w)) 1 rfl ?_
      refine e_Ok.callS rfl (e_dq hd rfl) rfl rfl (c_266) (fun r9 w10 h11 => ?_)
      obtain ⟨z12, rfl, rfl, q13⟩ := h11
      obtain ⟨rfl, q13⟩ | ⟨rfl, q13⟩ := q13
      · refine e_Ok.nrm (q := 29) (st' := [(0, 1)]) rfl rfl ?_
        refine e_Ok.if1 rfl (fun h14 => ?_) (fun h14 => ?_)
        · replace h14 : (1 : Int) = 0 := h14
          exfalso; omega
        · replace h14 : (1 : Int) ≠ 0 := (show ¬ ((1 : Int) = 0) from h14)
          refine e_Ok.ps3 (x := (4, 800)) (y := (4, 0)) (z := (4, p3)) (q := 38) 4 rfl ?_
          refine e_Ok.callS rfl (e_dq hd rfl) rfl rfl (c_266) (fun r15 w16 h17 => ?_)
          obtain ⟨z18, rfl, rfl, q19⟩ := h17
          obtain ⟨rfl, q19⟩ | ⟨rfl, q19⟩ := q19
          · refine e_Ok.nrm (q := 41) (st' := [(0, 1)]) rfl rfl ?_
            refine e_Ok.if1 rfl (fun h20 => ?_) (fun h20 => ?_)
            · replace h20 : (1 : Int) ≠ 0 := h20
              refine e_Ok.ps1 (x := (1, 275)) (q := 47) 1 rfl ?_
              have h21 := (e_Has.get hT (c := 275) (k := 3) (lo := 0) (hi := 1) (mt_o rfl) (by decide))
              refine e_Ok.getf (z := w 275 3) rfl (el_o rfl) rfl (ef_o rfl) rfl (e_bq h21 (by decide) (by decide)) ?_
              refine e_Ok.if1 rfl (fun h22 => ?_) (fun h22 => ?_)
              · replace h22 : (w 275 3 : Int) = 0 := h22
                refine e_Ok.ps1 (x := (1, 275)) (q := 57) 1 rfl ?_
                refine e_Ok.getf (z := w 275 40) rfl (el_o rfl) rfl (ef_o rfl) rfl (by omega) ?_
                refine e_Ok.ps1 (x := (0, 32)) (q := 62) 1 rfl ?_
                refine e_Ok.if2 rfl (fun h23 => ?_) (fun h23 => ?_)
                · replace h23 : (w 275 40 : Int) ≠ 32 := h23
                  refine e_Ok.ps1 (x := (1, 275)) (q := 69) 1 rfl ?_
                  refine e_Ok.getr (z := 309) rfl (el_o rfl) rfl (ef_o rfl) (e_Has.eq hT (mt_o rfl)) ⟨by decide, by decide⟩ ?_
                  refine e_Ok.ps1 (x := (1, 275)) (q := 73) 1 rfl ?_
                  refine e_Ok.getf (z := w 275 40) rfl (el_o rfl) rfl (ef_o rfl) rfl (by omega) ?_
                  refine e_Ok.ps1 (x := (0, p3)) (q := 77) 1 rfl ?_
                  refine e_Ok.ast rfl (el_o rfl) rfl rfl (by omega) ?_
                  generalize hw24 : e_up w 309 (w 275 40) p3 = w24
                  have f25 : e_fr mPr w w24 := e_fr.up (e_fr.refl w) hw24 (by unfold mPr; omega)
                  have hT26 : e_Has mTy w24 := e_Has.upr hT hw24 (mt_o rfl) (by omega)
                  refine e_Ok.ps2 (x := (1, 275)) (y := (1, 275)) (q := 80) 2 rfl ?_
                  refine e_Ok.getf (z := w 275 40) rfl (el_o rfl) rfl (ef_o rfl) (e_uq hw24 (Or.inl (by decide)) rfl) (by omega) ?_
                  refine e_Ok.ps2 (x := (0, p2)) (y := (0, p1)) (q := 85) 2 rfl ?_
                  refine e_Ok.callV rfl (e_dq hd rfl) rfl rfl rfl rfl (c_393 (e_dq hd rfl) hT26 (m := w 275 40) (m' := w 275 40 + 1) (mOr.fr hOr (by omega) (e_Has.orn hT) (e_Has.orw hT (by omega)) (fun k q => (e_uq hw24 (Or.inl (by first | decide | omega)) rfl))) (by omega) (Or.inr ⟨rfl, rfl⟩) (by omega) (by omega) (by omega) (fun e => by omega) (fun x g1 g2 e => by have e0 : w24 276 (36 * x + 17) = w 276 (36 * x + 17) := (e_uq hw24 (Or.inl (by first | decide | omega)) rfl); have := (hOr.2.2.2 x g1 g2 (by omega)).1; omega)) (fun r27 w28 h29 => ?_)
                  obtain ⟨rfl, q30, q30T, q30o⟩ := h29
                  have f31 : e_fr mPr w w28 := e_fr.trans f25 (e_fr.mono q30 (fun c k q => by unfold mCo at q; unfold mPr; omega))
                  refine e_Ok.nrm (q := 88) (st' := []) rfl rfl ?_
                  refine e_Ok.ps2 (x := (1, 275)) (y := (1, 275)) (q := 90) 2 rfl ?_
                  refine e_Ok.getf (z := w 275 40) rfl (el_o rfl) rfl (ef_o rfl) ((q30 275 40 (by unfold mCo; omega)).trans (e_uq hw24 (Or.inl (by decide)) rfl)) (by omega) ?_
                  refine e_Ok.ps1 (x := (0, 1)) (q := 94) 1 rfl ?_
                  refine e_Ok.add (z := w 275 40 + 1) rfl rfl (by omega) ?_
                  refine e_Ok.putf rfl (el_o rfl) rfl (ef_o rfl) ?_
                  generalize hw32 : e_up w28 275 40 (w 275 40 + 1) = w32
                  have f33 : e_fr mPr w w32 := e_fr.up f31 hw32 (by unfold mPr; omega)
                  have hT34 : e_Has mTy w32 := e_Has.upr q30T hw32 (mt_o rfl) (by omega)
                  refine e_Ok.ps1 (x := (1, 275)) (q := 99) 1 rfl ?_
                  refine e_Ok.getf (z := w 275 40 + 1) rfl (el_o rfl) rfl (ef_o rfl) (e_ue hw32) (by omega) ?_
                  refine e_Ok.ps1 (x := (0, 1)) (q := 103) 1 rfl ?_
                  refine e_Ok.sub' (z := w 275 40) rfl (by omega) (by omega) ?_
                  refine e_Ok.rets rfl rfl ?_
                  exact ⟨_, rfl, Or.inr ⟨by omega, by omega, (e_ue hw32)⟩⟩
                · replace h23 : (w 275 40 : Int) = 32 := Classical.not_not.mp (show ¬ ((w 275 40 : Int) ≠ 32) from h23)
                  refine e_Ok.ps1 (x := (0, (-3))) (q := 67) 1 rfl ?_
                  refine e_Ok.rets rfl rfl ?_
                  exact ⟨_, rfl, Or.inl ⟨rfl, by omega⟩⟩
              · replace h22 : (w 275 3 : Int) ≠ 0 := (show ¬ ((w 275 3 : Int) = 0) from h22)
                refine e_Ok.ps1 (x := (0, (-2))) (q := 55) 1 rfl ?_
                refine e_Ok.rets rfl rfl ?_
                exact ⟨_, rfl, Or.inl ⟨rfl, by omega⟩⟩
            · replace h20 : (1 : Int) = 0 := Classical.not_not.mp (show ¬ ((1 : Int) ≠ 0) from h20)
              exfalso; omega
          · refine e_Ok.nrm (q := 41) (st' := [(0, 0)]) rfl rfl ?_
            refine e_Ok.if1 rfl (fun h35 => ?_) (fun h35 => ?_)
            · replace h35 : (0 : Int) ≠ 0 := h35
              exfalso; omega
            · replace h35 : (0 : Int) = 0 := Classical.not_not.mp (show ¬ ((0 : Int) ≠ 0) from h35)
              refine e_Ok.ps1 (x := (0, (-1))) (q := 45) 1 rfl ?_
              refine e_Ok.rets rfl rfl ?_
              exact ⟨_, rfl, Or.inl ⟨rfl, by omega⟩⟩
      · refine e_Ok.nrm (q := 29) (st' := [(0, 0)]) rfl rfl ?_
        refine e_Ok.if1 rfl (fun h36 => ?_) (fun h36 => ?_)
        · replace h36 : (0 : Int) = 0 := h36
          refine e_Ok.ps1 (x := (0, (-1))) (q := 45) 1 rfl ?_
          refine e_Ok.rets rfl rfl ?_
          exact ⟨_, rfl, Or.inl ⟨rfl, by omega⟩⟩
        · replace h36 : (0 : Int) ≠ 0 := (show ¬ ((0 : Int) = 0) from h36)
          exfalso; omega
  · refine e_Ok.nrm (q := 13) (st' := [(0, 0)]) rfl rfl ?_
    refine e_Ok.if1 rfl (fun h37 => ?_) (fun h37 => ?_)
    · replace h37 : (0 : Int) = 0 := h37
      refine e_Ok.ps1 (x := (0, (-1))) (q := 45) 1 rfl ?_
      refine e_Ok.rets rfl rfl ?_
      exact ⟨_, rfl, Or.inl ⟨rfl, by omega⟩⟩
    · replace h37 : (0 : Int) ≠ 0 := (show ¬ ((0 : Int) = 0) from h37)
      exfalso; omega
set_option maxHeartbeats 4000000 in
theorem c_290_ex {d : Nat} (hd : 24 ≤ d) {w : eW} (hT : e_Has mTy w) {p1 p2 p3 : Int} (g1 : -2147483648 ≤ p1 ∧ p1 ≤ 2147483647) (g2 : -2147483648 ≤ p2 ∧ p2 ≤ 2147483647) (g3 : -2147483648 ≤ p3 ∧ p3 ≤ 2147483647) (hOr : mOr w (w 275 40)) : e_Ok 20 elay ecode eI d 290 (0, [(0, (1, 275)), (1, (0, p1)), (2, (0, p2)), (3, (0, p3))], [], w) (fun r w' => ∃ z : Int, r = [(0, z)] ∧ ((w' 275 40 = w 275 40 ∧ ((¬ ((-16000 ≤ p1 ∧ p1 ≤ 16000) ∧ (-16000 ≤ p2 ∧ p2 ≤ 16000) ∧ (0 ≤ p3 ∧ p3 ≤ 800)) ∧ z = -1) ∨ (((-16000 ≤ p1 ∧ p1 ≤ 16000) ∧ (-16000 ≤ p2 ∧ p2 ≤ 16000) ∧ (0 ≤ p3 ∧ p3 ≤ 800)) ∧ ((w 275 3 ≠ 0 ∧ z = -2) ∨ (w 275 3 = 0 ∧ w 275 40 = 32 ∧ z = -3))))) ∨ ((((-16000 ≤ p1 ∧ p1 ≤ 16000) ∧ (-16000 ≤ p2 ∧ p2 ≤ 16000) ∧ (0 ≤ p3 ∧ p3 ≤ 800)) ∧ w 275 3 = 0 ∧ ¬ (w 275 40 = 32)) ∧ z = w 275 40 ∧ w' 275 40 = w 275 40 + 1))) := by
  obtain ⟨d, rfl⟩ : ∃ e, d = e + 1 := ⟨d - 1, by omega⟩
  have hpp := e_Has.get hT (c := 275) (k := 40) (lo := 0) (hi := 32) (mt_o rfl) (by decide)
  have hop := e_Has.get hT (c := 275) (k := 3) (lo := 0) (hi := 1) (mt_o rfl) (by decide)
  have hbb := e_Has.get hT (c := 275) (k := 30) (lo := 0) (hi := 4) (mt_o rfl) (by decide)
  refine e_Ok.ps2 (x := (0, p2)) (y := (0, p1)) (q := 2) 2 rfl ?_
  refine e_Ok.callS rfl (e_dq hd rfl) rfl rfl (c_272_ex (e_dq hd rfl)) (fun r1 w2 h3 => ?_)
  obtain ⟨z4, rfl, rfl, q5⟩ := h3
  obtain ⟨rfl, q5⟩ | ⟨rfl, q5⟩ := q5
  · refine e_Ok.nrm (q := 5) (st' := [(0, 1)]) rfl rfl ?_
    refine e_Ok.if1 rfl (fun h6 => ?_) (fun h6 => ?_)
    · replace h6 : (1 : Int) = 0 := h6
      exfalso; omega
    · replace h6 : (1 : Int) ≠ 0 := (show ¬ ((1 : Int) = 0) from h6)
      refine e_Ok.ps3 (x := (4, 800)) (y := (4, 0)) (z := (4, p3)) (q := 14) 4 rfl ?_
      refine e_Ok.callS rfl (e_dq hd rfl) rfl rfl (c_266) (fun r7 w8 h9 => ?_)
      obtain ⟨z10, rfl, rfl, q11⟩ := h9
      obtain ⟨rfl, q11⟩ | ⟨rfl, q11⟩ := q11
      · refine e_Ok.nrm (q := 17) (st' := [(0, 1)]) rfl rfl ?_
        refine e_Ok.if1 rfl (fun h12 => ?_) (fun h12 => ?_)
        · replace h12 : (1 : Int) ≠ 0 := h12
          refine e_Ok.ps1 (x := (1, 275)) (q := 23) 1 rfl ?_
          have h13 := (e_Has.get hT (c := 275) (k := 3) (lo := 0) (hi := 1) (mt_o rfl) (by decide))
          refine e_Ok.getf (z := w 275 3) rfl (el_o rfl) rfl (ef_o rfl) rfl (e_bq h13 (by decide) (by decide)) ?_
          refine e_Ok.if1 rfl (fun h14 => ?_) (fun h14 => ?_)
          · replace h14 : (w 275 3 : Int) = 0 := h14
            refine e_Ok.ps1 (x := (1, 275)) (q := 33) 1 rfl ?_
            refine e_Ok.getf (z := w 275 40) rfl (el_o rfl) rfl (ef_o rfl) rfl (by omega) ?_
            refine e_Ok.ps1 (x := (0, 32)) (q := 38) 1 rfl ?_
            refine e_Ok.if2 rfl (fun h15 => ?_) (fun h15 => ?_)
            · replace h15 : (w 275 40 : Int) ≠ 32 := h15
              refine e_Ok.ps1 (x := (1, 275)) (q := 45) 1 rfl ?_
              refine e_Ok.getr (z := 309) rfl (el_o rfl) rfl (ef_o rfl) (e_Has.eq hT (mt_o rfl)) ⟨by decide, by decide⟩ ?_
              refine e_Ok.ps1 (x := (1, 275)) (q := 49) 1 rfl ?_
              refine e_Ok.getf (z := w 275 40) rfl (el_o rfl) rfl (ef_o rfl) rfl (by omega) ?_
              refine e_Ok.ps1 (x := (0, p3)) (q := 53) 1 rfl ?_
              refine e_Ok.ast rfl (el_o rfl) rfl rfl (by omega) ?_
              generalize hw16 : e_up w 309 (w 275 40) p3 = w16
              have f17 : e_fr mPr w w16 := e_fr.up (e_fr.refl w) hw16 (by unfold mPr; omega)
              have hT18 : e_Has mTy w16 := e_Has.upr hT hw16 (mt_o rfl) (by omega)
              refine e_Ok.ps2 (x := (1, 275)) (y := (1, 275)) (q := 56) 2 rfl ?_
              refine e_Ok.getf (z := w 275 40) rfl (el_o rfl) rfl (ef_o rfl) (e_uq hw16 (Or.inl (by decide)) rfl) (by omega) ?_
              refine e_Ok.ps2 (x := (0, p2)) (y := (0, p1)) (q := 61) 2 rfl ?_
              refine e_Ok.callV rfl (e_dq hd rfl) rfl rfl rfl rfl (c_394 (e_dq hd rfl) hT18 (by omega) (by omega) (by omega)) (fun r19 w20 h21 => ?_)
              obtain ⟨rfl, q22, q22T, q22w⟩ := h21
              have f23 : e_fr mPr w w20 := e_fr.trans f17 (e_fr.mono q22 (fun c k q => by unfold mPa at q; unfold mPr; omega))
              refine e_Ok.nrm (q := 64) (st' := []) rfl rfl ?_
              refine e_Ok.ps2 (x := (1, 275)) (y := (1, 275)) (q := 66) 2 rfl ?_
              refine e_Ok.getf (z := w 275 40) rfl (el_o rfl) rfl (ef_o rfl) ((q22 275 40 (by unfold mPa; omega)).trans (e_uq hw16 (Or.inl (by decide)) rfl)) (by omega) ?_
              refine e_Ok.ps1 (x := (0, 1)) (q := 70) 1 rfl ?_
              refine e_Ok.add (z := w 275 40 + 1) rfl rfl (by omega) ?_
              refine e_Ok.putf rfl (el_o rfl) rfl (ef_o rfl) ?_
              generalize hw24 : e_up w20 275 40 (w 275 40 + 1) = w24
              have f25 : e_fr mPr w w24 := e_fr.up f23 hw24 (by unfold mPr; omega)
              have hT26 : e_Has mTy w24 := e_Has.upr q22T hw24 (mt_o rfl) (by omega)
              refine e_Ok.ps1 (x := (1, 275)) (q := 75) 1 rfl ?_
              refine e_Ok.getf (z := w 275 40 + 1) rfl (el_o rfl) rfl (ef_o rfl) (e_ue hw24) (by omega) ?_
              refine e_Ok.ps1 (x := (0, 1)) (q := 79) 1 rfl ?_
              refine e_Ok.sub' (z := w 275 40) rfl (by omega) (by omega) ?_
              refine e_Ok.rets rfl rfl ?_
              exact ⟨_, rfl, Or.inr ⟨by omega, by omega, (e_ue hw24)⟩⟩
            · replace h15 : (w 275 40 : Int) = 32 := Classical.not_not.mp (show ¬ ((w 275 40 : Int) ≠ 32) from h15)
              refine e_Ok.ps1 (x := (0, (-3))) (q := 43) 1 rfl ?_
              refine e_Ok.rets rfl rfl ?_
              exact ⟨_, rfl, Or.inl ⟨rfl, by omega⟩⟩
          · replace h14 : (w 275 3 : Int) ≠ 0 := (show ¬ ((w 275 3 : Int) = 0) from h14)
            refine e_Ok.ps1 (x := (0, (-2))) (q := 31) 1 rfl ?_
            refine e_Ok.rets rfl rfl ?_
            exact ⟨_, rfl, Or.inl ⟨rfl, by omega⟩⟩
        · replace h12 : (1 : Int) = 0 := Classical.not_not.mp (show ¬ ((1 : Int) ≠ 0) from h12)
          exfalso; omega
      · refine e_Ok.nrm (q := 17) (st' := [(0, 0)]) rfl rfl ?_
        refine e_Ok.if1 rfl (fun h27 => ?_) (fun h27 => ?_)
        · replace h27 : (0 : Int) ≠ 0 := h27
          exfalso; omega
        · replace h27 : (0 : Int) = 0 := Classical.not_not.mp (show ¬ ((0 : Int) ≠ 0) from h27)
          refine e_Ok.ps1 (x := (0, (-1))) (q := 21) 1 rfl ?_
          refine e_Ok.rets rfl rfl ?_
          exact ⟨_, rfl, Or.inl ⟨rfl, by omega⟩⟩
  · refine e_Ok.nrm (q := 5) (st' := [(0, 0)]) rfl rfl ?_
    refine e_Ok.if1 rfl (fun h28 => ?_) (fun h28 => ?_)
    · replace h28 : (0 : Int) = 0 := h28
      refine e_Ok.ps1 (x := (0, (-1))) (q := 21) 1 rfl ?_
      refine e_Ok.rets rfl rfl ?_
      exact ⟨_, rfl, Or.inl ⟨rfl, by omega⟩⟩
    · replace h28 : (0 : Int) ≠ 0 := (show ¬ ((0 : Int) = 0) from h28)
      exfalso; omega
end
