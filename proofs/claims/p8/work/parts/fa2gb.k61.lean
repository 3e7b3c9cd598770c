noncomputable section
/-! the class: what builds a cell, exactly -/
theorem c_196_ex {d : Nat} (hd : 24 ≤ d) {w : eW} (hT : e_Has kTy w) (hO : 0 ≤ w 0 13 ∧ w 0 13 ≤ 1) {p1 : Int} (g1 : (-2147483648) ≤ p1 ∧ p1 ≤ 2147483647) {p2 : Int} (g2 : (-2147483648) ≤ p2 ∧ p2 ≤ 2147483647) {p3 : Int} (g3 : (-2147483648) ≤ p3 ∧ p3 ≤ 2147483647) : e_Ok 20 elay kcode eI d 196 (0, [(0, (1, 0)), (1, (0, p1)), (2, (0, p2)), (3, (0, p3))], [], w) (fun r w' => ∃ z : Int, r = [(0, z)] ∧ ((w = w' ∧ ((¬ ((0 ≤ p1 ∧ p1 < w 0 11) ∧ (0 ≤ p2 ∧ p2 < w (17 * p1 + 86) 8) ∧ (0 ≤ p3 ∧ p3 ≤ 800)) ∧ z = -1) ∨ (((0 ≤ p1 ∧ p1 < w 0 11) ∧ (0 ≤ p2 ∧ p2 < w (17 * p1 + 86) 8) ∧ (0 ≤ p3 ∧ p3 ≤ 800)) ∧ w 0 13 ≠ 0 ∧ z = -2))) ∨ ((((0 ≤ p1 ∧ p1 < w 0 11) ∧ (0 ≤ p2 ∧ p2 < w (17 * p1 + 86) 8) ∧ (0 ≤ p3 ∧ p3 ≤ 800)) ∧ w 0 13 = 0) ∧ z = w (17 * p1 + p2 + 97) 4 ∧ w' = e_up w (17 * p1 + p2 + 97) (4) (p3)))) := by
  obtain ⟨d, rfl⟩ : ∃ e, d = e + 1 := ⟨d - 1, by omega⟩
  have hw0 := e_Has.get hT (c := 0) (k := 11) (lo := 0) (hi := 4) (kt_o rfl) (by decide)
  have hb0 := e_Has.get hT (c := 19) (k := 0) (lo := 0) (hi := 4) (kt_o rfl) (by decide)
  have hz0 := e_Has.get hT (c := 250) (k := 1) (lo := 0) (hi := 8) (kt_o rfl) (by decide)
  have hs0 := e_Has.get hT (c := 250) (k := 0) (lo := 0) (hi := 16) (kt_o rfl) (by decide)
  have hi0 := e_Has.get hT (c := 74) (k := 2) (lo := 0) (hi := 8) (kt_o rfl) (by decide)
  refine e_Ok.ps3 (x := (0, p2)) (y := (0, p1)) (z := (1, 0)) (q := 3) 3 rfl ?_
  refine e_Ok.callV rfl (e_dq hd rfl) rfl rfl rfl rfl (c_247 (e_dq hd rfl) hT (by omega) (by omega)) (fun r1 w2 h3 => ?_)
  obtain ⟨z4, rfl, rfl, q5⟩ := h3
  obtain ⟨rfl, q5⟩ | ⟨rfl, q5⟩ := q5
  · refine e_Ok.nrm (q := 6) (st' := [(0, 1)]) rfl rfl ?_
    refine e_Ok.if1 rfl (fun h6 => ?_) (fun h6 => ?_)
    · replace h6 : (1 : Int) = 0 := h6
      exfalso; omega
    · replace h6 : (1 : Int) ≠ 0 := (show ¬ ((1 : Int) = 0) from h6)
      have hjn := kn_joints hT (a := p1) (by omega)
      refine e_Ok.ps3 (x := (0, 800)) (y := (0, 0)) (z := (0, p3)) (q := 14) 3 rfl ?_
      refine e_Ok.callS rfl (e_dq hd rfl) rfl rfl (c_242 (by omega) (by omega) (by omega)) (fun r7 w8 h9 => ?_)
      obtain ⟨z10, rfl, rfl, q11⟩ := h9
      obtain ⟨rfl, q11⟩ | ⟨rfl, q11⟩ := q11
      · refine e_Ok.nrm (q := 17) (st' := [(0, 1)]) rfl rfl ?_
        refine e_Ok.if1 rfl (fun h12 => ?_) (fun h12 => ?_)
        · replace h12 : (1 : Int) ≠ 0 := h12
          refine e_Ok.ps1 (x := (1, 0)) (q := 23) 1 rfl ?_
          refine e_Ok.getf (z := w 0 13) rfl (el_o rfl) rfl rfl rfl (by omega) ?_
          refine e_Ok.if1 rfl (fun h13 => ?_) (fun h13 => ?_)
          · replace h13 : (w 0 13 : Int) = 0 := h13
            refine e_Ok.ps1 (x := (1, 0)) (q := 33) 1 rfl ?_
            refine e_Ok.getr (z := 9) rfl (el_o rfl) rfl rfl (Eq.trans (e_Has.eq hT (kt_o rfl)) (by omega)) ⟨by decide, by decide⟩ ?_
            refine e_Ok.ps1 (x := (0, p1)) (q := 37) 1 rfl ?_
            refine e_Ok.aald (z := 17 * p1 + 86) rfl (el_o rfl) rfl (by omega) (Eq.trans (e_Has.eq hT (k9 (by omega))) (by omega)) (by omega) ?_
            refine e_Ok.getr (z := 17 * p1 + 87) rfl (lA0 (a := p1) (by omega) (by omega)) rfl rfl (Eq.trans (e_Has.eq hT (kA_0 (a := p1) (by omega) (by omega))) (by omega)) (by omega) ?_
            refine e_Ok.ps1 (x := (0, p2)) (q := 42) 1 rfl ?_
            refine e_Ok.aald (z := 17 * p1 + p2 + 97) rfl (lA1 (a := p1) (by omega) (by omega)) rfl (by omega) (Eq.trans (e_Has.eq hT (kA87 (a := p1) (by omega) (by omega) (by omega))) (by omega)) (by omega) ?_
            have h14 := (e_Has.get hT (c := 17 * p1 + p2 + 97) (k := 4) (lo := (-2147483648)) (hi := 2147483647) (kJ_4 (a := p1) (j := p2) (by omega) (by omega) (by omega)) (by decide))
            refine e_Ok.getf (z := w (17 * p1 + p2 + 97) 4) rfl (lJ (a := p1) (j := p2) (by omega) (by omega) (by omega)) rfl rfl rfl (e_bq h14 (by decide) (by decide)) ?_
            refine e_Ok.run (t' := (49, [(4, (0, w (17 * p1 + p2 + 97) 4)), (0, (1, 0)), (1, (0, p1)), (2, (0, p2)), (3, (0, p3))], [(1, 0)], w)) 2 rfl ?_
            refine e_Ok.getr (z := 9) rfl (el_o rfl) rfl rfl (Eq.trans (e_Has.eq hT (kt_o rfl)) (by omega)) ⟨by decide, by decide⟩ ?_
            refine e_Ok.ps1 (x := (0, p1)) (q := 53) 1 rfl ?_
            refine e_Ok.aald (z := 17 * p1 + 86) rfl (el_o rfl) rfl (by omega) (Eq.trans (e_Has.eq hT (k9 (by omega))) (by omega)) (by omega) ?_
            refine e_Ok.getr (z := 17 * p1 + 87) rfl (lA0 (a := p1) (by omega) (by omega)) rfl rfl (Eq.trans (e_Has.eq hT (kA_0 (a := p1) (by omega) (by omega))) (by omega)) (by omega) ?_
            refine e_Ok.ps1 (x := (0, p2)) (q := 58) 1 rfl ?_
            refine e_Ok.aald (z := 17 * p1 + p2 + 97) rfl (lA1 (a := p1) (by omega) (by omega)) rfl (by omega) (Eq.trans (e_Has.eq hT (kA87 (a := p1) (by omega) (by omega) (by omega))) (by omega)) (by omega) ?_
            refine e_Ok.ps1 (x := (0, p3)) (q := 60) 1 rfl ?_
            refine e_Ok.putf rfl (lJ (a := p1) (j := p2) (by omega) (by omega) (by omega)) rfl rfl ?_
            generalize hw15 : e_up w (17 * p1 + p2 + 97) 4 p3 = w15
            have hT16 : e_Has kTy w15 := e_Has.upr hT hw15 (kJ_4 (a := p1) (j := p2) (by omega) (by omega) (by omega)) (by omega)
            refine e_Ok.ps1 (x := (0, w (17 * p1 + p2 + 97) 4)) (q := 65) 1 rfl ?_
            refine e_Ok.rets rfl rfl ?_
            exact ⟨_, rfl, Or.inr ⟨by omega, by omega, by rw [← hw15]⟩⟩
          · replace h13 : (w 0 13 : Int) ≠ 0 := (show ¬ ((w 0 13 : Int) = 0) from h13)
            refine e_Ok.ps1 (x := (0, (-2))) (q := 31) 1 rfl ?_
            refine e_Ok.rets rfl rfl ?_
            exact ⟨_, rfl, Or.inl ⟨rfl, by omega⟩⟩
        · replace h12 : (1 : Int) = 0 := Classical.not_not.mp (show ¬ ((1 : Int) ≠ 0) from h12)
          exfalso; omega
      · refine e_Ok.nrm (q := 17) (st' := [(0, 0)]) rfl rfl ?_
        refine e_Ok.if1 rfl (fun h17 => ?_) (fun h17 => ?_)
        · replace h17 : (0 : Int) ≠ 0 := h17
          exfalso; omega
        · replace h17 : (0 : Int) = 0 := Classical.not_not.mp (show ¬ ((0 : Int) ≠ 0) from h17)
          refine e_Ok.ps1 (x := (0, (-1))) (q := 21) 1 rfl ?_
          refine e_Ok.rets rfl rfl ?_
          exact ⟨_, rfl, Or.inl ⟨rfl, by omega⟩⟩
  · refine e_Ok.nrm (q := 6) (st' := [(0, 0)]) rfl rfl ?_
    refine e_Ok.if1 rfl (fun h18 => ?_) (fun h18 => ?_)
    · replace h18 : (0 : Int) = 0 := h18
      refine e_Ok.ps1 (x := (0, (-1))) (q := 21) 1 rfl ?_
      refine e_Ok.rets rfl rfl ?_
      exact ⟨_, rfl, Or.inl ⟨rfl, by omega⟩⟩
    · replace h18 : (0 : Int) ≠ 0 := (show ¬ ((0 : Int) = 0) from h18)
      exfalso; omega
end
