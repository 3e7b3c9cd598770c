noncomputable section
/-! the class: what builds a cell, exactly -/
theorem c_243_ex {d : Nat} (hd : 21 ≤ d) {w : eW} {x : Int} (g_x : -2147483648 ≤ x ∧ x ≤ 2147483647) {y : Int} (g_y : -2147483648 ≤ y ∧ y ≤ 2147483647) : e_Ok 20 elay kcode eI d 243 (0, [(0, (0, x)), (1, (0, y))], [], w) (fun r w' => ∃ z : Int, r = [(0, z)] ∧ w = w' ∧ ((z = 1 ∧ (-16000 ≤ x ∧ x ≤ 16000) ∧ -16000 ≤ y ∧ y ≤ 16000) ∨ (z = 0 ∧ ¬ ((-16000 ≤ x ∧ x ≤ 16000) ∧ -16000 ≤ y ∧ y ≤ 16000)))) := by
  obtain ⟨d, rfl⟩ : ∃ e, d = e + 1 := ⟨d - 1, by omega⟩
  refine e_Ok.ps3 (x := (0, 16000)) (y := (0, (-16000))) (z := (0, x)) (q := 7) 3 rfl ?_
  refine e_Ok.callS rfl (e_dq hd rfl) rfl rfl (c_242 (by omega) (by omega) (by omega)) (fun r1 w2 h3 => ?_)
  obtain ⟨z4, rfl, rfl, q5⟩ := h3
  obtain ⟨rfl, q5⟩ | ⟨rfl, q5⟩ := q5
  · refine e_Ok.nrm (q := 10) (st' := [(0, 1)]) rfl rfl ?_
    refine e_Ok.if1 rfl (fun h6 => ?_) (fun h6 => ?_)
    · replace h6 : (1 : Int) = 0 := h6
      exfalso; omega
    · replace h6 : (1 : Int) ≠ 0 := (show ¬ ((1 : Int) = 0) from h6)
      refine e_Ok.ps3 (x := (0, 16000)) (y := (0, (-16000))) (z := (0, y)) (q := 20) 3 rfl ?_
      refine e_Ok.callS rfl (e_dq hd rfl) rfl rfl (c_242 (by omega) (by omega) (by omega)) (fun r7 w8 h9 => ?_)
      obtain ⟨z10, rfl, rfl, q11⟩ := h9
      obtain ⟨rfl, q11⟩ | ⟨rfl, q11⟩ := q11
      · refine e_Ok.nrm (q := 23) (st' := [(0, 1)]) rfl rfl ?_
        refine e_Ok.if1 rfl (fun h12 => ?_) (fun h12 => ?_)
        · replace h12 : (1 : Int) = 0 := h12
          exfalso; omega
        · replace h12 : (1 : Int) ≠ 0 := (show ¬ ((1 : Int) = 0) from h12)
          refine e_Ok.ps1 (x := (0, 1)) (q := 31) 2 rfl ?_
          refine e_Ok.rets rfl rfl ?_
          exact ⟨_, rfl, rfl, by omega⟩
      · refine e_Ok.nrm (q := 23) (st' := [(0, 0)]) rfl rfl ?_
        refine e_Ok.if1 rfl (fun h13 => ?_) (fun h13 => ?_)
        · replace h13 : (0 : Int) = 0 := h13
          refine e_Ok.ps1 (x := (0, 0)) (q := 31) 1 rfl ?_
          refine e_Ok.rets rfl rfl ?_
          exact ⟨_, rfl, rfl, by omega⟩
        · replace h13 : (0 : Int) ≠ 0 := (show ¬ ((0 : Int) = 0) from h13)
          exfalso; omega
  · refine e_Ok.nrm (q := 10) (st' := [(0, 0)]) rfl rfl ?_
    refine e_Ok.if1 rfl (fun h14 => ?_) (fun h14 => ?_)
    · replace h14 : (0 : Int) = 0 := h14
      refine e_Ok.ps1 (x := (0, 0)) (q := 31) 1 rfl ?_
      refine e_Ok.rets rfl rfl ?_
      exact ⟨_, rfl, rfl, by omega⟩
    · replace h14 : (0 : Int) ≠ 0 := (show ¬ ((0 : Int) = 0) from h14)
      exfalso; omega
theorem c_244_ex {d : Nat} (hd : 22 ≤ d) {w : eW} {x : Int} (g_x : -2147483648 ≤ x ∧ x ≤ 2147483647) {y : Int} (g_y : -2147483648 ≤ y ∧ y ≤ 2147483647) {u : Int} (g_u : -2147483648 ≤ u ∧ u ≤ 2147483647) {v : Int} (g_v : -2147483648 ≤ v ∧ v ≤ 2147483647) : e_Ok 20 elay kcode eI d 244 (0, [(0, (0, x)), (1, (0, y)), (2, (0, u)), (3, (0, v))], [], w) (fun r w' => ∃ z : Int, r = [(0, z)] ∧ w = w' ∧ ((z = 1 ∧ ((-16000 ≤ x ∧ x ≤ 16000) ∧ -16000 ≤ y ∧ y ≤ 16000) ∧ (0 ≤ u ∧ u ≤ 16000 - x) ∧ 0 ≤ v ∧ v ≤ 16000 - y) ∨ (z = 0 ∧ ¬ (((-16000 ≤ x ∧ x ≤ 16000) ∧ -16000 ≤ y ∧ y ≤ 16000) ∧ (0 ≤ u ∧ u ≤ 16000 - x) ∧ 0 ≤ v ∧ v ≤ 16000 - y)))) := by
  obtain ⟨d, rfl⟩ : ∃ e, d = e + 1 := ⟨d - 1, by omega⟩
  refine e_Ok.ps2 (x := (0, y)) (y := (0, x)) (q := 2) 2 rfl ?_
  refine e_Ok.callS rfl (e_dq hd rfl) rfl rfl (c_243_ex (e_dq hd rfl) (by omega) (by omega)) (fun r1 w2 h3 => ?_)
  obtain ⟨z4, rfl, rfl, q5⟩ := h3
  obtain ⟨rfl, q5⟩ | ⟨rfl, q5⟩ := q5
  · refine e_Ok.nrm (q := 5) (st' := [(0, 1)]) rfl rfl ?_
    refine e_Ok.if1 rfl (fun h6 => ?_) (fun h6 => ?_)
    · replace h6 : (1 : Int) = 0 := h6
      exfalso; omega
    · replace h6 : (1 : Int) ≠ 0 := (show ¬ ((1 : Int) = 0) from h6)
      refine e_Ok.ps4 (x := (0, x)) (y := (0, 16000)) (z := (0, 0)) (u := (0, u)) (q := 14) 4 rfl ?_
      refine e_Ok.sub' (z := -x + 16000) rfl (by omega) (by omega) ?_
      refine e_Ok.callS rfl (e_dq hd rfl) rfl rfl (c_242 (by omega) (by omega) (by omega)) (fun r7 w8 h9 => ?_)
      obtain ⟨z10, rfl, rfl, q11⟩ := h9
      obtain ⟨rfl, q11⟩ | ⟨rfl, q11⟩ := q11
      · refine e_Ok.nrm (q := 18) (st' := [(0, 1)]) rfl rfl ?_
        refine e_Ok.if1 rfl (fun h12 => ?_) (fun h12 => ?_)
        · replace h12 : (1 : Int) = 0 := h12
          exfalso; omega
        · replace h12 : (1 : Int) ≠ 0 := (show ¬ ((1 : Int) = 0) from h12)
          refine e_Ok.ps4 (x := (0, y)) (y := (0, 16000)) (z := (0, 0)) (u := (0, v)) (q := 27) 4 rfl ?_
          refine e_Ok.sub' (z := -y + 16000) rfl (by omega) (by omega) ?_
          refine e_Ok.callS rfl (e_dq hd rfl) rfl rfl (c_242 (by omega) (by omega) (by omega)) (fun r13 w14 h15 => ?_)
          obtain ⟨z16, rfl, rfl, q17⟩ := h15
          obtain ⟨rfl, q17⟩ | ⟨rfl, q17⟩ := q17
          · refine e_Ok.nrm (q := 31) (st' := [(0, 1)]) rfl rfl ?_
            refine e_Ok.if1 rfl (fun h18 => ?_) (fun h18 => ?_)
            · replace h18 : (1 : Int) = 0 := h18
              exfalso; omega
            · replace h18 : (1 : Int) ≠ 0 := (show ¬ ((1 : Int) = 0) from h18)
              refine e_Ok.ps1 (x := (0, 1)) (q := 39) 2 rfl ?_
              refine e_Ok.rets rfl rfl ?_
              exact ⟨_, rfl, rfl, by omega⟩
          · refine e_Ok.nrm (q := 31) (st' := [(0, 0)]) rfl rfl ?_
            refine e_Ok.if1 rfl (fun h19 => ?_) (fun h19 => ?_)
            · replace h19 : (0 : Int) = 0 := h19
              refine e_Ok.ps1 (x := (0, 0)) (q := 39) 1 rfl ?_
              refine e_Ok.rets rfl rfl ?_
              exact ⟨_, rfl, rfl, by omega⟩
            · replace h19 : (0 : Int) ≠ 0 := (show ¬ ((0 : Int) = 0) from h19)
              exfalso; omega
      · refine e_Ok.nrm (q := 18) (st' := [(0, 0)]) rfl rfl ?_
        refine e_Ok.if1 rfl (fun h20 => ?_) (fun h20 => ?_)
        · replace h20 : (0 : Int) = 0 := h20
          refine e_Ok.ps1 (x := (0, 0)) (q := 39) 1 rfl ?_
          refine e_Ok.rets rfl rfl ?_
          exact ⟨_, rfl, rfl, by omega⟩
        · replace h20 : (0 : Int) ≠ 0 := (show ¬ ((0 : Int) = 0) from h20)
          exfalso; omega
  · refine e_Ok.nrm (q := 5) (st' := [(0, 0)]) rfl rfl ?_
    refine e_Ok.if1 rfl (fun h21 => ?_) (fun h21 => ?_)
    · replace h21 : (0 : Int) = 0 := h21
      refine e_Ok.ps1 (x := (0, 0)) (q := 39) 1 rfl ?_
      refine e_Ok.rets rfl rfl ?_
      exact ⟨_, rfl, rfl, by omega⟩
    · replace h21 : (0 : Int) ≠ 0 := (show ¬ ((0 : Int) = 0) from h21)
      exfalso; omega
theorem c_73_ex {d : Nat} {w : eW} {x : Int} (g_x : -2147483648 ≤ x ∧ x ≤ 2147483647) : e_Ok 20 elay kcode eI d 73 (0, [(0, (0, x))], [], w) (fun r w' => ∃ z : Int, r = [(0, z)] ∧ w = w' ∧ ((x = 0 ∧ z = 1) ∨ (x = 2 ∧ z = -1) ∨ (x ≠ 0 ∧ x ≠ 2 ∧ z = 0))) := by
  refine e_Ok.ps1 (x := (0, x)) (q := 1) 1 rfl ?_
  refine e_Ok.if1 rfl (fun h1 => ?_) (fun h1 => ?_)
  · replace h1 : (x : Int) ≠ 0 := h1
    refine e_Ok.ps2 (x := (0, 2)) (y := (0, x)) (q := 10) 2 rfl ?_
    refine e_Ok.if2 rfl (fun h2 => ?_) (fun h2 => ?_)
    · replace h2 : (x : Int) ≠ 2 := h2
      refine e_Ok.ps1 (x := (0, 0)) (q := 18) 1 rfl ?_
      refine e_Ok.rets rfl rfl ?_
      exact ⟨_, rfl, rfl, by omega⟩
    · replace h2 : (x : Int) = 2 := Classical.not_not.mp (show ¬ ((x : Int) ≠ 2) from h2)
      refine e_Ok.ps1 (x := (0, (-1))) (q := 18) 2 rfl ?_
      refine e_Ok.rets rfl rfl ?_
      exact ⟨_, rfl, rfl, by omega⟩
  · replace h1 : (x : Int) = 0 := Classical.not_not.mp (show ¬ ((x : Int) ≠ 0) from h1)
    refine e_Ok.ps1 (x := (0, 1)) (q := 18) 2 rfl ?_
    refine e_Ok.rets rfl rfl ?_
    exact ⟨_, rfl, rfl, by omega⟩
theorem c_74_ex {d : Nat} {w : eW} {x : Int} (g_x : -2147483648 ≤ x ∧ x ≤ 2147483647) : e_Ok 20 elay kcode eI d 74 (0, [(0, (0, x))], [], w) (fun r w' => ∃ z : Int, r = [(0, z)] ∧ w = w' ∧ ((x = 1 ∧ z = 1) ∨ (x = 3 ∧ z = -1) ∨ (x ≠ 1 ∧ x ≠ 3 ∧ z = 0))) := by
  refine e_Ok.ps2 (x := (0, 1)) (y := (0, x)) (q := 2) 2 rfl ?_
  refine e_Ok.if2 rfl (fun h1 => ?_) (fun h1 => ?_)
  · replace h1 : (x : Int) ≠ 1 := h1
    refine e_Ok.ps2 (x := (0, 3)) (y := (0, x)) (q := 11) 2 rfl ?_
    refine e_Ok.if2 rfl (fun h2 => ?_) (fun h2 => ?_)
    · replace h2 : (x : Int) ≠ 3 := h2
      refine e_Ok.ps1 (x := (0, 0)) (q := 19) 1 rfl ?_
      refine e_Ok.rets rfl rfl ?_
      exact ⟨_, rfl, rfl, by omega⟩
    · replace h2 : (x : Int) = 3 := Classical.not_not.mp (show ¬ ((x : Int) ≠ 3) from h2)
      refine e_Ok.ps1 (x := (0, (-1))) (q := 19) 2 rfl ?_
      refine e_Ok.rets rfl rfl ?_
      exact ⟨_, rfl, rfl, by omega⟩
  · replace h1 : (x : Int) = 1 := Classical.not_not.mp (show ¬ ((x : Int) ≠ 1) from h1)
    refine e_Ok.ps1 (x := (0, 1)) (q := 19) 2 rfl ?_
    refine e_Ok.rets rfl rfl ?_
    exact ⟨_, rfl, rfl, by omega⟩
theorem c_167_ex {d : Nat} (hd : 20 ≤ d) {w : eW} (hT : e_Has kTy w) {x : Int} (g_x : (-2147483648) ≤ x ∧ x ≤ 2147483647) {y : Int} (g_y : (-2147483648) ≤ y ∧ y ≤ 2147483647) {u : Int} (g_u : (-2147483648) ≤ u ∧ u ≤ 2147483647) {v : Int} (g_v : (-2147483648) ≤ v ∧ v ≤ 2147483647) {s : Int} (g_s : (-2147483648) ≤ s ∧ s ≤ 2147483647) : e_Ok 20 elay kcode eI d 167 (0, [(0, (1, 250)), (1, (0, x)), (2, (0, y)), (3, (0, u)), (4, (0, v)), (5, (0, s))], [], w) (fun r w' => ∃ z : Int, r = [(0, z)] ∧ ((w = w' ∧ w 250 0 = 16 ∧ z = -3) ∨ (¬ (w 250 0 = 16) ∧ z = w 250 0 ∧ w' = e_up (e_up (e_up (e_up (e_up (e_up w (251) (w 250 0) (x)) (252) (w 250 0) (y)) (253) (w 250 0) (u)) (254) (w 250 0) (v)) (255) (w 250 0) (s)) (250) (0) (w 250 0 + 1)))) := by
  have hw0 := e_Has.get hT (c := 0) (k := 11) (lo := 0) (hi := 4) (kt_o rfl) (by decide)
  have hb0 := e_Has.get hT (c := 19) (k := 0) (lo := 0) (hi := 4) (kt_o rfl) (by decide)
  have hz0 := e_Has.get hT (c := 250) (k := 1) (lo := 0) (hi := 8) (kt_o rfl) (by decide)
  have hs0 := e_Has.get hT (c := 250) (k := 0) (lo := 0) (hi := 16) (kt_o rfl) (by decide)
  have hi0 := e_Has.get hT (c := 74) (k := 2) (lo := 0) (hi := 8) (kt_o rfl) (by decide)
  refine e_Ok.ps1 (x := (1, 250)) (q := 1) 1 rfl ?_
  refine e_Ok.getf (z := w 250 0) rfl (el_o rfl) rfl rfl rfl (by omega) ?_
  refine e_Ok.ps1 (x := (0, 16)) (q := 6) 1 rfl ?_
  refine e_Ok.if2 rfl (fun h1 => ?_) (fun h1 => ?_)
  · replace h1 : (w 250 0 : Int) < 16 := h1
    refine e_Ok.ps1 (x := (1, 250)) (q := 13) 1 rfl ?_
    refine e_Ok.getr (z := 251) rfl (el_o rfl) rfl rfl (Eq.trans (e_Has.eq hT (kt_o rfl)) (by omega)) ⟨by decide, by decide⟩ ?_
    refine e_Ok.ps1 (x := (1, 250)) (q := 17) 1 rfl ?_
    refine e_Ok.getf (z := w 250 0) rfl (el_o rfl) rfl rfl rfl (by omega) ?_
    refine e_Ok.ps1 (x := (0, x)) (q := 21) 1 rfl ?_
    refine e_Ok.ast rfl (el_o rfl) rfl rfl (by omega) ?_
    generalize hw2 : e_up w 251 (w 250 0) x = w2
    have hT3 : e_Has kTy w2 := e_Has.upr hT hw2 (kt_o rfl) (by omega)
    refine e_Ok.ps1 (x := (1, 250)) (q := 23) 1 rfl ?_
    refine e_Ok.getr (z := 252) rfl (el_o rfl) rfl rfl (e_uq hw2 (Or.inl (by decide)) (Eq.trans (e_Has.eq hT (kt_o rfl)) (by omega))) ⟨by decide, by decide⟩ ?_
    refine e_Ok.ps1 (x := (1, 250)) (q := 27) 1 rfl ?_
    refine e_Ok.getf (z := w 250 0) rfl (el_o rfl) rfl rfl (e_uq hw2 (Or.inl (by decide)) rfl) (by omega) ?_
    refine e_Ok.ps1 (x := (0, y)) (q := 31) 1 rfl ?_
    refine e_Ok.ast rfl (el_o rfl) rfl rfl (by omega) ?_
    generalize hw4 : e_up w2 252 (w 250 0) y = w4
    have hT5 : e_Has kTy w4 := e_Has.upr hT3 hw4 (kt_o rfl) (by omega)
    refine e_Ok.ps1 (x := (1, 250)) (q := 33) 1 rfl ?_
    refine e_Ok.getr (z := 253) rfl (el_o rfl) rfl rfl (e_uq hw4 (Or.inl (by decide)) (e_uq hw2 (Or.inl (by decide)) (Eq.trans (e_Has.eq hT (kt_o rfl)) (by omega)))) ⟨by decide, by decide⟩ ?_
    refine e_Ok.ps1 (x := (1, 250)) (q := 37) 1 rfl ?_
    refine e_Ok.getf (z := w 250 0) rfl (el_o rfl) rfl rfl (e_uq hw4 (Or.inl (by decide)) (e_uq hw2 (Or.inl (by decide)) rfl)) (by omega) ?_
    refine e_Ok.ps1 (x := (0, u)) (q := 41) 1 rfl ?_
    refine e_Ok.ast rfl (el_o rfl) rfl rfl (by omega) ?_
    generalize hw6 : e_up w4 253 (w 250 0) u = w6
    have hT7 : e_Has kTy w6 := e_Has.upr hT5 hw6 (kt_o rfl) (by omega)
    refine e_Ok.ps1 (x := (1, 250)) (q := 43) 1 rfl ?_
    refine e_Ok.getr (z := 254) rfl (el_o rfl) rfl rfl (e_uq hw6 (Or.inl (by decide)) (e_uq hw4 (Or.inl (by decide)) (e_uq hw2 (Or.inl (by decide)) (Eq.trans (e_Has.eq hT (kt_o rfl)) (by omega))))) ⟨by decide, by decide⟩ ?_
    refine e_Ok.ps1 (x := (1, 250)) (q := 47) 1 rfl ?_
    refine e_Ok.getf (z := w 250 0) rfl (el_o rfl) rfl rfl (e_uq hw6 (Or.inl (by decide)) (e_uq hw4 (Or.inl (by decide)) (e_uq hw2 (Or.inl (by decide)) rfl))) (by omega) ?_
    refine e_Ok.ps1 (x := (0, v)) (q := 52) 1 rfl ?_
    refine e_Ok.ast rfl (el_o rfl) rfl rfl (by omega) ?_
    generalize hw8 : e_up w6 254 (w 250 0) v = w8
    have hT9 : e_Has kTy w8 := e_Has.upr hT7 hw8 (kt_o rfl) (by omega)
    refine e_Ok.ps1 (x := (1, 250)) (q := 54) 1 rfl ?_
    refine e_Ok.getr (z := 255) rfl (el_o rfl) rfl rfl (e_uq hw8 (Or.inl (by decide)) (e_uq hw6 (Or.inl (by decide)) (e_uq hw4 (Or.inl (by decide)) (e_uq hw2 (Or.inl (by decide)) (Eq.trans (e_Has.eq hT (kt_o rfl)) (by omega)))))) ⟨by decide, by decide⟩ ?_
    refine e_Ok.ps1 (x := (1, 250)) (q := 58) 1 rfl ?_
    refine e_Ok.getf (z := w 250 0) rfl (el_o rfl) rfl rfl (e_uq hw8 (Or.inl (by decide)) (e_uq hw6 (Or.inl (by decide)) (e_uq hw4 (Or.inl (by decide)) (e_uq hw2 (Or.inl (by decide)) rfl)))) (by omega) ?_
    refine e_Ok.ps1 (x := (0, s)) (q := 63) 1 rfl ?_
    refine e_Ok.ast rfl (el_o rfl) rfl rfl (by omega) ?_
    generalize hw10 : e_up w8 255 (w 250 0) s = w10
    have hT11 : e_Has kTy w10 := e_Has.upr hT9 hw10 (kt_o rfl) (by omega)
    refine e_Ok.ps2 (x := (1, 250)) (y := (1, 250)) (q := 66) 2 rfl ?_
    refine e_Ok.getf (z := w 250 0) rfl (el_o rfl) rfl rfl (e_uq hw10 (Or.inl (by decide)) (e_uq hw8 (Or.inl (by decide)) (e_uq hw6 (Or.inl (by decide)) (e_uq hw4 (Or.inl (by decide)) (e_uq hw2 (Or.inl (by decide)) rfl))))) (by omega) ?_
    refine e_Ok.ps1 (x := (0, 1)) (q := 70) 1 rfl ?_
    refine e_Ok.add (z := w 250 0 + 1) rfl rfl (by omega) ?_
    refine e_Ok.putf rfl (el_o rfl) rfl rfl ?_
    generalize hw12 : e_up w10 250 0 (w 250 0 + 1) = w12
    have hT13 : e_Has kTy w12 := e_Has.upr hT11 hw12 (kt_o rfl) (by omega)
    refine e_Ok.ps1 (x := (1, 250)) (q := 75) 1 rfl ?_
    refine e_Ok.getf (z := w 250 0 + 1) rfl (el_o rfl) rfl rfl (e_ue hw12) (by omega) ?_
    refine e_Ok.ps1 (x := (0, 1)) (q := 79) 1 rfl ?_
    refine e_Ok.sub' (z := w 250 0) rfl (by omega) (by omega) ?_
    refine e_Ok.rets rfl rfl ?_
    exact ⟨_, rfl, Or.inr ⟨by omega, by omega, by rw [← hw12, ← hw10, ← hw8, ← hw6, ← hw4, ← hw2]⟩⟩
  · replace h1 : (w 250 0 : Int) ≥ 16 := Int.not_lt.mp (show ¬ ((w 250 0 : Int) < 16) from h1)
    refine e_Ok.ps1 (x := (0, (-3))) (q := 11) 1 rfl ?_
    refine e_Ok.rets rfl rfl ?_
    exact ⟨_, rfl, Or.inl ⟨rfl, by omega⟩⟩
theorem c_168_ex {d : Nat} (hd : 20 ≤ d) {w : eW} (hT : e_Has kTy w) {x : Int} (g_x : 0 ≤ x ∧ x ≤ 3) {y : Int} (g_y : (-16000) ≤ y ∧ y ≤ 16000) {u : Int} (g_u : (-16000) ≤ u ∧ u ≤ 16000) {v : Int} (g_v : 0 ≤ v ∧ v ≤ 32000) {s : Int} (g_s : 0 ≤ s ∧ s ≤ 32000) : e_Ok 20 elay kcode eI d 168 (0, [(0, (1, 250)), (1, (0, x)), (2, (0, y)), (3, (0, u)), (4, (0, v)), (5, (0, s))], [], w) (fun r w' => ∃ z : Int, r = [(0, z)] ∧ ((w = w' ∧ w 250 1 = 8 ∧ z = -3) ∨ (¬ (w 250 1 = 8) ∧ z = w 250 1 ∧ w' = e_up (e_up (e_up (e_up (e_up (e_up (e_up w (256) (w 250 1) (x)) (258) (w 250 1) (y)) (259) (w 250 1) (u)) (260) (w 250 1) (y + v)) (261) (w 250 1) (u + s)) (257) (w 250 1) (-1)) (250) (1) (w 250 1 + 1)))) := by
  have hw0 := e_Has.get hT (c := 0) (k := 11) (lo := 0) (hi := 4) (kt_o rfl) (by decide)
  have hb0 := e_Has.get hT (c := 19) (k := 0) (lo := 0) (hi := 4) (kt_o rfl) (by decide)
  have hz0 := e_Has.get hT (c := 250) (k := 1) (lo := 0) (hi := 8) (kt_o rfl) (by decide)
  have hs0 := e_Has.get hT (c := 250) (k := 0) (lo := 0) (hi := 16) (kt_o rfl) (by decide)
  have hi0 := e_Has.get hT (c := 74) (k := 2) (lo := 0) (hi := 8) (kt_o rfl) (by decide)
  refine e_Ok.ps1 (x := (1, 250)) (q := 1) 1 rfl ?_
  refine e_Ok.getf (z := w 250 1) rfl (el_o rfl) rfl rfl rfl (by omega) ?_
  refine e_Ok.ps1 (x := (0, 8)) (q := 6) 1 rfl ?_
  refine e_Ok.if2 rfl (fun h1 => ?_) (fun h1 => ?_)
  · replace h1 : (w 250 1 : Int) < 8 := h1
    refine e_Ok.ps1 (x := (1, 250)) (q := 13) 1 rfl ?_
    refine e_Ok.getr (z := 256) rfl (el_o rfl) rfl rfl (Eq.trans (e_Has.eq hT (kt_o rfl)) (by omega)) ⟨by decide, by decide⟩ ?_
    refine e_Ok.ps1 (x := (1, 250)) (q := 17) 1 rfl ?_
    refine e_Ok.getf (z := w 250 1) rfl (el_o rfl) rfl rfl rfl (by omega) ?_
    refine e_Ok.ps1 (x := (0, x)) (q := 21) 1 rfl ?_
    refine e_Ok.ast rfl (el_o rfl) rfl rfl (by omega) ?_
    generalize hw2 : e_up w 256 (w 250 1) x = w2
    have hT3 : e_Has kTy w2 := e_Has.upr hT hw2 (kt_o rfl) (by omega)
    refine e_Ok.ps1 (x := (1, 250)) (q := 23) 1 rfl ?_
    refine e_Ok.getr (z := 258) rfl (el_o rfl) rfl rfl (e_uq hw2 (Or.inl (by decide)) (Eq.trans (e_Has.eq hT (kt_o rfl)) (by omega))) ⟨by decide, by decide⟩ ?_
    refine e_Ok.ps1 (x := (1, 250)) (q := 27) 1 rfl ?_
    refine e_Ok.getf (z := w 250 1) rfl (el_o rfl) rfl rfl (e_uq hw2 (Or.inl (by decide)) rfl) (by omega) ?_
    refine e_Ok.ps1 (x := (0, y)) (q := 31) 1 rfl ?_
    refine e_Ok.ast rfl (el_o rfl) rfl rfl (by omega) ?_
    generalize hw4 : e_up w2 258 (w 250 1) y = w4
    have hT5 : e_Has kTy w4 := e_Has.upr hT3 hw4 (kt_o rfl) (by omega)
    refine e_Ok.ps1 (x := (1, 250)) (q := 33) 1 rfl ?_
    refine e_Ok.getr (z := 259) rfl (el_o rfl) rfl rfl (e_uq hw4 (Or.inl (by decide)) (e_uq hw2 (Or.inl (by decide)) (Eq.trans (e_Has.eq hT (kt_o rfl)) (by omega)))) ⟨by decide, by decide⟩ ?_
    refine e_Ok.ps1 (x := (1, 250)) (q := 37) 1 rfl ?_
    refine e_Ok.getf (z := w 250 1) rfl (el_o rfl) rfl rfl (e_uq hw4 (Or.inl (by decide)) (e_uq hw2 (Or.inl (by decide)) rfl)) (by omega) ?_
    refine e_Ok.ps1 (x := (0, u)) (q := 41) 1 rfl ?_
    refine e_Ok.ast rfl (el_o rfl) rfl rfl (by omega) ?_
    generalize hw6 : e_up w4 259 (w 250 1) u = w6
    have hT7 : e_Has kTy w6 := e_Has.upr hT5 hw6 (kt_o rfl) (by omega)
    refine e_Ok.ps1 (x := (1, 250)) (q := 43) 1 rfl ?_
    refine e_Ok.getr (z := 260) rfl (el_o rfl) rfl rfl (e_uq hw6 (Or.inl (by decide)) (e_uq hw4 (Or.inl (by decide)) (e_uq hw2 (Or.inl (by decide)) (Eq.trans (e_Has.eq hT (kt_o rfl)) (by omega))))) ⟨by decide, by decide⟩ ?_
    refine e_Ok.ps1 (x := (1, 250)) (q := 47) 1 rfl ?_
    refine e_Ok.getf (z := w 250 1) rfl (el_o rfl) rfl rfl (e_uq hw6 (Or.inl (by decide)) (e_uq hw4 (Or.inl (by decide)) (e_uq hw2 (Or.inl (by decide)) rfl))) (by omega) ?_
    refine e_Ok.ps2 (x := (0, v)) (y := (0, y)) (q := 53) 2 rfl ?_
    refine e_Ok.add (z := y + v) rfl rfl (by omega) ?_
    refine e_Ok.ast rfl (el_o rfl) rfl rfl (by omega) ?_
    generalize hw8 : e_up w6 260 (w 250 1) (y + v) = w8
    have hT9 : e_Has kTy w8 := e_Has.upr hT7 hw8 (kt_o rfl) (by omega)
    refine e_Ok.ps1 (x := (1, 250)) (q := 56) 1 rfl ?_
    refine e_Ok.getr (z := 261) rfl (el_o rfl) rfl rfl (e_uq hw8 (Or.inl (by decide)) (e_uq hw6 (Or.inl (by decide)) (e_uq hw4 (Or.inl (by decide)) (e_uq hw2 (Or.inl (by decide)) (Eq.trans (e_Has.eq hT (kt_o rfl)) (by omega)))))) ⟨by decide, by decide⟩ ?_
    refine e_Ok.ps1 (x := (1, 250)) (q := 60) 1 rfl ?_
    refine e_Ok.getf (z := w 250 1) rfl (el_o rfl) rfl rfl (e_uq hw8 (Or.inl (by decide)) (e_uq hw6 (Or.inl (by decide)) (e_uq hw4 (Or.inl (by decide)) (e_uq hw2 (Or.inl (by decide)) rfl)))) (by omega) ?_
    refine e_Ok.ps2 (x := (0, s)) (y := (0, u)) (q := 66) 2 rfl ?_
    refine e_Ok.add (z := u + s) rfl rfl (by omega) ?_
    refine e_Ok.ast rfl (el_o rfl) rfl rfl (by omega) ?_
    generalize hw10 : e_up w8 261 (w 250 1) (u + s) = w10
    have hT11 : e_Has kTy w10 := e_Has.upr hT9 hw10 (kt_o rfl) (by omega)
    refine e_Ok.ps1 (x := (1, 250)) (q := 69) 1 rfl ?_
    refine e_Ok.getr (z := 257) rfl (el_o rfl) rfl rfl (e_uq hw10 (Or.inl (by decide)) (e_uq hw8 (Or.inl (by decide)) (e_uq hw6 (Or.inl (by decide)) (e_uq hw4 (Or.inl (by decide)) (e_uq hw2 (Or.inl (by decide)) (Eq.trans (e_Has.eq hT (kt_o rfl)) (by omega))))))) ⟨by decide, by decide⟩ ?_
    refine e_Ok.ps1 (x := (1, 250)) (q := 73) 1 rfl ?_
    refine e_Ok.getf (z := w 250 1) rfl (el_o rfl) rfl rfl (e_uq hw10 (Or.inl (by decide)) (e_uq hw8 (Or.inl (by decide)) (e_uq hw6 (Or.inl (by decide)) (e_uq hw4 (Or.inl (by decide)) (e_uq hw2 (Or.inl (by decide)) rfl))))) (by omega) ?_
    refine e_Ok.ps1 (x := (0, (-1))) (q := 77) 1 rfl ?_
    refine e_Ok.ast rfl (el_o rfl) rfl rfl (by omega) ?_
    generalize hw12 : e_up w10 257 (w 250 1) (-1) = w12
    have hT13 : e_Has kTy w12 := e_Has.upr hT11 hw12 (kt_o rfl) (by omega)
    refine e_Ok.ps2 (x := (1, 250)) (y := (1, 250)) (q := 80) 2 rfl ?_
    refine e_Ok.getf (z := w 250 1) rfl (el_o rfl) rfl rfl (e_uq hw12 (Or.inl (by decide)) (e_uq hw10 (Or.inl (by decide)) (e_uq hw8 (Or.inl (by decide)) (e_uq hw6 (Or.inl (by decide)) (e_uq hw4 (Or.inl (by decide)) (e_uq hw2 (Or.inl (by decide)) rfl)))))) (by omega) ?_
    refine e_Ok.ps1 (x := (0, 1)) (q := 84) 1 rfl ?_
    refine e_Ok.add (z := w 250 1 + 1) rfl rfl (by omega) ?_
    refine e_Ok.putf rfl (el_o rfl) rfl rfl ?_
    generalize hw14 : e_up w12 250 1 (w 250 1 + 1) = w14
    have hT15 : e_Has kTy w14 := e_Has.upr hT13 hw14 (kt_o rfl) (by omega)
    refine e_Ok.ps1 (x := (1, 250)) (q := 89) 1 rfl ?_
    refine e_Ok.getf (z := w 250 1 + 1) rfl (el_o rfl) rfl rfl (e_ue hw14) (by omega) ?_
    refine e_Ok.ps1 (x := (0, 1)) (q := 93) 1 rfl ?_
    refine e_Ok.sub' (z := w 250 1) rfl (by omega) (by omega) ?_
    refine e_Ok.rets rfl rfl ?_
    exact ⟨_, rfl, Or.inr ⟨by omega, by omega, by rw [← hw14, ← hw12, ← hw10, ← hw8, ← hw6, ← hw4, ← hw2]⟩⟩
  · replace h1 : (w 250 1 : Int) ≥ 8 := Int.not_lt.mp (show ¬ ((w 250 1 : Int) < 8) from h1)
    refine e_Ok.ps1 (x := (0, (-3))) (q := 11) 1 rfl ?_
    refine e_Ok.rets rfl rfl ?_
    exact ⟨_, rfl, Or.inl ⟨rfl, by omega⟩⟩
theorem c_75_ex {d : Nat} (hd : 21 ≤ d) {w : eW} (hT : e_Has kTy w) (hb3 : w 19 0 ≤ 3) {x : Int} (g_x : (-2147483648) ≤ x ∧ x ≤ 2147483647) {y : Int} (g_y : (-2147483648) ≤ y ∧ y ≤ 2147483647) {u : Int} (g_u : (-2147483648) ≤ u ∧ u ≤ 2147483647) {v : Int} (g_v : (-2147483648) ≤ v ∧ v ≤ 2147483647) {s : Int} (g_s : (-2147483648) ≤ s ∧ s ≤ 2147483647) : e_Ok 20 elay kcode eI d 75 (0, [(0, (1, 19)), (1, (0, x)), (2, (0, y)), (3, (0, u)), (4, (0, v)), (5, (0, s))], [], w) (fun r w' => ∃ z : Int, r = [(0, z)] ∧ (w 19 0 ≤ 3 ∧ z = w 19 0 ∧ ∃ b1 b2 : Int, w' = e_up (e_up (e_up (e_up (e_up (e_up (e_up (e_up (e_up (e_up w (25) (w 19 0) (x)) (26) (w 19 0) (y)) (27) (w 19 0) (b1)) (28) (w 19 0) (b2)) (20) (w 19 0) (v)) (29) (w 19 0) (s)) (21) (w 19 0) (0)) (22) (w 19 0) (-1)) (35) (w 19 0) (0)) (19) (0) (w 19 0 + 1))) := by
  obtain ⟨d, rfl⟩ : ∃ e, d = e + 1 := ⟨d - 1, by omega⟩
  have hw0 := e_Has.get hT (c := 0) (k := 11) (lo := 0) (hi := 4) (kt_o rfl) (by decide)
  have hb0 := e_Has.get hT (c := 19) (k := 0) (lo := 0) (hi := 4) (kt_o rfl) (by decide)
  have hz0 := e_Has.get hT (c := 250) (k := 1) (lo := 0) (hi := 8) (kt_o rfl) (by decide)
  have hs0 := e_Has.get hT (c := 250) (k := 0) (lo := 0) (hi := 16) (kt_o rfl) (by decide)
  have hi0 := e_Has.get hT (c := 74) (k := 2) (lo := 0) (hi := 8) (kt_o rfl) (by decide)
  refine e_Ok.ps1 (x := (1, 19)) (q := 1) 1 rfl ?_
  refine e_Ok.getf (z := w 19 0) rfl (el_o rfl) rfl rfl rfl (by omega) ?_
  refine e_Ok.run (t' := (7, [(6, (0, w 19 0)), (0, (1, 19)), (1, (0, x)), (2, (0, y)), (3, (0, u)), (4, (0, v)), (5, (0, s))], [(1, 19)], w)) 2 rfl ?_
  refine e_Ok.getr (z := 25) rfl (el_o rfl) rfl rfl (Eq.trans (e_Has.eq hT (kt_o rfl)) (by omega)) ⟨by decide, by decide⟩ ?_
  refine e_Ok.ps2 (x := (0, x)) (y := (0, w 19 0)) (q := 13) 2 rfl ?_
  refine e_Ok.ast rfl (el_o rfl) rfl rfl (by omega) ?_
  generalize hw1 : e_up w 25 (w 19 0) x = w1
  have hT2 : e_Has kTy w1 := e_Has.upr hT hw1 (kt_o rfl) (by omega)
  refine e_Ok.ps1 (x := (1, 19)) (q := 15) 1 rfl ?_
  refine e_Ok.getr (z := 26) rfl (el_o rfl) rfl rfl (e_uq hw1 (Or.inl (by decide)) (Eq.trans (e_Has.eq hT (kt_o rfl)) (by omega))) ⟨by decide, by decide⟩ ?_
  refine e_Ok.ps2 (x := (0, y)) (y := (0, w 19 0)) (q := 21) 2 rfl ?_
  refine e_Ok.ast rfl (el_o rfl) rfl rfl (by omega) ?_
  generalize hw3 : e_up w1 26 (w 19 0) y = w3
  have hT4 : e_Has kTy w3 := e_Has.upr hT2 hw3 (kt_o rfl) (by omega)
  refine e_Ok.ps1 (x := (1, 19)) (q := 23) 1 rfl ?_
  refine e_Ok.getr (z := 27) rfl (el_o rfl) rfl rfl (e_uq hw3 (Or.inl (by decide)) (e_uq hw1 (Or.inl (by decide)) (Eq.trans (e_Has.eq hT (kt_o rfl)) (by omega)))) ⟨by decide, by decide⟩ ?_
  refine e_Ok.ps2 (x := (0, u)) (y := (0, w 19 0)) (q := 29) 2 rfl ?_
  refine e_Ok.callS rfl (e_dq hd rfl) rfl rfl (c_73 (by omega)) (fun r5 w6 h7 => ?_)
  obtain ⟨z9, rfl, rfl, q8r⟩ := h7
  refine e_Ok.nrm (q := 32) (st' := [(0, z9), (0, w 19 0), (1, 27)]) rfl rfl ?_
  refine e_Ok.ast rfl (el_o rfl) rfl rfl (by omega) ?_
  generalize hw10 : e_up w3 27 (w 19 0) z9 = w10
  have hT11 : e_Has kTy w10 := e_Has.upr hT4 hw10 (kt_o rfl) (by omega)
  refine e_Ok.ps1 (x := (1, 19)) (q := 34) 1 rfl ?_
  refine e_Ok.getr (z := 28) rfl (el_o rfl) rfl rfl (e_uq hw10 (Or.inl (by decide)) (e_uq hw3 (Or.inl (by decide)) (e_uq hw1 (Or.inl (by decide)) (Eq.trans (e_Has.eq hT (kt_o rfl)) (by omega))))) ⟨by decide, by decide⟩ ?_
  refine e_Ok.ps2 (x := (0, u)) (y := (0, w 19 0)) (q := 40) 2 rfl ?_
  refine e_Ok.callS rfl (e_dq hd rfl) rfl rfl (c_74 (by omega)) (fun r12 w13 h14 => ?_)
  obtain ⟨z16, rfl, rfl, q15r⟩ := h14
  refine e_Ok.nrm (q := 43) (st' := [(0, z16), (0, w 19 0), (1, 28)]) rfl rfl ?_
  refine e_Ok.ast rfl (el_o rfl) rfl rfl (by omega) ?_
  generalize hw17 : e_up w10 28 (w 19 0) z16 = w17
  have hT18 : e_Has kTy w17 := e_Has.upr hT11 hw17 (kt_o rfl) (by omega)
  refine e_Ok.ps1 (x := (1, 19)) (q := 45) 1 rfl ?_
  refine e_Ok.getr (z := 20) rfl (el_o rfl) rfl rfl (e_uq hw17 (Or.inl (by decide)) (e_uq hw10 (Or.inl (by decide)) (e_uq hw3 (Or.inl (by decide)) (e_uq hw1 (Or.inl (by decide)) (Eq.trans (e_Has.eq hT (kt_o rfl)) (by omega)))))) ⟨by decide, by decide⟩ ?_
  refine e_Ok.ps2 (x := (0, v)) (y := (0, w 19 0)) (q := 52) 2 rfl ?_
  refine e_Ok.ast rfl (el_o rfl) rfl rfl (by omega) ?_
  generalize hw19 : e_up w17 20 (w 19 0) v = w19
  have hT20 : e_Has kTy w19 := e_Has.upr hT18 hw19 (kt_o rfl) (by omega)
  refine e_Ok.ps1 (x := (1, 19)) (q := 54) 1 rfl ?_
  refine e_Ok.getr (z := 29) rfl (el_o rfl) rfl rfl (e_uq hw19 (Or.inl (by decide)) (e_uq hw17 (Or.inl (by decide)) (e_uq hw10 (Or.inl (by decide)) (e_uq hw3 (Or.inl (by decide)) (e_uq hw1 (Or.inl (by decide)) (Eq.trans (e_Has.eq hT (kt_o rfl)) (by omega))))))) ⟨by decide, by decide⟩ ?_
  refine e_Ok.ps2 (x := (0, s)) (y := (0, w 19 0)) (q := 61) 2 rfl ?_
  refine e_Ok.ast rfl (el_o rfl) rfl rfl (by omega) ?_
  generalize hw21 : e_up w19 29 (w 19 0) s = w21
  have hT22 : e_Has kTy w21 := e_Has.upr hT20 hw21 (kt_o rfl) (by omega)
  refine e_Ok.ps1 (x := (1, 19)) (q := 63) 1 rfl ?_
  refine e_Ok.getr (z := 21) rfl (el_o rfl) rfl rfl (e_uq hw21 (Or.inl (by decide)) (e_uq hw19 (Or.inl (by decide)) (e_uq hw17 (Or.inl (by decide)) (e_uq hw10 (Or.inl (by decide)) (e_uq hw3 (Or.inl (by decide)) (e_uq hw1 (Or.inl (by decide)) (Eq.trans (e_Has.eq hT (kt_o rfl)) (by omega)))))))) ⟨by decide, by decide⟩ ?_
  refine e_Ok.ps2 (x := (0, 0)) (y := (0, w 19 0)) (q := 69) 2 rfl ?_
  refine e_Ok.ast rfl (el_o rfl) rfl rfl (by omega) ?_
  generalize hw23 : e_up w21 21 (w 19 0) 0 = w23
  have hT24 : e_Has kTy w23 := e_Has.upr hT22 hw23 (kt_o rfl) (by omega)
  refine e_Ok.ps1 (x := (1, 19)) (q := 71) 1 rfl ?_
  refine e_Ok.getr (z := 22) rfl (el_o rfl) rfl rfl (e_uq hw23 (Or.inl (by decide)) (e_uq hw21 (Or.inl (by decide)) (e_uq hw19 (Or.inl (by decide)) (e_uq hw17 (Or.inl (by decide)) (e_uq hw10 (Or.inl (by decide)) (e_uq hw3 (Or.inl (by decide)) (e_uq hw1 (Or.inl (by decide)) (Eq.trans (e_Has.eq hT (kt_o rfl)) (by omega))))))))) ⟨by decide, by decide⟩ ?_
  refine e_Ok.ps2 (x := (0, (-1))) (y := (0, w 19 0)) (q := 77) 2 rfl ?_
  refine e_Ok.ast rfl (el_o rfl) rfl rfl (by omega) ?_
  generalize hw25 : e_up w23 22 (w 19 0) (-1) = w25
  have hT26 : e_Has kTy w25 := e_Has.upr hT24 hw25 (kt_o rfl) (by omega)
  refine e_Ok.ps1 (x := (1, 19)) (q := 79) 1 rfl ?_
  refine e_Ok.getr (z := 35) rfl (el_o rfl) rfl rfl (e_uq hw25 (Or.inl (by decide)) (e_uq hw23 (Or.inl (by decide)) (e_uq hw21 (Or.inl (by decide)) (e_uq hw19 (Or.inl (by decide)) (e_uq hw17 (Or.inl (by decide)) (e_uq hw10 (Or.inl (by decide)) (e_uq hw3 (Or.inl (by decide)) (e_uq hw1 (Or.inl (by decide)) (Eq.trans (e_Has.eq hT (kt_o rfl)) (by omega)))))))))) ⟨by decide, by decide⟩ ?_
  refine e_Ok.ps2 (x := (0, 0)) (y := (0, w 19 0)) (q := 85) 2 rfl ?_
  refine e_Ok.ast rfl (el_o rfl) rfl rfl (by omega) ?_
  generalize hw27 : e_up w25 35 (w 19 0) 0 = w27
  have hT28 : e_Has kTy w27 := e_Has.ups hT26 hw27 (kt_o rfl)
  refine e_Ok.ps2 (x := (1, 19)) (y := (1, 19)) (q := 88) 2 rfl ?_
  refine e_Ok.getf (z := w 19 0) rfl (el_o rfl) rfl rfl (e_uq hw27 (Or.inl (by decide)) (e_uq hw25 (Or.inl (by decide)) (e_uq hw23 (Or.inl (by decide)) (e_uq hw21 (Or.inl (by decide)) (e_uq hw19 (Or.inl (by decide)) (e_uq hw17 (Or.inl (by decide)) (e_uq hw10 (Or.inl (by decide)) (e_uq hw3 (Or.inl (by decide)) (e_uq hw1 (Or.inl (by decide)) rfl))))))))) (by omega) ?_
  refine e_Ok.ps1 (x := (0, 1)) (q := 92) 1 rfl ?_
  refine e_Ok.add (z := w 19 0 + 1) rfl rfl (by omega) ?_
  refine e_Ok.putf rfl (el_o rfl) rfl rfl ?_
  generalize hw29 : e_up w27 19 0 (w 19 0 + 1) = w29
  have hT30 : e_Has kTy w29 := e_Has.upr hT28 hw29 (kt_o rfl) (by omega)
  refine e_Ok.ps1 (x := (0, w 19 0)) (q := 98) 1 rfl ?_
  refine e_Ok.rets rfl rfl ?_
  exact ⟨_, rfl, ⟨by omega, by omega, _, _, by rw [← hw29, ← hw27, ← hw25, ← hw23, ← hw21, ← hw19, ← hw17, ← hw10, ← hw3, ← hw1]⟩⟩
theorem c_201_ex {d : Nat} (hd : 24 ≤ d) {w : eW} (hT : e_Has kTy w) (hO : 0 ≤ w 0 13 ∧ w 0 13 ≤ 1) {p1 : Int} (g1 : (-2147483648) ≤ p1 ∧ p1 ≤ 2147483647) {p2 : Int} (g2 : (-2147483648) ≤ p2 ∧ p2 ≤ 2147483647) : e_Ok 20 elay kcode eI d 201 (0, [(0, (1, 0)), (1, (0, p1)), (2, (0, p2))], [], w) (fun r w' => ∃ z : Int, r = [(0, z)] ∧ ((w = w' ∧ ((¬ ((0 ≤ p1 ∧ p1 < w 19 0) ∧ (0 ≤ p2 ∧ p2 ≤ 100)) ∧ z = -1) ∨ (((0 ≤ p1 ∧ p1 < w 19 0) ∧ (0 ≤ p2 ∧ p2 ≤ 100)) ∧ w 0 13 ≠ 0 ∧ z = -2))) ∨ ((((0 ≤ p1 ∧ p1 < w 19 0) ∧ (0 ≤ p2 ∧ p2 ≤ 100)) ∧ w 0 13 = 0) ∧ z = w 21 p1 ∧ w' = e_up w (21) (p1) (p2)))) := by
  obtain ⟨d, rfl⟩ : ∃ e, d = e + 1 := ⟨d - 1, by omega⟩
  have hw0 := e_Has.get hT (c := 0) (k := 11) (lo := 0) (hi := 4) (kt_o rfl) (by decide)
  have hb0 := e_Has.get hT (c := 19) (k := 0) (lo := 0) (hi := 4) (kt_o rfl) (by decide)
  have hz0 := e_Has.get hT (c := 250) (k := 1) (lo := 0) (hi := 8) (kt_o rfl) (by decide)
  have hs0 := e_Has.get hT (c := 250) (k := 0) (lo := 0) (hi := 16) (kt_o rfl) (by decide)
  have hi0 := e_Has.get hT (c := 74) (k := 2) (lo := 0) (hi := 8) (kt_o rfl) (by decide)
  refine e_Ok.ps2 (x := (0, p1)) (y := (1, 0)) (q := 2) 2 rfl ?_
  refine e_Ok.callV rfl (e_dq hd rfl) rfl rfl rfl rfl (c_248 (e_dq hd rfl) hT (by omega)) (fun r1 w2 h3 => ?_)
  obtain ⟨z4, rfl, rfl, q5⟩ := h3
  obtain ⟨rfl, q5⟩ | ⟨rfl, q5⟩ := q5
  · refine e_Ok.nrm (q := 5) (st' := [(0, 1)]) rfl rfl ?_
    refine e_Ok.if1 rfl (fun h6 => ?_) (fun h6 => ?_)
    · replace h6 : (1 : Int) = 0 := h6
      exfalso; omega
    · replace h6 : (1 : Int) ≠ 0 := (show ¬ ((1 : Int) = 0) from h6)
      refine e_Ok.ps3 (x := (0, 100)) (y := (0, 0)) (z := (0, p2)) (q := 12) 3 rfl ?_
      refine e_Ok.callS rfl (e_dq hd rfl) rfl rfl (c_242 (by omega) (by omega) (by omega)) (fun r7 w8 h9 => ?_)
      obtain ⟨z10, rfl, rfl, q11⟩ := h9
      obtain ⟨rfl, q11⟩ | ⟨rfl, q11⟩ := q11
      · refine e_Ok.nrm (q := 15) (st' := [(0, 1)]) rfl rfl ?_
        refine e_Ok.if1 rfl (fun h12 => ?_) (fun h12 => ?_)
        · replace h12 : (1 : Int) ≠ 0 := h12
          refine e_Ok.ps1 (x := (1, 0)) (q := 21) 1 rfl ?_
          refine e_Ok.getf (z := w 0 13) rfl (el_o rfl) rfl rfl rfl (by omega) ?_
          refine e_Ok.if1 rfl (fun h13 => ?_) (fun h13 => ?_)
          · replace h13 : (w 0 13 : Int) = 0 := h13
            refine e_Ok.ps1 (x := (1, 0)) (q := 31) 1 rfl ?_
            refine e_Ok.getr (z := 19) rfl (el_o rfl) rfl rfl (Eq.trans (e_Has.eq hT (kt_o rfl)) (by omega)) ⟨by decide, by decide⟩ ?_
            refine e_Ok.getr (z := 21) rfl (el_o rfl) rfl rfl (Eq.trans (e_Has.eq hT (kt_o rfl)) (by omega)) ⟨by decide, by decide⟩ ?_
            refine e_Ok.ps1 (x := (0, p1)) (q := 38) 1 rfl ?_
            have h14 := (e_Has.get hT (c := 21) (k := p1) (lo := (-2147483648)) (hi := 2147483647) (kt_o rfl) (by decide))
            refine e_Ok.ald (z := w 21 p1) rfl (el_o rfl) rfl (by omega) rfl (e_bq h14 (by decide) (by decide)) ?_
            refine e_Ok.run (t' := (41, [(3, (0, w 21 p1)), (0, (1, 0)), (1, (0, p1)), (2, (0, p2))], [(1, 0)], w)) 2 rfl ?_
            refine e_Ok.getr (z := 19) rfl (el_o rfl) rfl rfl (Eq.trans (e_Has.eq hT (kt_o rfl)) (by omega)) ⟨by decide, by decide⟩ ?_
            refine e_Ok.getr (z := 21) rfl (el_o rfl) rfl rfl (Eq.trans (e_Has.eq hT (kt_o rfl)) (by omega)) ⟨by decide, by decide⟩ ?_
            refine e_Ok.ps2 (x := (0, p2)) (y := (0, p1)) (q := 49) 2 rfl ?_
            refine e_Ok.ast rfl (el_o rfl) rfl rfl (by omega) ?_
            generalize hw15 : e_up w 21 p1 p2 = w15
            have hT16 : e_Has kTy w15 := e_Has.upr hT hw15 (kt_o rfl) (by omega)
            refine e_Ok.ps1 (x := (0, w 21 p1)) (q := 51) 1 rfl ?_
            refine e_Ok.rets rfl rfl ?_
            exact ⟨_, rfl, Or.inr ⟨by omega, by omega, by rw [← hw15]⟩⟩
          · replace h13 : (w 0 13 : Int) ≠ 0 := (show ¬ ((w 0 13 : Int) = 0) from h13)
            refine e_Ok.ps1 (x := (0, (-2))) (q := 29) 1 rfl ?_
            refine e_Ok.rets rfl rfl ?_
            exact ⟨_, rfl, Or.inl ⟨rfl, by omega⟩⟩
        · replace h12 : (1 : Int) = 0 := Classical.not_not.mp (show ¬ ((1 : Int) ≠ 0) from h12)
          exfalso; omega
      · refine e_Ok.nrm (q := 15) (st' := [(0, 0)]) rfl rfl ?_
        refine e_Ok.if1 rfl (fun h17 => ?_) (fun h17 => ?_)
        · replace h17 : (0 : Int) ≠ 0 := h17
          exfalso; omega
        · replace h17 : (0 : Int) = 0 := Classical.not_not.mp (show ¬ ((0 : Int) ≠ 0) from h17)
          refine e_Ok.ps1 (x := (0, (-1))) (q := 19) 1 rfl ?_
          refine e_Ok.rets rfl rfl ?_
          exact ⟨_, rfl, Or.inl ⟨rfl, by omega⟩⟩
  · refine e_Ok.nrm (q := 5) (st' := [(0, 0)]) rfl rfl ?_
    refine e_Ok.if1 rfl (fun h18 => ?_) (fun h18 => ?_)
    · replace h18 : (0 : Int) = 0 := h18
      refine e_Ok.ps1 (x := (0, (-1))) (q := 19) 1 rfl ?_
      refine e_Ok.rets rfl rfl ?_
      exact ⟨_, rfl, Or.inl ⟨rfl, by omega⟩⟩
    · replace h18 : (0 : Int) ≠ 0 := (show ¬ ((0 : Int) = 0) from h18)
      exfalso; omega
theorem c_206_ex {d : Nat} (hd : 24 ≤ d) {w : eW} (hT : e_Has kTy w) (hO : 0 ≤ w 0 13 ∧ w 0 13 ≤ 1) {p1 : Int} (g1 : (-2147483648) ≤ p1 ∧ p1 ≤ 2147483647) {p2 : Int} (g2 : (-2147483648) ≤ p2 ∧ p2 ≤ 2147483647) : e_Ok 20 elay kcode eI d 206 (0, [(0, (1, 0)), (1, (0, p1)), (2, (0, p2))], [], w) (fun r w' => ∃ z : Int, r = [(0, z)] ∧ ((w = w' ∧ ((¬ ((0 ≤ p1 ∧ p1 < w 250 1) ∧ (-1 ≤ p2 ∧ p2 ≤ 32000)) ∧ z = -1) ∨ (((0 ≤ p1 ∧ p1 < w 250 1) ∧ (-1 ≤ p2 ∧ p2 ≤ 32000)) ∧ w 0 13 ≠ 0 ∧ z = -2))) ∨ ((((0 ≤ p1 ∧ p1 < w 250 1) ∧ (-1 ≤ p2 ∧ p2 ≤ 32000)) ∧ w 0 13 = 0) ∧ z = w 257 p1 ∧ w' = e_up w (257) (p1) (p2)))) := by
  obtain ⟨d, rfl⟩ : ∃ e, d = e + 1 := ⟨d - 1, by omega⟩
  have hw0 := e_Has.get hT (c := 0) (k := 11) (lo := 0) (hi := 4) (kt_o rfl) (by decide)
  have hb0 := e_Has.get hT (c := 19) (k := 0) (lo := 0) (hi := 4) (kt_o rfl) (by decide)
  have hz0 := e_Has.get hT (c := 250) (k := 1) (lo := 0) (hi := 8) (kt_o rfl) (by decide)
  have hs0 := e_Has.get hT (c := 250) (k := 0) (lo := 0) (hi := 16) (kt_o rfl) (by decide)
  have hi0 := e_Has.get hT (c := 74) (k := 2) (lo := 0) (hi := 8) (kt_o rfl) (by decide)
  refine e_Ok.ps3 (x := (1, 0)) (y := (0, 0)) (z := (0, p1)) (q := 3) 3 rfl ?_
  refine e_Ok.getr (z := 250) rfl (el_o rfl) rfl rfl (Eq.trans (e_Has.eq hT (kt_o rfl)) (by omega)) ⟨by decide, by decide⟩ ?_
  refine e_Ok.getf (z := w 250 1) rfl (el_o rfl) rfl rfl rfl (by omega) ?_
  refine e_Ok.ps1 (x := (0, 1)) (q := 10) 1 rfl ?_
  refine e_Ok.sub' (z := w 250 1 - 1) rfl rfl (by omega) ?_
  refine e_Ok.callS rfl (e_dq hd rfl) rfl rfl (c_242 (by omega) (by omega) (by omega)) (fun r1 w2 h3 => ?_)
  obtain ⟨z4, rfl, rfl, q5⟩ := h3
  obtain ⟨rfl, q5⟩ | ⟨rfl, q5⟩ := q5
  · refine e_Ok.nrm (q := 14) (st' := [(0, 1)]) rfl rfl ?_
    refine e_Ok.if1 rfl (fun h6 => ?_) (fun h6 => ?_)
    · replace h6 : (1 : Int) = 0 := h6
      exfalso; omega
    · replace h6 : (1 : Int) ≠ 0 := (show ¬ ((1 : Int) = 0) from h6)
      refine e_Ok.ps3 (x := (0, 32000)) (y := (0, (-1))) (z := (0, p2)) (q := 22) 3 rfl ?_
      refine e_Ok.callS rfl (e_dq hd rfl) rfl rfl (c_242 (by omega) (by omega) (by omega)) (fun r7 w8 h9 => ?_)
      obtain ⟨z10, rfl, rfl, q11⟩ := h9
      obtain ⟨rfl, q11⟩ | ⟨rfl, q11⟩ := q11
      · refine e_Ok.nrm (q := 25) (st' := [(0, 1)]) rfl rfl ?_
        refine e_Ok.if1 rfl (fun h12 => ?_) (fun h12 => ?_)
        · replace h12 : (1 : Int) ≠ 0 := h12
          refine e_Ok.ps1 (x := (1, 0)) (q := 31) 1 rfl ?_
          refine e_Ok.getf (z := w 0 13) rfl (el_o rfl) rfl rfl rfl (by omega) ?_
          refine e_Ok.if1 rfl (fun h13 => ?_) (fun h13 => ?_)
          · replace h13 : (w 0 13 : Int) = 0 := h13
            refine e_Ok.ps1 (x := (1, 0)) (q := 41) 1 rfl ?_
            refine e_Ok.getr (z := 250) rfl (el_o rfl) rfl rfl (Eq.trans (e_Has.eq hT (kt_o rfl)) (by omega)) ⟨by decide, by decide⟩ ?_
            refine e_Ok.getr (z := 257) rfl (el_o rfl) rfl rfl (Eq.trans (e_Has.eq hT (kt_o rfl)) (by omega)) ⟨by decide, by decide⟩ ?_
            refine e_Ok.ps1 (x := (0, p1)) (q := 48) 1 rfl ?_
            have h14 := (e_Has.get hT (c := 257) (k := p1) (lo := (-2147483648)) (hi := 2147483647) (kt_o rfl) (by decide))
            refine e_Ok.ald (z := w 257 p1) rfl (el_o rfl) rfl (by omega) rfl (e_bq h14 (by decide) (by decide)) ?_
            refine e_Ok.run (t' := (51, [(3, (0, w 257 p1)), (0, (1, 0)), (1, (0, p1)), (2, (0, p2))], [(1, 0)], w)) 2 rfl ?_
            refine e_Ok.getr (z := 250) rfl (el_o rfl) rfl rfl (Eq.trans (e_Has.eq hT (kt_o rfl)) (by omega)) ⟨by decide, by decide⟩ ?_
            refine e_Ok.getr (z := 257) rfl (el_o rfl) rfl rfl (Eq.trans (e_Has.eq hT (kt_o rfl)) (by omega)) ⟨by decide, by decide⟩ ?_
            refine e_Ok.ps2 (x := (0, p2)) (y := (0, p1)) (q := 59) 2 rfl ?_
            refine e_Ok.ast rfl (el_o rfl) rfl rfl (by omega) ?_
            generalize hw15 : e_up w 257 p1 p2 = w15
            have hT16 : e_Has kTy w15 := e_Has.upr hT hw15 (kt_o rfl) (by omega)
            refine e_Ok.ps1 (x := (0, w 257 p1)) (q := 61) 1 rfl ?_
            refine e_Ok.rets rfl rfl ?_
            exact ⟨_, rfl, Or.inr ⟨by omega, by omega, by rw [← hw15]⟩⟩
          · replace h13 : (w 0 13 : Int) ≠ 0 := (show ¬ ((w 0 13 : Int) = 0) from h13)
            refine e_Ok.ps1 (x := (0, (-2))) (q := 39) 1 rfl ?_
            refine e_Ok.rets rfl rfl ?_
            exact ⟨_, rfl, Or.inl ⟨rfl, by omega⟩⟩
        · replace h12 : (1 : Int) = 0 := Classical.not_not.mp (show ¬ ((1 : Int) ≠ 0) from h12)
          exfalso; omega
      · refine e_Ok.nrm (q := 25) (st' := [(0, 0)]) rfl rfl ?_
        refine e_Ok.if1 rfl (fun h17 => ?_) (fun h17 => ?_)
        · replace h17 : (0 : Int) ≠ 0 := h17
          exfalso; omega
        · replace h17 : (0 : Int) = 0 := Classical.not_not.mp (show ¬ ((0 : Int) ≠ 0) from h17)
          refine e_Ok.ps1 (x := (0, (-1))) (q := 29) 1 rfl ?_
          refine e_Ok.rets rfl rfl ?_
          exact ⟨_, rfl, Or.inl ⟨rfl, by omega⟩⟩
  · refine e_Ok.nrm (q := 14) (st' := [(0, 0)]) rfl rfl ?_
    refine e_Ok.if1 rfl (fun h18 => ?_) (fun h18 => ?_)
    · replace h18 : (0 : Int) = 0 := h18
      refine e_Ok.ps1 (x := (0, (-1))) (q := 29) 1 rfl ?_
      refine e_Ok.rets rfl rfl ?_
      exact ⟨_, rfl, Or.inl ⟨rfl, by omega⟩⟩
    · replace h18 : (0 : Int) ≠ 0 := (show ¬ ((0 : Int) = 0) from h18)
      exfalso; omega
theorem c_207_ex {d : Nat} (hd : 24 ≤ d) {w : eW} (hT : e_Has kTy w) (hO : 0 ≤ w 0 13 ∧ w 0 13 ≤ 1) {p1 : Int} (g1 : (-2147483648) ≤ p1 ∧ p1 ≤ 2147483647) : e_Ok 20 elay kcode eI d 207 (0, [(0, (1, 0)), (1, (0, p1))], [], w) (fun r w' => ∃ z : Int, r = [(0, z)] ∧ ((w = w' ∧ ((¬ ((0 ≤ p1 ∧ p1 ≤ 1000)) ∧ z = -1) ∨ (((0 ≤ p1 ∧ p1 ≤ 1000)) ∧ ((w 0 13 ≠ 0 ∧ z = -2) ∨ (w 0 13 = 0 ∧ w 74 2 = 8 ∧ z = -3))))) ∨ ((((0 ≤ p1 ∧ p1 ≤ 1000)) ∧ w 0 13 = 0 ∧ ¬ (w 74 2 = 8)) ∧ z = w 74 2 ∧ w' = e_up (e_up w (76) (w 74 2) (p1)) (74) (2) (w 74 2 + 1)))) := by
  obtain ⟨d, rfl⟩ : ∃ e, d = e + 1 := ⟨d - 1, by omega⟩
  have hw0 := e_Has.get hT (c := 0) (k := 11) (lo := 0) (hi := 4) (kt_o rfl) (by decide)
  have hb0 := e_Has.get hT (c := 19) (k := 0) (lo := 0) (hi := 4) (kt_o rfl) (by decide)
  have hz0 := e_Has.get hT (c := 250) (k := 1) (lo := 0) (hi := 8) (kt_o rfl) (by decide)
  have hs0 := e_Has.get hT (c := 250) (k := 0) (lo := 0) (hi := 16) (kt_o rfl) (by decide)
  have hi0 := e_Has.get hT (c := 74) (k := 2) (lo := 0) (hi := 8) (kt_o rfl) (by decide)
  refine e_Ok.ps3 (x := (0, 1000)) (y := (0, 0)) (z := (0, p1)) (q := 5) 3 rfl ?_
  refine e_Ok.callS rfl (e_dq hd rfl) rfl rfl (c_242 (by omega) (by omega) (by omega)) (fun r1 w2 h3 => ?_)
  obtain ⟨z4, rfl, rfl, q5⟩ := h3
  obtain ⟨rfl, q5⟩ | ⟨rfl, q5⟩ := q5
  · refine e_Ok.nrm (q := 8) (st' := [(0, 1)]) rfl rfl ?_
    refine e_Ok.if1 rfl (fun h6 => ?_) (fun h6 => ?_)
    · replace h6 : (1 : Int) ≠ 0 := h6
      refine e_Ok.ps1 (x := (1, 0)) (q := 14) 1 rfl ?_
      refine e_Ok.getf (z := w 0 13) rfl (el_o rfl) rfl rfl rfl (by omega) ?_
      refine e_Ok.if1 rfl (fun h7 => ?_) (fun h7 => ?_)
      · replace h7 : (w 0 13 : Int) = 0 := h7
        refine e_Ok.ps1 (x := (1, 0)) (q := 24) 1 rfl ?_
        refine e_Ok.getr (z := 74) rfl (el_o rfl) rfl rfl (Eq.trans (e_Has.eq hT (kt_o rfl)) (by omega)) ⟨by decide, by decide⟩ ?_
        refine e_Ok.getf (z := w 74 2) rfl (el_o rfl) rfl rfl rfl (by omega) ?_
        refine e_Ok.ps1 (x := (0, 8)) (q := 32) 1 rfl ?_
        refine e_Ok.if2 rfl (fun h8 => ?_) (fun h8 => ?_)
        · replace h8 : (w 74 2 : Int) < 8 := h8
          refine e_Ok.ps1 (x := (1, 0)) (q := 39) 1 rfl ?_
          refine e_Ok.getr (z := 74) rfl (el_o rfl) rfl rfl (Eq.trans (e_Has.eq hT (kt_o rfl)) (by omega)) ⟨by decide, by decide⟩ ?_
          refine e_Ok.getr (z := 76) rfl (el_o rfl) rfl rfl (Eq.trans (e_Has.eq hT (kt_o rfl)) (by omega)) ⟨by decide, by decide⟩ ?_
          refine e_Ok.ps1 (x := (1, 0)) (q := 46) 1 rfl ?_
          refine e_Ok.getr (z := 74) rfl (el_o rfl) rfl rfl (Eq.trans (e_Has.eq hT (kt_o rfl)) (by omega)) ⟨by decide, by decide⟩ ?_
          refine e_Ok.getf (z := w 74 2) rfl (el_o rfl) rfl rfl rfl (by omega) ?_
          refine e_Ok.ps1 (x := (0, p1)) (q := 53) 1 rfl ?_
          refine e_Ok.ast rfl (el_o rfl) rfl rfl (by omega) ?_
          generalize hw9 : e_up w 76 (w 74 2) p1 = w9
          have hT10 : e_Has kTy w9 := e_Has.upr hT hw9 (kt_o rfl) (by omega)
          refine e_Ok.ps1 (x := (1, 0)) (q := 55) 1 rfl ?_
          refine e_Ok.getr (z := 74) rfl (el_o rfl) rfl rfl (e_uq hw9 (Or.inl (by decide)) (Eq.trans (e_Has.eq hT (kt_o rfl)) (by omega))) ⟨by decide, by decide⟩ ?_
          refine e_Ok.ps1 (x := (1, 74)) (q := 59) 1 rfl ?_
          refine e_Ok.getf (z := w 74 2) rfl (el_o rfl) rfl rfl (e_uq hw9 (Or.inl (by decide)) rfl) (by omega) ?_
          refine e_Ok.ps1 (x := (0, 1)) (q := 63) 1 rfl ?_
          refine e_Ok.add (z := w 74 2 + 1) rfl rfl (by omega) ?_
          refine e_Ok.putf rfl (el_o rfl) rfl rfl ?_
          generalize hw11 : e_up w9 74 2 (w 74 2 + 1) = w11
          have hT12 : e_Has kTy w11 := e_Has.upr hT10 hw11 (kt_o rfl) (by omega)
          refine e_Ok.ps1 (x := (1, 0)) (q := 68) 1 rfl ?_
          refine e_Ok.getr (z := 74) rfl (el_o rfl) rfl rfl (e_uq hw11 (Or.inl (by decide)) (e_uq hw9 (Or.inl (by decide)) (Eq.trans (e_Has.eq hT (kt_o rfl)) (by omega)))) ⟨by decide, by decide⟩ ?_
          refine e_Ok.getf (z := w 74 2 + 1) rfl (el_o rfl) rfl rfl (e_ue hw11) (by omega) ?_
          refine e_Ok.ps1 (x := (0, 1)) (q := 75) 1 rfl ?_
          refine e_Ok.sub' (z := w 74 2) rfl (by omega) (by omega) ?_
          refine e_Ok.rets rfl rfl ?_
          exact ⟨_, rfl, Or.inr ⟨by omega, by omega, by rw [← hw11, ← hw9]⟩⟩
        · replace h8 : (w 74 2 : Int) ≥ 8 := Int.not_lt.mp (show ¬ ((w 74 2 : Int) < 8) from h8)
          refine e_Ok.ps1 (x := (0, (-3))) (q := 37) 1 rfl ?_
          refine e_Ok.rets rfl rfl ?_
          exact ⟨_, rfl, Or.inl ⟨rfl, by omega⟩⟩
      · replace h7 : (w 0 13 : Int) ≠ 0 := (show ¬ ((w 0 13 : Int) = 0) from h7)
        refine e_Ok.ps1 (x := (0, (-2))) (q := 22) 1 rfl ?_
        refine e_Ok.rets rfl rfl ?_
        exact ⟨_, rfl, Or.inl ⟨rfl, by omega⟩⟩
    · replace h6 : (1 : Int) = 0 := Classical.not_not.mp (show ¬ ((1 : Int) ≠ 0) from h6)
      exfalso; omega
  · refine e_Ok.nrm (q := 8) (st' := [(0, 0)]) rfl rfl ?_
    refine e_Ok.if1 rfl (fun h13 => ?_) (fun h13 => ?_)
    · replace h13 : (0 : Int) ≠ 0 := h13
      exfalso; omega
    · replace h13 : (0 : Int) = 0 := Classical.not_not.mp (show ¬ ((0 : Int) ≠ 0) from h13)
      refine e_Ok.ps1 (x := (0, (-1))) (q := 12) 1 rfl ?_
      refine e_Ok.rets rfl rfl ?_
      exact ⟨_, rfl, Or.inl ⟨rfl, by omega⟩⟩
theorem c_197_ex {d : Nat} (hd : 24 ≤ d) {w : eW} (hT : e_Has kTy w) (hO : 0 ≤ w 0 13 ∧ w 0 13 ≤ 1) {p1 : Int} (g1 : (-2147483648) ≤ p1 ∧ p1 ≤ 2147483647) {p2 : Int} (g2 : (-2147483648) ≤ p2 ∧ p2 ≤ 2147483647) {p3 : Int} (g3 : (-2147483648) ≤ p3 ∧ p3 ≤ 2147483647) : e_Ok 20 elay kcode eI d 197 (0, [(0, (1, 0)), (1, (0, p1)), (2, (0, p2)), (3, (0, p3))], [], w) (fun r w' => ∃ z : Int, r = [(0, z)] ∧ ((w = w' ∧ ((¬ ((-16000 ≤ p1 ∧ p1 ≤ 16000) ∧ (-16000 ≤ p2 ∧ p2 ≤ 16000) ∧ 0 ≤ p3 ∧ p3 ≤ 8000) ∧ z = -1) ∨ (((-16000 ≤ p1 ∧ p1 ≤ 16000) ∧ (-16000 ≤ p2 ∧ p2 ≤ 16000) ∧ 0 ≤ p3 ∧ p3 ≤ 8000) ∧ ((w 0 13 ≠ 0 ∧ z = -2) ∨ (w 0 13 = 0 ∧ w 250 0 = 16 ∧ z = -3))))) ∨ ((((-16000 ≤ p1 ∧ p1 ≤ 16000) ∧ (-16000 ≤ p2 ∧ p2 ≤ 16000) ∧ 0 ≤ p3 ∧ p3 ≤ 8000) ∧ w 0 13 = 0 ∧ ¬ (w 250 0 = 16)) ∧ z = w 250 0 ∧ w' = e_up (e_up (e_up (e_up (e_up (e_up w (251) (w 250 0) (p1)) (252) (w 250 0) (p2)) (253) (w 250 0) (0)) (254) (w 250 0) (0)) (255) (w 250 0) (p3)) (250) (0) (w 250 0 + 1)))) := by
  obtain ⟨d, rfl⟩ : ∃ e, d = e + 1 := ⟨d - 1, by omega⟩
  have hw0 := e_Has.get hT (c := 0) (k := 11) (lo := 0) (hi := 4) (kt_o rfl) (by decide)
  have hb0 := e_Has.get hT (c := 19) (k := 0) (lo := 0) (hi := 4) (kt_o rfl) (by decide)
  have hz0 := e_Has.get hT (c := 250) (k := 1) (lo := 0) (hi := 8) (kt_o rfl) (by decide)
  have hs0 := e_Has.get hT (c := 250) (k := 0) (lo := 0) (hi := 16) (kt_o rfl) (by decide)
  have hi0 := e_Has.get hT (c := 74) (k := 2) (lo := 0) (hi := 8) (kt_o rfl) (by decide)
  refine e_Ok.ps2 (x := (0, p2)) (y := (0, p1)) (q := 2) 2 rfl ?_
  refine e_Ok.callS rfl (e_dq hd rfl) rfl rfl (c_243_ex (e_dq hd rfl) (by omega) (by omega)) (fun r1 w2 h3 => ?_)
  obtain ⟨z4, rfl, rfl, q5⟩ := h3
  obtain ⟨rfl, q5⟩ | ⟨rfl, q5⟩ := q5
  · refine e_Ok.nrm (q := 5) (st' := [(0, 1)]) rfl rfl ?_
    refine e_Ok.if1 rfl (fun h6 => ?_) (fun h6 => ?_)
    · replace h6 : (1 : Int) = 0 := h6
      exfalso; omega
    · replace h6 : (1 : Int) ≠ 0 := (show ¬ ((1 : Int) = 0) from h6)
      refine e_Ok.ps3 (x := (0, 8000)) (y := (0, 0)) (z := (0, p3)) (q := 13) 3 rfl ?_
      refine e_Ok.callS rfl (e_dq hd rfl) rfl rfl (c_242 (by omega) (by omega) (by omega)) (fun r7 w8 h9 => ?_)
      obtain ⟨z10, rfl, rfl, q11⟩ := h9
      obtain ⟨rfl, q11⟩ | ⟨rfl, q11⟩ := q11
      · refine e_Ok.nrm (q := 16) (st' := [(0, 1)]) rfl rfl ?_
        refine e_Ok.if1 rfl (fun h12 => ?_) (fun h12 => ?_)
        · replace h12 : (1 : Int) ≠ 0 := h12
          refine e_Ok.ps1 (x := (1, 0)) (q := 22) 1 rfl ?_
          refine e_Ok.getf (z := w 0 13) rfl (el_o rfl) rfl rfl rfl (by omega) ?_
          refine e_Ok.if1 rfl (fun h13 => ?_) (fun h13 => ?_)
          · replace h13 : (w 0 13 : Int) = 0 := h13
            refine e_Ok.ps1 (x := (1, 0)) (q := 32) 1 rfl ?_
            refine e_Ok.getr (z := 250) rfl (el_o rfl) rfl rfl (Eq.trans (e_Has.eq hT (kt_o rfl)) (by omega)) ⟨by decide, by decide⟩ ?_
            refine e_Ok.run (t' := (40, [(0, (1, 0)), (1, (0, p1)), (2, (0, p2)), (3, (0, p3))], [(0, p3), (0, 0), (0, 0), (0, p2), (0, p1), (1, 250)], w)) 5 rfl ?_
            refine e_Ok.callV rfl (e_dq hd rfl) rfl rfl rfl rfl (c_167_ex (e_dq hd rfl) hT (by omega) (by omega) (by omega) (by omega) (by omega)) (fun r14 w15 h16 => ?_)
            obtain ⟨z17, rfl, q18⟩ := h16
            refine e_Ok.nrm (q := 43) (st' := [(0, z17)]) rfl rfl ?_
            refine e_Ok.rets rfl rfl ?_
            exact ⟨_, rfl, Or.elim q18 (fun h => Or.inl ⟨h.1, by have e := h.2; omega⟩) (fun h => Or.inr ⟨by have e := h.1; omega, h.2.1, h.2.2⟩)⟩
          · replace h13 : (w 0 13 : Int) ≠ 0 := (show ¬ ((w 0 13 : Int) = 0) from h13)
            refine e_Ok.ps1 (x := (0, (-2))) (q := 30) 1 rfl ?_
            refine e_Ok.rets rfl rfl ?_
            exact ⟨_, rfl, Or.inl ⟨rfl, by omega⟩⟩
        · replace h12 : (1 : Int) = 0 := Classical.not_not.mp (show ¬ ((1 : Int) ≠ 0) from h12)
          exfalso; omega
      · refine e_Ok.nrm (q := 16) (st' := [(0, 0)]) rfl rfl ?_
        refine e_Ok.if1 rfl (fun h19 => ?_) (fun h19 => ?_)
        · replace h19 : (0 : Int) ≠ 0 := h19
          exfalso; omega
        · replace h19 : (0 : Int) = 0 := Classical.not_not.mp (show ¬ ((0 : Int) ≠ 0) from h19)
          refine e_Ok.ps1 (x := (0, (-1))) (q := 20) 1 rfl ?_
          refine e_Ok.rets rfl rfl ?_
          exact ⟨_, rfl, Or.inl ⟨rfl, by omega⟩⟩
  · refine e_Ok.nrm (q := 5) (st' := [(0, 0)]) rfl rfl ?_
    refine e_Ok.if1 rfl (fun h20 => ?_) (fun h20 => ?_)
    · replace h20 : (0 : Int) = 0 := h20
      refine e_Ok.ps1 (x := (0, (-1))) (q := 20) 1 rfl ?_
      refine e_Ok.rets rfl rfl ?_
      exact ⟨_, rfl, Or.inl ⟨rfl, by omega⟩⟩
    · replace h20 : (0 : Int) ≠ 0 := (show ¬ ((0 : Int) = 0) from h20)
      exfalso; omega
theorem c_198_ex {d : Nat} (hd : 24 ≤ d) {w : eW} (hT : e_Has kTy w) (hO : 0 ≤ w 0 13 ∧ w 0 13 ≤ 1) {p1 : Int} (g1 : (-2147483648) ≤ p1 ∧ p1 ≤ 2147483647) {p2 : Int} (g2 : (-2147483648) ≤ p2 ∧ p2 ≤ 2147483647) {p3 : Int} (g3 : (-2147483648) ≤ p3 ∧ p3 ≤ 2147483647) {p4 : Int} (g4 : (-2147483648) ≤ p4 ∧ p4 ≤ 2147483647) : e_Ok 20 elay kcode eI d 198 (0, [(0, (1, 0)), (1, (0, p1)), (2, (0, p2)), (3, (0, p3)), (4, (0, p4))], [], w) (fun r w' => ∃ z : Int, r = [(0, z)] ∧ ((w = w' ∧ ((¬ ((-16000 ≤ p1 ∧ p1 ≤ 16000) ∧ (-16000 ≤ p2 ∧ p2 ≤ 16000) ∧ (0 ≤ p3 ∧ p1 + p3 ≤ 16000) ∧ 0 ≤ p4 ∧ p2 + p4 ≤ 16000) ∧ z = -1) ∨ (((-16000 ≤ p1 ∧ p1 ≤ 16000) ∧ (-16000 ≤ p2 ∧ p2 ≤ 16000) ∧ (0 ≤ p3 ∧ p1 + p3 ≤ 16000) ∧ 0 ≤ p4 ∧ p2 + p4 ≤ 16000) ∧ ((w 0 13 ≠ 0 ∧ z = -2) ∨ (w 0 13 = 0 ∧ w 250 0 = 16 ∧ z = -3))))) ∨ ((((-16000 ≤ p1 ∧ p1 ≤ 16000) ∧ (-16000 ≤ p2 ∧ p2 ≤ 16000) ∧ (0 ≤ p3 ∧ p1 + p3 ≤ 16000) ∧ 0 ≤ p4 ∧ p2 + p4 ≤ 16000) ∧ w 0 13 = 0 ∧ ¬ (w 250 0 = 16)) ∧ z = w 250 0 ∧ w' = e_up (e_up (e_up (e_up (e_up (e_up w (251) (w 250 0) (p1)) (252) (w 250 0) (p2)) (253) (w 250 0) (p3)) (254) (w 250 0) (p4)) (255) (w 250 0) (-1)) (250) (0) (w 250 0 + 1)))) := by
  obtain ⟨d, rfl⟩ : ∃ e, d = e + 1 := ⟨d - 1, by omega⟩
  have hw0 := e_Has.get hT (c := 0) (k := 11) (lo := 0) (hi := 4) (kt_o rfl) (by decide)
  have hb0 := e_Has.get hT (c := 19) (k := 0) (lo := 0) (hi := 4) (kt_o rfl) (by decide)
  have hz0 := e_Has.get hT (c := 250) (k := 1) (lo := 0) (hi := 8) (kt_o rfl) (by decide)
  have hs0 := e_Has.get hT (c := 250) (k := 0) (lo := 0) (hi := 16) (kt_o rfl) (by decide)
  have hi0 := e_Has.get hT (c := 74) (k := 2) (lo := 0) (hi := 8) (kt_o rfl) (by decide)
  refine e_Ok.ps4 (x := (0, p4)) (y := (0, p3)) (z := (0, p2)) (u := (0, p1)) (q := 5) 4 rfl ?_
  refine e_Ok.callS rfl (e_dq hd rfl) rfl rfl (c_244_ex (e_dq hd rfl) (by omega) (by omega) (by omega) (by omega)) (fun r1 w2 h3 => ?_)
  obtain ⟨z4, rfl, rfl, q5⟩ := h3
  obtain ⟨rfl, q5⟩ | ⟨rfl, q5⟩ := q5
  · refine e_Ok.nrm (q := 8) (st' := [(0, 1)]) rfl rfl ?_
    refine e_Ok.if1 rfl (fun h6 => ?_) (fun h6 => ?_)
    · replace h6 : (1 : Int) ≠ 0 := h6
      refine e_Ok.ps1 (x := (1, 0)) (q := 14) 1 rfl ?_
      refine e_Ok.getf (z := w 0 13) rfl (el_o rfl) rfl rfl rfl (by omega) ?_
      refine e_Ok.if1 rfl (fun h7 => ?_) (fun h7 => ?_)
      · replace h7 : (w 0 13 : Int) = 0 := h7
        refine e_Ok.ps1 (x := (1, 0)) (q := 24) 1 rfl ?_
        refine e_Ok.getr (z := 250) rfl (el_o rfl) rfl rfl (Eq.trans (e_Has.eq hT (kt_o rfl)) (by omega)) ⟨by decide, by decide⟩ ?_
        refine e_Ok.run (t' := (33, [(0, (1, 0)), (1, (0, p1)), (2, (0, p2)), (3, (0, p3)), (4, (0, p4))], [(0, (-1)), (0, p4), (0, p3), (0, p2), (0, p1), (1, 250)], w)) 5 rfl ?_
        refine e_Ok.callV rfl (e_dq hd rfl) rfl rfl rfl rfl (c_167_ex (e_dq hd rfl) hT (by omega) (by omega) (by omega) (by omega) (by omega)) (fun r8 w9 h10 => ?_)
        obtain ⟨z11, rfl, q12⟩ := h10
        refine e_Ok.nrm (q := 36) (st' := [(0, z11)]) rfl rfl ?_
        refine e_Ok.rets rfl rfl ?_
        exact ⟨_, rfl, Or.elim q12 (fun h => Or.inl ⟨h.1, by have e := h.2; omega⟩) (fun h => Or.inr ⟨by have e := h.1; omega, h.2.1, h.2.2⟩)⟩
      · replace h7 : (w 0 13 : Int) ≠ 0 := (show ¬ ((w 0 13 : Int) = 0) from h7)
        refine e_Ok.ps1 (x := (0, (-2))) (q := 22) 1 rfl ?_
        refine e_Ok.rets rfl rfl ?_
        exact ⟨_, rfl, Or.inl ⟨rfl, by omega⟩⟩
    · replace h6 : (1 : Int) = 0 := Classical.not_not.mp (show ¬ ((1 : Int) ≠ 0) from h6)
      exfalso; omega
  · refine e_Ok.nrm (q := 8) (st' := [(0, 0)]) rfl rfl ?_
    refine e_Ok.if1 rfl (fun h13 => ?_) (fun h13 => ?_)
    · replace h13 : (0 : Int) ≠ 0 := h13
      exfalso; omega
    · replace h13 : (0 : Int) = 0 := Classical.not_not.mp (show ¬ ((0 : Int) ≠ 0) from h13)
      refine e_Ok.ps1 (x := (0, (-1))) (q := 12) 1 rfl ?_
      refine e_Ok.rets rfl rfl ?_
      exact ⟨_, rfl, Or.inl ⟨rfl, by omega⟩⟩
theorem c_205_ex {d : Nat} (hd : 24 ≤ d) {w : eW} (hT : e_Has kTy w) (hO : 0 ≤ w 0 13 ∧ w 0 13 ≤ 1) {p1 : Int} (g1 : (-2147483648) ≤ p1 ∧ p1 ≤ 2147483647) {p2 : Int} (g2 : (-2147483648) ≤ p2 ∧ p2 ≤ 2147483647) {p3 : Int} (g3 : (-2147483648) ≤ p3 ∧ p3 ≤ 2147483647) {p4 : Int} (g4 : (-2147483648) ≤ p4 ∧ p4 ≤ 2147483647) {p5 : Int} (g5 : (-2147483648) ≤ p5 ∧ p5 ≤ 2147483647) : e_Ok 20 elay kcode eI d 205 (0, [(0, (1, 0)), (1, (0, p1)), (2, (0, p2)), (3, (0, p3)), (4, (0, p4)), (5, (0, p5))], [], w) (fun r w' => ∃ z : Int, r = [(0, z)] ∧ ((w = w' ∧ ((¬ ((0 ≤ p1 ∧ p1 < w 0 11) ∧ (-16000 ≤ p2 ∧ p2 ≤ 16000) ∧ (-16000 ≤ p3 ∧ p3 ≤ 16000) ∧ (0 ≤ p4 ∧ p2 + p4 ≤ 16000) ∧ 0 ≤ p5 ∧ p3 + p5 ≤ 16000) ∧ z = -1) ∨ (((0 ≤ p1 ∧ p1 < w 0 11) ∧ (-16000 ≤ p2 ∧ p2 ≤ 16000) ∧ (-16000 ≤ p3 ∧ p3 ≤ 16000) ∧ (0 ≤ p4 ∧ p2 + p4 ≤ 16000) ∧ 0 ≤ p5 ∧ p3 + p5 ≤ 16000) ∧ ((w 0 13 ≠ 0 ∧ z = -2) ∨ (w 0 13 = 0 ∧ w 250 1 = 8 ∧ z = -3))))) ∨ ((((0 ≤ p1 ∧ p1 < w 0 11) ∧ (-16000 ≤ p2 ∧ p2 ≤ 16000) ∧ (-16000 ≤ p3 ∧ p3 ≤ 16000) ∧ (0 ≤ p4 ∧ p2 + p4 ≤ 16000) ∧ 0 ≤ p5 ∧ p3 + p5 ≤ 16000) ∧ w 0 13 = 0 ∧ ¬ (w 250 1 = 8)) ∧ z = w 250 1 ∧ w' = e_up (e_up (e_up (e_up (e_up (e_up (e_up w (256) (w 250 1) (p1)) (258) (w 250 1) (p2)) (259) (w 250 1) (p3)) (260) (w 250 1) (p2 + p4)) (261) (w 250 1) (p3 + p5)) (257) (w 250 1) (-1)) (250) (1) (w 250 1 + 1)))) := by
  obtain ⟨d, rfl⟩ : ∃ e, d = e + 1 := ⟨d - 1, by omega⟩
  have hw0 := e_Has.get hT (c := 0) (k := 11) (lo := 0) (hi := 4) (kt_o rfl) (by decide)
  have hb0 := e_Has.get hT (c := 19) (k := 0) (lo := 0) (hi := 4) (kt_o rfl) (by decide)
  have hz0 := e_Has.get hT (c := 250) (k := 1) (lo := 0) (hi := 8) (kt_o rfl) (by decide)
  have hs0 := e_Has.get hT (c := 250) (k := 0) (lo := 0) (hi := 16) (kt_o rfl) (by decide)
  have hi0 := e_Has.get hT (c := 74) (k := 2) (lo := 0) (hi := 8) (kt_o rfl) (by decide)
  refine e_Ok.ps2 (x := (0, p1)) (y := (1, 0)) (q := 2) 2 rfl ?_
  refine e_Ok.callV rfl (e_dq hd rfl) rfl rfl rfl rfl (c_246 (e_dq hd rfl) hT (by omega)) (fun r1 w2 h3 => ?_)
  obtain ⟨z4, rfl, rfl, q5⟩ := h3
  obtain ⟨rfl, q5⟩ | ⟨rfl, q5⟩ := q5
  · refine e_Ok.nrm (q := 5) (st' := [(0, 1)]) rfl rfl ?_
    refine e_Ok.if1 rfl (fun h6 => ?_) (fun h6 => ?_)
    · replace h6 : (1 : Int) = 0 := h6
      exfalso; omega
    · replace h6 : (1 : Int) ≠ 0 := (show ¬ ((1 : Int) = 0) from h6)
      refine e_Ok.ps4 (x := (0, p5)) (y := (0, p4)) (z := (0, p3)) (u := (0, p2)) (q := 14) 4 rfl ?_
      refine e_Ok.callS rfl (e_dq hd rfl) rfl rfl (c_244_ex (e_dq hd rfl) (by omega) (by omega) (by omega) (by omega)) (fun r7 w8 h9 => ?_)
      obtain ⟨z10, rfl, rfl, q11⟩ := h9
      obtain ⟨rfl, q11⟩ | ⟨rfl, q11⟩ := q11
      · refine e_Ok.nrm (q := 17) (st' := [(0, 1)]) rfl rfl ?_
        refine e_Ok.if1 rfl (fun h12 => ?_) (fun h12 => ?_)
        · replace h12 : (1 : Int) ≠ 0 := h12
          refine e_Ok.ps1 (x := (1, 0)) (q := 23) 1 rfl ?_
          refine e_Ok.getf (z := w 0 13) rfl (el_o rfl) rfl rfl rfl (by omega) ?_
          refine e_Ok.if1 rfl (fun h13 => ?_) (fun h13 => ?_)
          · replace h13 : (w 0 13 : Int) = 0 := h13
            refine e_Ok.ps1 (x := (1, 0)) (q := 33) 1 rfl ?_
            refine e_Ok.getr (z := 250) rfl (el_o rfl) rfl rfl (Eq.trans (e_Has.eq hT (kt_o rfl)) (by omega)) ⟨by decide, by decide⟩ ?_
            refine e_Ok.run (t' := (43, [(0, (1, 0)), (1, (0, p1)), (2, (0, p2)), (3, (0, p3)), (4, (0, p4)), (5, (0, p5))], [(0, p5), (0, p4), (0, p3), (0, p2), (0, p1), (1, 250)], w)) 5 rfl ?_
            refine e_Ok.callV rfl (e_dq hd rfl) rfl rfl rfl rfl (c_168_ex (e_dq hd rfl) hT (by omega) (by omega) (by omega) (by omega) (by omega)) (fun r14 w15 h16 => ?_)
            obtain ⟨z17, rfl, q18⟩ := h16
            refine e_Ok.nrm (q := 46) (st' := [(0, z17)]) rfl rfl ?_
            refine e_Ok.rets rfl rfl ?_
            exact ⟨_, rfl, Or.elim q18 (fun h => Or.inl ⟨h.1, by have e := h.2; omega⟩) (fun h => Or.inr ⟨by have e := h.1; omega, h.2.1, h.2.2⟩)⟩
          · replace h13 : (w 0 13 : Int) ≠ 0 := (show ¬ ((w 0 13 : Int) = 0) from h13)
            refine e_Ok.ps1 (x := (0, (-2))) (q := 31) 1 rfl ?_
            refine e_Ok.rets rfl rfl ?_
            exact ⟨_, rfl, Or.inl ⟨rfl, by omega⟩⟩
        · replace h12 : (1 : Int) = 0 := Classical.not_not.mp (show ¬ ((1 : Int) ≠ 0) from h12)
          exfalso; omega
      · refine e_Ok.nrm (q := 17) (st' := [(0, 0)]) rfl rfl ?_
        refine e_Ok.if1 rfl (fun h19 => ?_) (fun h19 => ?_)
        · replace h19 : (0 : Int) ≠ 0 := h19
          exfalso; omega
        · replace h19 : (0 : Int) = 0 := Classical.not_not.mp (show ¬ ((0 : Int) ≠ 0) from h19)
          refine e_Ok.ps1 (x := (0, (-1))) (q := 21) 1 rfl ?_
          refine e_Ok.rets rfl rfl ?_
          exact ⟨_, rfl, Or.inl ⟨rfl, by omega⟩⟩
  · refine e_Ok.nrm (q := 5) (st' := [(0, 0)]) rfl rfl ?_
    refine e_Ok.if1 rfl (fun h20 => ?_) (fun h20 => ?_)
    · replace h20 : (0 : Int) = 0 := h20
      refine e_Ok.ps1 (x := (0, (-1))) (q := 21) 1 rfl ?_
      refine e_Ok.rets rfl rfl ?_
      exact ⟨_, rfl, Or.inl ⟨rfl, by omega⟩⟩
    · replace h20 : (0 : Int) ≠ 0 := (show ¬ ((0 : Int) = 0) from h20)
      exfalso; omega
theorem c_200_ex {d : Nat} (hd : 24 ≤ d) {w : eW} (hT : e_Has kTy w) (hO : 0 ≤ w 0 13 ∧ w 0 13 ≤ 1) {p1 : Int} (g1 : (-2147483648) ≤ p1 ∧ p1 ≤ 2147483647) {p2 : Int} (g2 : (-2147483648) ≤ p2 ∧ p2 ≤ 2147483647) {p3 : Int} (g3 : (-2147483648) ≤ p3 ∧ p3 ≤ 2147483647) {p4 : Int} (g4 : (-2147483648) ≤ p4 ∧ p4 ≤ 2147483647) {p5 : Int} (g5 : (-2147483648) ≤ p5 ∧ p5 ≤ 2147483647) : e_Ok 20 elay kcode eI d 200 (0, [(0, (1, 0)), (1, (0, p1)), (2, (0, p2)), (3, (0, p3)), (4, (0, p4)), (5, (0, p5))], [], w) (fun r w' => ∃ z : Int, r = [(0, z)] ∧ ((w = w' ∧ ((¬ ((-16000 ≤ p1 ∧ p1 ≤ 16000) ∧ (-16000 ≤ p2 ∧ p2 ≤ 16000) ∧ (0 ≤ p3 ∧ p3 ≤ 3) ∧ (0 ≤ p4 ∧ p4 ≤ 16000) ∧ (0 ≤ p5 ∧ p5 ≤ 2000) ∧ (p3 = 0 → p1 + p4 ≤ 16000) ∧ (p3 = 1 → p2 + p4 ≤ 16000) ∧ (p3 = 2 → -16000 ≤ p1 - p4) ∧ (p3 = 3 → -16000 ≤ p2 - p4)) ∧ z = -1) ∨ (((-16000 ≤ p1 ∧ p1 ≤ 16000) ∧ (-16000 ≤ p2 ∧ p2 ≤ 16000) ∧ (0 ≤ p3 ∧ p3 ≤ 3) ∧ (0 ≤ p4 ∧ p4 ≤ 16000) ∧ (0 ≤ p5 ∧ p5 ≤ 2000) ∧ (p3 = 0 → p1 + p4 ≤ 16000) ∧ (p3 = 1 → p2 + p4 ≤ 16000) ∧ (p3 = 2 → -16000 ≤ p1 - p4) ∧ (p3 = 3 → -16000 ≤ p2 - p4)) ∧ ((w 0 13 ≠ 0 ∧ z = -2) ∨ (w 0 13 = 0 ∧ w 19 0 = 4 ∧ z = -3))))) ∨ ((((-16000 ≤ p1 ∧ p1 ≤ 16000) ∧ (-16000 ≤ p2 ∧ p2 ≤ 16000) ∧ (0 ≤ p3 ∧ p3 ≤ 3) ∧ (0 ≤ p4 ∧ p4 ≤ 16000) ∧ (0 ≤ p5 ∧ p5 ≤ 2000) ∧ (p3 = 0 → p1 + p4 ≤ 16000) ∧ (p3 = 1 → p2 + p4 ≤ 16000) ∧ (p3 = 2 → -16000 ≤ p1 - p4) ∧ (p3 = 3 → -16000 ≤ p2 - p4)) ∧ w 0 13 = 0 ∧ ¬ (w 19 0 = 4)) ∧ z = w 19 0 ∧ ∃ b1 b2 : Int, w' = e_up (e_up (e_up (e_up (e_up (e_up (e_up (e_up (e_up (e_up w (25) (w 19 0) (p1)) (26) (w 19 0) (p2)) (27) (w 19 0) (b1)) (28) (w 19 0) (b2)) (20) (w 19 0) (p4)) (29) (w 19 0) (p5)) (21) (w 19 0) (0)) (22) (w 19 0) (-1)) (35) (w 19 0) (0)) (19) (0) (w 19 0 + 1)))) := by
  obtain ⟨d, rfl⟩ : ∃ e, d = e + 1 := ⟨d - 1, by omega⟩
  have hw0 := e_Has.get hT (c := 0) (k := 11) (lo := 0) (hi := 4) (kt_o rfl) (by decide)
  have hb0 := e_Has.get hT (c := 19) (k := 0) (lo := 0) (hi := 4) (kt_o rfl) (by decide)
  have hz0 := e_Has.get hT (c := 250) (k := 1) (lo := 0) (hi := 8) (kt_o rfl) (by decide)
  have hs0 := e_Has.get hT (c := 250) (k := 0) (lo := 0) (hi := 16) (kt_o rfl) (by decide)
  have hi0 := e_Has.get hT (c := 74) (k := 2) (lo := 0) (hi := 8) (kt_o rfl) (by decide)
  refine e_Ok.ps2 (x := (0, p2)) (y := (0, p1)) (q := 2) 2 rfl ?_
  refine e_Ok.callS rfl (e_dq hd rfl) rfl rfl (c_243_ex (e_dq hd rfl) (by omega) (by omega)) (fun r1 w2 h3 => ?_)
  obtain ⟨z4, rfl, rfl, q5⟩ := h3
  obtain ⟨rfl, q5⟩ | ⟨rfl, q5⟩ := q5
  · refine e_Ok.nrm (q := 5) (st' := [(0, 1)]) rfl rfl ?_
    refine e_Ok.if1 rfl (fun h6 => ?_) (fun h6 => ?_)
    · replace h6 : (1 : Int) = 0 := h6
      exfalso; omega
    · replace h6 : (1 : Int) ≠ 0 := (show ¬ ((1 : Int) = 0) from h6)
      refine e_Ok.ps3 (x := (0, 3)) (y := (0, 0)) (z := (0, p3)) (q := 11) 3 rfl ?_
      refine e_Ok.callS rfl (e_dq hd rfl) rfl rfl (c_242 (by omega) (by omega) (by omega)) (fun r7 w8 h9 => ?_)
      obtain ⟨z10, rfl, rfl, q11⟩ := h9
      obtain ⟨rfl, q11⟩ | ⟨rfl, q11⟩ := q11
      · refine e_Ok.nrm (q := 14) (st' := [(0, 1)]) rfl rfl ?_
        refine e_Ok.if1 rfl (fun h12 => ?_) (fun h12 => ?_)
        · replace h12 : (1 : Int) ≠ 0 := h12
          refine e_Ok.ps3 (x := (0, 16000)) (y := (0, 0)) (z := (0, p4)) (q := 25) 3 rfl ?_
          refine e_Ok.callS rfl (e_dq hd rfl) rfl rfl (c_242 (by omega) (by omega) (by omega)) (fun r13 w14 h15 => ?_)
          obtain ⟨z16, rfl, rfl, q17⟩ := h15
          obtain ⟨rfl, q17⟩ | ⟨rfl, q17⟩ := q17
          · refine e_Ok.nrm (q := 28) (st' := [(0, 1)]) rfl rfl ?_
            refine e_Ok.if1 rfl (fun h18 => ?_) (fun h18 => ?_)
            · replace h18 : (1 : Int) = 0 := h18
              exfalso; omega
            · replace h18 : (1 : Int) ≠ 0 := (show ¬ ((1 : Int) = 0) from h18)
              refine e_Ok.ps3 (x := (0, 2000)) (y := (0, 0)) (z := (0, p5)) (q := 37) 3 rfl ?_
              refine e_Ok.callS rfl (e_dq hd rfl) rfl rfl (c_242 (by omega) (by omega) (by omega)) (fun r19 w20 h21 => ?_)
              obtain ⟨z22, rfl, rfl, q23⟩ := h21
              obtain ⟨rfl, q23⟩ | ⟨rfl, q23⟩ := q23
              · refine e_Ok.nrm (q := 40) (st' := [(0, 1)]) rfl rfl ?_
                refine e_Ok.if1 rfl (fun h24 => ?_) (fun h24 => ?_)
                · replace h24 : (1 : Int) ≠ 0 := h24
                  refine e_Ok.ps3 (x := (0, p3)) (y := (0, p4)) (z := (0, p1)) (q := 49) 3 rfl ?_
                  refine e_Ok.callS rfl (e_dq hd rfl) rfl rfl (c_73_ex (by omega)) (fun r25 w26 h27 => ?_)
                  obtain ⟨z28, rfl, rfl, q29⟩ := h27
                  obtain ⟨q29, rfl⟩ | ⟨q29, rfl⟩ | ⟨q29, q29b, rfl⟩ := q29
                  · refine e_Ok.nrm (q := 52) (st' := [(0, 1), (0, p4), (0, p1)]) rfl rfl ?_
                    refine e_Ok.mul (z := p4) rfl (by omega) (by omega) ?_
                    refine e_Ok.add (z := p1 + p4) rfl rfl (by omega) ?_
                    refine e_Ok.ps3 (x := (0, p3)) (y := (0, p4)) (z := (0, p2)) (q := 58) 3 rfl ?_
                    refine e_Ok.callS rfl (e_dq hd rfl) rfl rfl (c_74_ex (by omega)) (fun r30 w31 h32 => ?_)
                    obtain ⟨z33, rfl, rfl, q34⟩ := h32
                    obtain ⟨q34, rfl⟩ | ⟨q34, rfl⟩ | ⟨q34, q34b, rfl⟩ := q34
                    · refine e_Ok.nrm (q := 61) (st' := [(0, 1), (0, p4), (0, p2), (0, p1 + p4)]) rfl rfl ?_
                      refine e_Ok.mul (z := p4) rfl (by omega) (by omega) ?_
                      refine e_Ok.add (z := p2 + p4) rfl rfl (by omega) ?_
                      refine e_Ok.callS rfl (e_dq hd rfl) rfl rfl (c_243_ex (e_dq hd rfl) (by omega) (by omega)) (fun r35 w36 h37 => ?_)
                      obtain ⟨z38, rfl, rfl, q40⟩ := h37
                      obtain ⟨rfl, q40⟩ | ⟨rfl, q40⟩ := q40
                      · refine e_Ok.nrm (q := 66) (st' := [(0, 1)]) rfl rfl ?_
                        refine e_Ok.if1 rfl (fun h41 => ?_) (fun h41 => ?_)
                        · replace h41 : (1 : Int) ≠ 0 := h41
                          refine e_Ok.ps1 (x := (1, 0)) (q := 72) 1 rfl ?_
                          refine e_Ok.getf (z := w 0 13) rfl (el_o rfl) rfl rfl rfl (by omega) ?_
                          refine e_Ok.if1 rfl (fun h42 => ?_) (fun h42 => ?_)
                          · replace h42 : (w 0 13 : Int) = 0 := h42
                            refine e_Ok.ps1 (x := (1, 0)) (q := 82) 1 rfl ?_
                            refine e_Ok.getr (z := 19) rfl (el_o rfl) rfl rfl (Eq.trans (e_Has.eq hT (kt_o rfl)) (by omega)) ⟨by decide, by decide⟩ ?_
                            refine e_Ok.getf (z := w 19 0) rfl (el_o rfl) rfl rfl rfl (by omega) ?_
                            refine e_Ok.ps1 (x := (0, 4)) (q := 89) 1 rfl ?_
                            refine e_Ok.if2 rfl (fun h43 => ?_) (fun h43 => ?_)
                            · replace h43 : (w 19 0 : Int) < 4 := h43
                              refine e_Ok.ps1 (x := (1, 0)) (q := 96) 1 rfl ?_
                              refine e_Ok.getr (z := 19) rfl (el_o rfl) rfl rfl (Eq.trans (e_Has.eq hT (kt_o rfl)) (by omega)) ⟨by decide, by decide⟩ ?_
                              refine e_Ok.run (t' := (106, [(0, (1, 0)), (1, (0, p1)), (2, (0, p2)), (3, (0, p3)), (4, (0, p4)), (5, (0, p5))], [(0, p5), (0, p4), (0, p3), (0, p2), (0, p1), (1, 19)], w)) 5 rfl ?_
                              refine e_Ok.callV rfl (e_dq hd rfl) rfl rfl rfl rfl (c_75_ex (e_dq hd rfl) hT (by omega) (by omega) (by omega) (by omega) (by omega) (by omega)) (fun r44 w45 h46 => ?_)
                              obtain ⟨z47, rfl, q48⟩ := h46
                              refine e_Ok.nrm (q := 109) (st' := [(0, z47)]) rfl rfl ?_
                              refine e_Ok.rets rfl rfl ?_
                              exact ⟨_, rfl, Or.inr ⟨by omega, q48.2.1, q48.2.2⟩⟩
                            · replace h43 : (w 19 0 : Int) ≥ 4 := Int.not_lt.mp (show ¬ ((w 19 0 : Int) < 4) from h43)
                              refine e_Ok.ps1 (x := (0, (-3))) (q := 94) 1 rfl ?_
                              refine e_Ok.rets rfl rfl ?_
                              exact ⟨_, rfl, Or.inl ⟨rfl, by omega⟩⟩
                          · replace h42 : (w 0 13 : Int) ≠ 0 := (show ¬ ((w 0 13 : Int) = 0) from h42)
                            refine e_Ok.ps1 (x := (0, (-2))) (q := 80) 1 rfl ?_
                            refine e_Ok.rets rfl rfl ?_
                            exact ⟨_, rfl, Or.inl ⟨rfl, by omega⟩⟩
                        · replace h41 : (1 : Int) = 0 := Classical.not_not.mp (show ¬ ((1 : Int) ≠ 0) from h41)
                          exfalso; omega
                      · refine e_Ok.nrm (q := 66) (st' := [(0, 0)]) rfl rfl ?_
                        refine e_Ok.if1 rfl (fun h49 => ?_) (fun h49 => ?_)
                        · replace h49 : (0 : Int) ≠ 0 := h49
                          exfalso; omega
                        · replace h49 : (0 : Int) = 0 := Classical.not_not.mp (show ¬ ((0 : Int) ≠ 0) from h49)
                          refine e_Ok.ps1 (x := (0, (-1))) (q := 70) 1 rfl ?_
                          refine e_Ok.rets rfl rfl ?_
                          exact ⟨_, rfl, Or.inl ⟨rfl, by omega⟩⟩
                    · refine e_Ok.nrm (q := 61) (st' := [(0, (-1)), (0, p4), (0, p2), (0, p1 + p4)]) rfl rfl ?_
                      refine e_Ok.mul (z := -p4) rfl (by omega) (by omega) ?_
                      refine e_Ok.add (z := p2 - p4) rfl (by omega) (by omega) ?_
                      refine e_Ok.callS rfl (e_dq hd rfl) rfl rfl (c_243_ex (e_dq hd rfl) (by omega) (by omega)) (fun r50 w51 h52 => ?_)
                      obtain ⟨z53, rfl, rfl, q54⟩ := h52
                      obtain ⟨rfl, q54⟩ | ⟨rfl, q54⟩ := q54
                      · refine e_Ok.nrm (q := 66) (st' := [(0, 1)]) rfl rfl ?_
                        refine e_Ok.if1 rfl (fun h55 => ?_) (fun h55 => ?_)
                        · replace h55 : (1 : Int) ≠ 0 := h55
                          refine e_Ok.ps1 (x := (1, 0)) (q := 72) 1 rfl ?_
                          refine e_Ok.getf (z := w 0 13) rfl (el_o rfl) rfl rfl rfl (by omega) ?_
                          refine e_Ok.if1 rfl (fun h56 => ?_) (fun h56 => ?_)
                          · replace h56 : (w 0 13 : Int) = 0 := h56
                            refine e_Ok.ps1 (x := (1, 0)) (q := 82) 1 rfl ?_
                            refine e_Ok.getr (z := 19) rfl (el_o rfl) rfl rfl (Eq.trans (e_Has.eq hT (kt_o rfl)) (by omega)) ⟨by decide, by decide⟩ ?_
                            refine e_Ok.getf (z := w 19 0) rfl (el_o rfl) rfl rfl rfl (by omega) ?_
                            refine e_Ok.ps1 (x := (0, 4)) (q := 89) 1 rfl ?_
                            refine e_Ok.if2 rfl (fun h57 => ?_) (fun h57 => ?_)
                            · replace h57 : (w 19 0 : Int) < 4 := h57
                              refine e_Ok.ps1 (x := (1, 0)) (q := 96) 1 rfl ?_
                              refine e_Ok.getr (z := 19) rfl (el_o rfl) rfl rfl (Eq.trans (e_Has.eq hT (kt_o rfl)) (by omega)) ⟨by decide, by decide⟩ ?_
                              refine e_Ok.run (t' := (106, [(0, (1, 0)), (1, (0, p1)), (2, (0, p2)), (3, (0, p3)), (4, (0, p4)), (5, (0, p5))], [(0, p5), (0, p4), (0, p3), (0, p2), (0, p1), (1, 19)], w)) 5 rfl ?_
                              refine e_Ok.callV rfl (e_dq hd rfl) rfl rfl rfl rfl (c_75_ex (e_dq hd rfl) hT (by omega) (by omega) (by omega) (by omega) (by omega) (by omega)) (fun r58 w59 h60 => ?_)
                              obtain ⟨z61, rfl, q62⟩ := h60
                              refine e_Ok.nrm (q := 109) (st' := [(0, z61)]) rfl rfl ?_
                              refine e_Ok.rets rfl rfl ?_
                              exact ⟨_, rfl, Or.inr ⟨by omega, q62.2.1, q62.2.2⟩⟩
                            · replace h57 : (w 19 0 : Int) ≥ 4 := Int.not_lt.mp (show ¬ ((w 19 0 : Int) < 4) from h57)
                              refine e_Ok.ps1 (x := (0, (-3))) (q := 94) 1 rfl ?_
                              refine e_Ok.rets rfl rfl ?_
                              exact ⟨_, rfl, Or.inl ⟨rfl, by omega⟩⟩
                          · replace h56 : (w 0 13 : Int) ≠ 0 := (show ¬ ((w 0 13 : Int) = 0) from h56)
                            refine e_Ok.ps1 (x := (0, (-2))) (q := 80) 1 rfl ?_
                            refine e_Ok.rets rfl rfl ?_
                            exact ⟨_, rfl, Or.inl ⟨rfl, by omega⟩⟩
                        · replace h55 : (1 : Int) = 0 := Classical.not_not.mp (show ¬ ((1 : Int) ≠ 0) from h55)
                          exfalso; omega
                      · refine e_Ok.nrm (q := 66) (st' := [(0, 0)]) rfl rfl ?_
                        refine e_Ok.if1 rfl (fun h63 => ?_) (fun h63 => ?_)
                        · replace h63 : (0 : Int) ≠ 0 := h63
                          exfalso; omega
                        · replace h63 : (0 : Int) = 0 := Classical.not_not.mp (show ¬ ((0 : Int) ≠ 0) from h63)
                          refine e_Ok.ps1 (x := (0, (-1))) (q := 70) 1 rfl ?_
                          refine e_Ok.rets rfl rfl ?_
                          exact ⟨_, rfl, Or.inl ⟨rfl, by omega⟩⟩
                    · refine e_Ok.nrm (q := 61) (st' := [(0, 0), (0, p4), (0, p2), (0, p1 + p4)]) rfl rfl ?_
                      refine e_Ok.mul (z := 0) rfl (by omega) (by omega) ?_
                      refine e_Ok.add (z := p2) rfl (by omega) (by omega) ?_
                      refine e_Ok.callS rfl (e_dq hd rfl) rfl rfl (c_243_ex (e_dq hd rfl) (by omega) (by omega)) (fun r64 w65 h66 => ?_)
                      obtain ⟨z67, rfl, rfl, q68⟩ := h66
                      obtain ⟨rfl, q68⟩ | ⟨rfl, q68⟩ := q68
                      · refine e_Ok.nrm (q := 66) (st' := [(0, 1)]) rfl rfl ?_
                        refine e_Ok.if1 rfl (fun h69 => ?_) (fun h69 => ?_)
                        · replace h69 : (1 : Int) ≠ 0 := h69
                          refine e_Ok.ps1 (x := (1, 0)) (q := 72) 1 rfl ?_
                          refine e_Ok.getf (z := w 0 13) rfl (el_o rfl) rfl rfl rfl (by omega) ?_
                          refine e_Ok.if1 rfl (fun h70 => ?_) (fun h70 => ?_)
                          · replace h70 : (w 0 13 : Int) = 0 := h70
                            refine e_Ok.ps1 (x := (1, 0)) (q := 82) 1 rfl ?_
                            refine e_Ok.getr (z := 19) rfl (el_o rfl) rfl rfl (Eq.trans (e_Has.eq hT (kt_o rfl)) (by omega)) ⟨by decide, by decide⟩ ?_
                            refine e_Ok.getf (z := w 19 0) rfl (el_o rfl) rfl rfl rfl (by omega) ?_
                            refine e_Ok.ps1 (x := (0, 4)) (q := 89) 1 rfl ?_
                            refine e_Ok.if2 rfl (fun h71 => ?_) (fun h71 => ?_)
                            · replace h71 : (w 19 0 : Int) < 4 := h71
                              refine e_Ok.ps1 (x := (1, 0)) (q := 96) 1 rfl ?_
                              refine e_Ok.getr (z := 19) rfl (el_o rfl) rfl rfl (Eq.trans (e_Has.eq hT (kt_o rfl)) (by omega)) ⟨by decide, by decide⟩ ?_
                              refine e_Ok.run (t' := (106, [(0, (1, 0)), (1, (0, p1)), (2, (0, p2)), (3, (0, p3)), (4, (0, p4)), (5, (0, p5))], [(0, p5), (0, p4), (0, p3), (0, p2), (0, p1), (1, 19)], w)) 5 rfl ?_
                              refine e_Ok.callV rfl (e_dq hd rfl) rfl rfl rfl rfl (c_75_ex (e_dq hd rfl) hT (by omega) (by omega) (by omega) (by omega) (by omega) (by omega)) (fun r72 w73 h74 => ?_)
                              obtain ⟨z75, rfl, q76⟩ := h74
                              refine e_Ok.nrm (q := 109) (st' := [(0, z75)]) rfl rfl ?_
                              refine e_Ok.rets rfl rfl ?_
                              exact ⟨_, rfl, Or.inr ⟨by omega, q76.2.1, q76.2.2⟩⟩
                            · replace h71 : (w 19 0 : Int) ≥ 4 := Int.not_lt.mp (show ¬ ((w 19 0 : Int) < 4) from h71)
                              refine e_Ok.ps1 (x := (0, (-3))) (q := 94) 1 rfl ?_
                              refine e_Ok.rets rfl rfl ?_
                              exact ⟨_, rfl, Or.inl ⟨rfl, by omega⟩⟩
                          · replace h70 : (w 0 13 : Int) ≠ 0 := (show ¬ ((w 0 13 : Int) = 0) from h70)
                            refine e_Ok.ps1 (x := (0, (-2))) (q := 80) 1 rfl ?_
                            refine e_Ok.rets rfl rfl ?_
                            exact ⟨_, rfl, Or.inl ⟨rfl, by omega⟩⟩
                        · replace h69 : (1 : Int) = 0 := Classical.not_not.mp (show ¬ ((1 : Int) ≠ 0) from h69)
                          exfalso; omega
                      · refine e_Ok.nrm (q := 66) (st' := [(0, 0)]) rfl rfl ?_
                        refine e_Ok.if1 rfl (fun h77 => ?_) (fun h77 => ?_)
                        · replace h77 : (0 : Int) ≠ 0 := h77
                          exfalso; omega
                        · replace h77 : (0 : Int) = 0 := Classical.not_not.mp (show ¬ ((0 : Int) ≠ 0) from h77)
                          refine e_Ok.ps1 (x := (0, (-1))) (q := 70) 1 rfl ?_
                          refine e_Ok.rets rfl rfl ?_
                          exact ⟨_, rfl, Or.inl ⟨rfl, by omega⟩⟩
                  · refine e_Ok.nrm (q := 52) (st' := [(0, (-1)), (0, p4), (0, p1)]) rfl rfl ?_
                    refine e_Ok.mul (z := -p4) rfl (by omega) (by omega) ?_
                    refine e_Ok.add (z := p1 - p4) rfl (by omega) (by omega) ?_
                    refine e_Ok.ps3 (x := (0, p3)) (y := (0, p4)) (z := (0, p2)) (q := 58) 3 rfl ?_
                    refine e_Ok.callS rfl (e_dq hd rfl) rfl rfl (c_74_ex (by omega)) (fun r78 w79 h80 => ?_)
                    obtain ⟨z81, rfl, rfl, q82⟩ := h80
                    obtain ⟨q82, rfl⟩ | ⟨q82, rfl⟩ | ⟨q82, q82b, rfl⟩ := q82
                    · refine e_Ok.nrm (q := 61) (st' := [(0, 1), (0, p4), (0, p2), (0, p1 - p4)]) rfl rfl ?_
                      refine e_Ok.mul (z := p4) rfl (by omega) (by omega) ?_
                      refine e_Ok.add (z := p2 + p4) rfl rfl (by omega) ?_
                      refine e_Ok.callS rfl (e_dq hd rfl) rfl rfl (c_243_ex (e_dq hd rfl) (by omega) (by omega)) (fun r83 w84 h85 => ?_)
                      obtain ⟨z86, rfl, rfl, q87⟩ := h85
                      obtain ⟨rfl, q87⟩ | ⟨rfl, q87⟩ := q87
                      · refine e_Ok.nrm (q := 66) (st' := [(0, 1)]) rfl rfl ?_
                        refine e_Ok.if1 rfl (fun h88 => ?_) (fun h88 => ?_)
                        · replace h88 : (1 : Int) ≠ 0 := h88
                          refine e_Ok.ps1 (x := (1, 0)) (q := 72) 1 rfl ?_
                          refine e_Ok.getf (z := w 0 13) rfl (el_o rfl) rfl rfl rfl (by omega) ?_
                          refine e_Ok.if1 rfl (fun h89 => ?_) (fun h89 => ?_)
                          · replace h89 : (w 0 13 : Int) = 0 := h89
                            refine e_Ok.ps1 (x := (1, 0)) (q := 82) 1 rfl ?_
                            refine e_Ok.getr (z := 19) rfl (el_o rfl) rfl rfl (Eq.trans (e_Has.eq hT (kt_o rfl)) (by omega)) ⟨by decide, by decide⟩ ?_
                            refine e_Ok.getf (z := w 19 0) rfl (el_o rfl) rfl rfl rfl (by omega) ?_
                            refine e_Ok.ps1 (x := (0, 4)) (q := 89) 1 rfl ?_
                            refine e_Ok.if2 rfl (fun h90 => ?_) (fun h90 => ?_)
                            · replace h90 : (w 19 0 : Int) < 4 := h90
                              refine e_Ok.ps1 (x := (1, 0)) (q := 96) 1 rfl ?_
                              refine e_Ok.getr (z := 19) rfl (el_o rfl) rfl rfl (Eq.trans (e_Has.eq hT (kt_o rfl)) (by omega)) ⟨by decide, by decide⟩ ?_
                              refine e_Ok.run (t' := (106, [(0, (1, 0)), (1, (0, p1)), (2, (0, p2)), (3, (0, p3)), (4, (0, p4)), (5, (0, p5))], [(0, p5), (0, p4), (0, p3), (0, p2), (0, p1), (1, 19)], w)) 5 rfl ?_
                              refine e_Ok.callV rfl (e_dq hd rfl) rfl rfl rfl rfl (c_75_ex (e_dq hd rfl) hT (by omega) (by omega) (by omega) (by omega) (by omega) (by omega)) (fun r91 w92 h93 => ?_)
                              obtain ⟨z94, rfl, q95⟩ := h93
                              refine e_Ok.nrm (q := 109) (st' := [(0, z94)]) rfl rfl ?_
                              refine e_Ok.rets rfl rfl ?_
                              exact ⟨_, rfl, Or.inr ⟨by omega, q95.2.1, q95.2.2⟩⟩
                            · replace h90 : (w 19 0 : Int) ≥ 4 := Int.not_lt.mp (show ¬ ((w 19 0 : Int) < 4) from h90)
                              refine e_Ok.ps1 (x := (0, (-3))) (q := 94) 1 rfl ?_
                              refine e_Ok.rets rfl rfl ?_
                              exact ⟨_, rfl, Or.inl ⟨rfl, by omega⟩⟩
                          · replace h89 : (w 0 13 : Int) ≠ 0 := (show ¬ ((w 0 13 : Int) = 0) from h89)
                            refine e_Ok.ps1 (x := (0, (-2))) (q := 80) 1 rfl ?_
                            refine e_Ok.rets rfl rfl ?_
                            exact ⟨_, rfl, Or.inl ⟨rfl, by omega⟩⟩
                        · replace h88 : (1 : Int) = 0 := Classical.not_not.mp (show ¬ ((1 : Int) ≠ 0) from h88)
                          exfalso; omega
                      · refine e_Ok.nrm (q := 66) (st' := [(0, 0)]) rfl rfl ?_
                        refine e_Ok.if1 rfl (fun h101 => ?_) (fun h101 => ?_)
                        · replace h101 : (0 : Int) ≠ 0 := h101
                          exfalso; omega
                        · replace h101 : (0 : Int) = 0 := Classical.not_not.mp (show ¬ ((0 : Int) ≠ 0) from h101)
                          refine e_Ok.ps1 (x := (0, (-1))) (q := 70) 1 rfl ?_
                          refine e_Ok.rets rfl rfl ?_
                          exact ⟨_, rfl, Or.inl ⟨rfl, by omega⟩⟩
                    · refine e_Ok.nrm (q := 61) (st' := [(0, (-1)), (0, p4), (0, p2), (0, p1 - p4)]) rfl rfl ?_
                      refine e_Ok.mul (z := -p4) rfl (by omega) (by omega) ?_
                      refine e_Ok.add (z := p2 - p4) rfl (by omega) (by omega) ?_
                      refine e_Ok.callS rfl (e_dq hd rfl) rfl rfl (c_243_ex (e_dq hd rfl) (by omega) (by omega)) (fun r103 w104 h105 => ?_)
                      obtain ⟨z106, rfl, rfl, q107⟩ := h105
                      obtain ⟨rfl, q107⟩ | ⟨rfl, q107⟩ := q107
                      · refine e_Ok.nrm (q := 66) (st' := [(0, 1)]) rfl rfl ?_
                        refine e_Ok.if1 rfl (fun h108 => ?_) (fun h108 => ?_)
                        · replace h108 : (1 : Int) ≠ 0 := h108
                          refine e_Ok.ps1 (x := (1, 0)) (q := 72) 1 rfl ?_
                          refine e_Ok.getf (z := w 0 13) rfl (el_o rfl) rfl rfl rfl (by omega) ?_
                          refine e_Ok.if1 rfl (fun h109 => ?_) (fun h109 => ?_)
                          · replace h109 : (w 0 13 : Int) = 0 := h109
                            refine e_Ok.ps1 (x := (1, 0)) (q := 82) 1 rfl ?_
                            refine e_Ok.getr (z := 19) rfl (el_o rfl) rfl rfl (Eq.trans (e_Has.eq hT (kt_o rfl)) (by omega)) ⟨by decide, by decide⟩ ?_
                            refine e_Ok.getf (z := w 19 0) rfl (el_o rfl) rfl rfl rfl (by omega) ?_
                            refine e_Ok.ps1 (x := (0, 4)) (q := 89) 1 rfl ?_
                            refine e_Ok.if2 rfl (fun h110 => ?_) (fun h110 => ?_)
                            · replace h110 : (w 19 0 : Int) < 4 := h110
                              refine e_Ok.ps1 (x := (1, 0)) (q := 96) 1 rfl ?_
                              refine e_Ok.getr (z := 19) rfl (el_o rfl) rfl rfl (Eq.trans (e_Has.eq hT (kt_o rfl)) (by omega)) ⟨by decide, by decide⟩ ?_
                              refine e_Ok.run (t' := (106, [(0, (1, 0)), (1, (0, p1)), (2, (0, p2)), (3, (0, p3)), (4, (0, p4)), (5, (0, p5))], [(0, p5), (0, p4), (0, p3), (0, p2), (0, p1), (1, 19)], w)) 5 rfl ?_
                              refine e_Ok.callV rfl (e_dq hd rfl) rfl rfl rfl rfl (c_75_ex (e_dq hd rfl) hT (by omega) (by omega) (by omega) (by omega) (by omega) (by omega)) (fun r111 w112 h113 => ?_)
                              obtain ⟨z114, rfl, q115⟩ := h113
                              refine e_Ok.nrm (q := 109) (st' := [(0, z114)]) rfl rfl ?_
                              refine e_Ok.rets rfl rfl ?_
                              exact ⟨_, rfl, Or.inr ⟨by omega, q115.2.1, q115.2.2⟩⟩
                            · replace h110 : (w 19 0 : Int) ≥ 4 := Int.not_lt.mp (show ¬ ((w 19 0 : Int) < 4) from h110)
                              refine e_Ok.ps1 (x := (0, (-3))) (q := 94) 1 rfl ?_
                              refine e_Ok.rets rfl rfl ?_
                              exact ⟨_, rfl, Or.inl ⟨rfl, by omega⟩⟩
                          · replace h109 : (w 0 13 : Int) ≠ 0 := (show ¬ ((w 0 13 : Int) = 0) from h109)
                            refine e_Ok.ps1 (x := (0, (-2))) (q := 80) 1 rfl ?_
                            refine e_Ok.rets rfl rfl ?_
                            exact ⟨_, rfl, Or.inl ⟨rfl, by omega⟩⟩
                        · replace h108 : (1 : Int) = 0 := Classical.not_not.mp (show ¬ ((1 : Int) ≠ 0) from h108)
                          exfalso; omega
                      · refine e_Ok.nrm (q := 66) (st' := [(0, 0)]) rfl rfl ?_
                        refine e_Ok.if1 rfl (fun h116 => ?_) (fun h116 => ?_)
                        · replace h116 : (0 : Int) ≠ 0 := h116
                          exfalso; omega
                        · replace h116 : (0 : Int) = 0 := Classical.not_not.mp (show ¬ ((0 : Int) ≠ 0) from h116)
                          refine e_Ok.ps1 (x := (0, (-1))) (q := 70) 1 rfl ?_
                          refine e_Ok.rets rfl rfl ?_
                          exact ⟨_, rfl, Or.inl ⟨rfl, by omega⟩⟩
                    · refine e_Ok.nrm (q := 61) (st' := [(0, 0), (0, p4), (0, p2), (0, p1 - p4)]) rfl rfl ?_
                      refine e_Ok.mul (z := 0) rfl (by omega) (by omega) ?_
                      refine e_Ok.add (z := p2) rfl (by omega) (by omega) ?_
                      refine e_Ok.callS rfl (e_dq hd rfl) rfl rfl (c_243_ex (e_dq hd rfl) (by omega) (by omega)) (fun r117 w118 h119 => ?_)
                      obtain ⟨z120, rfl, rfl, q121⟩ := h119
                      obtain ⟨rfl, q121⟩ | ⟨rfl, q121⟩ := q121
                      · refine e_Ok.nrm (q := 66) (st' := [(0, 1)]) rfl rfl ?_
                        refine e_Ok.if1 rfl (fun h122 => ?_) (fun h122 => ?_)
                        · replace h122 : (1 : Int) ≠ 0 := h122
                          refine e_Ok.ps1 (x := (1, 0)) (q := 72) 1 rfl ?_
                          refine e_Ok.getf (z := w 0 13) rfl (el_o rfl) rfl rfl rfl (by omega) ?_
                          refine e_Ok.if1 rfl (fun h123 => ?_) (fun h123 => ?_)
                          · replace h123 : (w 0 13 : Int) = 0 := h123
                            refine e_Ok.ps1 (x := (1, 0)) (q := 82) 1 rfl ?_
                            refine e_Ok.getr (z := 19) rfl (el_o rfl) rfl rfl (Eq.trans (e_Has.eq hT (kt_o rfl)) (by omega)) ⟨by decide, by decide⟩ ?_
                            refine e_Ok.getf (z := w 19 0) rfl (el_o rfl) rfl rfl rfl (by omega) ?_
                            refine e_Ok.ps1 (x := (0, 4)) (q := 89) 1 rfl ?_
                            refine e_Ok.if2 rfl (fun h124 => ?_) (fun h124 => ?_)
                            · replace h124 : (w 19 0 : Int) < 4 := h124
                              refine e_Ok.ps1 (x := (1, 0)) (q := 96) 1 rfl ?_
                              refine e_Ok.getr (z := 19) rfl (el_o rfl) rfl rfl (Eq.trans (e_Has.eq hT (kt_o rfl)) (by omega)) ⟨by decide, by decide⟩ ?_
                              refine e_Ok.run (t' := (106, [(0, (1, 0)), (1, (0, p1)), (2, (0, p2)), (3, (0, p3)), (4, (0, p4)), (5, (0, p5))], [(0, p5), (0, p4), (0, p3), (0, p2), (0, p1), (1, 19)], w)) 5 rfl ?_
                              refine e_Ok.callV rfl (e_dq hd rfl) rfl rfl rfl rfl (c_75_ex (e_dq hd rfl) hT (by omega) (by omega) (by omega) (by omega) (by omega) (by omega)) (fun r125 w126 h127 => ?_)
                              obtain ⟨z128, rfl, q129⟩ := h127
                              refine e_Ok.nrm (q := 109) (st' := [(0, z128)]) rfl rfl ?_
                              refine e_Ok.rets rfl rfl ?_
                              exact ⟨_, rfl, Or.inr ⟨by omega, q129.2.1, q129.2.2⟩⟩
                            · replace h124 : (w 19 0 : Int) ≥ 4 := Int.not_lt.mp (show ¬ ((w 19 0 : Int) < 4) from h124)
                              refine e_Ok.ps1 (x := (0, (-3))) (q := 94) 1 rfl ?_
                              refine e_Ok.rets rfl rfl ?_
                              exact ⟨_, rfl, Or.inl ⟨rfl, by omega⟩⟩
                          · replace h123 : (w 0 13 : Int) ≠ 0 := (show ¬ ((w 0 13 : Int) = 0) from h123)
                            refine e_Ok.ps1 (x := (0, (-2))) (q := 80) 1 rfl ?_
                            refine e_Ok.rets rfl rfl ?_
                            exact ⟨_, rfl, Or.inl ⟨rfl, by omega⟩⟩
                        · replace h122 : (1 : Int) = 0 := Classical.not_not.mp (show ¬ ((1 : Int) ≠ 0) from h122)
                          exfalso; omega
                      · refine e_Ok.nrm (q := 66) (st' := [(0, 0)]) rfl rfl ?_
                        refine e_Ok.if1 rfl (fun h130 => ?_) (fun h130 => ?_)
                        · replace h130 : (0 : Int) ≠ 0 := h130
                          exfalso; omega
                        · replace h130 : (0 : Int) = 0 := Classical.not_not.mp (show ¬ ((0 : Int) ≠ 0) from h130)
                          refine e_Ok.ps1 (x := (0, (-1))) (q := 70) 1 rfl ?_
                          refine e_Ok.rets rfl rfl ?_
                          exact ⟨_, rfl, Or.inl ⟨rfl, by omega⟩⟩
                  · refine e_Ok.nrm (q := 52) (st' := [(0, 0), (0, p4), (0, p1)]) rfl rfl ?_
                    refine e_Ok.mul (z := 0) rfl (by omega) (by omega) ?_
                    refine e_Ok.add (z := p1) rfl (by omega) (by omega) ?_
                    refine e_Ok.ps3 (x := (0, p3)) (y := (0, p4)) (z := (0, p2)) (q := 58) 3 rfl ?_
                    refine e_Ok.callS rfl (e_dq hd rfl) rfl rfl (c_74_ex (by omega)) (fun r131 w132 h133 => ?_)
                    obtain ⟨z134, rfl, rfl, q135⟩ := h133
                    obtain ⟨q135, rfl⟩ | ⟨q135, rfl⟩ | ⟨q135, q135b, rfl⟩ := q135
                    · refine e_Ok.nrm (q := 61) (st' := [(0, 1), (0, p4), (0, p2), (0, p1)]) rfl rfl ?_
                      refine e_Ok.mul (z := p4) rfl (by omega) (by omega) ?_
                      refine e_Ok.add (z := p2 + p4) rfl rfl (by omega) ?_
                      refine e_Ok.callS rfl (e_dq hd rfl) rfl rfl (c_243_ex (e_dq hd rfl) (by omega) (by omega)) (fun r136 w137 h138 => ?_)
                      obtain ⟨z139, rfl, rfl, q140⟩ := h138
                      obtain ⟨rfl, q140⟩ | ⟨rfl, q140⟩ := q140
                      · refine e_Ok.nrm (q := 66) (st' := [(0, 1)]) rfl rfl ?_
                        refine e_Ok.if1 rfl (fun h141 => ?_) (fun h141 => ?_)
                        · replace h141 : (1 : Int) ≠ 0 := h141
                          refine e_Ok.ps1 (x := (1, 0)) (q := 72) 1 rfl ?_
                          refine e_Ok.getf (z := w 0 13) rfl (el_o rfl) rfl rfl rfl (by omega) ?_
                          refine e_Ok.if1 rfl (fun h142 => ?_) (fun h142 => ?_)
                          · replace h142 : (w 0 13 : Int) = 0 := h142
                            refine e_Ok.ps1 (x := (1, 0)) (q := 82) 1 rfl ?_
                            refine e_Ok.getr (z := 19) rfl (el_o rfl) rfl rfl (Eq.trans (e_Has.eq hT (kt_o rfl)) (by omega)) ⟨by decide, by decide⟩ ?_
                            refine e_Ok.getf (z := w 19 0) rfl (el_o rfl) rfl rfl rfl (by omega) ?_
                            refine e_Ok.ps1 (x := (0, 4)) (q := 89) 1 rfl ?_
                            refine e_Ok.if2 rfl (fun h143 => ?_) (fun h143 => ?_)
                            · replace h143 : (w 19 0 : Int) < 4 := h143
                              refine e_Ok.ps1 (x := (1, 0)) (q := 96) 1 rfl ?_
                              refine e_Ok.getr (z := 19) rfl (el_o rfl) rfl rfl (Eq.trans (e_Has.eq hT (kt_o rfl)) (by omega)) ⟨by decide, by decide⟩ ?_
                              refine e_Ok.run (t' := (106, [(0, (1, 0)), (1, (0, p1)), (2, (0, p2)), (3, (0, p3)), (4, (0, p4)), (5, (0, p5))], [(0, p5), (0, p4), (0, p3), (0, p2), (0, p1), (1, 19)], w)) 5 rfl ?_
                              refine e_Ok.callV rfl (e_dq hd rfl) rfl rfl rfl rfl (c_75_ex (e_dq hd rfl) hT (by omega) (by omega) (by omega) (by omega) (by omega) (by omega)) (fun r144 w145 h146 => ?_)
                              obtain ⟨z147, rfl, q148⟩ := h146
                              refine e_Ok.nrm (q := 109) (st' := [(0, z147)]) rfl rfl ?_
                              refine e_Ok.rets rfl rfl ?_
                              exact ⟨_, rfl, Or.inr ⟨by omega, q148.2.1, q148.2.2⟩⟩
                            · replace h143 : (w 19 0 : Int) ≥ 4 := Int.not_lt.mp (show ¬ ((w 19 0 : Int) < 4) from h143)
                              refine e_Ok.ps1 (x := (0, (-3))) (q := 94) 1 rfl ?_
                              refine e_Ok.rets rfl rfl ?_
                              exact ⟨_, rfl, Or.inl ⟨rfl, by omega⟩⟩
                          · replace h142 : (w 0 13 : Int) ≠ 0 := (show ¬ ((w 0 13 : Int) = 0) from h142)
                            refine e_Ok.ps1 (x := (0, (-2))) (q := 80) 1 rfl ?_
                            refine e_Ok.rets rfl rfl ?_
                            exact ⟨_, rfl, Or.inl ⟨rfl, by omega⟩⟩
                        · replace h141 : (1 : Int) = 0 := Classical.not_not.mp (show ¬ ((1 : Int) ≠ 0) from h141)
                          exfalso; omega
                      · refine e_Ok.nrm (q := 66) (st' := [(0, 0)]) rfl rfl ?_
                        refine e_Ok.if1 rfl (fun h149 => ?_) (fun h149 => ?_)
                        · replace h149 : (0 : Int) ≠ 0 := h149
                          exfalso; omega
                        · replace h149 : (0 : Int) = 0 := Classical.not_not.mp (show ¬ ((0 : Int) ≠ 0) from h149)
                          refine e_Ok.ps1 (x := (0, (-1))) (q := 70) 1 rfl ?_
                          refine e_Ok.rets rfl rfl ?_
                          exact ⟨_, rfl, Or.inl ⟨rfl, by omega⟩⟩
                    · refine e_Ok.nrm (q := 61) (st' := [(0, (-1)), (0, p4), (0, p2), (0, p1)]) rfl rfl ?_
                      refine e_Ok.mul (z := -p4) rfl (by omega) (by omega) ?_
                      refine e_Ok.add (z := p2 - p4) rfl (by omega) (by omega) ?_
                      refine e_Ok.callS rfl (e_dq hd rfl) rfl rfl (c_243_ex (e_dq hd rfl) (by omega) (by omega)) (fun r150 w151 h152 => ?_)
                      obtain ⟨z153, rfl, rfl, q154⟩ := h152
                      obtain ⟨rfl, q154⟩ | ⟨rfl, q154⟩ := q154
                      · refine e_Ok.nrm (q := 66) (st' := [(0, 1)]) rfl rfl ?_
                        refine e_Ok.if1 rfl (fun h155 => ?_) (fun h155 => ?_)
                        · replace h155 : (1 : Int) ≠ 0 := h155
                          refine e_Ok.ps1 (x := (1, 0)) (q := 72) 1 rfl ?_
                          refine e_Ok.getf (z := w 0 13) rfl (el_o rfl) rfl rfl rfl (by omega) ?_
                          refine e_Ok.if1 rfl (fun h156 => ?_) (fun h156 => ?_)
                          · replace h156 : (w 0 13 : Int) = 0 := h156
                            refine e_Ok.ps1 (x := (1, 0)) (q := 82) 1 rfl ?_
                            refine e_Ok.getr (z := 19) rfl (el_o rfl) rfl rfl (Eq.trans (e_Has.eq hT (kt_o rfl)) (by omega)) ⟨by decide, by decide⟩ ?_
                            refine e_Ok.getf (z := w 19 0) rfl (el_o rfl) rfl rfl rfl (by omega) ?_
                            refine e_Ok.ps1 (x := (0, 4)) (q := 89) 1 rfl ?_
                            refine e_Ok.if2 rfl (fun h157 => ?_) (fun h157 => ?_)
                            · replace h157 : (w 19 0 : Int) < 4 := h157
                              refine e_Ok.ps1 (x := (1, 0)) (q := 96) 1 rfl ?_
                              refine e_Ok.getr (z := 19) rfl (el_o rfl) rfl rfl (Eq.trans (e_Has.eq hT (kt_o rfl)) (by omega)) ⟨by decide, by decide⟩ ?_
                              refine e_Ok.run (t' := (106, [(0, (1, 0)), (1, (0, p1)), (2, (0, p2)), (3, (0, p3)), (4, (0, p4)), (5, (0, p5))], [(0, p5), (0, p4), (0, p3), (0, p2), (0, p1), (1, 19)], w)) 5 rfl ?_
                              refine e_Ok.callV rfl (e_dq hd rfl) rfl rfl rfl rfl (c_75_ex (e_dq hd rfl) hT (by omega) (by omega) (by omega) (by omega) (by omega) (by omega)) (fun r158 w159 h160 => ?_)
                              obtain ⟨z161, rfl, q162⟩ := h160
                              refine e_Ok.nrm (q := 109) (st' := [(0, z161)]) rfl rfl ?_
                              refine e_Ok.rets rfl rfl ?_
                              exact ⟨_, rfl, Or.inr ⟨by omega, q162.2.1, q162.2.2⟩⟩
                            · replace h157 : (w 19 0 : Int) ≥ 4 := Int.not_lt.mp (show ¬ ((w 19 0 : Int) < 4) from h157)
                              refine e_Ok.ps1 (x := (0, (-3))) (q := 94) 1 rfl ?_
                              refine e_Ok.rets rfl rfl ?_
                              exact ⟨_, rfl, Or.inl ⟨rfl, by omega⟩⟩
                          · replace h156 : (w 0 13 : Int) ≠ 0 := (show ¬ ((w 0 13 : Int) = 0) from h156)
                            refine e_Ok.ps1 (x := (0, (-2))) (q := 80) 1 rfl ?_
                            refine e_Ok.rets rfl rfl ?_
                            exact ⟨_, rfl, Or.inl ⟨rfl, by omega⟩⟩
                        · replace h155 : (1 : Int) = 0 := Classical.not_not.mp (show ¬ ((1 : Int) ≠ 0) from h155)
                          exfalso; omega
                      · refine e_Ok.nrm (q := 66) (st' := [(0, 0)]) rfl rfl ?_
                        refine e_Ok.if1 rfl (fun h163 => ?_) (fun h163 => ?_)
                        · replace h163 : (0 : Int) ≠ 0 := h163
                          exfalso; omega
                        · replace h163 : (0 : Int) = 0 := Classical.not_not.mp (show ¬ ((0 : Int) ≠ 0) from h163)
                          refine e_Ok.ps1 (x := (0, (-1))) (q := 70) 1 rfl ?_
                          refine e_Ok.rets rfl rfl ?_
                          exact ⟨_, rfl, Or.inl ⟨rfl, by omega⟩⟩
                    · refine e_Ok.nrm (q := 61) (st' := [(0, 0), (0, p4), (0, p2), (0, p1)]) rfl rfl ?_
                      refine e_Ok.mul (z := 0) rfl (by omega) (by omega) ?_
                      refine e_Ok.add (z := p2) rfl (by omega) (by omega) ?_
                      refine e_Ok.callS rfl (e_dq hd rfl) rfl rfl (c_243_ex (e_dq hd rfl) (by omega) (by omega)) (fun r164 w165 h166 => ?_)
                      obtain ⟨z167, rfl, rfl, q168⟩ := h166
                      obtain ⟨rfl, q168⟩ | ⟨rfl, q168⟩ := q168
                      · refine e_Ok.nrm (q := 66) (st' := [(0, 1)]) rfl rfl ?_
                        refine e_Ok.if1 rfl (fun h169 => ?_) (fun h169 => ?_)
                        · replace h169 : (1 : Int) ≠ 0 := h169
                          refine e_Ok.ps1 (x := (1, 0)) (q := 72) 1 rfl ?_
                          refine e_Ok.getf (z := w 0 13) rfl (el_o rfl) rfl rfl rfl (by omega) ?_
                          refine e_Ok.if1 rfl (fun h170 => ?_) (fun h170 => ?_)
                          · replace h170 : (w 0 13 : Int) = 0 := h170
                            refine e_Ok.ps1 (x := (1, 0)) (q := 82) 1 rfl ?_
                            refine e_Ok.getr (z := 19) rfl (el_o rfl) rfl rfl (Eq.trans (e_Has.eq hT (kt_o rfl)) (by omega)) ⟨by decide, by decide⟩ ?_
                            refine e_Ok.getf (z := w 19 0) rfl (el_o rfl) rfl rfl rfl (by omega) ?_
                            refine e_Ok.ps1 (x := (0, 4)) (q := 89) 1 rfl ?_
                            refine e_Ok.if2 rfl (fun h171 => ?_) (fun h171 => ?_)
                            · replace h171 : (w 19 0 : Int) < 4 := h171
                              refine e_Ok.ps1 (x := (1, 0)) (q := 96) 1 rfl ?_
                              refine e_Ok.getr (z := 19) rfl (el_o rfl) rfl rfl (Eq.trans (e_Has.eq hT (kt_o rfl)) (by omega)) ⟨by decide, by decide⟩ ?_
                              refine e_Ok.run (t' := (106, [(0, (1, 0)), (1, (0, p1)), (2, (0, p2)), (3, (0, p3)), (4, (0, p4)), (5, (0, p5))], [(0, p5), (0, p4), (0, p3), (0, p2), (0, p1), (1, 19)], w)) 5 rfl ?_
                              refine e_Ok.callV rfl (e_dq hd rfl) rfl rfl rfl rfl (c_75_ex (e_dq hd rfl) hT (by omega) (by omega) (by omega) (by omega) (by omega) (by omega)) (fun r172 w173 h174 => ?_)
                              obtain ⟨z175, rfl, q176⟩ := h174
                              refine e_Ok.nrm (q := 109) (st' := [(0, z175)]) rfl rfl ?_
                              refine e_Ok.rets rfl rfl ?_
                              exact ⟨_, rfl, Or.inr ⟨by omega, q176.2.1, q176.2.2⟩⟩
                            · replace h171 : (w 19 0 : Int) ≥ 4 := Int.not_lt.mp (show ¬ ((w 19 0 : Int) < 4) from h171)
                              refine e_Ok.ps1 (x := (0, (-3))) (q := 94) 1 rfl ?_
                              refine e_Ok.rets rfl rfl ?_
                              exact ⟨_, rfl, Or.inl ⟨rfl, by omega⟩⟩
                          · replace h170 : (w 0 13 : Int) ≠ 0 := (show ¬ ((w 0 13 : Int) = 0) from h170)
                            refine e_Ok.ps1 (x := (0, (-2))) (q := 80) 1 rfl ?_
                            refine e_Ok.rets rfl rfl ?_
                            exact ⟨_, rfl, Or.inl ⟨rfl, by omega⟩⟩
                        · replace h169 : (1 : Int) = 0 := Classical.not_not.mp (show ¬ ((1 : Int) ≠ 0) from h169)
                          exfalso; omega
                      · refine e_Ok.nrm (q := 66) (st' := [(0, 0)]) rfl rfl ?_
                        refine e_Ok.if1 rfl (fun h177 => ?_) (fun h177 => ?_)
                        · replace h177 : (0 : Int) ≠ 0 := h177
                          exfalso; omega
                        · replace h177 : (0 : Int) = 0 := Classical.not_not.mp (show ¬ ((0 : Int) ≠ 0) from h177)
                          refine e_Ok.ps1 (x := (0, (-1))) (q := 70) 1 rfl ?_
                          refine e_Ok.rets rfl rfl ?_
                          exact ⟨_, rfl, Or.inl ⟨rfl, by omega⟩⟩
                · replace h24 : (1 : Int) = 0 := Classical.not_not.mp (show ¬ ((1 : Int) ≠ 0) from h24)
                  exfalso; omega
              · refine e_Ok.nrm (q := 40) (st' := [(0, 0)]) rfl rfl ?_
                refine e_Ok.if1 rfl (fun h178 => ?_) (fun h178 => ?_)
                · replace h178 : (0 : Int) ≠ 0 := h178
                  exfalso; omega
                · replace h178 : (0 : Int) = 0 := Classical.not_not.mp (show ¬ ((0 : Int) ≠ 0) from h178)
                  refine e_Ok.ps1 (x := (0, (-1))) (q := 44) 1 rfl ?_
                  refine e_Ok.rets rfl rfl ?_
                  exact ⟨_, rfl, Or.inl ⟨rfl, by omega⟩⟩
          · refine e_Ok.nrm (q := 28) (st' := [(0, 0)]) rfl rfl ?_
            refine e_Ok.if1 rfl (fun h179 => ?_) (fun h179 => ?_)
            · replace h179 : (0 : Int) = 0 := h179
              refine e_Ok.ps1 (x := (0, (-1))) (q := 44) 1 rfl ?_
              refine e_Ok.rets rfl rfl ?_
              exact ⟨_, rfl, Or.inl ⟨rfl, by omega⟩⟩
            · replace h179 : (0 : Int) ≠ 0 := (show ¬ ((0 : Int) = 0) from h179)
              exfalso; omega
        · replace h12 : (1 : Int) = 0 := Classical.not_not.mp (show ¬ ((1 : Int) ≠ 0) from h12)
          exfalso; omega
      · refine e_Ok.nrm (q := 14) (st' := [(0, 0)]) rfl rfl ?_
        refine e_Ok.if1 rfl (fun h180 => ?_) (fun h180 => ?_)
        · replace h180 : (0 : Int) ≠ 0 := h180
          exfalso; omega
        · replace h180 : (0 : Int) = 0 := Classical.not_not.mp (show ¬ ((0 : Int) ≠ 0) from h180)
          refine e_Ok.ps1 (x := (0, (-1))) (q := 18) 1 rfl ?_
          refine e_Ok.rets rfl rfl ?_
          exact ⟨_, rfl, Or.inl ⟨rfl, by omega⟩⟩
  · refine e_Ok.nrm (q := 5) (st' := [(0, 0)]) rfl rfl ?_
    refine e_Ok.if1 rfl (fun h181 => ?_) (fun h181 => ?_)
    · replace h181 : (0 : Int) = 0 := h181
      refine e_Ok.ps1 (x := (0, (-1))) (q := 18) 1 rfl ?_
      refine e_Ok.rets rfl rfl ?_
      exact ⟨_, rfl, Or.inl ⟨rfl, by omega⟩⟩
    · replace h181 : (0 : Int) ≠ 0 := (show ¬ ((0 : Int) = 0) from h181)
      exfalso; omega
end
