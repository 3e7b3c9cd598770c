noncomputable section
/-! the class: what builds a cell, exactly -/
theorem c_243_ex {d : Nat} (hd : 21 ≤ d) {w : eW} {x : Int} (g_x : -2147483648 ≤ x ∧ x ≤ 2147483647) {y : Int} (g_y : -2147483648 ≤ y ∧ y ≤ 2147483647) : e_Ok 20 elay kcode eI d 243 (0, [(0, (0, x)), (1, (0, y))], [], w) (fun r w' => ∃ z : Int, r = [(0, z)] ∧ w = w' ∧ ((z = 1 ∧ (-16000 ≤ x ∧ x ≤ 16000) ∧ -16000 ≤ y ∧ y ≤ 16000) ∨ (z = 0 ∧ ¬ ((-16000 ≤ x ∧ x ≤ 16000) ∧ -16000 ≤ y ∧ y ≤ 16000)))) := by
  obtain ⟨d, rfl⟩ : ∃ e, d = e + 1 := ⟨d - 1, by omega⟩
  refine e_Ok.ps3 (x := (0, 16000)) (y := (0, (-16000))) (z := (0, x)) (q := 7) 3 rfl ?_
  refine e_Ok.callS rfl (e_dq hd rfl) rfl rfl (c_242 (by omega) (by omega) (by omega)) (fun r1 w2 h3 => ?_)
  obtain ⟨z4, rfl, rfl, q5⟩ := h3
  obtain ⟨rfl, q5⟩ | ⟨rfl, q5⟩ := q5
  · refine e_Ok.nrm (q := 10) (st' := [(0, 1)]) rfl rfl ?_
    refine e_Ok.if1 rfl (fun h6 => ?_) (fun h6 => ?_)
    · replace h6 : (1 : Int) = 0 := h6
      exfalso; omega
    · replace h6 : (1 : Int) ≠ 0 := (show ¬ ((1 : Int) = 0) from h6)
      refine e_Ok.ps3 (x := (0, 16000)) (y := (0, (-16000))) (z := (0, y)) (q := 20) 3 rfl ?_
      refine e_Ok.callS rfl (e_dq hd rfl) rfl rfl (c_242 (by omega) (by omega) (by omega)) (fun r7 w8 h9 => ?_)
      obtain ⟨z10, rfl, rfl, q11⟩ := h9
      obtain ⟨rfl, q11⟩ | ⟨rfl, q11⟩ := q11
      · refine e_Ok.nrm (q := 23) (st' := [(0, 1)]) rfl rfl ?_
        refine e_Ok.if1 rfl (fun h12 => ?_) (fun h12 => ?_)
        · replace h12 : (1 : Int) = 0 := h12
          exfalso; omega
        · replace h12 : (1 : Int) ≠ 0 := (show ¬ ((1 : Int) = 0) from h12)
          refine e_Ok.ps1 (x := (0, 1)) (q := 31) 2 rfl ?_
          refine e_Ok.rets rfl rfl ?_
          exact ⟨_, rfl, rfl, by omega⟩
      · refine e_Ok.nrm (q := 23) (st' := [(0, 0)]) rfl rfl ?_
        refine e_Ok.if1 rfl (fun h13 => ?_) (fun h13 => ?_)
        · replace h13 : (0 : Int) = 0 := h13
          refine e_Ok.ps1 (x := (0, 0)) (q := 31) 1 rfl ?_
          refine e_Ok.rets rfl rfl ?_
          exact ⟨_, rfl, rfl, by omega⟩
        · replace h13 : (0 : Int) ≠ 0 := (show ¬ ((0 : Int) = 0) from h13)
          exfalso; omega
  · refine e_Ok.nrm (q := 10) (st' := [(0, 0)]) rfl rfl ?_
    refine e_Ok.if1 rfl (fun h14 => ?_) (fun h14 => ?_)
    · replace h14 : (0 : Int) = 0 := h14
      refine e_Ok.ps1 (x := (0, 0)) (q := 31) 1 rfl ?_
      refine e_Ok.rets rfl rfl ?_
      exact ⟨_, rfl, rfl, by omega⟩
    · replace h14 : (0 : Int) ≠ 0 := (show ¬ ((0 : Int) = 0) from h14)
      exfalso; omega
theorem c_244_ex {d : Nat} (hd : 22 ≤ d) {w : eW} {x : Int} (g_x : -2147483648 ≤ x ∧ x ≤ 2147483647) {y : Int} (g_y : -2147483648 ≤ y ∧ y ≤ 2147483647) {u : Int} (g_u : -2147483648 ≤ u ∧ u ≤ 2147483647) {v : Int} (g_v : -2147483648 ≤ v ∧ v ≤ 2147483647) : e_Ok 20 elay kcode eI d 244 (0, [(0, (0, x)), (1, (0, y)), (2, (0, u)), (3, (0, v))], [], w) (fun r w' => ∃ z : Int, r = [(0, z)] ∧ w = w' ∧ ((z = 1 ∧ ((-16000 ≤ x ∧ x ≤ 16000) ∧ -16000 ≤ y ∧ y ≤ 16000) ∧ (0 ≤ u ∧ u ≤ 16000 - x) ∧ 0 ≤ v ∧ v ≤ 16000 - y) ∨ (z = 0 ∧ ¬ (((-16000 ≤ x ∧ x ≤ 16000) ∧ -16000 ≤ y ∧ y ≤ 16000) ∧ (0 ≤ u ∧ u ≤ 16000 - x) ∧ 0 ≤ v ∧ v ≤ 16000 - y)))) := by
  obtain ⟨d, rfl⟩ : ∃ e, d = e + 1 := ⟨d - 1, by omega⟩
  refine e_Ok.ps2 (x := (0, y)) (y := (0, x)) (q := 2) 2 rfl ?_
  refine e_Ok.callS rfl (e_dq hd rfl) rfl rfl (c_243_ex (e_dq hd rfl) (by omega) (by omega)) (fun r1 w2 h3 => ?_)
  obtain ⟨z4, rfl, rfl, q5⟩ := h3
  obtain ⟨rfl, q5⟩ | ⟨rfl, q5⟩ := q5
  · refine e_Ok.nrm (q := 5) (st' := [(0, 1)]) rfl rfl ?_
    refine e_Ok.if1 rfl (fun h6 => ?_) (fun h6 => ?_)
    · replace h6 : (1 : Int) = 0 := h6
      exfalso; omega
    · replace h6 : (1 : Int) ≠ 0 := (show ¬ ((1 : Int) = 0) from h6)
      refine e_Ok.ps4 (x := (0, x)) (y := (0, 16000)) (z := (0, 0)) (u := (0, u)) (q := 14) 4 rfl ?_
      refine e_Ok.sub' (z := -x + 16000) rfl (by omega) (by omega) ?_
      refine e_Ok.callS rfl (e_dq hd rfl) rfl rfl (c_242 (by omega) (by omega) (by omega)) (fun r7 w8 h9 => ?_)
      obtain ⟨z10, rfl, rfl, q11⟩ := h9
      obtain ⟨rfl, q11⟩ | ⟨rfl, q11⟩ := q11
      · refine e_Ok.nrm (q := 18) (st' := [(0, 1)]) rfl rfl ?_
        refine e_Ok.if1 rfl (fun h12 => ?_) (fun h12 => ?_)
        · replace h12 : (1 : Int) = 0 := h12
          exfalso; omega
        · replace h12 : (1 : Int) ≠ 0 := (show ¬ ((1 : Int) = 0) from h12)
          refine e_Ok.ps4 (x := (0, y)) (y := (0, 16000)) (z := (0, 0)) (u := (0, v)) (q := 27) 4 rfl ?_
          refine e_Ok.sub' (z := -y + 16000) rfl (by omega) (by omega) ?_
          refine e_Ok.callS rfl (e_dq hd rfl) rfl rfl (c_242 (by omega) (by omega) (by omega)) (fun r13 w14 h15 => ?_)
          obtain ⟨z16, rfl, rfl, q17⟩ := h15
          obtain ⟨rfl, q17⟩ | ⟨rfl, q17⟩ := q17
          · refine e_Ok.nrm (q := 31) (st' := [(0, 1)]) rfl rfl ?_
            refine e_Ok.if1 rfl (fun h18 => ?_) (fun h18 => ?_)
            · replace h18 : (1 : Int) = 0 := h18
              exfalso; omega
            · replace h18 : (1 : Int) ≠ 0 := (show ¬ ((1 : Int) = 0) from h18)
              refine e_Ok.ps1 (x := (0, 1)) (q := 39) 2 rfl ?_
              refine e_Ok.rets rfl rfl ?_
              exact ⟨_, rfl, rfl, by omega⟩
          · refine e_Ok.nrm (q := 31) (st' := [(0, 0)]) rfl rfl ?_
            refine e_Ok.if1 rfl (fun h19 => ?_) (fun h19 => ?_)
            · replace h19 : (0 : Int) = 0 := h19
              refine e_Ok.ps1 (x := (0, 0)) (q := 39) 1 rfl ?_
              refine e_Ok.rets rfl rfl ?_
              exact ⟨_, rfl, rfl, by omega⟩
            · replace h19 : (0 : Int) ≠ 0 := (show ¬ ((0 : Int) = 0) from h19)
              exfalso; omega
      · refine e_Ok.nrm (q := 18) (st' := [(0, 0)]) rfl rfl ?_
        refine e_Ok.if1 rfl (fun h20 => ?_) (fun h20 => ?_)
        · replace h20 : (0 : Int) = 0 := h20
          refine e_Ok.ps1 (x := (0, 0)) (q := 39) 1 rfl ?_
          refine e_Ok.rets rfl rfl ?_
          exact ⟨_, rfl, rfl, by omega⟩
        · replace h20 : (0 : Int) ≠ 0 := (show ¬ ((0 : Int) = 0) from h20)
          exfalso; omega
  · refine e_Ok.nrm (q := 5) (st' := [(0, 0)]) rfl rfl ?_
    refine e_Ok.if1 rfl (fun h21 => ?_) (fun h21 => ?_)
    · replace h21 : (0 : Int) = 0 := h21
      refine e_Ok.ps1 (x := (0, 0)) (q := 39) 1 rfl ?_
      refine e_Ok.rets rfl rfl ?_
      exact ⟨_, rfl, rfl, by omega⟩
    · replace h21 : (0 : Int) ≠ 0 := (show ¬ ((0 : Int) = 0) from h21)
      exfalso; omega
theorem c_167_ex {d : Nat} (hd : 20 ≤ d) {w : eW} (hT : e_Has kTy w) {x : Int} (g_x : (-2147483648) ≤ x ∧ x ≤ 2147483647) {y : Int} (g_y : (-2147483648) ≤ y ∧ y ≤ 2147483647) {u : Int} (g_u : (-2147483648) ≤ u ∧ u ≤ 2147483647) {v : Int} (g_v : (-2147483648) ≤ v ∧ v ≤ 2147483647) {s : Int} (g_s : (-2147483648) ≤ s ∧ s ≤ 2147483647) : e_Ok 20 elay kcode eI d 167 (0, [(0, (1, 250)), (1, (0, x)), (2, (0, y)), (3, (0, u)), (4, (0, v)), (5, (0, s))], [], w) (fun r w' => ∃ z : Int, r = [(0, z)] ∧ ((w = w' ∧ w 250 0 = 16 ∧ z = -3) ∨ (¬ (w 250 0 = 16) ∧ z = w 250 0 ∧ w' = e_up (e_up (e_up (e_up (e_up (e_up w (251) (w 250 0) (x)) (252) (w 250 0) (y)) (253) (w 250 0) (u)) (254) (w 250 0) (v)) (255) (w 250 0) (s)) (250) (0) (w 250 0 + 1)))) := by
  have hw0 := e_Has.get hT (c := 0) (k := 11) (lo := 0) (hi := 4) (kt_o rfl) (by decide)
  have hb0 := e_Has.get hT (c := 19) (k := 0) (lo := 0) (hi := 4) (kt_o rfl) (by decide)
  have hz0 := e_Has.get hT (c := 250) (k := 1) (lo := 0) (hi := 8) (kt_o rfl) (by decide)
  have hs0 := e_Has.get hT (c := 250) (k := 0) (lo := 0) (hi := 16) (kt_o rfl) (by decide)
  have hi0 := e_Has.get hT (c := 74) (k := 2) (lo := 0) (hi := 8) (kt_o rfl) (by decide)
  refine e_Ok.ps1 (x := (1, 250)) (q := 1) 1 rfl ?_
  refine e_Ok.getf (z := w 250 0) rfl (el_o rfl) rfl rfl rfl (by omega) ?_
  refine e_Ok.ps1 (x := (0, 16)) (q := 6) 1 rfl ?_
  refine e_Ok.if2 rfl (fun h1 => ?_) (fun h1 => ?_)
  · replace h1 : (w 250 0 : Int) < 16 := h1
    refine e_Ok.ps1 (x := (1, 250)) (q := 13) 1 rfl ?_
    refine e_Ok.getr (z := 251) rfl (el_o rfl) rfl rfl (Eq.trans (e_Has.eq hT (kt_o rfl)) (by omega)) ⟨by decide, by decide⟩ ?_
    refine e_Ok.ps1 (x := (1, 250)) (q := 17) 1 rfl ?_
    refine e_Ok.getf (z := w 250 0) rfl (el_o rfl) rfl rfl rfl (by omega) ?_
    refine e_Ok.ps1 (x := (0, x)) (q := 21) 1 rfl ?_
    refine e_Ok.ast rfl (el_o rfl) rfl rfl (by omega) ?_
    generalize hw2 : e_up w 251 (w 250 0) x = w2
    have hT3 : e_Has kTy w2 := e_Has.upr hT hw2 (kt_o rfl) (by omega)
    refine e_Ok.ps1 (x := (1, 250)) (q := 23) 1 rfl ?_
    refine e_Ok.getr (z := 252) rfl (el_o rfl) rfl rfl (e_uq hw2 (Or.inl (by decide)) (Eq.trans (e_Has.eq hT (kt_o rfl)) (by omega))) ⟨by decide, by decide⟩ ?_
    refine e_Ok.ps1 (x := (1, 250)) (q := 27) 1 rfl ?_
    refine e_Ok.getf (z := w 250 0) rfl (el_o rfl) rfl rfl (e_uq hw2 (Or.inl (by decide)) rfl) (by omega) ?_
    refine e_Ok.ps1 (x := (0, y)) (q := 31) 1 rfl ?_
    refine e_Ok.ast rfl (el_o rfl) rfl rfl (by omega) ?_
    generalize hw4 : e_up w2 252 (w 250 0) y = w4
    have hT5 : e_Has kTy w4 := e_Has.upr hT3 hw4 (kt_o rfl) (by omega)
    refine e_Ok.ps1 (x := (1, 250)) (q := 33) 1 rfl ?_
    refine e_Ok.getr (z := 253) rfl (el_o rfl) rfl rfl (e_uq hw4 (Or.inl (by decide)) (e_uq hw2 (Or.inl (by decide)) (Eq.trans (e_Has.eq hT (kt_o rfl)) (by omega)))) ⟨by decide, by decide⟩ ?_
    refine e_Ok.ps1 (x := (1, 250)) (q := 37) 1 rfl ?_
    refine e_Ok.getf (z := w 250 0) rfl (el_o rfl) rfl rfl (e_uq hw4 (Or.inl (by decide)) (e_uq hw2 (Or.inl (by decide)) rfl)) (by omega) ?_
    refine e_Ok.ps1 (x := (0, u)) (q := 41) 1 rfl ?_
    refine e_Ok.ast rfl (el_o rfl) rfl rfl (by omega) ?_
    generalize hw6 : e_up w4 253 (w 250 0) u = w6
    have hT7 : e_Has kTy w6 := e_Has.upr hT5 hw6 (kt_o rfl) (by omega)
    refine e_Ok.ps1 (x := (1, 250)) (q := 43) 1 rfl ?_
    refine e_Ok.getr (z := 254) rfl (el_o rfl) rfl rfl (e_uq hw6 (Or.inl (by decide)) (e_uq hw4 (Or.inl (by decide)) (e_uq hw2 (Or.inl (by decide)) (Eq.trans (e_Has.eq hT (kt_o rfl)) (by omega))))) ⟨by decide, by decide⟩ ?_
    refine e_Ok.ps1 (x := (1, 250)) (q := 47) 1 rfl ?_
    refine e_Ok.getf (z := w 250 0) rfl (el_o rfl) rfl rfl (e_uq hw6 (Or.inl (by decide)) (e_uq hw4 (Or.inl (by decide)) (e_uq hw2 (Or.inl (by decide)) rfl))) (by omega) ?_
    refine e_Ok.ps1 (x := (0, v)) (q := 52) 1 rfl ?_
    refine e_Ok.ast rfl (el_o rfl) rfl rfl (by omega) ?_
    generalize hw8 : e_up w6 254 (w 250 0) v = w8
    have hT9 : e_Has kTy w8 := e_Has.upr hT7 hw8 (kt_o rfl) (by omega)
    refine e_Ok.ps1 (x := (1, 250)) (q := 54) 1 rfl ?_
    refine e_Ok.getr (z := 255) rfl (el_o rfl) rfl rfl (e_uq hw8 (Or.inl (by decide)) (e_uq hw6 (Or.inl (by decide)) (e_uq hw4 (Or.inl (by decide)) (e_uq hw2 (Or.inl (by decide)) (Eq.trans (e_Has.eq hT (kt_o rfl)) (by omega)))))) ⟨by decide, by decide⟩ ?_
    refine e_Ok.ps1 (x := (1, 250)) (q := 58) 1 rfl ?_
    refine e_Ok.getf (z := w 250 0) rfl (el_o rfl) rfl rfl (e_uq hw8 (Or.inl (by decide)) (e_uq hw6 (Or.inl (by decide)) (e_uq hw4 (Or.inl (by decide)) (e_uq hw2 (Or.inl (by decide)) rfl)))) (by omega) ?_
    refine e_Ok.ps1 (x := (0, s)) (q := 63) 1 rfl ?_
    refine e_Ok.ast rfl (el_o rfl) rfl rfl (by omega) ?_
    generalize hw10 : e_up w8 255 (w 250 0) s = w10
    have hT11 : e_Has kTy w10 := e_Has.upr hT9 hw10 (kt_o rfl) (by omega)
    refine e_Ok.ps2 (x := (1, 250)) (y := (1, 250)) (q := 66) 2 rfl ?_
    refine e_Ok.getf (z := w 250 0) rfl (el_o rfl) rfl rfl (e_uq hw10 (Or.inl (by decide)) (e_uq hw8 (Or.inl (by decide)) (e_uq hw6 (Or.inl (by decide)) (e_uq hw4 (Or.inl (by decide)) (e_uq hw2 (Or.inl (by decide)) rfl))))) (by omega) ?_
    refine e_Ok.ps1 (x := (0, 1)) (q := 70) 1 rfl ?_
    refine e_Ok.add (z := w 250 0 + 1) rfl rfl (by omega) ?_
    refine e_Ok.putf rfl (el_o rfl) rfl rfl ?_
    generalize hw12 : e_up w10 250 0 (w 250 0 + 1) = w12
    have hT13 : e_Has kTy w12 := e_Has.upr hT11 hw12 (kt_o rfl) (by omega)
    refine e_Ok.ps1 (x := (1, 250)) (q := 75) 1 rfl ?_
    refine e_Ok.getf (z := w 250 0 + 1) rfl (el_o rfl) rfl rfl (e_ue hw12) (by omega) ?_
    refine e_Ok.ps1 (x := (0, 1)) (q := 79) 1 rfl ?_
    refine e_Ok.sub' (z := w 250 0) rfl (by omega) (by omega) ?_
    refine e_Ok.rets rfl rfl ?_
    exact ⟨_, rfl, Or.inr ⟨by omega, by omega, by rw [← hw12, ← hw10, ← hw8, ← hw6, ← hw4, ← hw2]⟩⟩
  · replace h1 : (w 250 0 : Int) ≥ 16 := Int.not_lt.mp (show ¬ ((w 250 0 : Int) < 16) from h1)
    refine e_Ok.ps1 (x := (0, (-3))) (q := 11) 1 rfl ?_
    refine e_Ok.rets rfl rfl ?_
    exact ⟨_, rfl, Or.inl ⟨rfl, by omega⟩⟩
theorem c_168_ex {d : Nat} (hd : 20 ≤ d) {w : eW} (hT : e_Has kTy w) {x : Int} (g_x : 0 ≤ x ∧ x ≤ 3) {y : Int} (g_y : (-16000) ≤ y ∧ y ≤ 16000) {u : Int} (g_u : (-16000) ≤ u ∧ u ≤ 16000) {v : Int} (g_v : 0 ≤ v ∧ v ≤ 32000) {s : Int} (g_s : 0 ≤ s ∧ s ≤ 32000) : e_Ok 20 elay kcode eI d 168 (0, [(0, (1, 250)), (1, (0, x)), (2, (0, y)), (3, (0, u)), (4, (0, v)), (5, (0, s))], [], w) (fun r w' => ∃ z : Int, r = [(0, z)] ∧ ((w = w' ∧ w 250 1 = 8 ∧ z = -3) ∨ (¬ (w 250 1 = 8) ∧ z = w 250 1 ∧ w' = e_up (e_up (e_up (e_up (e_up (e_up (e_up w (256) (w 250 1) (x)) (258) (w 250 1) (y)) (259) (w 250 1) (u)) (260) (w 250 1) (y + v)) (261) (w 250 1) (u + s)) (257) (w 250 1) (-1)) (250) (1) (w 250 1 + 1)))) := by
  have hw0 := e_Has.get hT (c := 0) (k := 11) (lo := 0) (hi := 4) (kt_o rfl) (by decide)
  have hb0 := e_Has.get hT (c := 19) (k := 0) (lo := 0) (hi := 4) (kt_o rfl) (by decide)
  have hz0 := e_Has.get hT (c := 250) (k := 1) (lo := 0) (hi := 8) (kt_o rfl) (by decide)
  have hs0 := e_Has.get hT (c := 250) (k := 0) (lo := 0) (hi := 16) (kt_o rfl) (by decide)
  have hi0 := e_Has.get hT (c := 74) (k := 2) (lo := 0) (hi := 8) (kt_o rfl) (by decide)
  refine e_Ok.ps1 (x := (1, 250)) (q := 1) 1 rfl ?_
  refine e_Ok.getf (z := w 250 1) rfl (el_o rfl) rfl rfl rfl (by omega) ?_
  refine e_Ok.ps1 (x := (0, 8)) (q := 6) 1 rfl ?_
  refine e_Ok.if2 rfl (fun h1 => ?_) (fun h1 => ?_)
  · replace h1 : (w 250 1 : Int) < 8 := h1
    refine e_Ok.ps1 (x := (1, 250)) (q := 13) 1 rfl ?_
    refine e_Ok.getr (z := 256) rfl (el_o rfl) rfl rfl (Eq.trans (e_Has.eq hT (kt_o rfl)) (by omega)) ⟨by decide, by decide⟩ ?_
    refine e_Ok.ps1 (x := (1, 250)) (q := 17) 1 rfl ?_
    refine e_Ok.getf (z := w 250 1) rfl (el_o rfl) rfl rfl rfl (by omega) ?_
    refine e_Ok.ps1 (x := (0, x)) (q := 21) 1 rfl ?_
    refine e_Ok.ast rfl (el_o rfl) rfl rfl (by omega) ?_
    generalize hw2 : e_up w 256 (w 250 1) x = w2
    have hT3 : e_Has kTy w2 := e_Has.upr hT hw2 (kt_o rfl) (by omega)
    refine e_Ok.ps1 (x := (1, 250)) (q := 23) 1 rfl ?_
    refine e_Ok.getr (z := 258) rfl (el_o rfl) rfl rfl (e_uq hw2 (Or.inl (by decide)) (Eq.trans (e_Has.eq hT (kt_o rfl)) (by omega))) ⟨by decide, by decide⟩ ?_
    refine e_Ok.ps1 (x := (1, 250)) (q := 27) 1 rfl ?_
    refine e_Ok.getf (z := w 250 1) rfl (el_o rfl) rfl rfl (e_uq hw2 (Or.inl (by decide)) rfl) (by omega) ?_
    refine e_Ok.ps1 (x := (0, y)) (q := 31) 1 rfl ?_
    refine e_Ok.ast rfl (el_o rfl) rfl rfl (by omega) ?_
    generalize hw4 : e_up w2 258 (w 250 1) y = w4
    have hT5 : e_Has kTy w4 := e_Has.upr hT3 hw4 (kt_o rfl) (by omega)
    refine e_Ok.ps1 (x := (1, 250)) (q := 33) 1 rfl ?_
    refine e_Ok.getr (z := 259) rfl (el_o rfl) rfl rfl (e_uq hw4 (Or.inl (by decide)) (e_uq hw2 (Or.inl (by decide)) (Eq.trans (e_Has.eq hT (kt_o rfl)) (by omega)))) ⟨by decide, by decide⟩ ?_
    refine e_Ok.ps1 (x := (1, 250)) (q := 37) 1 rfl ?_
    refine e_Ok.getf (z := w 250 1) rfl (el_o rfl) rfl rfl (e_uq hw4 (Or.inl (by decide)) (e_uq hw2 (Or.inl (by decide)) rfl)) (by omega) ?_
    refine e_Ok.ps1 (x := (0, u)) (q := 41) 1 rfl ?_
    refine e_Ok.ast rfl (el_o rfl) rfl rfl (by omega) ?_
    generalize hw6 : e_up w4 259 (w 250 1) u = w6
    have hT7 : e_Has kTy w6 := e_Has.upr hT5 hw6 (kt_o rfl) (by omega)
    refine e_Ok.ps1 (x := (1, 250)) (q := 43) 1 rfl ?_
    refine e_Ok.getr (z := 260) rfl (el_o rfl) rfl rfl (e_uq hw6 (Or.inl (by decide)) (e_uq hw4 (Or.inl (by decide)) (e_uq hw2 (Or.inl (by decide)) (Eq.trans (e_Has.eq hT (kt_o rfl)) (by omega))))) ⟨by decide, by decide⟩ ?_
    refine e_Ok.ps1 (x := (1, 250)) (q := 47) 1 rfl ?_
    refine e_Ok.getf (z := w 250 1) rfl (el_o rfl) rfl rfl (e_uq hw6 (Or.inl (by decide)) (e_uq hw4 (Or.inl (by decide)) (e_uq hw2 (Or.inl (by decide)) rfl))) (by omega) ?_
    refine e_Ok.ps2 (x := (0, v)) (y := (0, y)) (q := 53) 2 rfl ?_
    refine e_Ok.add (z := y + v) rfl rfl (by omega) ?_
    refine e_Ok.ast rfl (el_o rfl) rfl rfl (by omega) ?_
    generalize hw8 : e_up w6 260 (w 250 1) (y + v) = w8
    have hT9 : e_Has kTy w8 := e_Has.upr hT7 hw8 (kt_o rfl) (by omega)
    refine e_Ok.ps1 (x := (1, 250)) (q := 56) 1 rfl ?_
    refine e_Ok.getr (z := 261) rfl (el_o rfl) rfl rfl (e_uq hw8 (Or.inl (by decide)) (e_uq hw6 (Or.inl (by decide)) (e_uq hw4 (Or.inl (by decide)) (e_uq hw2 (Or.inl (by decide)) (Eq.trans (e_Has.eq hT (kt_o rfl)) (by omega)))))) ⟨by decide, by decide⟩ ?_
    refine e_Ok.ps1 (x := (1, 250)) (q := 60) 1 rfl ?_
    refine e_Ok.getf (z := w 250 1) rfl (el_o rfl) rfl rfl (e_uq hw8 (Or.inl (by decide)) (e_uq hw6 (Or.inl (by decide)) (e_uq hw4 (Or.inl (by decide)) (e_uq hw2 (Or.inl (by decide)) rfl)))) (by omega) ?_
    refine e_Ok.ps2 (x := (0, s)) (y := (0, u)) (q := 66) 2 rfl ?_
    refine e_Ok.add (z := u + s) rfl rfl (by omega) ?_
    refine e_Ok.ast rfl (el_o rfl) rfl rfl (by omega) ?_
    generalize hw10 : e_up w8 261 (w 250 1) (u + s) = w10
    have hT11 : e_Has kTy w10 := e_Has.upr hT9 hw10 (kt_o rfl) (by omega)
    refine e_Ok.ps1 (x := (1, 250)) (q := 69) 1 rfl ?_
    refine e_Ok.getr (z := 257) rfl (el_o rfl) rfl rfl (e_uq hw10 (Or.inl (by decide)) (e_uq hw8 (Or.inl (by decide)) (e_uq hw6 (Or.inl (by decide)) (e_uq hw4 (Or.inl (by decide)) (e_uq hw2 (Or.inl (by decide)) (Eq.trans (e_Has.eq hT (kt_o rfl)) (by omega))))))) ⟨by decide, by decide⟩ ?_
    refine e_Ok.ps1 (x := (1, 250)) (q := 73) 1 rfl ?_
    refine e_Ok.getf (z := w 250 1) rfl (el_o rfl) rfl rfl (e_uq hw10 (Or.inl (by decide)) (e_uq hw8 (Or.inl (by decide)) (e_uq hw6 (Or.inl (by decide)) (e_uq hw4 (Or.inl (by decide)) (e_uq hw2 (Or.inl (by decide)) rfl))))) (by omega) ?_
    refine e_Ok.ps1 (x := (0, (-1))) (q := 77) 1 rfl ?_
    refine e_Ok.ast rfl (el_o rfl) rfl rfl (by omega) ?_
    generalize hw12 : e_up w10 257 (w 250 1) (-1) = w12
    have hT13 : e_Has kTy w12 := e_Has.upr hT11 hw12 (kt_o rfl) (by omega)
    refine e_Ok.ps2 (x := (1, 250)) (y := (1, 250)) (q := 80) 2 rfl ?_
    refine e_Ok.getf (z := w 250 1) rfl (el_o rfl) rfl rfl (e_uq hw12 (Or.inl (by decide)) (e_uq hw10 (Or.inl (by decide)) (e_uq hw8 (Or.inl (by decide)) (e_uq hw6 (Or.inl (by decide)) (e_uq hw4 (Or.inl (by decide)) (e_uq hw2 (Or.inl (by decide)) rfl)))))) (by omega) ?_
    refine e_Ok.ps1 (x := (0, 1)) (q := 84) 1 rfl ?_
    refine e_Ok.add (z := w 250 1 + 1) rfl rfl (by omega) ?_
    refine e_Ok.putf rfl (el_o rfl) rfl rfl ?_
    generalize hw14 : e_up w12 250 1 (w 250 1 + 1) = w14
    have hT15 : e_Has kTy w14 := e_Has.upr hT13 hw14 (kt_o rfl) (by omega)
    refine e_Ok.ps1 (x := (1, 250)) (q := 89) 1 rfl ?_
    refine e_Ok.getf (z := w 250 1 + 1) rfl (el_o rfl) rfl rfl (e_ue hw14) (by omega) ?_
    refine e_Ok.ps1 (x := (0, 1)) (q := 93) 1 rfl ?_
    refine e_Ok.sub' (z := w 250 1) rfl (by omega) (by omega) ?_
    refine e_Ok.rets rfl rfl ?_
    exact ⟨_, rfl, Or.inr ⟨by omega, by omega, by rw [← hw14, ← hw12, ← hw10, ← hw8, ← hw6, ← hw4, ← hw2]⟩⟩
  · replace h1 : (w 250 1 : Int) ≥ 8 := Int.not_lt.mp (show ¬ ((w 250 1 : Int) < 8) from h1)
    refine e_Ok.ps1 (x := (0, (-3))) (q := 11) 1 rfl ?_
    refine e_Ok.rets rfl rfl ?_
    exact ⟨_, rfl, Or.inl ⟨rfl, by omega⟩⟩
theorem c_197_ex {d : Nat} (hd : 24 ≤ d) {w : eW} (hT : e_Has kTy w) (hO : 0 ≤ w 0 13 ∧ w 0 13 ≤ 1) {p1 : Int} (g1 : (-2147483648) ≤ p1 ∧ p1 ≤ 2147483647) {p2 : Int} (g2 : (-2147483648) ≤ p2 ∧ p2 ≤ 2147483647) {p3 : Int} (g3 : (-2147483648) ≤ p3 ∧ p3 ≤ 2147483647) : e_Ok 20 elay kcode eI d 197 (0, [(0, (1, 0)), (1, (0, p1)), (2, (0, p2)), (3, (0, p3))], [], w) (fun r w' => ∃ z : Int, r = [(0, z)] ∧ ((w = w' ∧ ((¬ ((-16000 ≤ p1 ∧ p1 ≤ 16000) ∧ (-16000 ≤ p2 ∧ p2 ≤ 16000) ∧ 0 ≤ p3 ∧ p3 ≤ 8000) ∧ z = -1) ∨ (((-16000 ≤ p1 ∧ p1 ≤ 16000) ∧ (-16000 ≤ p2 ∧ p2 ≤ 16000) ∧ 0 ≤ p3 ∧ p3 ≤ 8000) ∧ ((w 0 13 ≠ 0 ∧ z = -2) ∨ (w 0 13 = 0 ∧ w 250 0 = 16 ∧ z = -3))))) ∨ ((((-16000 ≤ p1 ∧ p1 ≤ 16000) ∧ (-16000 ≤ p2 ∧ p2 ≤ 16000) ∧ 0 ≤ p3 ∧ p3 ≤ 8000) ∧ w 0 13 = 0 ∧ ¬ (w 250 0 = 16)) ∧ z = w 250 0 ∧ w' = e_up (e_up (e_up (e_up (e_up (e_up w (251) (w 250 0) (p1)) (252) (w 250 0) (p2)) (253) (w 250 0) (0)) (254) (w 250 0) (0)) (255) (w 250 0) (p3)) (250) (0) (w 250 0 + 1)))) := by
  obtain ⟨d, rfl⟩ : ∃ e, d = e + 1 := ⟨d - 1, by omega⟩
  have hw0 := e_Has.get hT (c := 0) (k := 11) (lo := 0) (hi := 4) (kt_o rfl) (by decide)
  have hb0 := e_Has.get hT (c := 19) (k := 0) (lo := 0) (hi := 4) (kt_o rfl) (by decide)
  have hz0 := e_Has.get hT (c := 250) (k := 1) (lo := 0) (hi := 8) (kt_o rfl) (by decide)
  have hs0 := e_Has.get hT (c := 250) (k := 0) (lo := 0) (hi := 16) (kt_o rfl) (by decide)
  have hi0 := e_Has.get hT (c := 74) (k := 2) (lo := 0) (hi := 8) (kt_o rfl) (by decide)
  refine e_Ok.ps2 (x := (0, p2)) (y := (0, p1)) (q := 2) 2 rfl ?_
  refine e_Ok.callS rfl (e_dq hd rfl) rfl rfl (c_243_ex (e_dq hd rfl) (by omega) (by omega)) (fun r1 w2 h3 => ?_)
  obtain ⟨z4, rfl, rfl, q5⟩ := h3
  obtain ⟨rfl, q5⟩ | ⟨rfl, q5⟩ := q5
  · refine e_Ok.nrm (q := 5) (st' := [(0, 1)]) rfl rfl ?_
    refine e_Ok.if1 rfl (fun h6 => ?_) (fun h6 => ?_)
    · replace h6 : (1 : Int) = 0 := h6
      exfalso; omega
    · replace h6 : (1 : Int) ≠ 0 := (show ¬ ((1 : Int) = 0) from h6)
      refine e_Ok.ps3 (x := (0, 8000)) (y := (0, 0)) (z := (0, p3)) (q := 13) 3 rfl ?_
      refine e_Ok.callS rfl (e_dq hd rfl) rfl rfl (c_242 (by omega) (by omega) (by omega)) (fun r7 w8 h9 => ?_)
      obtain ⟨z10, rfl, rfl, q11⟩ := h9
      obtain ⟨rfl, q11⟩ | ⟨rfl, q11⟩ := q11
      · refine e_Ok.nrm (q := 16) (st' := [(0, 1)]) rfl rfl ?_
        refine e_Ok.if1 rfl (fun h12 => ?_) (fun h12 => ?_)
        · replace h12 : (1 : Int) ≠ 0 := h12
          refine e_Ok.ps1 (x := (1, 0)) (q := 22) 1 rfl ?_
          refine e_Ok.getf (z := w 0 13) rfl (el_o rfl) rfl rfl rfl (by omega) ?_
          refine e_Ok.if1 rfl (fun h13 => ?_) (fun h13 => ?_)
          · replace h13 : (w 0 13 : Int) = 0 := h13
            refine e_Ok.ps1 (x := (1, 0)) (q := 32) 1 rfl ?_
            refine e_Ok.getr (z := 250) rfl (el_o rfl) rfl rfl (Eq.trans (e_Has.eq hT (kt_o rfl)) (by omega)) ⟨by decide, by decide⟩ ?_
            refine e_Ok.run (t' := (40, [(0, (1, 0)), (1, (0, p1)), (2, (0, p2)), (3, (0, p3))], [(0, p3), (0, 0), (0, 0), (0, p2), (0, p1), (1, 250)], w)) 5 rfl ?_
            refine e_Ok.callV rfl (e_dq hd rfl) rfl rfl rfl rfl (c_167_ex (e_dq hd rfl) hT (by omega) (by omega) (by omega) (by omega) (by omega)) (fun r14 w15 h16 => ?_)
            obtain ⟨z17, rfl, q18⟩ := h16
            refine e_Ok.nrm (q := 43) (st' := [(0, z17)]) rfl rfl ?_
            refine e_Ok.rets rfl rfl ?_
            exact ⟨_, rfl, Or.elim q18 (fun h => Or.inl ⟨h.1, by have e := h.2; omega⟩) (fun h => Or.inr ⟨by have e := h.1; omega, h.2.1, h.2.2⟩)⟩
          · replace h13 : (w 0 13 : Int) ≠ 0 := (show ¬ ((w 0 13 : Int) = 0) from h13)
            refine e_Ok.ps1 (x := (0, (-2))) (q := 30) 1 rfl ?_
            refine e_Ok.rets rfl rfl ?_
            exact ⟨_, rfl, Or.inl ⟨rfl, by omega⟩⟩
        · replace h12 : (1 : Int) = 0 := Classical.not_not.mp (show ¬ ((1 : Int) ≠ 0) from h12)
          exfalso; omega
      · refine e_Ok.nrm (q := 16) (st' := [(0, 0)]) rfl rfl ?_
        refine e_Ok.if1 rfl (fun h19 => ?_) (fun h19 => ?_)
        · replace h19 : (0 : Int) ≠ 0 := h19
          exfalso; omega
        · replace h19 : (0 : Int) = 0 := Classical.not_not.mp (show ¬ ((0 : Int) ≠ 0) from h19)
          refine e_Ok.ps1 (x := (0, (-1))) (q := 20) 1 rfl ?_
          refine e_Ok.rets rfl rfl ?_
          exact ⟨_, rfl, Or.inl ⟨rfl, by omega⟩⟩
  · refine e_Ok.nrm (q := 5) (st' := [(0, 0)]) rfl rfl ?_
    refine e_Ok.if1 rfl (fun h20 => ?_) (fun h20 => ?_)
    · replace h20 : (0 : Int) = 0 := h20
      refine e_Ok.ps1 (x := (0, (-1))) (q := 20) 1 rfl ?_
      refine e_Ok.rets rfl rfl ?_
      exact ⟨_, rfl, Or.inl ⟨rfl, by omega⟩⟩
    · replace h20 : (0 : Int) ≠ 0 := (show ¬ ((0 : Int) = 0) from h20)
      exfalso; omega
theorem c_198_ex {d : Nat} (hd : 24 ≤ d) {w : eW} (hT : e_Has kTy w) (hO : 0 ≤ w 0 13 ∧ w 0 13 ≤ 1) {p1 : Int} (g1 : (-2147483648) ≤ p1 ∧ p1 ≤ 2147483647) {p2 : Int} (g2 : (-2147483648) ≤ p2 ∧ p2 ≤ 2147483647) {p3 : Int} (g3 : (-2147483648) ≤ p3 ∧ p3 ≤ 2147483647) {p4 : Int} (g4 : (-2147483648) ≤ p4 ∧ p4 ≤ 2147483647) : e_Ok 20 elay kcode eI d 198 (0, [(0, (1, 0)), (1, (0, p1)), (2, (0, p2)), (3, (0, p3)), (4, (0, p4))], [], w) (fun r w' => ∃ z : Int, r = [(0, z)] ∧ ((w = w' ∧ ((¬ ((-16000 ≤ p1 ∧ p1 ≤ 16000) ∧ (-16000 ≤ p2 ∧ p2 ≤ 16000) ∧ (0 ≤ p3 ∧ p1 + p3 ≤ 16000) ∧ 0 ≤ p4 ∧ p2 + p4 ≤ 16000) ∧ z = -1) ∨ (((-16000 ≤ p1 ∧ p1 ≤ 16000) ∧ (-16000 ≤ p2 ∧ p2 ≤ 16000) ∧ (0 ≤ p3 ∧ p1 + p3 ≤ 16000) ∧ 0 ≤ p4 ∧ p2 + p4 ≤ 16000) ∧ ((w 0 13 ≠ 0 ∧ z = -2) ∨ (w 0 13 = 0 ∧ w 250 0 = 16 ∧ z = -3))))) ∨ ((((-16000 ≤ p1 ∧ p1 ≤ 16000) ∧ (-16000 ≤ p2 ∧ p2 ≤ 16000) ∧ (0 ≤ p3 ∧ p1 + p3 ≤ 16000) ∧ 0 ≤ p4 ∧ p2 + p4 ≤ 16000) ∧ w 0 13 = 0 ∧ ¬ (w 250 0 = 16)) ∧ z = w 250 0 ∧ w' = e_up (e_up (e_up (e_up (e_up (e_up w (251) (w 250 0) (p1)) (252) (w 250 0) (p2)) (253) (w 250 0) (p3)) (254) (w 250 0) (p4)) (255) (w 250 0) (-1)) (250) (0) (w 250 0 + 1)))) := by
  obtain ⟨d, rfl⟩ : ∃ e, d = e + 1 := ⟨d - 1, by omega⟩
  have hw0 := e_Has.get hT (c := 0) (k := 11) (lo := 0) (hi := 4) (kt_o rfl) (by decide)
  have hb0 := e_Has.get hT (c := 19) (k := 0) (lo := 0) (hi := 4) (kt_o rfl) (by decide)
  have hz0 := e_Has.get hT (c := 250) (k := 1) (lo := 0) (hi := 8) (kt_o rfl) (by decide)
  have hs0 := e_Has.get hT (c := 250) (k := 0) (lo := 0) (hi := 16) (kt_o rfl) (by decide)
  have hi0 := e_Has.get hT (c := 74) (k := 2) (lo := 0) (hi := 8) (kt_o rfl) (by decide)
  refine e_Ok.ps4 (x := (0, p4)) (y := (0, p3)) (z := (0, p2)) (u := (0, p1)) (q := 5) 4 rfl ?_
  refine e_Ok.callS rfl (e_dq hd rfl) rfl rfl (c_244_ex (e_dq hd rfl) (by omega) (by omega) (by omega) (by omega)) (fun r1 w2 h3 => ?_)
  obtain ⟨z4, rfl, rfl, q5⟩ := h3
  obtain ⟨rfl, q5⟩ | ⟨rfl, q5⟩ := q5
  · refine e_Ok.nrm (q := 8) (st' := [(0, 1)]) rfl rfl ?_
    refine e_Ok.if1 rfl (fun h6 => ?_) (fun h6 => ?_)
    · replace h6 : (1 : Int) ≠ 0 := h6
      refine e_Ok.ps1 (x := (1, 0)) (q := 14) 1 rfl ?_
      refine e_Ok.getf (z := w 0 13) rfl (el_o rfl) rfl rfl rfl (by omega) ?_
      refine e_Ok.if1 rfl (fun h7 => ?_) (fun h7 => ?_)
      · replace h7 : (w 0 13 : Int) = 0 := h7
        refine e_Ok.ps1 (x := (1, 0)) (q := 24) 1 rfl ?_
        refine e_Ok.getr (z := 250) rfl (el_o rfl) rfl rfl (Eq.trans (e_Has.eq hT (kt_o rfl)) (by omega)) ⟨by decide, by decide⟩ ?_
        refine e_Ok.run (t' := (33, [(0, (1, 0)), (1, (0, p1)), (2, (0, p2)), (3, (0, p3)), (4, (0, p4))], [(0, (-1)), (0, p4), (0, p3), (0, p2), (0, p1), (1, 250)], w)) 5 rfl ?_
        refine e_Ok.callV rfl (e_dq hd rfl) rfl rfl rfl rfl (c_167_ex (e_dq hd rfl) hT (by omega) (by omega) (by omega) (by omega) (by omega)) (fun r8 w9 h10 => ?_)
        obtain ⟨z11, rfl, q12⟩ := h10
        refine e_Ok.nrm (q := 36) (st' := [(0, z11)]) rfl rfl ?_
        refine e_Ok.rets rfl rfl ?_
        exact ⟨_, rfl, Or.elim q12 (fun h => Or.inl ⟨h.1, by have e := h.2; omega⟩) (fun h => Or.inr ⟨by have e := h.1; omega, h.2.1, h.2.2⟩)⟩
      · replace h7 : (w 0 13 : Int) ≠ 0 := (show ¬ ((w 0 13 : Int) = 0) from h7)
        refine e_Ok.ps1 (x := (0, (-2))) (q := 22) 1 rfl ?_
        refine e_Ok.rets rfl rfl ?_
        exact ⟨_, rfl, Or.inl ⟨rfl, by omega⟩⟩
    · replace h6 : (1 : Int) = 0 := Classical.not_not.mp (show ¬ ((1 : Int) ≠ 0) from h6)
      exfalso; omega
  · refine e_Ok.nrm (q := 8) (st' := [(0, 0)]) rfl rfl ?_
    refine e_Ok.if1 rfl (fun h13 => ?_) (fun h13 => ?_)
    · replace h13 : (0 : Int) ≠ 0 := h13
      exfalso; omega
    · replace h13 : (0 : Int) = 0 := Classical.not_not.mp (show ¬ ((0 : Int) ≠ 0) from h13)
      refine e_Ok.ps1 (x := (0, (-1))) (q := 12) 1 rfl ?_
      refine e_Ok.rets rfl rfl ?_
      exact ⟨_, rfl, Or.inl ⟨rfl, by omega⟩⟩
theorem c_205_ex {d : Nat} (hd : 24 ≤ d) {w : eW} (hT : e_Has kTy w) (hO : 0 ≤ w 0 13 ∧ w 0 13 ≤ 1) {p1 : Int} (g1 : (-2147483648) ≤ p1 ∧ p1 ≤ 2147483647) {p2 : Int} (g2 : (-2147483648) ≤ p2 ∧ p2 ≤ 2147483647) {p3 : Int} (g3 : (-2147483648) ≤ p3 ∧ p3 ≤ 2147483647) {p4 : Int} (g4 : (-2147483648) ≤ p4 ∧ p4 ≤ 2147483647) {p5 : Int} (g5 : (-2147483648) ≤ p5 ∧ p5 ≤ 2147483647) : e_Ok 20 elay kcode eI d 205 (0, [(0, (1, 0)), (1, (0, p1)), (2, (0, p2)), (3, (0, p3)), (4, (0, p4)), (5, (0, p5))], [], w) (fun r w' => ∃ z : Int, r = [(0, z)] ∧ ((w = w' ∧ ((¬ ((0 ≤ p1 ∧ p1 < w 0 11) ∧ (-16000 ≤ p2 ∧ p2 ≤ 16000) ∧ (-16000 ≤ p3 ∧ p3 ≤ 16000) ∧ (0 ≤ p4 ∧ p2 + p4 ≤ 16000) ∧ 0 ≤ p5 ∧ p3 + p5 ≤ 16000) ∧ z = -1) ∨ (((0 ≤ p1 ∧ p1 < w 0 11) ∧ (-16000 ≤ p2 ∧ p2 ≤ 16000) ∧ (-16000 ≤ p3 ∧ p3 ≤ 16000) ∧ (0 ≤ p4 ∧ p2 + p4 ≤ 16000) ∧ 0 ≤ p5 ∧ p3 + p5 ≤ 16000) ∧ ((w 0 13 ≠ 0 ∧ z = -2) ∨ (w 0 13 = 0 ∧ w 250 1 = 8 ∧ z = -3))))) ∨ ((((0 ≤ p1 ∧ p1 < w 0 11) ∧ (-16000 ≤ p2 ∧ p2 ≤ 16000) ∧ (-16000 ≤ p3 ∧ p3 ≤ 16000) ∧ (0 ≤ p4 ∧ p2 + p4 ≤ 16000) ∧ 0 ≤ p5 ∧ p3 + p5 ≤ 16000) ∧ w 0 13 = 0 ∧ ¬ (w 250 1 = 8)) ∧ z = w 250 1 ∧ w' = e_up (e_up (e_up (e_up (e_up (e_up (e_up w (256) (w 250 1) (p1)) (258) (w 250 1) (p2)) (259) (w 250 1) (p3)) (260) (w 250 1) (p2 + p4)) (261) (w 250 1) (p3 + p5)) (257) (w 250 1) (-1)) (250) (1) (w 250 1 + 1)))) := by
  obtain ⟨d, rfl⟩ : ∃ e, d = e + 1 := ⟨d - 1, by omega⟩
  have hw0 := e_Has.get hT (c := 0) (k := 11) (lo := 0) (hi := 4) (kt_o rfl) (by decide)
  have hb0 := e_Has.get hT (c := 19) (k := 0) (lo := 0) (hi := 4) (kt_o rfl) (by decide)
  have hz0 := e_Has.get hT (c := 250) (k := 1) (lo := 0) (hi := 8) (kt_o rfl) (by decide)
  have hs0 := e_Has.get hT (c := 250) (k := 0) (lo := 0) (hi := 16) (kt_o rfl) (by decide)
  have hi0 := e_Has.get hT (c := 74) (k := 2) (lo := 0) (hi := 8) (kt_o rfl) (by decide)
  refine e_Ok.ps2 (x := (0, p1)) (y := (1, 0)) (q := 2) 2 rfl ?_
  refine e_Ok.callV rfl (e_dq hd rfl) rfl rfl rfl rfl (c_246 (e_dq hd rfl) hT (by omega)) (fun r1 w2 h3 => ?_)
  obtain ⟨z4, rfl, rfl, q5⟩ := h3
  obtain ⟨rfl, q5⟩ | ⟨rfl, q5⟩ := q5
  · refine e_Ok.nrm (q := 5) (st' := [(0, 1)]) rfl rfl ?_
    refine e_Ok.if1 rfl (fun h6 => ?_) (fun h6 => ?_)
    · replace h6 : (1 : Int) = 0 := h6
      exfalso; omega
    · replace h6 : (1 : Int) ≠ 0 := (show ¬ ((1 : Int) = 0) from h6)
      refine e_Ok.ps4 (x := (0, p5)) (y := (0, p4)) (z := (0, p3)) (u := (0, p2)) (q := 14) 4 rfl ?_
      refine e_Ok.callS rfl (e_dq hd rfl) rfl rfl (c_244_ex (e_dq hd rfl) (by omega) (by omega) (by omega) (by omega)) (fun r7 w8 h9 => ?_)
      obtain ⟨z10, rfl, rfl, q11⟩ := h9
      obtain ⟨rfl, q11⟩ | ⟨rfl, q11⟩ := q11
      · refine e_Ok.nrm (q := 17) (st' := [(0, 1)]) rfl rfl ?_
        refine e_Ok.if1 rfl (fun h12 => ?_) (fun h12 => ?_)
        · replace h12 : (1 : Int) ≠ 0 := h12
          refine e_Ok.ps1 (x := (1, 0)) (q := 23) 1 rfl ?_
          refine e_Ok.getf (z := w 0 13) rfl (el_o rfl) rfl rfl rfl (by omega) ?_
          refine e_Ok.if1 rfl (fun h13 => ?_) (fun h13 => ?_)
          · replace h13 : (w 0 13 : Int) = 0 := h13
            refine e_Ok.ps1 (x := (1, 0)) (q := 33) 1 rfl ?_
            refine e_Ok.getr (z := 250) rfl (el_o rfl) rfl rfl (Eq.trans (e_Has.eq hT (kt_o rfl)) (by omega)) ⟨by decide, by decide⟩ ?_
            refine e_Ok.run (t' := (43, [(0, (1, 0)), (1, (0, p1)), (2, (0, p2)), (3, (0, p3)), (4, (0, p4)), (5, (0, p5))], [(0, p5), (0, p4), (0, p3), (0, p2), (0, p1), (1, 250)], w)) 5 rfl ?_
            refine e_Ok.callV rfl (e_dq hd rfl) rfl rfl rfl rfl (c_168_ex (e_dq hd rfl) hT (by omega) (by omega) (by omega) (by omega) (by omega)) (fun r14 w15 h16 => ?_)
            obtain ⟨z17, rfl, q18⟩ := h16
            refine e_Ok.nrm (q := 46) (st' := [(0, z17)]) rfl rfl ?_
            refine e_Ok.rets rfl rfl ?_
            exact ⟨_, rfl, Or.elim q18 (fun h => Or.inl ⟨h.1, by have e := h.2; omega⟩) (fun h => Or.inr ⟨by have e := h.1; omega, h.2.1, h.2.2⟩)⟩
          · replace h13 : (w 0 13 : Int) ≠ 0 := (show ¬ ((w 0 13 : Int) = 0) from h13)
            refine e_Ok.ps1 (x := (0, (-2))) (q := 31) 1 rfl ?_
            refine e_Ok.rets rfl rfl ?_
            exact ⟨_, rfl, Or.inl ⟨rfl, by omega⟩⟩
        · replace h12 : (1 : Int) = 0 := Classical.not_not.mp (show ¬ ((1 : Int) ≠ 0) from h12)
          exfalso; omega
      · refine e_Ok.nrm (q := 17) (st' := [(0, 0)]) rfl rfl ?_
        refine e_Ok.if1 rfl (fun h19 => ?_) (fun h19 => ?_)
        · replace h19 : (0 : Int) ≠ 0 := h19
          exfalso; omega
        · replace h19 : (0 : Int) = 0 := Classical.not_not.mp (show ¬ ((0 : Int) ≠ 0) from h19)
          refine e_Ok.ps1 (x := (0, (-1))) (q := 21) 1 rfl ?_
          refine e_Ok.rets rfl rfl ?_
          exact ⟨_, rfl, Or.inl ⟨rfl, by omega⟩⟩
  · refine e_Ok.nrm (q := 5) (st' := [(0, 0)]) rfl rfl ?_
    refine e_Ok.if1 rfl (fun h20 => ?_) (fun h20 => ?_)
    · replace h20 : (0 : Int) = 0 := h20
      refine e_Ok.ps1 (x := (0, (-1))) (q := 21) 1 rfl ?_
      refine e_Ok.rets rfl rfl ?_
      exact ⟨_, rfl, Or.inl ⟨rfl, by omega⟩⟩
    · replace h20 : (0 : Int) ≠ 0 := (show ¬ ((0 : Int) = 0) from h20)
      exfalso; omega
end
