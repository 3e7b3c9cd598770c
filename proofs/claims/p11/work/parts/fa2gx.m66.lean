noncomputable section
/-! the model: spare, exactly; the bits behind build -/
theorem c_285_ex {d : Nat} (hd : 24 ≤ d) {w : eW} (hT : e_Has mTy w) {p1 p2 p3 : Int} (g1 : (-2147483648) ≤ p1 ∧ p1 ≤ 2147483647) (g2 : (-2147483648) ≤ p2 ∧ p2 ≤ 2147483647) (g3 : (-2147483648) ≤ p3 ∧ p3 ≤ 2147483647) : e_Ok 20 elay ecode eI d 285 (0, [(0, (1, 275)), (1, (0, p1)), (2, (0, p2)), (3, (0, p3))], [], w) (fun r w' => ∃ z : Int, r = [(0, z)] ∧ ((w = w' ∧ ((¬ ((0 ≤ p1 ∧ p1 < w 275 10) ∧ (0 ≤ p2 ∧ p2 ≤ 6) ∧ (0 ≤ p3 ∧ p3 < w 275 23)) ∧ z = -1) ∨ (((0 ≤ p1 ∧ p1 < w 275 10) ∧ (0 ≤ p2 ∧ p2 ≤ 6) ∧ (0 ≤ p3 ∧ p3 < w 275 23)) ∧ w 275 3 ≠ 0 ∧ z = -2))) ∨ ((((0 ≤ p1 ∧ p1 < w 275 10) ∧ (0 ≤ p2 ∧ p2 ≤ 6) ∧ (0 ≤ p3 ∧ p3 < w 275 23)) ∧ w 275 3 = 0) ∧ z = 1 - w 299 (112 * p1 + 16 * p2 + p3) ∧ w' = e_up w 299 (112 * p1 + 16 * p2 + p3) (1)))) := by
  obtain ⟨d, rfl⟩ : ∃ e, d = e + 1 := ⟨d - 1, by omega⟩
  have hop := e_Has.get hT (c := 275) (k := 3) (lo := 0) (hi := 1) rfl (by decide)
  refine e_Ok.ps2 (x := (0, p1)) (y := (1, 275)) (q := 2) 2 rfl ?_
  refine e_Ok.callV rfl (e_dq hd rfl) rfl rfl rfl rfl (c_270 (e_dq hd rfl) hT) (fun r1 w2 h3 => ?_)
  have h4 := e_Has.get hT (c := 275) (k := 10) (lo := 0) (hi := 4) rfl (by decide)
  obtain ⟨z5, rfl, rfl, q6⟩ := h3
  obtain ⟨rfl, q6⟩ | ⟨rfl, q6⟩ := q6
  · refine e_Ok.nrm (q := 5) (st' := [(0, 1)]) rfl rfl ?_
    refine e_Ok.if1 rfl (fun h7 => ?_) (fun h7 => ?_)
    · replace h7 : (1 : Int) = 0 := h7
      exfalso; omega
    · replace h7 : (1 : Int) ≠ 0 := (show ¬ ((1 : Int) = 0) from h7)
      refine e_Ok.ps3 (x := (4, 6)) (y := (4, 0)) (z := (4, p2)) (q := 14) 4 rfl ?_
      refine e_Ok.callS rfl (e_dq hd rfl) rfl rfl (c_266) (fun r8 w9 h10 => ?_)
      obtain ⟨z11, rfl, rfl, q12⟩ := h10
      obtain ⟨rfl, q12⟩ | ⟨rfl, q12⟩ := q12
      · refine e_Ok.nrm (q := 17) (st' := [(0, 1)]) rfl rfl ?_
        refine e_Ok.if1 rfl (fun h13 => ?_) (fun h13 => ?_)
        · replace h13 : (1 : Int) = 0 := h13
          exfalso; omega
        · replace h13 : (1 : Int) ≠ 0 := (show ¬ ((1 : Int) = 0) from h13)
          refine e_Ok.ps3 (x := (1, 275)) (y := (4, 0)) (z := (4, p3)) (q := 24) 4 rfl ?_
          have h14 := (e_Has.get hT (c := 275) (k := 23) (lo := 0) (hi := 16) rfl (by decide))
          refine e_Ok.getf (z := w 275 23) rfl (el_o rfl) rfl rfl rfl (e_bq h14 (by decide) (by decide)) ?_
          refine e_Ok.ps1 (x := (0, 1)) (q := 28) 1 rfl ?_
          refine e_Ok.sub' (z := w 275 23 - 1) rfl rfl (by omega) ?_
          refine e_Ok.run (t' := (30, [(0, (1, 275)), (1, (0, p1)), (2, (0, p2)), (3, (0, p3))], [(4, w 275 23 - 1), (4, 0), (4, p3)], w)) 1 rfl ?_
          refine e_Ok.callS rfl (e_dq hd rfl) rfl rfl (c_266) (fun r15 w16 h17 => ?_)
          obtain ⟨z18, rfl, rfl, q19⟩ := h17
          obtain ⟨rfl, q19⟩ | ⟨rfl, q19⟩ := q19
          · refine e_Ok.nrm (q := 33) (st' := [(0, 1)]) rfl rfl ?_
            refine e_Ok.if1 rfl (fun h20 => ?_) (fun h20 => ?_)
            · replace h20 : (1 : Int) ≠ 0 := h20
              refine e_Ok.ps1 (x := (1, 275)) (q := 39) 1 rfl ?_
              refine e_Ok.getf (z := w 275 3) rfl (el_o rfl) rfl rfl rfl (by omega) ?_
              refine e_Ok.if1 rfl (fun h21 => ?_) (fun h21 => ?_)
              · replace h21 : (w 275 3 : Int) = 0 := h21
                refine e_Ok.ps2 (x := (0, p1)) (y := (0, 112)) (q := 51) 2 rfl ?_
                refine e_Ok.mul (z := 112 * p1) rfl rfl (by omega) ?_
                refine e_Ok.ps2 (x := (0, p2)) (y := (0, 16)) (q := 55) 2 rfl ?_
                refine e_Ok.mul (z := 16 * p2) rfl rfl (by omega) ?_
                refine e_Ok.add (z := 112 * p1 + 16 * p2) rfl rfl (by omega) ?_
                refine e_Ok.ps1 (x := (0, p3)) (q := 58) 1 rfl ?_
                refine e_Ok.add (z := 112 * p1 + 16 * p2 + p3) rfl rfl (by omega) ?_
                refine e_Ok.run (t' := (62, [(4, (0, 112 * p1 + 16 * p2 + p3)), (0, (1, 275)), (1, (0, p1)), (2, (0, p2)), (3, (0, p3))], [(1, 275)], w)) 2 rfl ?_
                refine e_Ok.getr (z := 299) rfl (el_o rfl) rfl rfl (e_Has.eq hT rfl) ⟨by decide, by decide⟩ ?_
                refine e_Ok.ps1 (x := (0, 112 * p1 + 16 * p2 + p3)) (q := 67) 1 rfl ?_
                have h22 := (e_Has.get hT (c := 299) (k := 112 * p1 + 16 * p2 + p3) (lo := 0) (hi := 1) rfl (by decide))
                refine e_Ok.ald (z := w 299 (112 * p1 + 16 * p2 + p3)) rfl (el_o rfl) rfl (by omega) rfl (e_bq h22 (by decide) (by decide)) ?_
                refine e_Ok.if1 rfl (fun h23 => ?_) (fun h23 => ?_)
                · replace h23 : (w 299 (112 * p1 + 16 * p2 + p3) : Int) = 0 := h23
                  refine e_Ok.run (t' := (79, [(5, (0, 1)), (4, (0, 112 * p1 + 16 * p2 + p3)), (0, (1, 275)), (1, (0, p1)), (2, (0, p2)), (3, (0, p3))], [(1, 275)], w)) 3 rfl ?_
                  refine e_Ok.getr (z := 299) rfl (el_o rfl) rfl rfl (e_Has.eq hT rfl) ⟨by decide, by decide⟩ ?_
                  refine e_Ok.ps2 (x := (0, 1)) (y := (0, 112 * p1 + 16 * p2 + p3)) (q := 85) 2 rfl ?_
                  refine e_Ok.ast rfl (el_o rfl) rfl (e_nar_b (by omega)) (by omega) ?_
                  generalize hw24 : e_up w 299 (112 * p1 + 16 * p2 + p3) 1 = w24
                  refine e_Ok.ps1 (x := (0, 1)) (q := 88) 1 rfl ?_
                  refine e_Ok.rets rfl rfl ?_
                  exact ⟨_, rfl, Or.inr ⟨by omega, by omega, by rw [← hw24]⟩⟩
                · replace h23 : (w 299 (112 * p1 + 16 * p2 + p3) : Int) ≠ 0 := (show ¬ ((w 299 (112 * p1 + 16 * p2 + p3) : Int) = 0) from h23)
                  refine e_Ok.run (t' := (79, [(5, (0, 0)), (4, (0, 112 * p1 + 16 * p2 + p3)), (0, (1, 275)), (1, (0, p1)), (2, (0, p2)), (3, (0, p3))], [(1, 275)], w)) 4 rfl ?_
                  refine e_Ok.getr (z := 299) rfl (el_o rfl) rfl rfl (e_Has.eq hT rfl) ⟨by decide, by decide⟩ ?_
                  refine e_Ok.ps2 (x := (0, 1)) (y := (0, 112 * p1 + 16 * p2 + p3)) (q := 85) 2 rfl ?_
                  refine e_Ok.ast rfl (el_o rfl) rfl (e_nar_b (by omega)) (by omega) ?_
                  generalize hw25 : e_up w 299 (112 * p1 + 16 * p2 + p3) 1 = w25
                  refine e_Ok.ps1 (x := (0, 0)) (q := 88) 1 rfl ?_
                  refine e_Ok.rets rfl rfl ?_
                  exact ⟨_, rfl, Or.inr ⟨by omega, by omega, by rw [← hw25]⟩⟩
              · replace h21 : (w 275 3 : Int) ≠ 0 := (show ¬ ((w 275 3 : Int) = 0) from h21)
                refine e_Ok.ps1 (x := (0, (-2))) (q := 47) 1 rfl ?_
                refine e_Ok.rets rfl rfl ?_
                exact ⟨_, rfl, Or.inl ⟨rfl, by omega⟩⟩
            · replace h20 : (1 : Int) = 0 := Classical.not_not.mp (show ¬ ((1 : Int) ≠ 0) from h20)
              exfalso; omega
          · refine e_Ok.nrm (q := 33) (st' := [(0, 0)]) rfl rfl ?_
            refine e_Ok.if1 rfl (fun h26 => ?_) (fun h26 => ?_)
            · replace h26 : (0 : Int) ≠ 0 := h26
              exfalso; omega
            · replace h26 : (0 : Int) = 0 := Classical.not_not.mp (show ¬ ((0 : Int) ≠ 0) from h26)
              refine e_Ok.ps1 (x := (0, (-1))) (q := 37) 1 rfl ?_
              refine e_Ok.rets rfl rfl ?_
              exact ⟨_, rfl, Or.inl ⟨rfl, by omega⟩⟩
      · refine e_Ok.nrm (q := 17) (st' := [(0, 0)]) rfl rfl ?_
        refine e_Ok.if1 rfl (fun h27 => ?_) (fun h27 => ?_)
        · replace h27 : (0 : Int) = 0 := h27
          refine e_Ok.ps1 (x := (0, (-1))) (q := 37) 1 rfl ?_
          refine e_Ok.rets rfl rfl ?_
          exact ⟨_, rfl, Or.inl ⟨rfl, by omega⟩⟩
        · replace h27 : (0 : Int) ≠ 0 := (show ¬ ((0 : Int) = 0) from h27)
          exfalso; omega
  · refine e_Ok.nrm (q := 5) (st' := [(0, 0)]) rfl rfl ?_
    refine e_Ok.if1 rfl (fun h28 => ?_) (fun h28 => ?_)
    · replace h28 : (0 : Int) = 0 := h28
      refine e_Ok.ps1 (x := (0, (-1))) (q := 37) 1 rfl ?_
      refine e_Ok.rets rfl rfl ?_
      exact ⟨_, rfl, Or.inl ⟨rfl, by omega⟩⟩
    · replace h28 : (0 : Int) ≠ 0 := (show ¬ ((0 : Int) = 0) from h28)
      exfalso; omega
set_option maxHeartbeats 4000000 in
theorem c_267_s {d : Nat} (hd : 21 ≤ d) {w : eW} (hT : e_Has mTy w) : e_Ok 20 elay ecode eI d 267 (0, [(0, (1, 275))], [], w) (fun r w' => r = [] ∧ e_Has mTy w' ∧ ∀ k, 0 ≤ k → k < 448 → w' 299 k = 0) := by
  obtain ⟨d, rfl⟩ : ∃ e, d = e + 1 := ⟨d - 1, by omega⟩
  refine e_Ok.ps2 (x := (0, 0)) (y := (1, 275)) (q := 2) 2 rfl ?_
  refine e_Ok.putb rfl (el_o rfl) rfl rfl (by omega) ?_
  generalize hw1 : e_up w 275 3 0 = w1
  have hT2 : e_Has mTy w1 := e_Has.upr hT hw1 rfl (by omega)
  refine e_Ok.ps2 (x := (0, 0)) (y := (1, 275)) (q := 7) 2 rfl ?_
  refine e_Ok.putf rfl (el_o rfl) rfl rfl ?_
  generalize hw3 : e_up w1 275 10 0 = w3
  have hT4 : e_Has mTy w3 := e_Has.upr hT2 hw3 rfl (by omega)
  refine e_Ok.ps2 (x := (0, 0)) (y := (1, 275)) (q := 12) 2 rfl ?_
  refine e_Ok.putf rfl (el_o rfl) rfl rfl ?_
  generalize hw5 : e_up w3 275 23 0 = w5
  have hT6 : e_Has mTy w5 := e_Has.upr hT4 hw5 rfl (by omega)
  refine e_Ok.ps2 (x := (0, 0)) (y := (1, 275)) (q := 17) 2 rfl ?_
  refine e_Ok.putf rfl (el_o rfl) rfl rfl ?_
  generalize hw7 : e_up w5 275 30 0 = w7
  have hT8 : e_Has mTy w7 := e_Has.upr hT6 hw7 rfl (by omega)
  refine e_Ok.ps2 (x := (0, 0)) (y := (1, 275)) (q := 22) 2 rfl ?_
  refine e_Ok.putf rfl (el_o rfl) rfl rfl ?_
  generalize hw9 : e_up w7 275 40 0 = w9
  have hT10 : e_Has mTy w9 := e_Has.upr hT8 hw9 rfl (by omega)
  refine e_Ok.ps2 (x := (0, 0)) (y := (1, 275)) (q := 27) 2 rfl ?_
  refine e_Ok.putf rfl (el_o rfl) rfl rfl ?_
  generalize hw11 : e_up w9 275 42 0 = w11
  have hT12 : e_Has mTy w11 := e_Has.upr hT10 hw11 rfl (by omega)
  refine e_Ok.ps2 (x := (0, 0)) (y := (1, 275)) (q := 32) 2 rfl ?_
  refine e_Ok.putf rfl (el_o rfl) rfl rfl ?_
  generalize hw13 : e_up w11 275 49 0 = w13
  have hT14 : e_Has mTy w13 := e_Has.upr hT12 hw13 rfl (by omega)
  refine e_Ok.ps2 (x := (0, 0)) (y := (1, 275)) (q := 37) 2 rfl ?_
  refine e_Ok.putf rfl (el_o rfl) rfl rfl ?_
  generalize hw15 : e_up w13 275 5 0 = w15
  have hT16 : e_Has mTy w15 := e_Has.ups hT14 hw15 rfl
  refine e_Ok.ps2 (x := (0, 0)) (y := (1, 275)) (q := 42) 2 rfl ?_
  refine e_Ok.putf rfl (el_o rfl) rfl rfl ?_
  generalize hw17 : e_up w15 275 118 0 = w17
  have hT18 : e_Has mTy w17 := e_Has.ups hT16 hw17 rfl
  refine e_Ok.run (t' := (47, [(1, (0, 0)), (0, (1, 275))], [], w17)) 2 rfl ?_
  have hL19 : ∀ (nn : Nat) (y1 : Int) (v1 : eW), e_Has mTy v1 ∧ rF v1 ∧ (0 ≤ y1 ∧ y1 ≤ 33060) ∧ (∀ k, 0 ≤ k → k < y1 → v1 276 k = 0) → 33061 - y1 < nn → e_Ok 20 elay ecode eI (d + 1) 267 (47, [(0, (1, 275)), (1, (0, y1))], [], v1) (fun r w' => r = [] ∧ e_Has mTy w' ∧ ∀ k, 0 ≤ k → k < 448 → w' 299 k = 0) := by
    intro nn
    induction nn with
    | zero => intro y1 v1 hj hm; obtain ⟨j21, j22, j23, j24⟩ := hj; exfalso; omega
    | succ nn ih20 =>
      intro y1 v1 hj hm
      obtain ⟨j21, j22, j23, j24⟩ := hj
      refine e_Ok.run (t' := (50, [(0, (1, 275)), (1, (0, y1))], [(0, 33060), (0, y1)], v1)) 2 rfl ?_
      refine e_Ok.if2 rfl (fun h25 => ?_) (fun h25 => ?_)
      · replace h25 : (y1 : Int) ≥ 33060 := h25
        refine e_Ok.run (t' := (68, [(1, (0, 0)), (0, (1, 275))], [], v1)) 2 rfl ?_
        have hL26 : ∀ (nn : Nat) (y2 : Int) (v2 : eW), e_Has mTy v2 ∧ rF v2 ∧ (0 ≤ y2 ∧ y2 ≤ 4) ∧ e_fr mRa v1 v2 ∧ (∀ a, 0 ≤ a → a < y2 → v2 286 a = 0 ∧ v2 338 a = 0 ∧ v2 276 (36 * a + 17) = -1) → 5 - y2 < nn → e_Ok 20 elay ecode eI (d + 1) 267 (68, [(0, (1, 275)), (1, (0, y2))], [], v2) (fun r w' => r = [] ∧ e_Has mTy w' ∧ ∀ k, 0 ≤ k → k < 448 → w' 299 k = 0) := by
          intro nn
          induction nn with
          | zero => intro y2 v2 hj hm; obtain ⟨j28, j29, j30, j31, j32⟩ := hj; exfalso; omega
          | succ nn ih27 =>
            intro y2 v2 hj hm
            obtain ⟨j28, j29, j30, j31, j32⟩ := hj
            refine e_Ok.run (t' := (70, [(0, (1, 275)), (1, (0, y2))], [(0, 4), (0, y2)], v2)) 2 rfl ?_
            refine e_Ok.if2 rfl (fun h33 => ?_) (fun h33 => ?_)
            · replace h33 : (y2 : Int) ≥ 4 := h33
              refine e_Ok.run (t' := (172, [(1, (0, 0)), (0, (1, 275))], [], v2)) 2 rfl ?_
              have hL34 : ∀ (nn : Nat) (y3 : Int) (v3 : eW), e_Has mTy v3 ∧ rF v3 ∧ (0 ≤ y3 ∧ y3 ≤ 16) ∧ e_fr mRb v2 v3 → 17 - y3 < nn → e_Ok 20 elay ecode eI (d + 1) 267 (172, [(0, (1, 275)), (1, (0, y3))], [], v3) (fun r w' => r = [] ∧ e_Has mTy w' ∧ ∀ k, 0 ≤ k → k < 448 → w' 299 k = 0) := by
                intro nn
                induction nn with
                | zero => intro y3 v3 hj hm; obtain ⟨j36, j37, j38, j40⟩ := hj; exfalso; omega
                | succ nn ih35 =>
                  intro y3 v3 hj hm
                  obtain ⟨j36, j37, j38, j40⟩ := hj
                  refine e_Ok.run (t' := (175, [(0, (1, 275)), (1, (0, y3))], [(0, 16), (0, y3)], v3)) 2 rfl ?_
                  refine e_Ok.if2 rfl (fun h41 => ?_) (fun h41 => ?_)
                  · replace h41 : (y3 : Int) ≥ 16 := h41
                    refine e_Ok.run (t' := (198, [(1, (0, 0)), (0, (1, 275))], [], v3)) 2 rfl ?_
                    have hL42 : ∀ (nn : Nat) (y4 : Int) (v4 : eW), e_Has mTy v4 ∧ rF v4 ∧ (0 ≤ y4 ∧ y4 ≤ 8) ∧ e_fr mRc v3 v4 → 9 - y4 < nn → e_Ok 20 elay ecode eI (d + 1) 267 (198, [(0, (1, 275)), (1, (0, y4))], [], v4) (fun r w' => r = [] ∧ e_Has mTy w' ∧ ∀ k, 0 ≤ k → k < 448 → w' 299 k = 0) := by
                      intro nn
                      induction nn with
                      | zero => intro y4 v4 hj hm; obtain ⟨j44, j45, j46, j47⟩ := hj; exfalso; omega
                      | succ nn ih43 =>
                        intro y4 v4 hj hm
                        obtain ⟨j44, j45, j46, j47⟩ := hj
                        refine e_Ok.run (t' := (201, [(0, (1, 275)), (1, (0, y4))], [(0, 8), (0, y4)], v4)) 2 rfl ?_
                        refine e_Ok.if2 rfl (fun h48 => ?_) (fun h48 => ?_)
                        · replace h48 : (y4 : Int) ≥ 8 := h48
                          refine e_Ok.run (t' := (258, [(1, (0, 0)), (0, (1, 275))], [], v4)) 2 rfl ?_
                          have hL49 : ∀ (nn : Nat) (y5 : Int) (v5 : eW), e_Has mTy v5 ∧ rF v5 ∧ (0 ≤ y5 ∧ y5 ≤ 64) ∧ e_fr mRd v4 v5 ∧ (∀ p, 0 ≤ p → p < y5 → v5 318 p = -1) → 65 - y5 < nn → e_Ok 20 elay ecode eI (d + 1) 267 (258, [(0, (1, 275)), (1, (0, y5))], [], v5) (fun r w' => r = [] ∧ e_Has mTy w' ∧ ∀ k, 0 ≤ k → k < 448 → w' 299 k = 0) := by
                            intro nn
                            induction nn with
                            | zero => intro y5 v5 hj hm; obtain ⟨j51, j52, j53, j54, j55⟩ := hj; exfalso; omega
                            | succ nn ih50 =>
                              intro y5 v5 hj hm
                              obtain ⟨j51, j52, j53, j54, j55⟩ := hj
                              refine e_Ok.run (t' := (261, [(0, (1, 275)), (1, (0, y5))], [(0, 64), (0, y5)], v5)) 2 rfl ?_
                              refine e_Ok.if2 rfl (fun h56 => ?_) (fun h56 => ?_)
                              · replace h56 : (y5 : Int) ≥ 64 := h56
                                refine e_Ok.run (t' := (279, [(1, (0, 0)), (0, (1, 275))], [], v5)) 2 rfl ?_
                                have hL57 : ∀ (nn : Nat) (y6 : Int) (v6 : eW), e_Has mTy v6 ∧ rF v6 ∧ (0 ≤ y6 ∧ y6 ≤ 448) ∧ e_fr mRe v5 v6 ∧ (∀ k, 0 ≤ k → k < y6 → v6 299 k = 0) → 449 - y6 < nn → e_Ok 20 elay ecode eI (d + 1) 267 (279, [(0, (1, 275)), (1, (0, y6))], [], v6) (fun r w' => r = [] ∧ e_Has mTy w' ∧ ∀ k, 0 ≤ k → k < 448 → w' 299 k = 0) := by
                                  intro nn
                                  induction nn with
                                  | zero => intro y6 v6 hj hm; obtain ⟨j59, j60, j61, j62, j99⟩ := hj; exfalso; omega
                                  | succ nn ih58 =>
                                    intro y6 v6 hj hm
                                    obtain ⟨j59, j60, j61, j62, j99⟩ := hj
                                    refine e_Ok.run (t' := (283, [(0, (1, 275)), (1, (0, y6))], [(0, 448), (0, y6)], v6)) 2 rfl ?_
                                    refine e_Ok.if2 rfl (fun h63 => ?_) (fun h63 => ?_)
                                    · replace h63 : (y6 : Int) ≥ 448 := h63
                                      refine e_Ok.rets rfl rfl ?_
                                      exact ⟨rfl, j59, fun k g1 g2 => j99 k g1 (by omega)⟩
                                    · replace h63 : (y6 : Int) < 448 := Int.not_le.mp (show ¬ ((y6 : Int) ≥ 448) from h63)
                                      refine e_Ok.ps1 (x := (1, 275)) (q := 287) 1 rfl ?_
                                      refine e_Ok.getr (z := 299) rfl (el_o rfl) rfl rfl (e_Has.eq j59 rfl) ⟨by decide, by decide⟩ ?_
                                      refine e_Ok.ps2 (x := (0, 0)) (y := (0, y6)) (q := 292) 2 rfl ?_
                                      refine e_Ok.ast rfl (el_o rfl) rfl (e_nar_b (by omega)) (by omega) ?_
                                      generalize hw64 : e_up v6 299 y6 0 = w64
                                      have hT65 : e_Has mTy w64 := e_Has.upr j59 hw64 rfl (by omega)
                                      refine e_Ok.inc (z := y6 + 1) rfl rfl (by first | with_reducible rfl | omega) (by omega) ?_
                                      show e_Ok 20 elay ecode eI (d + 1) 267 (296, [(1, (0, y6 + 1)), (0, (1, 275))], [], w64) _
                                      refine e_Ok.ps0 (q := 279) 1 rfl ?_
                                      refine e_Ok.sub eAlk (e_sub_of rfl ?_) (ih58 (y6 + 1) w64 ⟨hT65, (rF.up j60 hw64 (by decide)), by omega, (e_fr.up j62 hw64 (by unfold mRe; omega)), (fun k g1 g2 => by rw [← hw64]; by_cases e : k = y6; (rw [e]; exact e_up_eq _ _ _ _); (exact (e_up_ne _ _ (Or.inr (by omega))).trans (j99 k g1 (by omega))))⟩ (by omega))
                                      exact ⟨rfl, rfl, trivial⟩
                                refine e_Ok.sub eAlk (e_sub_of rfl ?_) (hL57 (449 + 1 : Int).toNat 0 v5 ⟨j51, j52, by omega, (e_fr.refl v5), (fun k g1 g2 => by omega)⟩ (by omega))
                                exact ⟨rfl, rfl, trivial⟩
                              · replace h56 : (y5 : Int) < 64 := Int.not_le.mp (show ¬ ((y5 : Int) ≥ 64) from h56)
                                refine e_Ok.ps1 (x := (1, 275)) (q := 265) 1 rfl ?_
                                refine e_Ok.getr (z := 318) rfl (el_o rfl) rfl rfl (e_Has.eq j51 rfl) ⟨by decide, by decide⟩ ?_
                                refine e_Ok.ps2 (x := (0, (-1))) (y := (0, y5)) (q := 270) 2 rfl ?_
                                refine e_Ok.ast rfl (el_o rfl) rfl rfl (by omega) ?_
                                generalize hw66 : e_up v5 318 y5 (-1) = w66
                                have hT67 : e_Has mTy w66 := e_Has.upr j51 hw66 rfl (by omega)
                                refine e_Ok.inc (z := y5 + 1) rfl rfl (by first | with_reducible rfl | omega) (by omega) ?_
                                show e_Ok 20 elay ecode eI (d + 1) 267 (274, [(1, (0, y5 + 1)), (0, (1, 275))], [], w66) _
                                refine e_Ok.ps0 (q := 258) 1 rfl ?_
                                refine e_Ok.sub eAlk (e_sub_of rfl ?_) (ih50 (y5 + 1) w66 ⟨hT67, (rF.up j52 hw66 (by decide)), by omega, (e_fr.up j54 hw66 (by unfold mRd; omega)), (fun p g1 g2 => Decidable.byCases (p := p = y5) (fun e => by rw [e, ← hw66]; exact e_up_eq _ _ _ _) (fun e => Eq.trans (show w66 318 p = v5 318 p from by rw [← hw66]; exact e_up_ne _ _ (Or.inr e)) (j55 p g1 (by omega))))⟩ (by omega))
                                exact ⟨rfl, rfl, trivial⟩
                          refine e_Ok.sub eAlk (e_sub_of rfl ?_) (hL49 (65 + 1 : Int).toNat 0 v4 ⟨j44, j45, by omega, (e_fr.refl v4), (fun p g1 g2 => by omega)⟩ (by omega))
                          exact ⟨rfl, rfl, trivial⟩
                        · replace h48 : (y4 : Int) < 8 := Int.not_le.mp (show ¬ ((y4 : Int) ≥ 8) from h48)
                          refine e_Ok.ps1 (x := (1, 275)) (q := 205) 1 rfl ?_
                          refine e_Ok.getr (z := 276) rfl (el_o rfl) rfl rfl (e_Has.eq j44 rfl) ⟨by decide, by decide⟩ ?_
                          refine e_Ok.ps2 (x := (0, y4)) (y := (0, 20868)) (q := 212) 2 rfl ?_
                          refine e_Ok.add (z := y4 + 20868) rfl (Int.add_comm _ _) (by omega) ?_
                          refine e_Ok.ps1 (x := (0, (-1))) (q := 214) 1 rfl ?_
                          refine e_Ok.ast rfl (el_o rfl) rfl rfl (by omega) ?_
                          generalize hw68 : e_up v4 276 (y4 + 20868) (-1) = w68
                          have hT69 : e_Has mTy w68 := e_Has.upr j44 hw68 (nR_LOCK (l := y4) (by omega)) (by omega)
                          refine e_Ok.ps1 (x := (1, 275)) (q := 216) 1 rfl ?_
                          refine e_Ok.getr (z := 276) rfl (el_o rfl) rfl rfl (e_uq hw68 (Or.inl (by decide)) (e_Has.eq j44 rfl)) ⟨by decide, by decide⟩ ?_
                          refine e_Ok.ps3 (x := (0, y4)) (y := (0, 4)) (z := (0, 20836)) (q := 224) 3 rfl ?_
                          refine e_Ok.mul (z := 4 * y4) rfl rfl (by omega) ?_
                          refine e_Ok.add (z := 4 * y4 + 20836) rfl (Int.add_comm _ _) (by omega) ?_
                          refine e_Ok.ps1 (x := (0, 1)) (q := 227) 1 rfl ?_
                          refine e_Ok.ast rfl (el_o rfl) rfl rfl (by omega) ?_
                          generalize hw70 : e_up w68 276 (4 * y4 + 20836) 1 = w70
                          have hT71 : e_Has mTy w70 := e_Has.upr hT69 hw70 (nR_INPUT (i := y4) (f := 0) (by omega) (by decide)) (by omega)
                          refine e_Ok.ps1 (x := (1, 275)) (q := 229) 1 rfl ?_
                          refine e_Ok.getr (z := 276) rfl (el_o rfl) rfl rfl (e_uq hw70 (Or.inl (by decide)) (e_uq hw68 (Or.inl (by decide)) (e_Has.eq j44 rfl))) ⟨by decide, by decide⟩ ?_
                          refine e_Ok.ps3 (x := (0, y4)) (y := (0, 4)) (z := (0, 20836)) (q := 237) 3 rfl ?_
                          refine e_Ok.mul (z := 4 * y4) rfl rfl (by omega) ?_
                          refine e_Ok.add (z := 4 * y4 + 20836) rfl (Int.add_comm _ _) (by omega) ?_
                          refine e_Ok.ps1 (x := (0, 1)) (q := 240) 1 rfl ?_
                          refine e_Ok.add (z := 4 * y4 + 20837) rfl (e_adl (by decide)) (by omega) ?_
                          refine e_Ok.ps1 (x := (0, 1)) (q := 242) 1 rfl ?_
                          refine e_Ok.ast rfl (el_o rfl) rfl rfl (by omega) ?_
                          generalize hw72 : e_up w70 276 (4 * y4 + 20837) 1 = w72
                          have hT73 : e_Has mTy w72 := e_Has.upr hT71 hw72 (nR_INPUT (i := y4) (f := 1) (by omega) (by decide)) (by omega)
                          refine e_Ok.ps1 (x := (1, 275)) (q := 244) 1 rfl ?_
                          refine e_Ok.getr (z := 317) rfl (el_o rfl) rfl rfl (e_uq hw72 (Or.inl (by decide)) (e_uq hw70 (Or.inl (by decide)) (e_uq hw68 (Or.inl (by decide)) (e_Has.eq j44 rfl)))) ⟨by decide, by decide⟩ ?_
                          refine e_Ok.ps2 (x := (0, 0)) (y := (0, y4)) (q := 249) 2 rfl ?_
                          refine e_Ok.ast rfl (el_o rfl) rfl (e_nar_b (by omega)) (by omega) ?_
                          generalize hw74 : e_up w72 317 y4 0 = w74
                          have hT75 : e_Has mTy w74 := e_Has.upr hT73 hw74 rfl (by omega)
                          refine e_Ok.inc (z := y4 + 1) rfl rfl (by first | with_reducible rfl | omega) (by omega) ?_
                          show e_Ok 20 elay ecode eI (d + 1) 267 (253, [(1, (0, y4 + 1)), (0, (1, 275))], [], w74) _
                          refine e_Ok.ps0 (q := 198) 1 rfl ?_
                          refine e_Ok.sub eAlk (e_sub_of rfl ?_) (ih43 (y4 + 1) w74 ⟨hT75, (rF.up (rF.up (rF.up (rF.up j45 hw68 (by decide)) hw70 (by decide)) hw72 (by decide)) hw74 (by decide)), by omega, (e_fr.up (e_fr.up (e_fr.up (e_fr.up j47 hw68 (by unfold mRc; omega)) hw70 (by unfold mRc; omega)) hw72 (by unfold mRc; omega)) hw74 (by unfold mRc; omega))⟩ (by omega))
                          exact ⟨rfl, rfl, trivial⟩
                    refine e_Ok.sub eAlk (e_sub_of rfl ?_) (hL42 (9 + 1 : Int).toNat 0 v3 ⟨j36, j37, by omega, (e_fr.refl v3)⟩ (by omega))
                    exact ⟨rfl, rfl, trivial⟩
                  · replace h41 : (y3 : Int) < 16 := Int.not_le.mp (show ¬ ((y3 : Int) ≥ 16) from h41)
                    refine e_Ok.ps1 (x := (1, 275)) (q := 179) 1 rfl ?_
                    refine e_Ok.getr (z := 276) rfl (el_o rfl) rfl rfl (e_Has.eq j36 rfl) ⟨by decide, by decide⟩ ?_
                    refine e_Ok.ps1 (x := (0, y3)) (q := 183) 1 rfl ?_
                    refine e_Ok.callS rfl (e_dq hd rfl) rfl rfl (c_269 (by omega)) (fun r76 w77 h78 => ?_)
                    obtain ⟨rfl, rfl⟩ := h78
                    refine e_Ok.nrm (q := 186) (st' := [(0, 1260 * y3 + 416), (1, 276)]) rfl rfl ?_
                    refine e_Ok.ps1 (x := (0, 1)) (q := 187) 1 rfl ?_
                    refine e_Ok.add (z := 1260 * y3 + 417) rfl (e_adl (by decide)) (by omega) ?_
                    refine e_Ok.ps1 (x := (0, (-1))) (q := 189) 1 rfl ?_
                    refine e_Ok.ast rfl (el_o rfl) rfl rfl (by omega) ?_
                    generalize hw79 : e_up v3 276 (1260 * y3 + 417) (-1) = w79
                    have hT80 : e_Has mTy w79 := e_Has.upr j36 hw79 (nR_TASK_ARM (t := y3) (by omega)) (by omega)
                    refine e_Ok.inc (z := y3 + 1) rfl rfl (by first | with_reducible rfl | omega) (by omega) ?_
                    show e_Ok 20 elay ecode eI (d + 1) 267 (193, [(1, (0, y3 + 1)), (0, (1, 275))], [], w79) _
                    refine e_Ok.ps0 (q := 172) 1 rfl ?_
                    refine e_Ok.sub eAlk (e_sub_of rfl ?_) (ih35 (y3 + 1) w79 ⟨hT80, (rF.up j37 hw79 (by decide)), by omega, (e_fr.up j40 hw79 (by unfold mRb; omega))⟩ (by omega))
                    exact ⟨rfl, rfl, trivial⟩
              refine e_Ok.sub eAlk (e_sub_of rfl ?_) (hL34 (17 + 1 : Int).toNat 0 v2 ⟨j28, j29, by omega, (e_fr.refl v2)⟩ (by omega))
              exact ⟨rfl, rfl, trivial⟩
            · replace h33 : (y2 : Int) < 4 := Int.not_le.mp (show ¬ ((y2 : Int) ≥ 4) from h33)
              refine e_Ok.ps1 (x := (1, 275)) (q := 74) 1 rfl ?_
              refine e_Ok.getr (z := 286) rfl (el_o rfl) rfl rfl (e_Has.eq j28 rfl) ⟨by decide, by decide⟩ ?_
              refine e_Ok.ps2 (x := (0, 0)) (y := (0, y2)) (q := 79) 2 rfl ?_
              refine e_Ok.ast rfl (el_o rfl) rfl rfl (by omega) ?_
              generalize hw81 : e_up v2 286 y2 0 = w81
              have hT82 : e_Has mTy w81 := e_Has.upr j28 hw81 rfl (by omega)
              refine e_Ok.ps1 (x := (1, 275)) (q := 81) 1 rfl ?_
              refine e_Ok.getr (z := 276) rfl (el_o rfl) rfl rfl (e_uq hw81 (Or.inl (by decide)) (e_Has.eq j28 rfl)) ⟨by decide, by decide⟩ ?_
              refine e_Ok.ps1 (x := (0, y2)) (q := 85) 1 rfl ?_
              refine e_Ok.callS rfl (e_dq hd rfl) rfl rfl (c_268 (by omega)) (fun r83 w84 h85 => ?_)
              obtain ⟨rfl, rfl⟩ := h85
              refine e_Ok.nrm (q := 88) (st' := [(0, 36 * y2 + 16), (1, 276)]) rfl rfl ?_
              refine e_Ok.ps1 (x := (0, 1)) (q := 89) 1 rfl ?_
              refine e_Ok.add (z := 36 * y2 + 17) rfl (e_adl (by decide)) (by omega) ?_
              refine e_Ok.ps1 (x := (0, (-1))) (q := 91) 1 rfl ?_
              refine e_Ok.ast rfl (el_o rfl) rfl rfl (by omega) ?_
              generalize hw86 : e_up w81 276 (36 * y2 + 17) (-1) = w86
              have hT87 : e_Has mTy w86 := e_Has.upr hT82 hw86 (nR_HOLDS (a := y2) (by omega)) (by omega)
              refine e_Ok.ps1 (x := (1, 275)) (q := 93) 1 rfl ?_
              refine e_Ok.getr (z := 276) rfl (el_o rfl) rfl rfl (e_uq hw86 (Or.inl (by decide)) (e_uq hw81 (Or.inl (by decide)) (e_Has.eq j28 rfl))) ⟨by decide, by decide⟩ ?_
              refine e_Ok.ps1 (x := (0, y2)) (q := 97) 1 rfl ?_
              refine e_Ok.callS rfl (e_dq hd rfl) rfl rfl (c_268 (by omega)) (fun r88 w89 h90 => ?_)
              obtain ⟨rfl, rfl⟩ := h90
              refine e_Ok.nrm (q := 100) (st' := [(0, 36 * y2 + 16), (1, 276)]) rfl rfl ?_
              refine e_Ok.ps1 (x := (0, 2)) (q := 101) 1 rfl ?_
              refine e_Ok.add (z := 36 * y2 + 18) rfl (e_adl (by decide)) (by omega) ?_
              refine e_Ok.ps1 (x := (0, (-1))) (q := 103) 1 rfl ?_
              refine e_Ok.ast rfl (el_o rfl) rfl rfl (by omega) ?_
              generalize hw91 : e_up w86 276 (36 * y2 + 18) (-1) = w91
              have hT92 : e_Has mTy w91 := e_Has.upr hT87 hw91 (nR_STUCK (a := y2) (by omega)) (by omega)
              refine e_Ok.ps1 (x := (1, 275)) (q := 105) 1 rfl ?_
              refine e_Ok.getr (z := 276) rfl (el_o rfl) rfl rfl (e_uq hw91 (Or.inl (by decide)) (e_uq hw86 (Or.inl (by decide)) (e_uq hw81 (Or.inl (by decide)) (e_Has.eq j28 rfl)))) ⟨by decide, by decide⟩ ?_
              refine e_Ok.ps1 (x := (0, y2)) (q := 109) 1 rfl ?_
              refine e_Ok.callS rfl (e_dq hd rfl) rfl rfl (c_268 (by omega)) (fun r93 w94 h95 => ?_)
              obtain ⟨rfl, rfl⟩ := h95
              refine e_Ok.nrm (q := 112) (st' := [(0, 36 * y2 + 16), (1, 276)]) rfl rfl ?_
              refine e_Ok.ps1 (x := (0, 3)) (q := 113) 1 rfl ?_
              refine e_Ok.add (z := 36 * y2 + 19) rfl (e_adl (by decide)) (by omega) ?_
              refine e_Ok.ps1 (x := (0, (-1))) (q := 115) 1 rfl ?_
              refine e_Ok.ast rfl (el_o rfl) rfl rfl (by omega) ?_
              generalize hw101 : e_up w91 276 (36 * y2 + 19) (-1) = w101
              have hT103 : e_Has mTy w101 := e_Has.upr hT92 hw101 (nR_WAY_SIZE (a := y2) (by omega)) (by omega)
              refine e_Ok.ps1 (x := (1, 275)) (q := 117) 1 rfl ?_
              refine e_Ok.getr (z := 276) rfl (el_o rfl) rfl rfl (e_uq hw101 (Or.inl (by decide)) (e_uq hw91 (Or.inl (by decide)) (e_uq hw86 (Or.inl (by decide)) (e_uq hw81 (Or.inl (by decide)) (e_Has.eq j28 rfl))))) ⟨by decide, by decide⟩ ?_
              refine e_Ok.ps1 (x := (0, y2)) (q := 121) 1 rfl ?_
              refine e_Ok.callS rfl (e_dq hd rfl) rfl rfl (c_268 (by omega)) (fun r104 w105 h106 => ?_)
              obtain ⟨rfl, rfl⟩ := h106
              refine e_Ok.nrm (q := 124) (st' := [(0, 36 * y2 + 16), (1, 276)]) rfl rfl ?_
              refine e_Ok.ps1 (x := (0, 9)) (q := 126) 1 rfl ?_
              refine e_Ok.add (z := 36 * y2 + 25) rfl (e_adl (by decide)) (by omega) ?_
              refine e_Ok.ps1 (x := (0, (-1))) (q := 128) 1 rfl ?_
              refine e_Ok.ast rfl (el_o rfl) rfl rfl (by omega) ?_
              generalize hw107 : e_up w101 276 (36 * y2 + 25) (-1) = w107
              have hT108 : e_Has mTy w107 := e_Has.upr hT103 hw107 (nR_MOVER (a := y2) (by omega)) (by omega)
              refine e_Ok.ps1 (x := (1, 275)) (q := 130) 1 rfl ?_
              refine e_Ok.getr (z := 306) rfl (el_o rfl) rfl rfl (e_uq hw107 (Or.inl (by decide)) (e_uq hw101 (Or.inl (by decide)) (e_uq hw91 (Or.inl (by decide)) (e_uq hw86 (Or.inl (by decide)) (e_uq hw81 (Or.inl (by decide)) (e_Has.eq j28 rfl)))))) ⟨by decide, by decide⟩ ?_
              refine e_Ok.ps2 (x := (0, (-1))) (y := (0, y2)) (q := 135) 2 rfl ?_
              refine e_Ok.ast rfl (el_o rfl) rfl rfl (by omega) ?_
              generalize hw109 : e_up w107 306 y2 (-1) = w109
              have hT110 : e_Has mTy w109 := e_Has.upr hT108 hw109 rfl (by omega)
              refine e_Ok.ps1 (x := (1, 275)) (q := 137) 1 rfl ?_
              refine e_Ok.getr (z := 280) rfl (el_o rfl) rfl rfl (e_uq hw109 (Or.inl (by decide)) (e_uq hw107 (Or.inl (by decide)) (e_uq hw101 (Or.inl (by decide)) (e_uq hw91 (Or.inl (by decide)) (e_uq hw86 (Or.inl (by decide)) (e_uq hw81 (Or.inl (by decide)) (e_Has.eq j28 rfl))))))) ⟨by decide, by decide⟩ ?_
              refine e_Ok.ps2 (x := (0, 0)) (y := (0, y2)) (q := 142) 2 rfl ?_
              refine e_Ok.ast rfl (el_o rfl) rfl rfl (by omega) ?_
              generalize hw111 : e_up w109 280 y2 0 = w111
              have hT112 : e_Has mTy w111 := e_Has.ups hT110 hw111 rfl
              refine e_Ok.ps1 (x := (1, 275)) (q := 144) 1 rfl ?_
              refine e_Ok.getr (z := 338) rfl (el_o rfl) rfl rfl (e_uq hw111 (Or.inl (by decide)) (e_uq hw109 (Or.inl (by decide)) (e_uq hw107 (Or.inl (by decide)) (e_uq hw101 (Or.inl (by decide)) (e_uq hw91 (Or.inl (by decide)) (e_uq hw86 (Or.inl (by decide)) (e_uq hw81 (Or.inl (by decide)) (e_Has.eq j28 rfl)))))))) ⟨by decide, by decide⟩ ?_
              refine e_Ok.ps2 (x := (0, 0)) (y := (0, y2)) (q := 149) 2 rfl ?_
              refine e_Ok.ast rfl (el_o rfl) rfl rfl (by omega) ?_
              generalize hw113 : e_up w111 338 y2 0 = w113
              have hT114 : e_Has mTy w113 := e_Has.upr hT112 hw113 rfl (by omega)
              refine e_Ok.ps1 (x := (1, 275)) (q := 151) 1 rfl ?_
              refine e_Ok.getr (z := 339) rfl (el_o rfl) rfl rfl (e_uq hw113 (Or.inl (by decide)) (e_uq hw111 (Or.inl (by decide)) (e_uq hw109 (Or.inl (by decide)) (e_uq hw107 (Or.inl (by decide)) (e_uq hw101 (Or.inl (by decide)) (e_uq hw91 (Or.inl (by decide)) (e_uq hw86 (Or.inl (by decide)) (e_uq hw81 (Or.inl (by decide)) (e_Has.eq j28 rfl))))))))) ⟨by decide, by decide⟩ ?_
              refine e_Ok.ps2 (x := (0, 0)) (y := (0, y2)) (q := 156) 2 rfl ?_
              refine e_Ok.ast rfl (el_o rfl) rfl rfl (by omega) ?_
              generalize hw115 : e_up w113 339 y2 0 = w115
              have hT116 : e_Has mTy w115 := e_Has.upr hT114 hw115 rfl (by omega)
              refine e_Ok.ps1 (x := (1, 275)) (q := 158) 1 rfl ?_
              refine e_Ok.getr (z := 340) rfl (el_o rfl) rfl rfl (e_uq hw115 (Or.inl (by decide)) (e_uq hw113 (Or.inl (by decide)) (e_uq hw111 (Or.inl (by decide)) (e_uq hw109 (Or.inl (by decide)) (e_uq hw107 (Or.inl (by decide)) (e_uq hw101 (Or.inl (by decide)) (e_uq hw91 (Or.inl (by decide)) (e_uq hw86 (Or.inl (by decide)) (e_uq hw81 (Or.inl (by decide)) (e_Has.eq j28 rfl)))))))))) ⟨by decide, by decide⟩ ?_
              refine e_Ok.ps2 (x := (0, 0)) (y := (0, y2)) (q := 163) 2 rfl ?_
              refine e_Ok.ast rfl (el_o rfl) rfl (e_nar_b (by omega)) (by omega) ?_
              generalize hw117 : e_up w115 340 y2 0 = w117
              have hT118 : e_Has mTy w117 := e_Has.upr hT116 hw117 rfl (by omega)
              refine e_Ok.inc (z := y2 + 1) rfl rfl (by first | with_reducible rfl | omega) (by omega) ?_
              show e_Ok 20 elay ecode eI (d + 1) 267 (167, [(1, (0, y2 + 1)), (0, (1, 275))], [], w117) _
              refine e_Ok.ps0 (q := 68) 1 rfl ?_
              refine e_Ok.sub eAlk (e_sub_of rfl ?_) (ih27 (y2 + 1) w117 ⟨hT118, (rF.up (rF.up (rF.up (rF.up (rF.up (rF.up (rF.up (rF.up (rF.up (rF.up j29 hw81 (by decide)) hw86 (by decide)) hw91 (by decide)) hw101 (by decide)) hw107 (by decide)) hw109 (by decide)) hw111 (by decide)) hw113 (by decide)) hw115 (by decide)) hw117 (by decide)), by omega, (e_fr.up (e_fr.up (e_fr.up (e_fr.up (e_fr.up (e_fr.up (e_fr.up (e_fr.up (e_fr.up (e_fr.up j31 hw81 (by unfold mRa; omega)) hw86 (by unfold mRa; omega)) hw91 (by unfold mRa; omega)) hw101 (by unfold mRa; omega)) hw107 (by unfold mRa; omega)) hw109 (by unfold mRa; omega)) hw111 (by unfold mRa; omega)) hw113 (by unfold mRa; omega)) hw115 (by unfold mRa; omega)) hw117 (by unfold mRa; omega)), (fun a g1 g2 => Decidable.byCases (p := a = y2) (fun e => by rw [e]; exact ⟨(e_uq hw117 (Or.inl (by first | decide | omega)) (e_uq hw115 (Or.inl (by first | decide | omega)) (e_uq hw113 (Or.inl (by first | decide | omega)) (e_uq hw111 (Or.inl (by first | decide | omega)) (e_uq hw109 (Or.inl (by first | decide | omega)) (e_uq hw107 (Or.inl (by first | decide | omega)) (e_uq hw101 (Or.inl (by first | decide | omega)) (e_uq hw91 (Or.inl (by first | decide | omega)) (e_uq hw86 (Or.inl (by first | decide | omega)) (e_ue hw81)))))))))), (e_uq hw117 (Or.inl (by first | decide | omega)) (e_uq hw115 (Or.inl (by first | decide | omega)) (e_ue hw113))), (e_uq hw117 (Or.inl (by first | decide | omega)) (e_uq hw115 (Or.inl (by first | decide | omega)) (e_uq hw113 (Or.inl (by first | decide | omega)) (e_uq hw111 (Or.inl (by first | decide | omega)) (e_uq hw109 (Or.inl (by first | decide | omega)) (e_uq hw107 (Or.inr (by omega)) (e_uq hw101 (Or.inr (by omega)) (e_uq hw91 (Or.inr (by omega)) (e_ue hw86)))))))))⟩) (fun e => ⟨Eq.trans (show w117 286 a = v2 286 a from (e_uq hw117 (Or.inl (by first | decide | omega)) (e_uq hw115 (Or.inl (by first | decide | omega)) (e_uq hw113 (Or.inl (by first | decide | omega)) (e_uq hw111 (Or.inl (by first | decide | omega)) (e_uq hw109 (Or.inl (by first | decide | omega)) (e_uq hw107 (Or.inl (by first | decide | omega)) (e_uq hw101 (Or.inl (by first | decide | omega)) (e_uq hw91 (Or.inl (by first | decide | omega)) (e_uq hw86 (Or.inl (by first | decide | omega)) (e_uq hw81 (Or.inr (by omega)) rfl))))))))))) (j32 a g1 (by omega)).1, Eq.trans (show w117 338 a = v2 338 a from (e_uq hw117 (Or.inl (by first | decide | omega)) (e_uq hw115 (Or.inl (by first | decide | omega)) (e_uq hw113 (Or.inr (by omega)) (e_uq hw111 (Or.inl (by first | decide | omega)) (e_uq hw109 (Or.inl (by first | decide | omega)) (e_uq hw107 (Or.inl (by first | decide | omega)) (e_uq hw101 (Or.inl (by first | decide | omega)) (e_uq hw91 (Or.inl (by first | decide | omega)) (e_uq hw86 (Or.inl (by first | decide | omega)) (e_uq hw81 (Or.inl (by first | decide | omega)) rfl))))))))))) (j32 a g1 (by omega)).2.1, Eq.trans (show w117 276 (36 * a + 17) = v2 276 (36 * a + 17) from (e_uq hw117 (Or.inl (by first | decide | omega)) (e_uq hw115 (Or.inl (by first | decide | omega)) (e_uq hw113 (Or.inl (by first | decide | omega)) (e_uq hw111 (Or.inl (by first | decide | omega)) (e_uq hw109 (Or.inl (by first | decide | omega)) (e_uq hw107 (Or.inr (by omega)) (e_uq hw101 (Or.inr (by omega)) (e_uq hw91 (Or.inr (by omega)) (e_uq hw86 (Or.inr (by omega)) (e_uq hw81 (Or.inl (by first | decide | omega)) rfl))))))))))) (j32 a g1 (by omega)).2.2⟩))⟩ (by omega))
              exact ⟨rfl, rfl, trivial⟩
        refine e_Ok.sub eAlk (e_sub_of rfl ?_) (hL26 (5 + 1 : Int).toNat 0 v1 ⟨j21, j22, by omega, (e_fr.refl v1), (fun a g1 g2 => by omega)⟩ (by omega))
        exact ⟨rfl, rfl, trivial⟩
      · replace h25 : (y1 : Int) < 33060 := Int.not_le.mp (show ¬ ((y1 : Int) ≥ 33060) from h25)
        refine e_Ok.ps1 (x := (1, 275)) (q := 54) 1 rfl ?_
        refine e_Ok.getr (z := 276) rfl (el_o rfl) rfl rfl (e_Has.eq j21 rfl) ⟨by decide, by decide⟩ ?_
        refine e_Ok.ps2 (x := (0, 0)) (y := (0, y1)) (q := 59) 2 rfl ?_
        refine e_Ok.ast rfl (el_o rfl) rfl rfl (by omega) ?_
        generalize hw119 : e_up v1 276 y1 0 = w119
        have hT120 : e_Has mTy w119 := e_Has.zero j21 hw119
        refine e_Ok.inc (z := y1 + 1) rfl rfl (by first | with_reducible rfl | omega) (by omega) ?_
        show e_Ok 20 elay ecode eI (d + 1) 267 (63, [(1, (0, y1 + 1)), (0, (1, 275))], [], w119) _
        refine e_Ok.ps0 (q := 47) 1 rfl ?_
        refine e_Ok.sub eAlk (e_sub_of rfl ?_) (ih20 (y1 + 1) w119 ⟨hT120, (rF.up j22 hw119 (by decide)), by omega, (fun k g1 g2 => Decidable.byCases (p := k = y1) (fun e => by rw [e, ← hw119]; exact e_up_eq _ _ _ _) (fun e => Eq.trans (show w119 276 k = v1 276 k from by rw [← hw119]; exact e_up_ne _ _ (Or.inr e)) (j24 k g1 (by omega))))⟩ (by omega))
        exact ⟨rfl, rfl, trivial⟩
  refine e_Ok.sub eAlk (e_sub_of rfl ?_) (hL19 (33061 + 1 : Int).toNat 0 w17 ⟨hT18, ⟨(e_uq hw17 (Or.inr (by first | decide | omega)) (e_uq hw15 (Or.inr (by first | decide | omega)) (e_uq hw13 (Or.inr (by first | decide | omega)) (e_uq hw11 (Or.inr (by first | decide | omega)) (e_uq hw9 (Or.inr (by first | decide | omega)) (e_uq hw7 (Or.inr (by first | decide | omega)) (e_uq hw5 (Or.inr (by first | decide | omega)) (e_uq hw3 (Or.inr (by first | decide | omega)) (e_ue hw1))))))))), (e_uq hw17 (Or.inr (by first | decide | omega)) (e_uq hw15 (Or.inr (by first | decide | omega)) (e_uq hw13 (Or.inr (by first | decide | omega)) (e_uq hw11 (Or.inr (by first | decide | omega)) (e_uq hw9 (Or.inr (by first | decide | omega)) (e_uq hw7 (Or.inr (by first | decide | omega)) (e_uq hw5 (Or.inr (by first | decide | omega)) (e_ue hw3)))))))), (e_uq hw17 (Or.inr (by first | decide | omega)) (e_uq hw15 (Or.inr (by first | decide | omega)) (e_uq hw13 (Or.inr (by first | decide | omega)) (e_uq hw11 (Or.inr (by first | decide | omega)) (e_uq hw9 (Or.inr (by first | decide | omega)) (e_uq hw7 (Or.inr (by first | decide | omega)) (e_ue hw5))))))), (e_uq hw17 (Or.inr (by first | decide | omega)) (e_uq hw15 (Or.inr (by first | decide | omega)) (e_uq hw13 (Or.inr (by first | decide | omega)) (e_uq hw11 (Or.inr (by first | decide | omega)) (e_uq hw9 (Or.inr (by first | decide | omega)) (e_ue hw7)))))), (e_uq hw17 (Or.inr (by first | decide | omega)) (e_uq hw15 (Or.inr (by first | decide | omega)) (e_uq hw13 (Or.inr (by first | decide | omega)) (e_uq hw11 (Or.inr (by first | decide | omega)) (e_ue hw9))))), (e_uq hw17 (Or.inr (by first | decide | omega)) (e_uq hw15 (Or.inr (by first | decide | omega)) (e_uq hw13 (Or.inr (by first | decide | omega)) (e_ue hw11)))), (e_uq hw17 (Or.inr (by first | decide | omega)) (e_uq hw15 (Or.inr (by first | decide | omega)) (e_ue hw13))), (e_uq hw17 (Or.inr (by first | decide | omega)) (e_ue hw15))⟩, by omega, (fun k g1 g2 => by omega)⟩ (by omega))
  exact ⟨rfl, rfl, trivial⟩
theorem c_277_s {d : Nat} (hd : 23 ≤ d) {w : eW} (hT : e_Has mTy w) : e_Ok 20 elay ecode eI d 277 (0, [(0, (1, 275))], [], w) (fun r w' => ∃ z : Int, r = [(0, z)] ∧ e_Has mTy w' ∧ ∀ k, 0 ≤ k → k < 448 → w' 299 k = 0) := by
  obtain ⟨d, rfl⟩ : ∃ e, d = e + 1 := ⟨d - 1, by omega⟩
  refine e_Ok.ps1 (x := (1, 275)) (q := 1) 1 rfl ?_
  refine e_Ok.getr (z := 276) rfl (el_o rfl) rfl rfl (e_Has.eq hT rfl) ⟨by decide, by decide⟩ ?_
  refine e_Ok.ps1 (x := (0, 0)) (q := 5) 1 rfl ?_
  have h1 := (e_Has.get hT (c := 276) (k := 0) (lo := 0) (hi := 6000) rfl (by decide))
  refine e_Ok.ald (z := w 276 0) rfl (el_o rfl) rfl (by omega) rfl (e_bq h1 (by decide) (by decide)) ?_
  refine e_Ok.run (t' := (8, [(1, (0, w 276 0)), (0, (1, 275))], [(1, 275)], w)) 2 rfl ?_
  refine e_Ok.callV rfl (e_dq hd rfl) rfl rfl rfl rfl (c_267_s (e_dq hd rfl) hT) (fun r2 w3 h4 => ?_)
  obtain ⟨rfl, hT2, hN2⟩ := h4
  refine e_Ok.nrm (q := 11) (st' := []) rfl rfl ?_
  refine e_Ok.ps1 (x := (0, w 276 0)) (q := 12) 1 rfl ?_
  refine e_Ok.rets rfl rfl ?_
  exact ⟨_, rfl, hT2, hN2⟩
end
