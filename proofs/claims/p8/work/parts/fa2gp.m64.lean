noncomputable section
/-- how far an arm reaches with its first joints, as the model has them -/
def jsM (w : eW) (a : Int) : Nat → Int
  | 0 => 0
  | n + 1 => jsM w a n + (w 292 (6 * a + n) + (if w 287 (6 * a + n) = 1 then 0 else w 289 (6 * a + n)))
theorem jsM_s {w : eW} {a y : Int} (hy : 0 ≤ y) : jsM w a (y + 1).toNat = jsM w a y.toNat + (w 292 (6 * a + y) + (if w 287 (6 * a + y) = 1 then 0 else w 289 (6 * a + y))) := by
  obtain ⟨n, rfl⟩ := Int.eq_ofNat_of_zero_le hy
  rfl
set_option maxHeartbeats 4000000 in
theorem c_279_ex {d : Nat} (hd : 24 ≤ d) {w : eW} (hT : e_Has mTy w) {p1 p2 p3 p4 p5 : Int} (g1 : (-2147483648) ≤ p1 ∧ p1 ≤ 2147483647) (g2 : (-2147483648) ≤ p2 ∧ p2 ≤ 2147483647) (g3 : (-2147483648) ≤ p3 ∧ p3 ≤ 2147483647) (g4 : (-2147483648) ≤ p4 ∧ p4 ≤ 2147483647) (g5 : (-2147483648) ≤ p5 ∧ p5 ≤ 2147483647) : e_Ok 20 elay ecode eI d 279 (0, [(0, (1, 275)), (1, (0, p1)), (2, (0, p2)), (3, (0, p3)), (4, (0, p4)), (5, (0, p5))], [], w) (fun r w' => ∃ z : Int, r = [(0, z)] ∧ ((w = w' ∧ ((¬ ((0 ≤ p1 ∧ p1 < w 275 10) ∧ (0 ≤ p2 ∧ p2 ≤ 1) ∧ ((p2 = 0 ∧ (-100000 ≤ p3 ∧ p3 ≤ 0) ∧ (0 ≤ p4 ∧ p4 ≤ 100000)) ∨ (p2 = 1 ∧ (-8000 ≤ p3 ∧ p3 ≤ 0) ∧ (0 ≤ p4 ∧ p4 ≤ 8000))) ∧ (0 ≤ p5 ∧ p5 ≤ 8000) ∧ ¬ (p2 = 1 ∧ p5 + p3 < 0) ∧ p5 + (if p2 = 1 then p4 else 0) + jsM w p1 (w 286 p1).toNat ≤ 8000) ∧ z = -1) ∨ (((0 ≤ p1 ∧ p1 < w 275 10) ∧ (0 ≤ p2 ∧ p2 ≤ 1) ∧ ((p2 = 0 ∧ (-100000 ≤ p3 ∧ p3 ≤ 0) ∧ (0 ≤ p4 ∧ p4 ≤ 100000)) ∨ (p2 = 1 ∧ (-8000 ≤ p3 ∧ p3 ≤ 0) ∧ (0 ≤ p4 ∧ p4 ≤ 8000))) ∧ (0 ≤ p5 ∧ p5 ≤ 8000) ∧ ¬ (p2 = 1 ∧ p5 + p3 < 0) ∧ p5 + (if p2 = 1 then p4 else 0) + jsM w p1 (w 286 p1).toNat ≤ 8000) ∧ ((w 275 3 ≠ 0 ∧ z = -2) ∨ (w 275 3 = 0 ∧ w 286 p1 = 6 ∧ z = -3))))) ∨ ((((0 ≤ p1 ∧ p1 < w 275 10) ∧ (0 ≤ p2 ∧ p2 ≤ 1) ∧ ((p2 = 0 ∧ (-100000 ≤ p3 ∧ p3 ≤ 0) ∧ (0 ≤ p4 ∧ p4 ≤ 100000)) ∨ (p2 = 1 ∧ (-8000 ≤ p3 ∧ p3 ≤ 0) ∧ (0 ≤ p4 ∧ p4 ≤ 8000))) ∧ (0 ≤ p5 ∧ p5 ≤ 8000) ∧ ¬ (p2 = 1 ∧ p5 + p3 < 0) ∧ p5 + (if p2 = 1 then p4 else 0) + jsM w p1 (w 286 p1).toNat ≤ 8000) ∧ w 275 3 = 0 ∧ ¬ (w 286 p1 = 6)) ∧ z = w 286 p1 ∧ w' = e_up (e_up (e_up (e_up (e_up (e_up (e_up (e_up w 287 (6 * p1 + w 286 p1) (-p2 + 1)) 288 (6 * p1 + w 286 p1) (p3)) 289 (6 * p1 + w 286 p1) (p4)) 290 (6 * p1 + w 286 p1) (100)) 291 (6 * p1 + w 286 p1) (10)) 292 (6 * p1 + w 286 p1) (p5)) 293 (6 * p1 + w 286 p1) (0)) 286 (p1) (w 286 p1 + 1)))) := by
  obtain ⟨d, rfl⟩ : ∃ e, d = e + 1 := ⟨d - 1, by omega⟩
  have hop := e_Has.get hT (c := 275) (k := 3) (lo := 0) (hi := 1) (mt_o rfl) (by decide)
  have hjo := e_Has.get hT (c := 286) (k := p1) (lo := 0) (hi := 6) (mt_o rfl) (by decide)
  refine e_Ok.ps2 (x := (0, p1)) (y := (1, 275)) (q := 2) 2 rfl ?_
  refine e_Ok.callV rfl (e_dq hd rfl) rfl rfl rfl rfl (c_270 (e_dq hd rfl) hT) (fun r1 w2 h3 => ?_)
  have h4 := e_Has.get hT (c := 275) (k := 10) (lo := 0) (hi := 4) (mt_o rfl) (by decide)
  obtain ⟨z5, rfl, rfl, q6⟩ := h3
  obtain ⟨rfl, q6⟩ | ⟨rfl, q6⟩ := q6
  · refine e_Ok.nrm (q := 5) (st' := [(0, 1)]) rfl rfl ?_
    refine e_Ok.if1 rfl (fun h7 => ?_) (fun h7 => ?_)
    · replace h7 : (1 : Int) = 0 := h7
      exfalso; omega
    · replace h7 : (1 : Int) ≠ 0 := (show ¬ ((1 : Int) = 0) from h7)
      refine e_Ok.ps3 (x := (4, 1)) (y := (4, 0)) (z := (4, p2)) (q := 12) 4 rfl ?_
      refine e_Ok.callS rfl (e_dq hd rfl) rfl rfl (c_266) (fun r8 w9 h10 => ?_)
      obtain ⟨z11, rfl, rfl, q12⟩ := h10
      obtain ⟨rfl, q12⟩ | ⟨rfl, q12⟩ := q12
      · refine e_Ok.nrm (q := 15) (st' := [(0, 1)]) rfl rfl ?_
        refine e_Ok.if1 rfl (fun h13 => ?_) (fun h13 => ?_)
        · replace h13 : (1 : Int) ≠ 0 := h13
          refine e_Ok.ps1 (x := (0, p2)) (q := 21) 1 rfl ?_
          refine e_Ok.if1 rfl (fun h14 => ?_) (fun h14 => ?_)
          · replace h14 : (p2 : Int) ≠ 0 := h14
            refine e_Ok.run (t' := (39, [(6, (0, 8000)), (0, (1, 275)), (1, (0, p1)), (2, (0, p2)), (3, (0, p3)), (4, (0, p4)), (5, (0, p5))], [(0, 8000), (4, p3)], w)) 5 rfl ?_
            refine e_Ok.neg (z := (-8000)) rfl (by omega) (by omega) ?_
            refine e_Ok.run (t' := (42, [(6, (0, 8000)), (0, (1, 275)), (1, (0, p1)), (2, (0, p2)), (3, (0, p3)), (4, (0, p4)), (5, (0, p5))], [(4, 0), (4, (-8000)), (4, p3)], w)) 2 rfl ?_
            refine e_Ok.callS rfl (e_dq hd rfl) rfl rfl (c_266) (fun r15 w16 h17 => ?_)
            obtain ⟨z18, rfl, rfl, q19⟩ := h17
            obtain ⟨rfl, q19⟩ | ⟨rfl, q19⟩ := q19
            · refine e_Ok.nrm (q := 45) (st' := [(0, 1)]) rfl rfl ?_
              refine e_Ok.if1 rfl (fun h20 => ?_) (fun h20 => ?_)
              · replace h20 : (1 : Int) = 0 := h20
                exfalso; omega
              · replace h20 : (1 : Int) ≠ 0 := (show ¬ ((1 : Int) = 0) from h20)
                refine e_Ok.ps3 (x := (4, 8000)) (y := (4, 0)) (z := (4, p4)) (q := 55) 5 rfl ?_
                refine e_Ok.callS rfl (e_dq hd rfl) rfl rfl (c_266) (fun r21 w22 h23 => ?_)
                obtain ⟨z24, rfl, rfl, q25⟩ := h23
                obtain ⟨rfl, q25⟩ | ⟨rfl, q25⟩ := q25
                · refine e_Ok.nrm (q := 58) (st' := [(0, 1)]) rfl rfl ?_
                  refine e_Ok.if1 rfl (fun h26 => ?_) (fun h26 => ?_)
                  · replace h26 : (1 : Int) = 0 := h26
                    exfalso; omega
                  · replace h26 : (1 : Int) ≠ 0 := (show ¬ ((1 : Int) = 0) from h26)
                    refine e_Ok.ps3 (x := (4, 8000)) (y := (4, 0)) (z := (4, p5)) (q := 68) 4 rfl ?_
                    refine e_Ok.callS rfl (e_dq hd rfl) rfl rfl (c_266) (fun r27 w28 h29 => ?_)
                    obtain ⟨z30, rfl, rfl, q31⟩ := h29
                    obtain ⟨rfl, q31⟩ | ⟨rfl, q31⟩ := q31
                    · refine e_Ok.nrm (q := 71) (st' := [(0, 1)]) rfl rfl ?_
                      refine e_Ok.if1 rfl (fun h32 => ?_) (fun h32 => ?_)
                      · replace h32 : (1 : Int) ≠ 0 := h32
                        refine e_Ok.ps3 (x := (0, 1)) (y := (0, p2)) (z := (0, p5)) (q := 80) 3 rfl ?_
                        refine e_Ok.if2 rfl (fun h33 => ?_) (fun h33 => ?_)
                        · replace h33 : (p2 : Int) ≠ 1 := h33
                          exfalso; omega
                        · replace h33 : (p2 : Int) = 1 := Classical.not_not.mp (show ¬ ((p2 : Int) ≠ 1) from h33)
                          refine e_Ok.ps1 (x := (0, p4)) (q := 89) 2 rfl ?_
                          refine e_Ok.add (z := p5 + p4) rfl rfl (by omega) ?_
                          refine e_Ok.run (t' := (95, [(8, (0, 0)), (7, (0, p5 + p4)), (6, (0, 8000)), (0, (1, 275)), (1, (0, p1)), (2, (0, p2)), (3, (0, p3)), (4, (0, p4)), (5, (0, p5))], [], w)) 3 rfl ?_
                          have hL34 : ∀ (nn : Nat) (y7 : Int) (y8 : Int), (0 ≤ y8 ∧ y8 ≤ 6 ∧ y8 ≤ w 286 p1) ∧ (0 ≤ y7 ∧ y7 ≤ 116000 + 108000 * y8) ∧ y7 = p5 + (if p2 = 1 then p4 else 0) + jsM w p1 y8.toNat → 7 - y8 < nn → e_Ok 20 elay ecode eI (d + 1) 279 (95, [(0, (1, 275)), (1, (0, p1)), (2, (0, p2)), (3, (0, p3)), (4, (0, p4)), (5, (0, p5)), (7, (0, y7)), (8, (0, y8))], [], w) (fun r w' => ∃ z : Int, r = [(0, z)] ∧ ((w = w' ∧ ((¬ ((0 ≤ p1 ∧ p1 < w 275 10) ∧ (0 ≤ p2 ∧ p2 ≤ 1) ∧ ((p2 = 0 ∧ (-100000 ≤ p3 ∧ p3 ≤ 0) ∧ (0 ≤ p4 ∧ p4 ≤ 100000)) ∨ (p2 = 1 ∧ (-8000 ≤ p3 ∧ p3 ≤ 0) ∧ (0 ≤ p4 ∧ p4 ≤ 8000))) ∧ (0 ≤ p5 ∧ p5 ≤ 8000) ∧ ¬ (p2 = 1 ∧ p5 + p3 < 0) ∧ p5 + (if p2 = 1 then p4 else 0) + jsM w p1 (w 286 p1).toNat ≤ 8000) ∧ z = -1) ∨ (((0 ≤ p1 ∧ p1 < w 275 10) ∧ (0 ≤ p2 ∧ p2 ≤ 1) ∧ ((p2 = 0 ∧ (-100000 ≤ p3 ∧ p3 ≤ 0) ∧ (0 ≤ p4 ∧ p4 ≤ 100000)) ∨ (p2 = 1 ∧ (-8000 ≤ p3 ∧ p3 ≤ 0) ∧ (0 ≤ p4 ∧ p4 ≤ 8000))) ∧ (0 ≤ p5 ∧ p5 ≤ 8000) ∧ ¬ (p2 = 1 ∧ p5 + p3 < 0) ∧ p5 + (if p2 = 1 then p4 else 0) + jsM w p1 (w 286 p1).toNat ≤ 8000) ∧ ((w 275 3 ≠ 0 ∧ z = -2) ∨ (w 275 3 = 0 ∧ w 286 p1 = 6 ∧ z = -3))))) ∨ ((((0 ≤ p1 ∧ p1 < w 275 10) ∧ (0 ≤ p2 ∧ p2 ≤ 1) ∧ ((p2 = 0 ∧ (-100000 ≤ p3 ∧ p3 ≤ 0) ∧ (0 ≤ p4 ∧ p4 ≤ 100000)) ∨ (p2 = 1 ∧ (-8000 ≤ p3 ∧ p3 ≤ 0) ∧ (0 ≤ p4 ∧ p4 ≤ 8000))) ∧ (0 ≤ p5 ∧ p5 ≤ 8000) ∧ ¬ (p2 = 1 ∧ p5 + p3 < 0) ∧ p5 + (if p2 = 1 then p4 else 0) + jsM w p1 (w 286 p1).toNat ≤ 8000) ∧ w 275 3 = 0 ∧ ¬ (w 286 p1 = 6)) ∧ z = w 286 p1 ∧ w' = e_up (e_up (e_up (e_up (e_up (e_up (e_up (e_up w 287 (6 * p1 + w 286 p1) (-p2 + 1)) 288 (6 * p1 + w 286 p1) (p3)) 289 (6 * p1 + w 286 p1) (p4)) 290 (6 * p1 + w 286 p1) (100)) 291 (6 * p1 + w 286 p1) (10)) 292 (6 * p1 + w 286 p1) (p5)) 293 (6 * p1 + w 286 p1) (0)) 286 (p1) (w 286 p1 + 1)))) := by
                            intro nn
                            induction nn with
                            | zero => intro y7 y8 hj hm; obtain ⟨j36, j37, j38⟩ := hj; exfalso; omega
                            | succ nn ih35 =>
                              intro y7 y8 hj hm
                              obtain ⟨j36, j37, j38⟩ := hj
                              refine e_Ok.run (t' := (98, [(0, (1, 275)), (1, (0, p1)), (2, (0, p2)), (3, (0, p3)), (4, (0, p4)), (5, (0, p5)), (7, (0, y7)), (8, (0, y8))], [(1, 275), (0, y8)], w)) 2 rfl ?_
                              refine e_Ok.getr (z := 286) rfl (el_o rfl) rfl (ef_o rfl) (e_Has.eq hT (mt_o rfl)) ⟨by decide, by decide⟩ ?_
                              refine e_Ok.ps1 (x := (0, p1)) (q := 102) 1 rfl ?_
                              have h40 := (e_Has.get hT (c := 286) (k := p1) (lo := 0) (hi := 6) (mt_o rfl) (by decide))
                              refine e_Ok.ald (z := w 286 p1) rfl (el_o rfl) rfl (by omega) rfl (e_bq h40 (by decide) (by decide)) ?_
                              refine e_Ok.if2 rfl (fun h41 => ?_) (fun h41 => ?_)
                              · replace h41 : (y8 : Int) ≥ w 286 p1 := h41
                                have e86 : y8 = w 286 p1 := by omega
                                have js : y7 = p5 + (if p2 = 1 then p4 else 0) + jsM w p1 (w 286 p1).toNat := by rw [← e86]; assumption
                                refine e_Ok.ps2 (x := (0, 1)) (y := (0, p2)) (q := 164) 2 rfl ?_
                                refine e_Ok.if2 rfl (fun h42 => ?_) (fun h42 => ?_)
                                · replace h42 : (p2 : Int) ≠ 1 := h42
                                  exfalso; omega
                                · replace h42 : (p2 : Int) = 1 := Classical.not_not.mp (show ¬ ((p2 : Int) ≠ 1) from h42)
                                  refine e_Ok.ps2 (x := (0, p3)) (y := (0, p5)) (q := 170) 2 rfl ?_
                                  refine e_Ok.add (z := p5 + p3) rfl rfl (by omega) ?_
                                  refine e_Ok.if1 rfl (fun h43 => ?_) (fun h43 => ?_)
                                  · replace h43 : (p5 + p3 : Int) < 0 := h43
                                    refine e_Ok.ps1 (x := (0, (-1))) (q := 183) 1 rfl ?_
                                    refine e_Ok.rets rfl rfl ?_
                                    exact ⟨_, rfl, Or.inl ⟨rfl, by omega⟩⟩
                                  · replace h43 : (p5 + p3 : Int) ≥ 0 := Int.not_lt.mp (show ¬ ((p5 + p3 : Int) < 0) from h43)
                                    refine e_Ok.ps2 (x := (0, 8000)) (y := (0, y7)) (q := 179) 2 rfl ?_
                                    refine e_Ok.if2 rfl (fun h44 => ?_) (fun h44 => ?_)
                                    · replace h44 : (y7 : Int) ≤ 8000 := h44
                                      refine e_Ok.ps1 (x := (1, 275)) (q := 185) 1 rfl ?_
                                      refine e_Ok.getf (z := w 275 3) rfl (el_o rfl) rfl (ef_o rfl) rfl (by omega) ?_
                                      refine e_Ok.if1 rfl (fun h45 => ?_) (fun h45 => ?_)
                                      · replace h45 : (w 275 3 : Int) = 0 := h45
                                        refine e_Ok.ps1 (x := (1, 275)) (q := 195) 1 rfl ?_
                                        refine e_Ok.getr (z := 286) rfl (el_o rfl) rfl (ef_o rfl) (e_Has.eq hT (mt_o rfl)) ⟨by decide, by decide⟩ ?_
                                        refine e_Ok.ps1 (x := (0, p1)) (q := 199) 1 rfl ?_
                                        refine e_Ok.ald (z := w 286 p1) rfl (el_o rfl) rfl (by omega) rfl (by omega) ?_
                                        refine e_Ok.ps1 (x := (0, 6)) (q := 202) 1 rfl ?_
                                        refine e_Ok.if2 rfl (fun h46 => ?_) (fun h46 => ?_)
                                        · replace h46 : (w 286 p1 : Int) ≠ 6 := h46
                                          refine e_Ok.ps2 (x := (0, p1)) (y := (0, 6)) (q := 211) 2 rfl ?_
                                          refine e_Ok.mul (z := 6 * p1) rfl rfl (by omega) ?_
                                          refine e_Ok.ps1 (x := (1, 275)) (q := 213) 1 rfl ?_
                                          refine e_Ok.getr (z := 286) rfl (el_o rfl) rfl (ef_o rfl) (e_Has.eq hT (mt_o rfl)) ⟨by decide, by decide⟩ ?_
                                          refine e_Ok.ps1 (x := (0, p1)) (q := 217) 1 rfl ?_
                                          refine e_Ok.ald (z := w 286 p1) rfl (el_o rfl) rfl (by omega) rfl (by omega) ?_
                                          refine e_Ok.add (z := 6 * p1 + w 286 p1) rfl rfl (by omega) ?_
                                          refine e_Ok.run (t' := (222, [(8, (0, 6 * p1 + w 286 p1)), (0, (1, 275)), (1, (0, p1)), (2, (0, p2)), (3, (0, p3)), (4, (0, p4)), (5, (0, p5)), (7, (0, y7))], [(1, 275)], w)) 2 rfl ?_
                                          refine e_Ok.getr (z := 287) rfl (el_o rfl) rfl (ef_o rfl) (e_Has.eq hT (mt_o rfl)) ⟨by decide, by decide⟩ ?_
                                          refine e_Ok.ps3 (x := (0, p2)) (y := (0, 1)) (z := (0, 6 * p1 + w 286 p1)) (q := 229) 3 rfl ?_
                                          refine e_Ok.sub' (z := -p2 + 1) rfl (by omega) (by omega) ?_
                                          refine e_Ok.ast rfl (el_o rfl) rfl rfl (by omega) ?_
                                          generalize hw47 : e_up w 287 (6 * p1 + w 286 p1) (-p2 + 1) = w47
                                          refine e_Ok.ps1 (x := (1, 275)) (q := 232) 1 rfl ?_
                                          refine e_Ok.getr (z := 288) rfl (el_o rfl) rfl (ef_o rfl) (e_uq hw47 (Or.inl (by decide)) (e_Has.eq hT (mt_o rfl))) ⟨by decide, by decide⟩ ?_
                                          refine e_Ok.ps2 (x := (0, p3)) (y := (0, 6 * p1 + w 286 p1)) (q := 238) 2 rfl ?_
                                          refine e_Ok.ast rfl (el_o rfl) rfl rfl (by omega) ?_
                                          generalize hw48 : e_up w47 288 (6 * p1 + w 286 p1) p3 = w48
                                          refine e_Ok.ps1 (x := (1, 275)) (q := 240) 1 rfl ?_
                                          refine e_Ok.getr (z := 289) rfl (el_o rfl) rfl (ef_o rfl) (e_uq hw48 (Or.inl (by decide)) (e_uq hw47 (Or.inl (by decide)) (e_Has.eq hT (mt_o rfl)))) ⟨by decide, by decide⟩ ?_
                                          refine e_Ok.ps2 (x := (0, p4)) (y := (0, 6 * p1 + w 286 p1)) (q := 247) 2 rfl ?_
                                          refine e_Ok.ast rfl (el_o rfl) rfl rfl (by omega) ?_
                                          generalize hw49 : e_up w48 289 (6 * p1 + w 286 p1) p4 = w49
                                          refine e_Ok.ps1 (x := (1, 275)) (q := 249) 1 rfl ?_
                                          refine e_Ok.getr (z := 290) rfl (el_o rfl) rfl (ef_o rfl) (e_uq hw49 (Or.inl (by decide)) (e_uq hw48 (Or.inl (by decide)) (e_uq hw47 (Or.inl (by decide)) (e_Has.eq hT (mt_o rfl))))) ⟨by decide, by decide⟩ ?_
                                          refine e_Ok.ps2 (x := (0, 100)) (y := (0, 6 * p1 + w 286 p1)) (q := 256) 2 rfl ?_
                                          refine e_Ok.ast rfl (el_o rfl) rfl rfl (by omega) ?_
                                          generalize hw50 : e_up w49 290 (6 * p1 + w 286 p1) 100 = w50
                                          refine e_Ok.ps1 (x := (1, 275)) (q := 258) 1 rfl ?_
                                          refine e_Ok.getr (z := 291) rfl (el_o rfl) rfl (ef_o rfl) (e_uq hw50 (Or.inl (by decide)) (e_uq hw49 (Or.inl (by decide)) (e_uq hw48 (Or.inl (by decide)) (e_uq hw47 (Or.inl (by decide)) (e_Has.eq hT (mt_o rfl)))))) ⟨by decide, by decide⟩ ?_
                                          refine e_Ok.ps2 (x := (0, 10)) (y := (0, 6 * p1 + w 286 p1)) (q := 265) 2 rfl ?_
                                          refine e_Ok.ast rfl (el_o rfl) rfl rfl (by omega) ?_
                                          generalize hw51 : e_up w50 291 (6 * p1 + w 286 p1) 10 = w51
                                          refine e_Ok.ps1 (x := (1, 275)) (q := 267) 1 rfl ?_
                                          refine e_Ok.getr (z := 292) rfl (el_o rfl) rfl (ef_o rfl) (e_uq hw51 (Or.inl (by decide)) (e_uq hw50 (Or.inl (by decide)) (e_uq hw49 (Or.inl (by decide)) (e_uq hw48 (Or.inl (by decide)) (e_uq hw47 (Or.inl (by decide)) (e_Has.eq hT (mt_o rfl))))))) ⟨by decide, by decide⟩ ?_
                                          refine e_Ok.ps2 (x := (0, p5)) (y := (0, 6 * p1 + w 286 p1)) (q := 274) 2 rfl ?_
                                          refine e_Ok.ast rfl (el_o rfl) rfl rfl (by omega) ?_
                                          generalize hw52 : e_up w51 292 (6 * p1 + w 286 p1) p5 = w52
                                          refine e_Ok.ps1 (x := (1, 275)) (q := 276) 1 rfl ?_
                                          refine e_Ok.getr (z := 293) rfl (el_o rfl) rfl (ef_o rfl) (e_uq hw52 (Or.inl (by decide)) (e_uq hw51 (Or.inl (by decide)) (e_uq hw50 (Or.inl (by decide)) (e_uq hw49 (Or.inl (by decide)) (e_uq hw48 (Or.inl (by decide)) (e_uq hw47 (Or.inl (by decide)) (e_Has.eq hT (mt_o rfl)))))))) ⟨by decide, by decide⟩ ?_
                                          refine e_Ok.ps2 (x := (0, 0)) (y := (0, 6 * p1 + w 286 p1)) (q := 282) 2 rfl ?_
                                          refine e_Ok.ast rfl (el_o rfl) rfl rfl (by omega) ?_
                                          generalize hw53 : e_up w52 293 (6 * p1 + w 286 p1) 0 = w53
                                          refine e_Ok.ps1 (x := (1, 275)) (q := 284) 1 rfl ?_
                                          refine e_Ok.getr (z := 286) rfl (el_o rfl) rfl (ef_o rfl) (e_uq hw53 (Or.inl (by decide)) (e_uq hw52 (Or.inl (by decide)) (e_uq hw51 (Or.inl (by decide)) (e_uq hw50 (Or.inl (by decide)) (e_uq hw49 (Or.inl (by decide)) (e_uq hw48 (Or.inl (by decide)) (e_uq hw47 (Or.inl (by decide)) (e_Has.eq hT (mt_o rfl))))))))) ⟨by decide, by decide⟩ ?_
                                          refine e_Ok.ps3 (x := (0, p1)) (y := (1, 286)) (z := (0, p1)) (q := 289) 2 rfl ?_
                                          refine e_Ok.ald (z := w 286 p1) rfl (el_o rfl) rfl (by omega) (e_uq hw53 (Or.inl (by decide)) (e_uq hw52 (Or.inl (by decide)) (e_uq hw51 (Or.inl (by decide)) (e_uq hw50 (Or.inl (by decide)) (e_uq hw49 (Or.inl (by decide)) (e_uq hw48 (Or.inl (by decide)) (e_uq hw47 (Or.inl (by decide)) rfl))))))) (by omega) ?_
                                          refine e_Ok.ps1 (x := (0, 1)) (q := 291) 1 rfl ?_
                                          refine e_Ok.add (z := w 286 p1 + 1) rfl rfl (by omega) ?_
                                          refine e_Ok.ast rfl (el_o rfl) rfl rfl (by omega) ?_
                                          generalize hw54 : e_up w53 286 p1 (w 286 p1 + 1) = w54
                                          refine e_Ok.ps1 (x := (1, 275)) (q := 294) 1 rfl ?_
                                          refine e_Ok.getr (z := 286) rfl (el_o rfl) rfl (ef_o rfl) (e_uq hw54 (Or.inl (by decide)) (e_uq hw53 (Or.inl (by decide)) (e_uq hw52 (Or.inl (by decide)) (e_uq hw51 (Or.inl (by decide)) (e_uq hw50 (Or.inl (by decide)) (e_uq hw49 (Or.inl (by decide)) (e_uq hw48 (Or.inl (by decide)) (e_uq hw47 (Or.inl (by decide)) (e_Has.eq hT (mt_o rfl)))))))))) ⟨by decide, by decide⟩ ?_
                                          refine e_Ok.ps1 (x := (0, p1)) (q := 298) 1 rfl ?_
                                          refine e_Ok.ald (z := w 286 p1 + 1) rfl (el_o rfl) rfl (by omega) (e_ue hw54) (by omega) ?_
                                          refine e_Ok.ps1 (x := (0, 1)) (q := 300) 1 rfl ?_
                                          refine e_Ok.sub' (z := w 286 p1) rfl (by omega) (by omega) ?_
                                          refine e_Ok.rets rfl rfl ?_
                                          exact ⟨_, rfl, Or.inr ⟨by omega, by omega, by rw [← hw54, ← hw53, ← hw52, ← hw51, ← hw50, ← hw49, ← hw48, ← hw47]⟩⟩
                                        · replace h46 : (w 286 p1 : Int) = 6 := Classical.not_not.mp (show ¬ ((w 286 p1 : Int) ≠ 6) from h46)
                                          refine e_Ok.ps1 (x := (0, (-3))) (q := 207) 1 rfl ?_
                                          refine e_Ok.rets rfl rfl ?_
                                          exact ⟨_, rfl, Or.inl ⟨rfl, by omega⟩⟩
                                      · replace h45 : (w 275 3 : Int) ≠ 0 := (show ¬ ((w 275 3 : Int) = 0) from h45)
                                        refine e_Ok.ps1 (x := (0, (-2))) (q := 193) 1 rfl ?_
                                        refine e_Ok.rets rfl rfl ?_
                                        exact ⟨_, rfl, Or.inl ⟨rfl, by omega⟩⟩
                                    · replace h44 : (y7 : Int) > 8000 := Int.not_le.mp (show ¬ ((y7 : Int) ≤ 8000) from h44)
                                      refine e_Ok.ps1 (x := (0, (-1))) (q := 183) 1 rfl ?_
                                      refine e_Ok.rets rfl rfl ?_
                                      exact ⟨_, rfl, Or.inl ⟨rfl, by omega⟩⟩
                              · replace h41 : (y8 : Int) < w 286 p1 := Int.not_le.mp (show ¬ ((y8 : Int) ≥ w 286 p1) from h41)
                                refine e_Ok.ps2 (x := (1, 275)) (y := (0, y7)) (q := 109) 2 rfl ?_
                                refine e_Ok.getr (z := 292) rfl (el_o rfl) rfl (ef_o rfl) (e_Has.eq hT (mt_o rfl)) ⟨by decide, by decide⟩ ?_
                                refine e_Ok.ps2 (x := (0, p1)) (y := (0, 6)) (q := 115) 2 rfl ?_
                                refine e_Ok.mul (z := 6 * p1) rfl rfl (by omega) ?_
                                refine e_Ok.ps1 (x := (0, y8)) (q := 118) 1 rfl ?_
                                refine e_Ok.add (z := 6 * p1 + y8) rfl rfl (by omega) ?_
                                have h55 := (e_Has.get hT (c := 292) (k := 6 * p1 + y8) (lo := 0) (hi := 8000) (mt_o rfl) (by decide))
                                refine e_Ok.ald (z := w 292 (6 * p1 + y8)) rfl (el_o rfl) rfl (by omega) rfl (e_bq h55 (by decide) (by decide)) ?_
                                refine e_Ok.ps1 (x := (1, 275)) (q := 121) 1 rfl ?_
                                refine e_Ok.getr (z := 287) rfl (el_o rfl) rfl (ef_o rfl) (e_Has.eq hT (mt_o rfl)) ⟨by decide, by decide⟩ ?_
                                refine e_Ok.ps2 (x := (0, p1)) (y := (0, 6)) (q := 127) 2 rfl ?_
                                refine e_Ok.mul (z := 6 * p1) rfl rfl (by omega) ?_
                                refine e_Ok.ps1 (x := (0, y8)) (q := 130) 1 rfl ?_
                                refine e_Ok.add (z := 6 * p1 + y8) rfl rfl (by omega) ?_
                                have h56 := (e_Has.get hT (c := 287) (k := 6 * p1 + y8) (lo := 0) (hi := 1) (mt_o rfl) (by decide))
                                refine e_Ok.ald (z := w 287 (6 * p1 + y8)) rfl (el_o rfl) rfl (by omega) rfl (e_bq h56 (by decide) (by decide)) ?_
                                refine e_Ok.ps1 (x := (0, 1)) (q := 133) 1 rfl ?_
                                refine e_Ok.if2 rfl (fun h57 => ?_) (fun h57 => ?_)
                                · replace h57 : (w 287 (6 * p1 + y8) : Int) ≠ 1 := h57
                                  refine e_Ok.ps1 (x := (1, 275)) (q := 141) 1 rfl ?_
                                  refine e_Ok.getr (z := 289) rfl (el_o rfl) rfl (ef_o rfl) (e_Has.eq hT (mt_o rfl)) ⟨by decide, by decide⟩ ?_
                                  refine e_Ok.ps2 (x := (0, p1)) (y := (0, 6)) (q := 147) 2 rfl ?_
                                  refine e_Ok.mul (z := 6 * p1) rfl rfl (by omega) ?_
                                  refine e_Ok.ps1 (x := (0, y8)) (q := 150) 1 rfl ?_
                                  refine e_Ok.add (z := 6 * p1 + y8) rfl rfl (by omega) ?_
                                  have h58 := (e_Has.get hT (c := 289) (k := 6 * p1 + y8) (lo := 0) (hi := 100000) (mt_o rfl) (by decide))
                                  refine e_Ok.ald (z := w 289 (6 * p1 + y8)) rfl (el_o rfl) rfl (by omega) rfl (e_bq h58 (by decide) (by decide)) ?_
                                  refine e_Ok.add (z := w 292 (6 * p1 + y8) + w 289 (6 * p1 + y8)) rfl rfl (by omega) ?_
                                  refine e_Ok.add (z := y7 + w 292 (6 * p1 + y8) + w 289 (6 * p1 + y8)) rfl (by omega) (by omega) ?_
                                  refine e_Ok.run (t' := (156, [(7, (0, y7 + w 292 (6 * p1 + y8) + w 289 (6 * p1 + y8))), (0, (1, 275)), (1, (0, p1)), (2, (0, p2)), (3, (0, p3)), (4, (0, p4)), (5, (0, p5)), (8, (0, y8))], [], w)) 1 rfl ?_
                                  refine e_Ok.inc (z := y8 + 1) rfl rfl (by first | with_reducible rfl | omega) (by omega) ?_
                                  show e_Ok 20 elay ecode eI (d + 1) 279 (159, [(8, (0, y8 + 1)), (7, (0, y7 + w 292 (6 * p1 + y8) + w 289 (6 * p1 + y8))), (0, (1, 275)), (1, (0, p1)), (2, (0, p2)), (3, (0, p3)), (4, (0, p4)), (5, (0, p5))], [], w) _
                                  refine e_Ok.ps0 (q := 95) 1 rfl ?_
                                  refine e_Ok.sub eAlk (e_sub_of rfl ?_) (ih35 (y7 + w 292 (6 * p1 + y8) + w 289 (6 * p1 + y8)) (y8 + 1) ⟨by omega, by omega, by rw [jsM_s (by omega)]; omega⟩ (by omega))
                                  exact ⟨rfl, rfl, rfl, rfl, rfl, rfl, rfl, rfl, trivial⟩
                                · replace h57 : (w 287 (6 * p1 + y8) : Int) = 1 := Classical.not_not.mp (show ¬ ((w 287 (6 * p1 + y8) : Int) ≠ 1) from h57)
                                  refine e_Ok.ps1 (x := (0, 0)) (q := 152) 2 rfl ?_
                                  refine e_Ok.add (z := w 292 (6 * p1 + y8)) rfl (by omega) (by omega) ?_
                                  refine e_Ok.add (z := y7 + w 292 (6 * p1 + y8)) rfl rfl (by omega) ?_
                                  refine e_Ok.run (t' := (156, [(7, (0, y7 + w 292 (6 * p1 + y8))), (0, (1, 275)), (1, (0, p1)), (2, (0, p2)), (3, (0, p3)), (4, (0, p4)), (5, (0, p5)), (8, (0, y8))], [], w)) 1 rfl ?_
                                  refine e_Ok.inc (z := y8 + 1) rfl rfl (by first | with_reducible rfl | omega) (by omega) ?_
                                  show e_Ok 20 elay ecode eI (d + 1) 279 (159, [(8, (0, y8 + 1)), (7, (0, y7 + w 292 (6 * p1 + y8))), (0, (1, 275)), (1, (0, p1)), (2, (0, p2)), (3, (0, p3)), (4, (0, p4)), (5, (0, p5))], [], w) _
                                  refine e_Ok.ps0 (q := 95) 1 rfl ?_
                                  refine e_Ok.sub eAlk (e_sub_of rfl ?_) (ih35 (y7 + w 292 (6 * p1 + y8)) (y8 + 1) ⟨by omega, by omega, by rw [jsM_s (by omega)]; omega⟩ (by omega))
                                  exact ⟨rfl, rfl, rfl, rfl, rfl, rfl, rfl, rfl, trivial⟩
                          refine e_Ok.sub eAlk (e_sub_of rfl ?_) (hL34 (7 + 1 : Int).toNat (p5 + p4) 0 ⟨by omega, by omega, by have q : jsM w p1 (0 : Int).toNat = 0 := rfl; omega⟩ (by omega))
                          exact ⟨rfl, rfl, rfl, rfl, rfl, rfl, rfl, rfl, trivial⟩
                      · replace h32 : (1 : Int) = 0 := Classical.not_not.mp (show ¬ ((1 : Int) ≠ 0) from h32)
                        exfalso; omega
                    · refine e_Ok.nrm (q := 71) (st' := [(0, 0)]) rfl rfl ?_
                      refine e_Ok.if1 rfl (fun h59 => ?_) (fun h59 => ?_)
                      · replace h59 : (0 : Int) ≠ 0 := h59
                        exfalso; omega
                      · replace h59 : (0 : Int) = 0 := Classical.not_not.mp (show ¬ ((0 : Int) ≠ 0) from h59)
                        refine e_Ok.ps1 (x := (0, (-1))) (q := 75) 1 rfl ?_
                        refine e_Ok.rets rfl rfl ?_
                        exact ⟨_, rfl, Or.inl ⟨rfl, by omega⟩⟩
                · refine e_Ok.nrm (q := 58) (st' := [(0, 0)]) rfl rfl ?_
                  refine e_Ok.if1 rfl (fun h60 => ?_) (fun h60 => ?_)
                  · replace h60 : (0 : Int) = 0 := h60
                    refine e_Ok.ps1 (x := (0, (-1))) (q := 75) 1 rfl ?_
                    refine e_Ok.rets rfl rfl ?_
                    exact ⟨_, rfl, Or.inl ⟨rfl, by omega⟩⟩
                  · replace h60 : (0 : Int) ≠ 0 := (show ¬ ((0 : Int) = 0) from h60)
                    exfalso; omega
            · refine e_Ok.nrm (q := 45) (st' := [(0, 0)]) rfl rfl ?_
              refine e_Ok.if1 rfl (fun h61 => ?_) (fun h61 => ?_)
              · replace h61 : (0 : Int) = 0 := h61
                refine e_Ok.ps1 (x := (0, (-1))) (q := 75) 1 rfl ?_
                refine e_Ok.rets rfl rfl ?_
                exact ⟨_, rfl, Or.inl ⟨rfl, by omega⟩⟩
              · replace h61 : (0 : Int) ≠ 0 := (show ¬ ((0 : Int) = 0) from h61)
                exfalso; omega
          · replace h14 : (p2 : Int) = 0 := Classical.not_not.mp (show ¬ ((p2 : Int) ≠ 0) from h14)
            refine e_Ok.run (t' := (39, [(6, (0, 100000)), (0, (1, 275)), (1, (0, p1)), (2, (0, p2)), (3, (0, p3)), (4, (0, p4)), (5, (0, p5))], [(0, 100000), (4, p3)], w)) 6 rfl ?_
            refine e_Ok.neg (z := (-100000)) rfl (by omega) (by omega) ?_
            refine e_Ok.run (t' := (42, [(6, (0, 100000)), (0, (1, 275)), (1, (0, p1)), (2, (0, p2)), (3, (0, p3)), (4, (0, p4)), (5, (0, p5))], [(4, 0), (4, (-100000)), (4, p3)], w)) 2 rfl ?_
            refine e_Ok.callS rfl (e_dq hd rfl) rfl rfl (c_266) (fun r62 w63 h64 => ?_)
            obtain ⟨z65, rfl, rfl, q66⟩ := h64
            obtain ⟨rfl, q66⟩ | ⟨rfl, q66⟩ := q66
            · refine e_Ok.nrm (q := 45) (st' := [(0, 1)]) rfl rfl ?_
              refine e_Ok.if1 rfl (fun h67 => ?_) (fun h67 => ?_)
              · replace h67 : (1 : Int) = 0 := h67
                exfalso; omega
              · replace h67 : (1 : Int) ≠ 0 := (show ¬ ((1 : Int) = 0) from h67)
                refine e_Ok.ps3 (x := (4, 100000)) (y := (4, 0)) (z := (4, p4)) (q := 55) 5 rfl ?_
                refine e_Ok.callS rfl (e_dq hd rfl) rfl rfl (c_266) (fun r68 w69 h70 => ?_)
                obtain ⟨z71, rfl, rfl, q72⟩ := h70
                obtain ⟨rfl, q72⟩ | ⟨rfl, q72⟩ := q72
                · refine e_Ok.nrm (q := 58) (st' := [(0, 1)]) rfl rfl ?_
                  refine e_Ok.if1 rfl (fun h73 => ?_) (fun h73 => ?_)
                  · replace h73 : (1 : Int) = 0 := h73
                    exfalso; omega
                  · replace h73 : (1 : Int) ≠ 0 := (show ¬ ((1 : Int) = 0) from h73)
                    refine e_Ok.ps3 (x := (4, 8000)) (y := (4, 0)) (z := (4, p5)) (q := 68) 4 rfl ?_
                    refine e_Ok.callS rfl (e_dq hd rfl) rfl rfl (c_266) (fun r74 w75 h76 => ?_)
                    obtain ⟨z77, rfl, rfl, q78⟩ := h76
                    obtain ⟨rfl, q78⟩ | ⟨rfl, q78⟩ := q78
                    · refine e_Ok.nrm (q := 71) (st' := [(0, 1)]) rfl rfl ?_
                      refine e_Ok.if1 rfl (fun h79 => ?_) (fun h79 => ?_)
                      · replace h79 : (1 : Int) ≠ 0 := h79
                        refine e_Ok.ps3 (x := (0, 1)) (y := (0, p2)) (z := (0, p5)) (q := 80) 3 rfl ?_
                        refine e_Ok.if2 rfl (fun h80 => ?_) (fun h80 => ?_)
                        · replace h80 : (p2 : Int) ≠ 1 := h80
                          refine e_Ok.ps1 (x := (0, 0)) (q := 89) 1 rfl ?_
                          refine e_Ok.add (z := p5) rfl (by omega) (by omega) ?_
                          refine e_Ok.run (t' := (95, [(8, (0, 0)), (7, (0, p5)), (6, (0, 100000)), (0, (1, 275)), (1, (0, p1)), (2, (0, p2)), (3, (0, p3)), (4, (0, p4)), (5, (0, p5))], [], w)) 3 rfl ?_
                          have hL81 : ∀ (nn : Nat) (y7 : Int) (y8 : Int), (0 ≤ y8 ∧ y8 ≤ 6 ∧ y8 ≤ w 286 p1) ∧ (0 ≤ y7 ∧ y7 ≤ 116000 + 108000 * y8) ∧ y7 = p5 + (if p2 = 1 then p4 else 0) + jsM w p1 y8.toNat → 7 - y8 < nn → e_Ok 20 elay ecode eI (d + 1) 279 (95, [(0, (1, 275)), (1, (0, p1)), (2, (0, p2)), (3, (0, p3)), (4, (0, p4)), (5, (0, p5)), (7, (0, y7)), (8, (0, y8))], [], w) (fun r w' => ∃ z : Int, r = [(0, z)] ∧ ((w = w' ∧ ((¬ ((0 ≤ p1 ∧ p1 < w 275 10) ∧ (0 ≤ p2 ∧ p2 ≤ 1) ∧ ((p2 = 0 ∧ (-100000 ≤ p3 ∧ p3 ≤ 0) ∧ (0 ≤ p4 ∧ p4 ≤ 100000)) ∨ (p2 = 1 ∧ (-8000 ≤ p3 ∧ p3 ≤ 0) ∧ (0 ≤ p4 ∧ p4 ≤ 8000))) ∧ (0 ≤ p5 ∧ p5 ≤ 8000) ∧ ¬ (p2 = 1 ∧ p5 + p3 < 0) ∧ p5 + (if p2 = 1 then p4 else 0) + jsM w p1 (w 286 p1).toNat ≤ 8000) ∧ z = -1) ∨ (((0 ≤ p1 ∧ p1 < w 275 10) ∧ (0 ≤ p2 ∧ p2 ≤ 1) ∧ ((p2 = 0 ∧ (-100000 ≤ p3 ∧ p3 ≤ 0) ∧ (0 ≤ p4 ∧ p4 ≤ 100000)) ∨ (p2 = 1 ∧ (-8000 ≤ p3 ∧ p3 ≤ 0) ∧ (0 ≤ p4 ∧ p4 ≤ 8000))) ∧ (0 ≤ p5 ∧ p5 ≤ 8000) ∧ ¬ (p2 = 1 ∧ p5 + p3 < 0) ∧ p5 + (if p2 = 1 then p4 else 0) + jsM w p1 (w 286 p1).toNat ≤ 8000) ∧ ((w 275 3 ≠ 0 ∧ z = -2) ∨ (w 275 3 = 0 ∧ w 286 p1 = 6 ∧ z = -3))))) ∨ ((((0 ≤ p1 ∧ p1 < w 275 10) ∧ (0 ≤ p2 ∧ p2 ≤ 1) ∧ ((p2 = 0 ∧ (-100000 ≤ p3 ∧ p3 ≤ 0) ∧ (0 ≤ p4 ∧ p4 ≤ 100000)) ∨ (p2 = 1 ∧ (-8000 ≤ p3 ∧ p3 ≤ 0) ∧ (0 ≤ p4 ∧ p4 ≤ 8000))) ∧ (0 ≤ p5 ∧ p5 ≤ 8000) ∧ ¬ (p2 = 1 ∧ p5 + p3 < 0) ∧ p5 + (if p2 = 1 then p4 else 0) + jsM w p1 (w 286 p1).toNat ≤ 8000) ∧ w 275 3 = 0 ∧ ¬ (w 286 p1 = 6)) ∧ z = w 286 p1 ∧ w' = e_up (e_up (e_up (e_up (e_up (e_up (e_up (e_up w 287 (6 * p1 + w 286 p1) (-p2 + 1)) 288 (6 * p1 + w 286 p1) (p3)) 289 (6 * p1 + w 286 p1) (p4)) 290 (6 * p1 + w 286 p1) (100)) 291 (6 * p1 + w 286 p1) (10)) 292 (6 * p1 + w 286 p1) (p5)) 293 (6 * p1 + w 286 p1) (0)) 286 (p1) (w 286 p1 + 1)))) := by
                            intro nn
                            induction nn with
                            | zero => intro y7 y8 hj hm; obtain ⟨j83, j84, j85⟩ := hj; exfalso; omega
                            | succ nn ih82 =>
                              intro y7 y8 hj hm
                              obtain ⟨j83, j84, j85⟩ := hj
                              refine e_Ok.run (t' := (98, [(0, (1, 275)), (1, (0, p1)), (2, (0, p2)), (3, (0, p3)), (4, (0, p4)), (5, (0, p5)), (7, (0, y7)), (8, (0, y8))], [(1, 275), (0, y8)], w)) 2 rfl ?_
                              refine e_Ok.getr (z := 286) rfl (el_o rfl) rfl (ef_o rfl) (e_Has.eq hT (mt_o rfl)) ⟨by decide, by decide⟩ ?_
                              refine e_Ok.ps1 (x := (0, p1)) (q := 102) 1 rfl ?_
                              have h86 := (e_Has.get hT (c := 286) (k := p1) (lo := 0) (hi := 6) (mt_o rfl) (by decide))
                              refine e_Ok.ald (z := w 286 p1) rfl (el_o rfl) rfl (by omega) rfl (e_bq h86 (by decide) (by decide)) ?_
                              refine e_Ok.if2 rfl (fun h87 => ?_) (fun h87 => ?_)
                              · replace h87 : (y8 : Int) ≥ w 286 p1 := h87
                                have e86 : y8 = w 286 p1 := by omega
                                have js : y7 = p5 + (if p2 = 1 then p4 else 0) + jsM w p1 (w 286 p1).toNat := by rw [← e86]; assumption
                                refine e_Ok.ps2 (x := (0, 1)) (y := (0, p2)) (q := 164) 2 rfl ?_
                                refine e_Ok.if2 rfl (fun h88 => ?_) (fun h88 => ?_)
                                · replace h88 : (p2 : Int) ≠ 1 := h88
                                  refine e_Ok.ps2 (x := (0, 8000)) (y := (0, y7)) (q := 179) 2 rfl ?_
                                  refine e_Ok.if2 rfl (fun h89 => ?_) (fun h89 => ?_)
                                  · replace h89 : (y7 : Int) ≤ 8000 := h89
                                    refine e_Ok.ps1 (x := (1, 275)) (q := 185) 1 rfl ?_
                                    refine e_Ok.getf (z := w 275 3) rfl (el_o rfl) rfl (ef_o rfl) rfl (by omega) ?_
                                    refine e_Ok.if1 rfl (fun h90 => ?_) (fun h90 => ?_)
                                    · replace h90 : (w 275 3 : Int) = 0 := h90
                                      refine e_Ok.ps1 (x := (1, 275)) (q := 195) 1 rfl ?_
                                      refine e_Ok.getr (z := 286) rfl (el_o rfl) rfl (ef_o rfl) (e_Has.eq hT (mt_o rfl)) ⟨by decide, by decide⟩ ?_
                                      refine e_Ok.ps1 (x := (0, p1)) (q := 199) 1 rfl ?_
                                      refine e_Ok.ald (z := w 286 p1) rfl (el_o rfl) rfl (by omega) rfl (by omega) ?_
                                      refine e_Ok.ps1 (x := (0, 6)) (q := 202) 1 rfl ?_
                                      refine e_Ok.if2 rfl (fun h91 => ?_) (fun h91 => ?_)
                                      · replace h91 : (w 286 p1 : Int) ≠ 6 := h91
                                        refine e_Ok.ps2 (x := (0, p1)) (y := (0, 6)) (q := 211) 2 rfl ?_
                                        refine e_Ok.mul (z := 6 * p1) rfl rfl (by omega) ?_
                                        refine e_Ok.ps1 (x := (1, 275)) (q := 213) 1 rfl ?_
                                        refine e_Ok.getr (z := 286) rfl (el_o rfl) rfl (ef_o rfl) (e_Has.eq hT (mt_o rfl)) ⟨by decide, by decide⟩ ?_
                                        refine e_Ok.ps1 (x := (0, p1)) (q := 217) 1 rfl ?_
                                        refine e_Ok.ald (z := w 286 p1) rfl (el_o rfl) rfl (by omega) rfl (by omega) ?_
                                        refine e_Ok.add (z := 6 * p1 + w 286 p1) rfl rfl (by omega) ?_
                                        refine e_Ok.run (t' := (222, [(8, (0, 6 * p1 + w 286 p1)), (0, (1, 275)), (1, (0, p1)), (2, (0, p2)), (3, (0, p3)), (4, (0, p4)), (5, (0, p5)), (7, (0, y7))], [(1, 275)], w)) 2 rfl ?_
                                        refine e_Ok.getr (z := 287) rfl (el_o rfl) rfl (ef_o rfl) (e_Has.eq hT (mt_o rfl)) ⟨by decide, by decide⟩ ?_
                                        refine e_Ok.ps3 (x := (0, p2)) (y := (0, 1)) (z := (0, 6 * p1 + w 286 p1)) (q := 229) 3 rfl ?_
                                        refine e_Ok.sub' (z := -p2 + 1) rfl (by omega) (by omega) ?_
                                        refine e_Ok.ast rfl (el_o rfl) rfl rfl (by omega) ?_
                                        generalize hw92 : e_up w 287 (6 * p1 + w 286 p1) (-p2 + 1) = w92
                                        refine e_Ok.ps1 (x := (1, 275)) (q := 232) 1 rfl ?_
                                        refine e_Ok.getr (z := 288) rfl (el_o rfl) rfl (ef_o rfl) (e_uq hw92 (Or.inl (by decide)) (e_Has.eq hT (mt_o rfl))) ⟨by decide, by decide⟩ ?_
                                        refine e_Ok.ps2 (x := (0, p3)) (y := (0, 6 * p1 + w 286 p1)) (q := 238) 2 rfl ?_
                                        refine e_Ok.ast rfl (el_o rfl) rfl rfl (by omega) ?_
                                        generalize hw93 : e_up w92 288 (6 * p1 + w 286 p1) p3 = w93
                                        refine e_Ok.ps1 (x := (1, 275)) (q := 240) 1 rfl ?_
                                        refine e_Ok.getr (z := 289) rfl (el_o rfl) rfl (ef_o rfl) (e_uq hw93 (Or.inl (by decide)) (e_uq hw92 (Or.inl (by decide)) (e_Has.eq hT (mt_o rfl)))) ⟨by decide, by decide⟩ ?_
                                        refine e_Ok.ps2 (x := (0, p4)) (y := (0, 6 * p1 + w 286 p1)) (q := 247) 2 rfl ?_
                                        refine e_Ok.ast rfl (el_o rfl) rfl rfl (by omega) ?_
                                        generalize hw94 : e_up w93 289 (6 * p1 + w 286 p1) p4 = w94
                                        refine e_Ok.ps1 (x := (1, 275)) (q := 249) 1 rfl ?_
                                        refine e_Ok.getr (z := 290) rfl (el_o rfl) rfl (ef_o rfl) (e_uq hw94 (Or.inl (by decide)) (e_uq hw93 (Or.inl (by decide)) (e_uq hw92 (Or.inl (by decide)) (e_Has.eq hT (mt_o rfl))))) ⟨by decide, by decide⟩ ?_
                                        refine e_Ok.ps2 (x := (0, 100)) (y := (0, 6 * p1 + w 286 p1)) (q := 256) 2 rfl ?_
                                        refine e_Ok.ast rfl (el_o rfl) rfl rfl (by omega) ?_
                                        generalize hw95 : e_up w94 290 (6 * p1 + w 286 p1) 100 = w95
                                        refine e_Ok.ps1 (x := (1, 275)) (q := 258) 1 rfl ?_
                                        refine e_Ok.getr (z := 291) rfl (el_o rfl) rfl (ef_o rfl) (e_uq hw95 (Or.inl (by decide)) (e_uq hw94 (Or.inl (by decide)) (e_uq hw93 (Or.inl (by decide)) (e_uq hw92 (Or.inl (by decide)) (e_Has.eq hT (mt_o rfl)))))) ⟨by decide, by decide⟩ ?_
                                        refine e_Ok.ps2 (x := (0, 10)) (y := (0, 6 * p1 + w 286 p1)) (q := 265) 2 rfl ?_
                                        refine e_Ok.ast rfl (el_o rfl) rfl rfl (by omega) ?_
                                        generalize hw101 : e_up w95 291 (6 * p1 + w 286 p1) 10 = w101
                                        refine e_Ok.ps1 (x := (1, 275)) (q := 267) 1 rfl ?_
                                        refine e_Ok.getr (z := 292) rfl (el_o rfl) rfl (ef_o rfl) (e_uq hw101 (Or.inl (by decide)) (e_uq hw95 (Or.inl (by decide)) (e_uq hw94 (Or.inl (by decide)) (e_uq hw93 (Or.inl (by decide)) (e_uq hw92 (Or.inl (by decide)) (e_Has.eq hT (mt_o rfl))))))) ⟨by decide, by decide⟩ ?_
                                        refine e_Ok.ps2 (x := (0, p5)) (y := (0, 6 * p1 + w 286 p1)) (q := 274) 2 rfl ?_
                                        refine e_Ok.ast rfl (el_o rfl) rfl rfl (by omega) ?_
                                        generalize hw103 : e_up w101 292 (6 * p1 + w 286 p1) p5 = w103
                                        refine e_Ok.ps1 (x := (1, 275)) (q := 276) 1 rfl ?_
                                        refine e_Ok.getr (z := 293) rfl (el_o rfl) rfl (ef_o rfl) (e_uq hw103 (Or.inl (by decide)) (e_uq hw101 (Or.inl (by decide)) (e_uq hw95 (Or.inl (by decide)) (e_uq hw94 (Or.inl (by decide)) (e_uq hw93 (Or.inl (by decide)) (e_uq hw92 (Or.inl (by decide)) (e_Has.eq hT (mt_o rfl)))))))) ⟨by decide, by decide⟩ ?_
                                        refine e_Ok.ps2 (x := (0, 0)) (y := (0, 6 * p1 + w 286 p1)) (q := 282) 2 rfl ?_
                                        refine e_Ok.ast rfl (el_o rfl) rfl rfl (by omega) ?_
                                        generalize hw104 : e_up w103 293 (6 * p1 + w 286 p1) 0 = w104
                                        refine e_Ok.ps1 (x := (1, 275)) (q := 284) 1 rfl ?_
                                        refine e_Ok.getr (z := 286) rfl (el_o rfl) rfl (ef_o rfl) (e_uq hw104 (Or.inl (by decide)) (e_uq hw103 (Or.inl (by decide)) (e_uq hw101 (Or.inl (by decide)) (e_uq hw95 (Or.inl (by decide)) (e_uq hw94 (Or.inl (by decide)) (e_uq hw93 (Or.inl (by decide)) (e_uq hw92 (Or.inl (by decide)) (e_Has.eq hT (mt_o rfl))))))))) ⟨by decide, by decide⟩ ?_
                                        refine e_Ok.ps3 (x := (0, p1)) (y := (1, 286)) (z := (0, p1)) (q := 289) 2 rfl ?_
                                        refine e_Ok.ald (z := w 286 p1) rfl (el_o rfl) rfl (by omega) (e_uq hw104 (Or.inl (by decide)) (e_uq hw103 (Or.inl (by decide)) (e_uq hw101 (Or.inl (by decide)) (e_uq hw95 (Or.inl (by decide)) (e_uq hw94 (Or.inl (by decide)) (e_uq hw93 (Or.inl (by decide)) (e_uq hw92 (Or.inl (by decide)) rfl))))))) (by omega) ?_
                                        refine e_Ok.ps1 (x := (0, 1)) (q := 291) 1 rfl ?_
                                        refine e_Ok.add (z := w 286 p1 + 1) rfl rfl (by omega) ?_
                                        refine e_Ok.ast rfl (el_o rfl) rfl rfl (by omega) ?_
                                        generalize hw105 : e_up w104 286 p1 (w 286 p1 + 1) = w105
                                        refine e_Ok.ps1 (x := (1, 275)) (q := 294) 1 rfl ?_
                                        refine e_Ok.getr (z := 286) rfl (el_o rfl) rfl (ef_o rfl) (e_uq hw105 (Or.inl (by decide)) (e_uq hw104 (Or.inl (by decide)) (e_uq hw103 (Or.inl (by decide)) (e_uq hw101 (Or.inl (by decide)) (e_uq hw95 (Or.inl (by decide)) (e_uq hw94 (Or.inl (by decide)) (e_uq hw93 (Or.inl (by decide)) (e_uq hw92 (Or.inl (by decide)) (e_Has.eq hT (mt_o rfl)))))))))) ⟨by decide, by decide⟩ ?_
                                        refine e_Ok.ps1 (x := (0, p1)) (q := 298) 1 rfl ?_
                                        refine e_Ok.ald (z := w 286 p1 + 1) rfl (el_o rfl) rfl (by omega) (e_ue hw105) (by omega) ?_
                                        refine e_Ok.ps1 (x := (0, 1)) (q := 300) 1 rfl ?_
                                        refine e_Ok.sub' (z := w 286 p1) rfl (by omega) (by omega) ?_
                                        refine e_Ok.rets rfl rfl ?_
                                        exact ⟨_, rfl, Or.inr ⟨by omega, by omega, by rw [← hw105, ← hw104, ← hw103, ← hw101, ← hw95, ← hw94, ← hw93, ← hw92]⟩⟩
                                      · replace h91 : (w 286 p1 : Int) = 6 := Classical.not_not.mp (show ¬ ((w 286 p1 : Int) ≠ 6) from h91)
                                        refine e_Ok.ps1 (x := (0, (-3))) (q := 207) 1 rfl ?_
                                        refine e_Ok.rets rfl rfl ?_
                                        exact ⟨_, rfl, Or.inl ⟨rfl, by omega⟩⟩
                                    · replace h90 : (w 275 3 : Int) ≠ 0 := (show ¬ ((w 275 3 : Int) = 0) from h90)
                                      refine e_Ok.ps1 (x := (0, (-2))) (q := 193) 1 rfl ?_
                                      refine e_Ok.rets rfl rfl ?_
                                      exact ⟨_, rfl, Or.inl ⟨rfl, by omega⟩⟩
                                  · replace h89 : (y7 : Int) > 8000 := Int.not_le.mp (show ¬ ((y7 : Int) ≤ 8000) from h89)
                                    refine e_Ok.ps1 (x := (0, (-1))) (q := 183) 1 rfl ?_
                                    refine e_Ok.rets rfl rfl ?_
                                    exact ⟨_, rfl, Or.inl ⟨rfl, by omega⟩⟩
                                · replace h88 : (p2 : Int) = 1 := Classical.not_not.mp (show ¬ ((p2 : Int) ≠ 1) from h88)
                                  exfalso; omega
                              · replace h87 : (y8 : Int) < w 286 p1 := Int.not_le.mp (show ¬ ((y8 : Int) ≥ w 286 p1) from h87)
                                refine e_Ok.ps2 (x := (1, 275)) (y := (0, y7)) (q := 109) 2 rfl ?_
                                refine e_Ok.getr (z := 292) rfl (el_o rfl) rfl (ef_o rfl) (e_Has.eq hT (mt_o rfl)) ⟨by decide, by decide⟩ ?_
                                refine e_Ok.ps2 (x := (0, p1)) (y := (0, 6)) (q := 115) 2 rfl ?_
                                refine e_Ok.mul (z := 6 * p1) rfl rfl (by omega) ?_
                                refine e_Ok.ps1 (x := (0, y8)) (q := 118) 1 rfl ?_
                                refine e_Ok.add (z := 6 * p1 + y8) rfl rfl (by omega) ?_
                                have h106 := (e_Has.get hT (c := 292) (k := 6 * p1 + y8) (lo := 0) (hi := 8000) (mt_o rfl) (by decide))
                                refine e_Ok.ald (z := w 292 (6 * p1 + y8)) rfl (el_o rfl) rfl (by omega) rfl (e_bq h106 (by decide) (by decide)) ?_
                                refine e_Ok.ps1 (x := (1, 275)) (q := 121) 1 rfl ?_
                                refine e_Ok.getr (z := 287) rfl (el_o rfl) rfl (ef_o rfl) (e_Has.eq hT (mt_o rfl)) ⟨by decide, by decide⟩ ?_
                                refine e_Ok.ps2 (x := (0, p1)) (y := (0, 6)) (q := 127) 2 rfl ?_
                                refine e_Ok.mul (z := 6 * p1) rfl rfl (by omega) ?_
                                refine e_Ok.ps1 (x := (0, y8)) (q := 130) 1 rfl ?_
                                refine e_Ok.add (z := 6 * p1 + y8) rfl rfl (by omega) ?_
                                have h107 := (e_Has.get hT (c := 287) (k := 6 * p1 + y8) (lo := 0) (hi := 1) (mt_o rfl) (by decide))
                                refine e_Ok.ald (z := w 287 (6 * p1 + y8)) rfl (el_o rfl) rfl (by omega) rfl (e_bq h107 (by decide) (by decide)) ?_
                                refine e_Ok.ps1 (x := (0, 1)) (q := 133) 1 rfl ?_
                                refine e_Ok.if2 rfl (fun h108 => ?_) (fun h108 => ?_)
                                · replace h108 : (w 287 (6 * p1 + y8) : Int) ≠ 1 := h108
                                  refine e_Ok.ps1 (x := (1, 275)) (q := 141) 1 rfl ?_
                                  refine e_Ok.getr (z := 289) rfl (el_o rfl) rfl (ef_o rfl) (e_Has.eq hT (mt_o rfl)) ⟨by decide, by decide⟩ ?_
                                  refine e_Ok.ps2 (x := (0, p1)) (y := (0, 6)) (q := 147) 2 rfl ?_
                                  refine e_Ok.mul (z := 6 * p1) rfl rfl (by omega) ?_
                                  refine e_Ok.ps1 (x := (0, y8)) (q := 150) 1 rfl ?_
                                  refine e_Ok.add (z := 6 * p1 + y8) rfl rfl (by omega) ?_
                                  have h109 := (e_Has.get hT (c := 289) (k := 6 * p1 + y8) (lo := 0) (hi := 100000) (mt_o rfl) (by decide))
                                  refine e_Ok.ald (z := w 289 (6 * p1 + y8)) rfl (el_o rfl) rfl (by omega) rfl (e_bq h109 (by decide) (by decide)) ?_
                                  refine e_Ok.add (z := w 292 (6 * p1 + y8) + w 289 (6 * p1 + y8)) rfl rfl (by omega) ?_
                                  refine e_Ok.add (z := y7 + w 292 (6 * p1 + y8) + w 289 (6 * p1 + y8)) rfl (by omega) (by omega) ?_
                                  refine e_Ok.run (t' := (156, [(7, (0, y7 + w 292 (6 * p1 + y8) + w 289 (6 * p1 + y8))), (0, (1, 275)), (1, (0, p1)), (2, (0, p2)), (3, (0, p3)), (4, (0, p4)), (5, (0, p5)), (8, (0, y8))], [], w)) 1 rfl ?_
                                  refine e_Ok.inc (z := y8 + 1) rfl rfl (by first | with_reducible rfl | omega) (by omega) ?_
                                  show e_Ok 20 elay ecode eI (d + 1) 279 (159, [(8, (0, y8 + 1)), (7, (0, y7 + w 292 (6 * p1 + y8) + w 289 (6 * p1 + y8))), (0, (1, 275)), (1, (0, p1)), (2, (0, p2)), (3, (0, p3)), (4, (0, p4)), (5, (0, p5))], [], w) _
                                  refine e_Ok.ps0 (q := 95) 1 rfl ?_
                                  refine e_Ok.sub eAlk (e_sub_of rfl ?_) (ih82 (y7 + w 292 (6 * p1 + y8) + w 289 (6 * p1 + y8)) (y8 + 1) ⟨by omega, by omega, by rw [jsM_s (by omega)]; omega⟩ (by omega))
                                  exact ⟨rfl, rfl, rfl, rfl, rfl, rfl, rfl, rfl, trivial⟩
                                · replace h108 : (w 287 (6 * p1 + y8) : Int) = 1 := Classical.not_not.mp (show ¬ ((w 287 (6 * p1 + y8) : Int) ≠ 1) from h108)
                                  refine e_Ok.ps1 (x := (0, 0)) (q := 152) 2 rfl ?_
                                  refine e_Ok.add (z := w 292 (6 * p1 + y8)) rfl (by omega) (by omega) ?_
                                  refine e_Ok.add (z := y7 + w 292 (6 * p1 + y8)) rfl rfl (by omega) ?_
                                  refine e_Ok.run (t' := (156, [(7, (0, y7 + w 292 (6 * p1 + y8))), (0, (1, 275)), (1, (0, p1)), (2, (0, p2)), (3, (0, p3)), (4, (0, p4)), (5, (0, p5)), (8, (0, y8))], [], w)) 1 rfl ?_
                                  refine e_Ok.inc (z := y8 + 1) rfl rfl (by first | with_reducible rfl | omega) (by omega) ?_
                                  show e_Ok 20 elay ecode eI (d + 1) 279 (159, [(8, (0, y8 + 1)), (7, (0, y7 + w 292 (6 * p1 + y8))), (0, (1, 275)), (1, (0, p1)), (2, (0, p2)), (3, (0, p3)), (4, (0, p4)), (5, (0, p5))], [], w) _
                                  refine e_Ok.ps0 (q := 95) 1 rfl ?_
                                  refine e_Ok.sub eAlk (e_sub_of rfl ?_) (ih82 (y7 + w 292 (6 * p1 + y8)) (y8 + 1) ⟨by omega, by omega, by rw [jsM_s (by omega)]; omega⟩ (by omega))
                                  exact ⟨rfl, rfl, rfl, rfl, rfl, rfl, rfl, rfl, trivial⟩
                          refine e_Ok.sub eAlk (e_sub_of rfl ?_) (hL81 (7 + 1 : Int).toNat p5 0 ⟨by omega, by omega, by have q : jsM w p1 (0 : Int).toNat = 0 := rfl; omega⟩ (by omega))
                          exact ⟨rfl, rfl, rfl, rfl, rfl, rfl, rfl, rfl, trivial⟩
                        · replace h80 : (p2 : Int) = 1 := Classical.not_not.mp (show ¬ ((p2 : Int) ≠ 1) from h80)
                          exfalso; omega
                      · replace h79 : (1 : Int) = 0 := Classical.not_not.mp (show ¬ ((1 : Int) ≠ 0) from h79)
                        exfalso; omega
                    · refine e_Ok.nrm (q := 71) (st' := [(0, 0)]) rfl rfl ?_
                      refine e_Ok.if1 rfl (fun h110 => ?_) (fun h110 => ?_)
                      · replace h110 : (0 : Int) ≠ 0 := h110
                        exfalso; omega
                      · replace h110 : (0 : Int) = 0 := Classical.not_not.mp (show ¬ ((0 : Int) ≠ 0) from h110)
                        refine e_Ok.ps1 (x := (0, (-1))) (q := 75) 1 rfl ?_
                        refine e_Ok.rets rfl rfl ?_
                        exact ⟨_, rfl, Or.inl ⟨rfl, by omega⟩⟩
                · refine e_Ok.nrm (q := 58) (st' := [(0, 0)]) rfl rfl ?_
                  refine e_Ok.if1 rfl (fun h111 => ?_) (fun h111 => ?_)
                  · replace h111 : (0 : Int) = 0 := h111
                    refine e_Ok.ps1 (x := (0, (-1))) (q := 75) 1 rfl ?_
                    refine e_Ok.rets rfl rfl ?_
                    exact ⟨_, rfl, Or.inl ⟨rfl, by omega⟩⟩
                  · replace h111 : (0 : Int) ≠ 0 := (show ¬ ((0 : Int) = 0) from h111)
                    exfalso; omega
            · refine e_Ok.nrm (q := 45) (st' := [(0, 0)]) rfl rfl ?_
              refine e_Ok.if1 rfl (fun h112 => ?_) (fun h112 => ?_)
              · replace h112 : (0 : Int) = 0 := h112
                refine e_Ok.ps1 (x := (0, (-1))) (q := 75) 1 rfl ?_
                refine e_Ok.rets rfl rfl ?_
                exact ⟨_, rfl, Or.inl ⟨rfl, by omega⟩⟩
              · replace h112 : (0 : Int) ≠ 0 := (show ¬ ((0 : Int) = 0) from h112)
                exfalso; omega
        · replace h13 : (1 : Int) = 0 := Classical.not_not.mp (show ¬ ((1 : Int) ≠ 0) from h13)
          exfalso; omega
      · refine e_Ok.nrm (q := 15) (st' := [(0, 0)]) rfl rfl ?_
        refine e_Ok.if1 rfl (fun h113 => ?_) (fun h113 => ?_)
        · replace h113 : (0 : Int) ≠ 0 := h113
          exfalso; omega
        · replace h113 : (0 : Int) = 0 := Classical.not_not.mp (show ¬ ((0 : Int) ≠ 0) from h113)
          refine e_Ok.ps1 (x := (0, (-1))) (q := 19) 1 rfl ?_
          refine e_Ok.rets rfl rfl ?_
          exact ⟨_, rfl, Or.inl ⟨rfl, by omega⟩⟩
  · refine e_Ok.nrm (q := 5) (st' := [(0, 0)]) rfl rfl ?_
    refine e_Ok.if1 rfl (fun h114 => ?_) (fun h114 => ?_)
    · replace h114 : (0 : Int) = 0 := h114
      refine e_Ok.ps1 (x := (0, (-1))) (q := 19) 1 rfl ?_
      refine e_Ok.rets rfl rfl ?_
      exact ⟨_, rfl, Or.inl ⟨rfl, by omega⟩⟩
    · replace h114 : (0 : Int) ≠ 0 := (show ¬ ((0 : Int) = 0) from h114)
      exfalso; omega
end
