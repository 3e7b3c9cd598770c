-- part 73
section
noncomputable section
def mJo (a j c k : Int) : Prop := (c = 286 ∧ k = a) ∨ (287 ≤ c ∧ c ≤ 293 ∧ k = 6 * a + j)
set_option maxHeartbeats 4000000 in
theorem c_279 {d : Nat} (hd : 23 ≤ d) {w : eW} (hT : e_Has mTy w) {p1 p2 p3 p4 p5 : Int} (g1 : -2147483648 ≤ p1 ∧ p1 ≤ 2147483647) (g2 : -2147483648 ≤ p2 ∧ p2 ≤ 2147483647) (g3 : -2147483648 ≤ p3 ∧ p3 ≤ 2147483647) (g4 : -2147483648 ≤ p4 ∧ p4 ≤ 2147483647) (g5 : -2147483648 ≤ p5 ∧ p5 ≤ 2147483647) : e_Ok 20 elay ecode eI d 279 (0, [(0, (1, 275)), (1, (0, p1)), (2, (0, p2)), (3, (0, p3)), (4, (0, p4)), (5, (0, p5))], [], w) (fun r w' => ∃ z : Int, r = [(0, z)] ∧ e_Has mTy w' ∧ (w = w' ∨ ((0 ≤ p1 ∧ p1 < w 275 10 ∧ w 286 p1 ≤ 5) ∧ w 275 3 = 0 ∧ e_fr (mJo p1 (w 286 p1)) w w' ∧ w' 286 p1 = w 286 p1 + 1 ∧ w' 288 (6 * p1 + w 286 p1) = p3 ∧ w' 289 (6 * p1 + w 286 p1) = p4 ∧ w' 290 (6 * p1 + w 286 p1) = 100 ∧ w' 291 (6 * p1 + w 286 p1) = 10))) := by
  obtain ⟨d, rfl⟩ : ∃ e, d = e + 1 := ⟨d - 1, by omega⟩
  refine e_Ok.ps2 (x := (0, p1)) (y := (1, 275)) (q := 2) 2 rfl ?_
  refine e_Ok.callV rfl (e_dq hd rfl) rfl rfl rfl rfl (c_270 (e_dq hd rfl) hT) (fun r1 w2 h3 => ?_)
  have h4 := e_Has.get hT (c := 275) (k := 10) (lo := 0) (hi := 4) (mt_o rfl) (by decide)
  obtain ⟨z5, rfl, rfl, q6⟩ := h3
  obtain ⟨rfl, q6⟩ | ⟨rfl, q6⟩ := q6
  · refine e_Ok.nrm (q := 5) (st' := [(0, 1)]) rfl rfl ?_
    refine e_Ok.if1 rfl (fun h7 => ?_) (fun h7 => ?_)
    · replace h7 : (1 : Int) = 0 := h7
      exfalso; omega
    · replace h7 : (1 : Int) ≠ 0 := (show ¬ ((1 : Int) = 0) from h7)
      refine e_Ok.ps3 (x := (4, 1)) (y := (4, 0)) (z := (4, p2)) (q := 12) 4 rfl ?_
      refine e_Ok.callS rfl (e_dq hd rfl) rfl rfl (c_266) (fun r8 w9 h10 => ?_)
      obtain ⟨z11, rfl, rfl, q12⟩ := h10
      obtain ⟨rfl, q12⟩ | ⟨rfl, q12⟩ := q12
      · refine e_Ok.nrm (q := 15) (st' := [(0, 1)]) rfl rfl ?_
        refine e_Ok.if1 rfl (fun h13 => ?_) (fun h13 => ?_)
        · replace h13 : (1 : Int) ≠ 0 := h13
          refine e_Ok.ps1 (x := (0, p2)) (q := 21) 1 rfl ?_
          refine e_Ok.if1 rfl (fun h14 => ?_) (fun h14 => ?_)
          · replace h14 : (p2 : Int) ≠ 0 := h14
            refine e_Ok.run (t' := (39, [(6, (0, 8000)), (0, (1, 275)), (1, (0, p1)), (2, (0, p2)), (3, (0, p3)), (4, (0, p4)), (5, (0, p5))], [(0, 8000), (4, p3)], w)) 5 rfl ?_
            refine e_Ok.neg (z := (-8000)) rfl (by omega) (by omega) ?_
            refine e_Ok.run (t' := (42, [(6, (0, 8000)), (0, (1, 275)), (1, (0, p1)), (2, (0, p2)), (3, (0, p3)), (4, (0, p4)), (5, (0, p5))], [(4, 0), (4, (-8000)), (4, p3)], w)) 2 rfl ?_
            refine e_Ok.callS rfl (e_dq hd rfl) rfl rfl (c_266) (fun r15 w16 h17 => ?_)
            obtain ⟨z18, rfl, rfl, q19⟩ := h17
            obtain ⟨rfl, q19⟩ | ⟨rfl, q19⟩ := q19
            · refine e_Ok.nrm (q := 45) (st' := [(0, 1)]) rfl rfl ?_
              refine e_Ok.if1 rfl (fun h20 => ?_) (fun h20 => ?_)
              · replace h20 : (1 : Int) = 0 := h20
                exfalso; omega
              · replace h20 : (1 : Int) ≠ 0 := (show ¬ ((1 : Int) = 0) from h20)
                refine e_Ok.ps3 (x := (4, 8000)) (y := (4, 0)) (z := (4, p4)) (q := 55) 5 rfl ?_
                refine e_Ok.callS rfl (e_dq hd rfl) rfl rfl (c_266) (fun r21 w22 h23 => ?_)
                obtain ⟨z24, rfl, rfl, q25⟩ := h23
                obtain ⟨rfl, q25⟩ | ⟨rfl, q25⟩ := q25
                · refine e_Ok.nrm (q := 58) (st' := [(0, 1)]) rfl rfl ?_
                  refine e_Ok.if1 rfl (fun h26 => ?_) (fun h26 => ?_)
                  · replace h26 : (1 : Int) = 0 := h26
                    exfalso; omega
                  · replace h26 : (1 : Int) ≠ 0 := (show ¬ ((1 : Int) = 0) from h26)
                    refine e_Ok.ps3 (x := (4, 8000)) (y := (4, 0)) (z := (4, p5)) (q := 68) 4 rfl ?_
                    refine e_Ok.callS rfl (e_dq hd rfl) rfl rfl (c_266) (fun r27 w28 h29 => ?_)
                    obtain ⟨z30, rfl, rfl, q31⟩ := h29
                    obtain ⟨rfl, q31⟩ | ⟨rfl, q31⟩ := q31
                    · refine e_Ok.nrm (q := 71) (st' := [(0, 1)]) rfl rfl ?_
                      refine e_Ok.if1 rfl (fun h32 => ?_) (fun h32 => ?_)
                      · replace h32 : (1 : Int) ≠ 0 := h32
                        refine e_Ok.ps3 (x := (0, 1)) (y := (0, p2)) (z := (0, p5)) (q := 80) 3 rfl ?_
                        refine e_Ok.if2 rfl (fun h33 => ?_) (fun h33 => ?_)
                        · replace h33 : (p2 : Int) ≠ 1 := h33
                          exfalso; omega
                        · replace h33 : (p2 : Int) = 1 := Classical.not_not.mp (show ¬ ((p2 : Int) ≠ 1) from h33)
                          refine e_Ok.ps1 (x := (0, p4)) (q := 89) 2 rfl ?_
                          refine e_Ok.add (z := p5 + p4) rfl rfl (by omega) ?_
                          refine e_Ok.run (t' := (95, [(8, (0, 0)), (7, (0, p5 + p4)), (6, (0, 8000)), (0, (1, 275)), (1, (0, p1)), (2, (0, p2)), (3, (0, p3)), (4, (0, p4)), (5, (0, p5))], [], w)) 3 rfl ?_
                          have hL34 : ∀ (nn : Nat) (y7 : Int) (y8 : Int), 0 ≤ y8 ∧ y8 ≤ 6 → 7 - y8 < nn → e_Ok 20 elay ecode eI (d + 1) 279 (95, [(0, (1, 275)), (1, (0, p1)), (2, (0, p2)), (3, (0, p3)), (4, (0, p4)), (5, (0, p5)), (7, (0, y7)), (8, (0, y8))], [], w) (fun r w' => ∃ z : Int, r = [(0, z)] ∧ e_Has mTy w' ∧ (w = w' ∨ ((0 ≤ p1 ∧ p1 < w 275 10 ∧ w 286 p1 ≤ 5) ∧ w 275 3 = 0 ∧ e_fr (mJo p1 (w 286 p1)) w w' ∧ w' 286 p1 = w 286 p1 + 1 ∧ w' 288 (6 * p1 + w 286 p1) = p3 ∧ w' 289 (6 * p1 + w 286 p1) = p4 ∧ w' 290 (6 * p1 + w 286 p1) = 100 ∧ w' 291 (6 * p1 + w 286 p1) = 10))) := by
                            intro nn
                            induction nn with
                            | zero => intro y7 y8 hj hm; obtain j36 := hj; exfalso; omega
                            | succ nn ih35 =>
                              intro y7 y8 hj hm
                              obtain j36 := hj
                              refine e_Ok.run (t' := (98, [(0, (1, 275)), (1, (0, p1)), (2, (0, p2)), (3, (0, p3)), (4, (0, p4)), (5, (0, p5)), (7, (0, y7)), (8, (0, y8))], [(1, 275), (0, y8)], w)) 2 rfl ?_
                              refine e_Ok.getr (z := 286) rfl (el_o rfl) rfl (ef_o rfl) (e_Has.eq hT (mt_o rfl)) ⟨by decide, by decide⟩ ?_
                              refine e_Ok.ps1 (x := (0, p1)) (q := 102) 1 rfl ?_
                              have h37 := (e_Has.get hT (c := 286) (k := p1) (lo := 0) (hi := 6) (mt_o rfl) (by decide))
                              refine e_Ok.ald (z := w 286 p1) rfl (el_o rfl) rfl (by omega) rfl (e_bq h37 (by decide) (by decide)) ?_
                              refine e_Ok.if2 rfl (fun h38 => ?_) (fun h38 => ?_)
                              · replace h38 : (y8 : Int) ≥ w 286 p1 := h38
                                refine e_Ok.ps2 (x := (0, 1)) (y := (0, p2)) (q := 164) 2 rfl ?_
                                refine e_Ok.if2 rfl (fun h39 => ?_) (fun h39 => ?_)
                                · replace h39 : (p2 : Int) ≠ 1 := h39
                                  exfalso; omega
                                · replace h39 : (p2 : Int) = 1 := Classical.not_not.mp (show ¬ ((p2 : Int) ≠ 1) from h39)
                                  refine e_Ok.ps2 (x := (0, p3)) (y := (0, p5)) (q := 170) 2 rfl ?_
                                  refine e_Ok.add (z := p5 + p3) rfl rfl (by omega) ?_
                                  refine e_Ok.if1 rfl (fun h40 => ?_) (fun h40 => ?_)
                                  · replace h40 : (p5 + p3 : Int) < 0 := h40
                                    refine e_Ok.ps1 (x := (0, (-1))) (q := 183) 1 rfl ?_
                                    refine e_Ok.rets rfl rfl ?_
                                    exact ⟨_, rfl, hT, Or.inl rfl⟩
                                  · replace h40 : (p5 + p3 : Int) ≥ 0 := Int.not_lt.mp (show ¬ ((p5 + p3 : Int) < 0) from h40)
                                    refine e_Ok.ps2 (x := (0, 8000)) (y := (0, y7)) (q := 179) 2 rfl ?_
                                    refine e_Ok.if2 rfl (fun h41 => ?_) (fun h41 => ?_)
                                    · replace h41 : (y7 : Int) ≤ 8000 := h41
                                      refine e_Ok.ps1 (x := (1, 275)) (q := 185) 1 rfl ?_
                                      have h42 := (e_Has.get hT (c := 275) (k := 3) (lo := 0) (hi := 1) (mt_o rfl) (by decide))
                                      refine e_Ok.getf (z := w 275 3) rfl (el_o rfl) rfl (ef_o rfl) rfl (e_bq h42 (by decide) (by decide)) ?_
                                      refine e_Ok.if1 rfl (fun h43 => ?_) (fun h43 => ?_)
                                      · replace h43 : (w 275 3 : Int) = 0 := h43
                                        refine e_Ok.ps1 (x := (1, 275)) (q := 195) 1 rfl ?_
                                        refine e_Ok.getr (z := 286) rfl (el_o rfl) rfl (ef_o rfl) (e_Has.eq hT (mt_o rfl)) ⟨by decide, by decide⟩ ?_
                                        refine e_Ok.ps1 (x := (0, p1)) (q := 199) 1 rfl ?_
                                        refine e_Ok.ald (z := w 286 p1) rfl (el_o rfl) rfl (by omega) rfl (by omega) ?_
                                        refine e_Ok.ps1 (x := (0, 6)) (q := 202) 1 rfl ?_
                                        refine e_Ok.if2 rfl (fun h44 => ?_) (fun h44 => ?_)
                                        · replace h44 : (w 286 p1 : Int) ≠ 6 := h44
                                          refine e_Ok.ps2 (x := (0, p1)) (y := (0, 6)) (q := 211) 2 rfl ?_
                                          refine e_Ok.mul (z := 6 * p1) rfl rfl (by omega) ?_
                                          refine e_Ok.ps1 (x := (1, 275)) (q := 213) 1 rfl ?_
                                          refine e_Ok.getr (z := 286) rfl (el_o rfl) rfl (ef_o rfl) (e_Has.eq hT (mt_o rfl)) ⟨by decide, by decide⟩ ?_
                                          refine e_Ok.ps1 (x := (0, p1)) (q := 217) 1 rfl ?_
                                          refine e_Ok.ald (z := w 286 p1) rfl (el_o rfl) rfl (by omega) rfl (by omega) ?_
                                          refine e_Ok.add (z := 6 * p1 + w 286 p1) rfl rfl (by omega) ?_
                                          refine e_Ok.run (t' := (222, [(8, (0, 6 * p1 + w 286 p1)), (0, (1, 275)), (1, (0, p1)), (2, (0, p2)), (3, (0, p3)), (4, (0, p4)), (5, (0, p5)), (7, (0, y7))], [(1, 275)], w)) 2 rfl ?_
                                          refine e_Ok.getr (z := 287) rfl (el_o rfl) rfl (ef_o rfl) (e_Has.eq hT (mt_o rfl)) ⟨by decide, by decide⟩ ?_
                                          refine e_Ok.ps3 (x := (0, p2)) (y := (0, 1)) (z := (0, 6 * p1 + w 286 p1)) (q := 229) 3 rfl ?_
                                          refine e_Ok.sub' (z := -p2 + 1) rfl (by omega) (by omega) ?_
                                          refine e_Ok.ast rfl (el_o rfl) rfl rfl (by omega) ?_
                                          generalize hw45 : e_up w 287 (6 * p1 + w 286 p1) (-p2 + 1) = w45
                                          have hT47 : e_Has mTy w45 := e_Has.upr hT hw45 (mt_o rfl) (by omega)
                                          refine e_Ok.ps1 (x := (1, 275)) (q := 232) 1 rfl ?_
                                          refine e_Ok.getr (z := 288) rfl (el_o rfl) rfl (ef_o rfl) (e_uq hw45 (Or.inl (by decide)) (e_Has.eq hT (mt_o rfl))) ⟨by decide, by decide⟩ ?_
                                          refine e_Ok.ps2 (x := (0, p3)) (y := (0, 6 * p1 + w 286 p1)) (q := 238) 2 rfl ?_
                                          refine e_Ok.ast rfl (el_o rfl) rfl rfl (by omega) ?_
                                          generalize hw48 : e_up w45 288 (6 * p1 + w 286 p1) p3 = w48
                                          have hT50 : e_Has mTy w48 := e_Has.upr hT47 hw48 (mt_o rfl) (by omega)
                                          refine e_Ok.ps1 (x := (1, 275)) (q := 240) 1 rfl ?_
                                          refine e_Ok.getr (z := 289) rfl (el_o rfl) rfl (ef_o rfl) (e_uq hw48 (Or.inl (by decide)) (e_uq hw45 (Or.inl (by decide)) (e_Has.eq hT (mt_o rfl)))) ⟨by decide, by decide⟩ ?_
                                          refine e_Ok.ps2 (x := (0, p4)) (y := (0, 6 * p1 + w 286 p1)) (q := 247) 2 rfl ?_
                                          refine e_Ok.ast rfl (el_o rfl) rfl rfl (by omega) ?_
                                          generalize hw51 : e_up w48 289 (6 * p1 + w 286 p1) p4 = w51
                                          have hT53 : e_Has mTy w51 := e_Has.upr hT50 hw51 (mt_o rfl) (by omega)
                                          refine e_Ok.ps1 (x := (1, 275)) (q := 249) 1 rfl ?_
                                          refine e_Ok.getr (z := 290) rfl (el_o rfl) rfl (ef_o rfl) (e_uq hw51 (Or.inl (by decide)) (e_uq hw48 (Or.inl (by decide)) (e_uq hw45 (Or.inl (by decide)) (e_Has.eq hT (mt_o rfl))))) ⟨by decide, by decide⟩ ?_
                                          refine e_Ok.ps2 (x := (0, 100)) (y := (0, 6 * p1 + w 286 p1)) (q := 256) 2 rfl ?_
                                          refine e_Ok.ast rfl (el_o rfl) rfl rfl (by omega) ?_
                                          generalize hw54 : e_up w51 290 (6 * p1 + w 286 p1) 100 = w54
                                          have hT56 : e_Has mTy w54 := e_Has.upr hT53 hw54 (mt_o rfl) (by omega)
                                          refine e_Ok.ps1 (x := (1, 275)) (q := 258) 1 rfl ?_
                                          refine e_Ok.getr (z := 291) rfl (el_o rfl) rfl (ef_o rfl) (e_uq hw54 (Or.inl (by decide)) (e_uq hw51 (Or.inl (by decide)) (e_uq hw48 (Or.inl (by decide)) (e_uq hw45 (Or.inl (by decide)) (e_Has.eq hT (mt_o rfl)))))) ⟨by decide, by decide⟩ ?_
                                          refine e_Ok.ps2 (x := (0, 10)) (y := (0, 6 * p1 + w 286 p1)) (q := 265) 2 rfl ?_
                                          refine e_Ok.ast rfl (el_o rfl) rfl rfl (by omega) ?_
                                          generalize hw57 : e_up w54 291 (6 * p1 + w 286 p1) 10 = w57
                                          have hT59 : e_Has mTy w57 := e_Has.upr hT56 hw57 (mt_o rfl) (by omega)
                                          refine e_Ok.ps1 (x := (1, 275)) (q := 267) 1 rfl ?_
                                          refine e_Ok.getr (z := 292) rfl (el_o rfl) rfl (ef_o rfl) (e_uq hw57 (Or.inl (by decide)) (e_uq hw54 (Or.inl (by decide)) (e_uq hw51 (Or.inl (by decide)) (e_uq hw48 (Or.inl (by decide)) (e_uq hw45 (Or.inl (by decide)) (e_Has.eq hT (mt_o rfl))))))) ⟨by decide, by decide⟩ ?_
                                          refine e_Ok.ps2 (x := (0, p5)) (y := (0, 6 * p1 + w 286 p1)) (q := 274) 2 rfl ?_
                                          refine e_Ok.ast rfl (el_o rfl) rfl rfl (by omega) ?_
                                          generalize hw60 : e_up w57 292 (6 * p1 + w 286 p1) p5 = w60
                                          have hT62 : e_Has mTy w60 := e_Has.upr hT59 hw60 (mt_o rfl) (by omega)
                                          refine e_Ok.ps1 (x := (1, 275)) (q := 276) 1 rfl ?_
                                          refine e_Ok.getr (z := 293) rfl (el_o rfl) rfl (ef_o rfl) (e_uq hw60 (Or.inl (by decide)) (e_uq hw57 (Or.inl (by decide)) (e_uq hw54 (Or.inl (by decide)) (e_uq hw51 (Or.inl (by decide)) (e_uq hw48 (Or.inl (by decide)) (e_uq hw45 (Or.inl (by decide)) (e_Has.eq hT (mt_o rfl)))))))) ⟨by decide, by decide⟩ ?_
                                          refine e_Ok.ps2 (x := (0, 0)) (y := (0, 6 * p1 + w 286 p1)) (q := 282) 2 rfl ?_
                                          refine e_Ok.ast rfl (el_o rfl) rfl rfl (by omega) ?_
                                          generalize hw63 : e_up w60 293 (6 * p1 + w 286 p1) 0 = w63
                                          have hT65 : e_Has mTy w63 := e_Has.upr hT62 hw63 (mt_o rfl) (by omega)
                                          refine e_Ok.ps1 (x := (1, 275)) (q := 284) 1 rfl ?_
                                          refine e_Ok.getr (z := 286) rfl (el_o rfl) rfl (ef_o rfl) (e_uq hw63 (Or.inl (by decide)) (e_uq hw60 (Or.inl (by decide)) (e_uq hw57 (Or.inl (by decide)) (e_uq hw54 (Or.inl (by decide)) (e_uq hw51 (Or.inl (by decide)) (e_uq hw48 (Or.inl (by decide)) (e_uq hw45 (Or.inl (by decide)) (e_Has.eq hT (mt_o rfl))))))))) ⟨by decide, by decide⟩ ?_
                                          refine e_Ok.ps3 (x := (0, p1)) (y := (1, 286)) (z := (0, p1)) (q := 289) 2 rfl ?_
                                          refine e_Ok.ald (z := w 286 p1) rfl (el_o rfl) rfl (by omega) (e_uq hw63 (Or.inl (by decide)) (e_uq hw60 (Or.inl (by decide)) (e_uq hw57 (Or.inl (by decide)) (e_uq hw54 (Or.inl (by decide)) (e_uq hw51 (Or.inl (by decide)) (e_uq hw48 (Or.inl (by decide)) (e_uq hw45 (Or.inl (by decide)) rfl))))))) (by omega) ?_
                                          refine e_Ok.ps1 (x := (0, 1)) (q := 291) 1 rfl ?_
                                          refine e_Ok.add (z := w 286 p1 + 1) rfl rfl (by omega) ?_
                                          refine e_Ok.ast rfl (el_o rfl) rfl rfl (by omega) ?_
                                          generalize hw66 : e_up w63 286 p1 (w 286 p1 + 1) = w66
                                          have hT68 : e_Has mTy w66 := e_Has.upr hT65 hw66 (mt_o rfl) (by omega)
                                          refine e_Ok.ps1 (x := (1, 275)) (q := 294) 1 rfl ?_
                                          refine e_Ok.getr (z := 286) rfl (el_o rfl) rfl (ef_o rfl) (e_uq hw66 (Or.inl (by decide)) (e_uq hw63 (Or.inl (by decide)) (e_uq hw60 (Or.inl (by decide)) (e_uq hw57 (Or.inl (by decide)) (e_uq hw54 (Or.inl (by decide)) (e_uq hw51 (Or.inl (by decide)) (e_uq hw48 (Or.inl (by decide)) (e_uq hw45 (Or.inl (by decide)) (e_Has.eq hT (mt_o rfl)))))))))) ⟨by decide, by decide⟩ ?_
                                          refine e_Ok.ps1 (x := (0, p1)) (q := 298) 1 rfl ?_
                                          refine e_Ok.ald (z := w 286 p1 + 1) rfl (el_o rfl) rfl (by omega) (e_ue hw66) (by omega) ?_
                                          refine e_Ok.ps1 (x := (0, 1)) (q := 300) 1 rfl ?_
                                          refine e_Ok.sub' (z := w 286 p1) rfl (by omega) (by omega) ?_
                                          refine e_Ok.rets rfl rfl ?_
                                          exact ⟨_, rfl, hT68, Or.inr ⟨by omega, by omega, (show e_fr (mJo p1 (w 286 p1)) w w66 from e_fr.up (show e_fr (mJo p1 (w 286 p1)) w w63 from e_fr.up (show e_fr (mJo p1 (w 286 p1)) w w60 from e_fr.up (show e_fr (mJo p1 (w 286 p1)) w w57 from e_fr.up (show e_fr (mJo p1 (w 286 p1)) w w54 from e_fr.up (show e_fr (mJo p1 (w 286 p1)) w w51 from e_fr.up (show e_fr (mJo p1 (w 286 p1)) w w48 from e_fr.up (show e_fr (mJo p1 (w 286 p1)) w w45 from e_fr.up (e_fr.refl w) hw45 (by first | exact Or.inr ⟨(by decide), ⟨(by decide), (by omega)⟩⟩ | (unfold mJo; omega))) hw48 (by first | exact Or.inr ⟨(by decide), ⟨(by decide), (by omega)⟩⟩ | (unfold mJo; omega))) hw51 (by first | exact Or.inr ⟨(by decide), ⟨(by decide), (by omega)⟩⟩ | (unfold mJo; omega))) hw54 (by first | exact Or.inr ⟨(by decide), ⟨(by decide), (by omega)⟩⟩ | (unfold mJo; omega))) hw57 (by first | exact Or.inr ⟨(by decide), ⟨(by decide), (by omega)⟩⟩ | (unfold mJo; omega))) hw60 (by first | exact Or.inr ⟨(by decide), ⟨(by decide), (by omega)⟩⟩ | (unfold mJo; omega))) hw63 (by first | exact Or.inr ⟨(by decide), ⟨(by decide), (by omega)⟩⟩ | (unfold mJo; omega))) hw66 (by first | exact Or.inl ⟨rfl, (by omega)⟩ | (unfold mJo; omega))), (e_ue hw66), (e_uq hw66 (Or.inl (by first | decide | omega)) (e_uq hw63 (Or.inl (by first | decide | omega)) (e_uq hw60 (Or.inl (by first | decide | omega)) (e_uq hw57 (Or.inl (by first | decide | omega)) (e_uq hw54 (Or.inl (by first | decide | omega)) (e_uq hw51 (Or.inl (by first | decide | omega)) (e_ue hw48))))))), (e_uq hw66 (Or.inl (by first | decide | omega)) (e_uq hw63 (Or.inl (by first | decide | omega)) (e_uq hw60 (Or.inl (by first | decide | omega)) (e_uq hw57 (Or.inl (by first | decide | omega)) (e_uq hw54 (Or.inl (by first | decide | omega)) (e_ue hw51)))))), (e_uq hw66 (Or.inl (by first | decide | omega)) (e_uq hw63 (Or.inl (by first | decide | omega)) (e_uq hw60 (Or.inl (by first | decide | omega)) (e_uq hw57 (Or.inl (by first | decide | omega)) (e_ue hw54))))), (e_uq hw66 (Or.inl (by first | decide | omega)) (e_uq hw63 (Or.inl (by first | decide | omega)) (e_uq hw60 (Or.inl (by first | decide | omega)) (e_ue hw57))))⟩⟩
                                        · replace h44 : (w 286 p1 : Int) = 6 := Classical.not_not.mp (show ¬ ((w 286 p1 : Int) ≠ 6) from h44)
                                          refine e_Ok.ps1 (x := (0, (-3))) (q := 207) 1 rfl ?_
                                          refine e_Ok.rets rfl rfl ?_
                                          exact ⟨_, rfl, hT, Or.inl rfl⟩
                                      · replace h43 : (w 275 3 : Int) ≠ 0 := (show ¬ ((w 275 3 : Int) = 0) from h43)
                                        refine e_Ok.ps1 (x := (0, (-2))) (q := 193) 1 rfl ?_
                                        refine e_Ok.rets rfl rfl ?_
                                        exact ⟨_, rfl, hT, Or.inl rfl⟩
                                    · replace h41 : (y7 : Int) > 8000 := Int.not_le.mp (show ¬ ((y7 : Int) ≤ 8000) from h41)
                                      refine e_Ok.ps1 (x := (0, (-1))) (q := 183) 1 rfl ?_
                                      refine e_Ok.rets rfl rfl ?_
                                      exact ⟨_, rfl, hT, Or.inl rfl⟩
                              · replace h38 : (y8 : Int) < w 286 p1 := Int.not_le.mp (show ¬ ((y8 : Int) ≥ w 286 p1) from h38)
                                refine e_Ok.ps2 (x := (1, 275)) (y := (0, y7)) (q := 109) 2 rfl ?_
                                refine e_Ok.getr (z := 292) rfl (el_o rfl) rfl (ef_o rfl) (e_Has.eq hT (mt_o rfl)) ⟨by decide, by decide⟩ ?_
                                refine e_Ok.ps2 (x := (0, p1)) (y := (0, 6)) (q := 115) 2 rfl ?_
                                refine e_Ok.mul (z := 6 * p1) rfl rfl (by omega) ?_
                                refine e_Ok.ps1 (x := (0, y8)) (q := 118) 1 rfl ?_
                                refine e_Ok.add (z := 6 * p1 + y8) rfl rfl (by omega) ?_
                                have h69 := (e_Has.get hT (c := 292) (k := 6 * p1 + y8) (lo := 0) (hi := 8000) (mt_o rfl) (by decide))
                                refine e_Ok.ald (z := w 292 (6 * p1 + y8)) rfl (el_o rfl) rfl (by omega) rfl (e_bq h69 (by decide) (by decide)) ?_
                                refine e_Ok.ps1 (x := (1, 275)) (q := 121) 1 rfl ?_
                                refine e_Ok.getr (z := 287) rfl (el_o rfl) rfl (ef_o rfl) (e_Has.eq hT (mt_o rfl)) ⟨by decide, by decide⟩ ?_
                                refine e_Ok.ps2 (x := (0, p1)) (y := (0, 6)) (q := 127) 2 rfl ?_
                                refine e_Ok.mul (z := 6 * p1) rfl rfl (by omega) ?_
                                refine e_Ok.ps1 (x := (0, y8)) (q := 130) 1 rfl ?_
                                refine e_Ok.add (z := 6 * p1 + y8) rfl rfl (by omega) ?_
                                have h70 := (e_Has.get hT (c := 287) (k := 6 * p1 + y8) (lo := 0) (hi := 1) (mt_o rfl) (by decide))
                                refine e_Ok.ald (z := w 287 (6 * p1 + y8)) rfl (el_o rfl) rfl (by omega) rfl (e_bq h70 (by decide) (by decide)) ?_
                                refine e_Ok.ps1 (x := (0, 1)) (q := 133) 1 rfl ?_
                                refine e_Ok.if2 rfl (fun h71 => ?_) (fun h71 => ?_)
                                · replace h71 : (w 287 (6 * p1 + y8) : Int) ≠ 1 := h71
                                  refine e_Ok.ps1 (x := (1, 275)) (q := 141) 1 rfl ?_
                                  refine e_Ok.getr (z := 289) rfl (el_o rfl) rfl (ef_o rfl) (e_Has.eq hT (mt_o rfl)) ⟨by decide, by decide⟩ ?_
                                  refine e_Ok.ps2 (x := (0, p1)) (y := (0, 6)) (q := 147) 2 rfl ?_
                                  refine e_Ok.mul (z := 6 * p1) rfl rfl (by omega) ?_
                                  refine e_Ok.ps1 (x := (0, y8)) (q := 150) 1 rfl ?_
                                  refine e_Ok.add (z := 6 * p1 + y8) rfl rfl (by omega) ?_
                                  have h72 := (e_Has.get hT (c := 289) (k := 6 * p1 + y8) (lo := 0) (hi := 100000) (mt_o rfl) (by decide))
                                  refine e_Ok.ald (z := w 289 (6 * p1 + y8)) rfl (el_o rfl) rfl (by omega) rfl (e_bq h72 (by decide) (by decide)) ?_
                                  refine e_Ok.add (z := w 292 (6 * p1 + y8) + w 289 (6 * p1 + y8)) rfl rfl (by omega) ?_
                                  refine e_Ok.any rfl (eF_add_any _ _) (fun z73 z73a z73b => ?_)
                                  refine e_Ok.run (t' := (156, [(7, (0, z73)), (0, (1, 275)), (1, (0, p1)), (2, (0, p2)), (3, (0, p3)), (4, (0, p4)), (5, (0, p5)), (8, (0, y8))], [], w)) 1 rfl ?_
                                  refine e_Ok.inc (z := y8 + 1) rfl rfl (by first | with_reducible rfl | omega) (by omega) ?_
                                  show e_Ok 20 elay ecode eI (d + 1) 279 (159, [(8, (0, y8 + 1)), (7, (0, z73)), (0, (1, 275)), (1, (0, p1)), (2, (0, p2)), (3, (0, p3)), (4, (0, p4)), (5, (0, p5))], [], w) _
                                  refine e_Ok.ps0 (q := 95) 1 rfl ?_
                                  refine e_Ok.sub eAlk (e_sub_of rfl ?_) (ih35 z73 (y8 + 1) (by omega) (by omega))
                                  exact ⟨rfl, rfl, rfl, rfl, rfl, rfl, rfl, rfl, trivial⟩
                                · replace h71 : (w 287 (6 * p1 + y8) : Int) = 1 := Classical.not_not.mp (show ¬ ((w 287 (6 * p1 + y8) : Int) ≠ 1) from h71)
                                  refine e_Ok.ps1 (x := (0, 0)) (q := 152) 2 rfl ?_
                                  refine e_Ok.add (z := w 292 (6 * p1 + y8)) rfl (by omega) (by omega) ?_
                                  refine e_Ok.any rfl (eF_add_any _ _) (fun z74 z74a z74b => ?_)
                                  refine e_Ok.run (t' := (156, [(7, (0, z74)), (0, (1, 275)), (1, (0, p1)), (2, (0, p2)), (3, (0, p3)), (4, (0, p4)), (5, (0, p5)), (8, (0, y8))], [], w)) 1 rfl ?_
                                  refine e_Ok.inc (z := y8 + 1) rfl rfl (by first | with_reducible rfl | omega) (by omega) ?_
                                  show e_Ok 20 elay ecode eI (d + 1) 279 (159, [(8, (0, y8 + 1)), (7, (0, z74)), (0, (1, 275)), (1, (0, p1)), (2, (0, p2)), (3, (0, p3)), (4, (0, p4)), (5, (0, p5))], [], w) _
                                  refine e_Ok.ps0 (q := 95) 1 rfl ?_
                                  refine e_Ok.sub eAlk (e_sub_of rfl ?_) (ih35 z74 (y8 + 1) (by omega) (by omega))
                                  exact ⟨rfl, rfl, rfl, rfl, rfl, rfl, rfl, rfl, trivial⟩
                          refine e_Ok.sub eAlk (e_sub_of rfl ?_) (hL34 (7 + 1 : Int).toNat (p5 + p4) 0 (by omega) (by omega))
                          exact ⟨rfl, rfl, rfl, rfl, rfl, rfl, rfl, rfl, trivial⟩
                      · replace h32 : (1 : Int) = 0 := Classical.not_not.mp (show ¬ ((1 : Int) ≠ 0) from h32)
                        exfalso; omega
                    · refine e_Ok.nrm (q := 71) (st' := [(0, 0)]) rfl rfl ?_
                      refine e_Ok.if1 rfl (fun h75 => ?_) (fun h75 => ?_)
                      · replace h75 : (0 : Int) ≠ 0 := h75
                        exfalso; omega
                      · replace h75 : (0 : Int) = 0 := Classical.not_not.mp (show ¬ ((0 : Int) ≠ 0) from h75)
                        refine e_Ok.ps1 (x := (0, (-1))) (q := 75) 1 rfl ?_
                        refine e_Ok.rets rfl rfl ?_
                        exact ⟨_, rfl, hT, Or.inl rfl⟩
                · refine e_Ok.nrm (q := 58) (st' := [(0, 0)]) rfl rfl ?_
                  refine e_Ok.if1 rfl (fun h76 => ?_) (fun h76 => ?_)
                  · replace h76 : (0 : Int) = 0 := h76
                    refine e_Ok.ps1 (x := (0, (-1))) (q := 75) 1 rfl ?_
                    refine e_Ok.rets rfl rfl ?_
                    exact ⟨_, rfl, hT, Or.inl rfl⟩
                  · replace h76 : (0 : Int) ≠ 0 := (show ¬ ((0 : Int) = 0) from h76)
                    exfalso; omega
            · refine e_Ok.nrm (q := 45) (st' := [(0, 0)]) rfl rfl ?_
              refine e_Ok.if1 rfl (fun h77 => ?_) (fun h77 => ?_)
              · replace h77 : (0 : Int) = 0 := h77
                refine e_Ok.ps1 (x := (0, (-1))) (q := 75) 1 rfl ?_
                refine e_Ok.rets rfl rfl ?_
                exact ⟨_, rfl, hT, Or.inl rfl⟩
              · replace h77 : (0 : Int) ≠ 0 := (show ¬ ((0 : Int) = 0) from h77)
                exfalso; omega
          · replace h14 : (p2 : Int) = 0 := Classical.not_not.mp (show ¬ ((p2 : Int) ≠ 0) from h14)
            refine e_Ok.run (t' := (39, [(6, (0, 100000)), (0, (1, 275)), (1, (0, p1)), (2, (0, p2)), (3, (0, p3)), (4, (0, p4)), (5, (0, p5))], [(0, 100000), (4, p3)], w)) 6 rfl ?_
            refine e_Ok.neg (z := (-100000)) rfl (by omega) (by omega) ?_
            refine e_Ok.run (t' := (42, [(6, (0, 100000)), (0, (1, 275)), (1, (0, p1)), (2, (0, p2)), (3, (0, p3)), (4, (0, p4)), (5, (0, p5))], [(4, 0), (4, (-100000)), (4, p3)], w)) 2 rfl ?_
            refine e_Ok.callS rfl (e_dq hd rfl) rfl rfl (c_266) (fun r78 w79 h80 => ?_)
            obtain ⟨z81, rfl, rfl, q82⟩ := h80
            obtain ⟨rfl, q82⟩ | ⟨rfl, q82⟩ := q82
            · refine e_Ok.nrm (q := 45) (st' := [(0, 1)]) rfl rfl ?_
              refine e_Ok.if1 rfl (fun h83 => ?_) (fun h83 => ?_)
              · replace h83 : (1 : Int) = 0 := h83
                exfalso; omega
              · replace h83 : (1 : Int) ≠ 0 := (show ¬ ((1 : Int) = 0) from h83)
                refine e_Ok.ps3 (x := (4, 100000)) (y := (4, 0)) (z := (4, p4)) (q := 55) 5 rfl ?_
                refine e_Ok.callS rfl (e_dq hd rfl) rfl rfl (c_266) (fun r84 w85 h86 => ?_)
                obtain ⟨z87, rfl, rfl, q88⟩ := h86
                obtain ⟨rfl, q88⟩ | ⟨rfl, q88⟩ := q88
                · refine e_Ok.nrm (q := 58) (st' := [(0, 1)]) rfl rfl ?_
                  refine e_Ok.if1 rfl (fun h89 => ?_) (fun h89 => ?_)
                  · replace h89 : (1 : Int) = 0 := h89
                    exfalso; omega
                  · replace h89 : (1 : Int) ≠ 0 := (show ¬ ((1 : Int) = 0) from h89)
                    refine e_Ok.ps3 (x := (4, 8000)) (y := (4, 0)) (z := (4, p5)) (q := 68) 4 rfl ?_
                    refine e_Ok.callS rfl (e_dq hd rfl) rfl rfl (c_266) (fun r90 w91 h92 => ?_)
                    obtain ⟨z93, rfl, rfl, q94⟩ := h92
                    obtain ⟨rfl, q94⟩ | ⟨rfl, q94⟩ := q94
                    · refine e_Ok.nrm (q := 71) (st' := [(0, 1)]) rfl rfl ?_
                      refine e_Ok.if1 rfl (fun h95 => ?_) (fun h95 => ?_)
                      · replace h95 : (1 : Int) ≠ 0 := h95
                        refine e_Ok.ps3 (x := (0, 1)) (y := (0, p2)) (z := (0, p5)) (q := 80) 3 rfl ?_
                        refine e_Ok.if2 rfl (fun h96 => ?_) (fun h96 => ?_)
                        · replace h96 : (p2 : Int) ≠ 1 := h96
                          refine e_Ok.ps1 (x := (0, 0)) (q := 89) 1 rfl ?_
                          refine e_Ok.add (z := p5) rfl (by omega) (by omega) ?_
                          refine e_Ok.run (t' := (95, [(8, (0, 0)), (7, (0, p5)), (6, (0, 100000)), (0, (1, 275)), (1, (0, p1)), (2, (0, p2)), (3, (0, p3)), (4, (0, p4)), (5, (0, p5))], [], w)) 3 rfl ?_
                          have hL97 : ∀ (nn : Nat) (y7 : Int) (y8 : Int), 0 ≤ y8 ∧ y8 ≤ 6 → 7 - y8 < nn → e_Ok 20 elay ecode eI (d + 1) 279 (95, [(0, (1, 275)), (1, (0, p1)), (2, (0, p2)), (3, (0, p3)), (4, (0, p4)), (5, (0, p5)), (7, (0, y7)), (8, (0, y8))], [], w) (fun r w' => ∃ z : Int, r = [(0, z)] ∧ e_Has mTy w' ∧ (w = w' ∨ ((0 ≤ p1 ∧ p1 < w 275 10 ∧ w 286 p1 ≤ 5) ∧ w 275 3 = 0 ∧ e_fr (mJo p1 (w 286 p1)) w w' ∧ w' 286 p1 = w 286 p1 + 1 ∧ w' 288 (6 * p1 + w 286 p1) = p3 ∧ w' 289 (6 * p1 + w 286 p1) = p4 ∧ w' 290 (6 * p1 + w 286 p1) = 100 ∧ w' 291 (6 * p1 + w 286 p1) = 10))) := by
                            intro nn
                            induction nn with
                            | zero => intro y7 y8 hj hm; obtain j99 := hj; exfalso; omega
                            | succ nn ih98 =>
                              intro y7 y8 hj hm
                              obtain j99 := hj
                              refine e_Ok.run (t' := (98, [(0, (1, 275)), (1, (0, p1)), (2, (0, p2)), (3, (0, p3)), (4, (0, p4)), (5, (0, p5)), (7, (0, y7)), (8, (0, y8))], [(1, 275), (0, y8)], w)) 2 rfl ?_
                              refine e_Ok.getr (z := 286) rfl (el_o rfl) rfl (ef_o rfl) (e_Has.eq hT (mt_o rfl)) ⟨by decide, by decide⟩ ?_
                              refine e_Ok.ps1 (x := (0, p1)) (q := 102) 1 rfl ?_
                              have h100 := (e_Has.get hT (c := 286) (k := p1) (lo := 0) (hi := 6) (mt_o rfl) (by decide))
                              refine e_Ok.ald (z := w 286 p1) rfl (el_o rfl) rfl (by omega) rfl (e_bq h100 (by decide) (by decide)) ?_
                              refine e_Ok.if2 rfl (fun h101 => ?_) (fun h101 => ?_)
                              · replace h101 : (y8 : Int) ≥ w 286 p1 := h101
                                refine e_Ok.ps2 (x := (0, 1)) (y := (0, p2)) (q := 164) 2 rfl ?_
                                refine e_Ok.if2 rfl (fun h102 => ?_) (fun h102 => ?_)
                                · replace h102 : (p2 : Int) ≠ 1 := h102
                                  refine e_Ok.ps2 (x := (0, 8000)) (y := (0, y7)) (q := 179) 2 rfl ?_
                                  refine e_Ok.if2 rfl (fun h103 => ?_) (fun h103 => ?_)
                                  · replace h103 : (y7 : Int) ≤ 8000 := h103
                                    refine e_Ok.ps1 (x := (1, 275)) (q := 185) 1 rfl ?_
                                    have h104 := (e_Has.get hT (c := 275) (k := 3) (lo := 0) (hi := 1) (mt_o rfl) (by decide))
                                    refine e_Ok.getf (z := w 275 3) rfl (el_o rfl) rfl (ef_o rfl) rfl (e_bq h104 (by decide) (by decide)) ?_
                                    refine e_Ok.if1 rfl (fun h105 => ?_) (fun h105 => ?_)
                                    · replace h105 : (w 275 3 : Int) = 0 := h105
                                      refine e_Ok.ps1 (x := (1, 275)) (q := 195) 1 rfl ?_
                                      refine e_Ok.getr (z := 286) rfl (el_o rfl) rfl (ef_o rfl) (e_Has.eq hT (mt_o rfl)) ⟨by decide, by decide⟩ ?_
                                      refine e_Ok.ps1 (x := (0, p1)) (q := 199) 1 rfl ?_
                                      refine e_Ok.ald (z := w 286 p1) rfl (el_o rfl) rfl (by omega) rfl (by omega) ?_
                                      refine e_Ok.ps1 (x := (0, 6)) (q := 202) 1 rfl ?_
                                      refine e_Ok.if2 rfl (fun h106 => ?_) (fun h106 => ?_)
                                      · replace h106 : (w 286 p1 : Int) ≠ 6 := h106
                                        refine e_Ok.ps2 (x := (0, p1)) (y := (0, 6)) (q := 211) 2 rfl ?_
                                        refine e_Ok.mul (z := 6 * p1) rfl rfl (by omega) ?_
                                        refine e_Ok.ps1 (x := (1, 275)) (q := 213) 1 rfl ?_
                                        refine e_Ok.getr (z := 286) rfl (el_o rfl) rfl (ef_o rfl) (e_Has.eq hT (mt_o rfl)) ⟨by decide, by decide⟩ ?_
                                        refine e_Ok.ps1 (x := (0, p1)) (q := 217) 1 rfl ?_
                                        refine e_Ok.ald (z := w 286 p1) rfl (el_o rfl) rfl (by omega) rfl (by omega) ?_
                                        refine e_Ok.add (z := 6 * p1 + w 286 p1) rfl rfl (by omega) ?_
                                        refine e_Ok.run (t' := (222, [(8, (0, 6 * p1 + w 286 p1)), (0, (1, 275)), (1, (0, p1)), (2, (0, p2)), (3, (0, p3)), (4, (0, p4)), (5, (0, p5)), (7, (0, y7))], [(1, 275)], w)) 2 rfl ?_
                                        refine e_Ok.getr (z := 287) rfl (el_o rfl) rfl (ef_o rfl) (e_Has.eq hT (mt_o rfl)) ⟨by decide, by decide⟩ ?_
                                        refine e_Ok.ps3 (x := (0, p2)) (y := (0, 1)) (z := (0, 6 * p1 + w 286 p1)) (q := 229) 3 rfl ?_
                                        refine e_Ok.sub' (z := -p2 + 1) rfl (by omega) (by omega) ?_
                                        refine e_Ok.ast rfl (el_o rfl) rfl rfl (by omega) ?_
                                        generalize hw107 : e_up w 287 (6 * p1 + w 286 p1) (-p2 + 1) = w107
                                        have hT109 : e_Has mTy w107 := e_Has.upr hT hw107 (mt_o rfl) (by omega)
                                        refine e_Ok.ps1 (x := (1, 275)) (q := 232) 1 rfl ?_
                                        refine e_Ok.getr (z := 288) rfl (el_o rfl) rfl (ef_o rfl) (e_uq hw107 (Or.inl (by decide)) (e_Has.eq hT (mt_o rfl))) ⟨by decide, by decide⟩ ?_
                                        refine e_Ok.ps2 (x := (0, p3)) (y := (0, 6 * p1 + w 286 p1)) (q := 238) 2 rfl ?_
                                        refine e_Ok.ast rfl (el_o rfl) rfl rfl (by omega) ?_
                                        generalize hw110 : e_up w107 288 (6 * p1 + w 286 p1) p3 = w110
                                        have hT112 : e_Has mTy w110 := e_Has.upr hT109 hw110 (mt_o rfl) (by omega)
                                        refine e_Ok.ps1 (x := (1, 275)) (q := 240) 1 rfl ?_
                                        refine e_Ok.getr (z := 289) rfl (el_o rfl) rfl (ef_o rfl) (e_uq hw110 (Or.inl (by decide)) (e_uq hw107 (Or.inl (by decide)) (e_Has.eq hT (mt_o rfl)))) ⟨by decide, by decide⟩ ?_
                                        refine e_Ok.ps2 (x := (0, p4)) (y := (0, 6 * p1 + w 286 p1)) (q := 247) 2 rfl ?_
                                        refine e_Ok.ast rfl (el_o rfl) rfl rfl (by omega) ?_
                                        generalize hw113 : e_up w110 289 (6 * p1 + w 286 p1) p4 = w113
                                        have hT115 : e_Has mTy w113 := e_Has.upr hT112 hw113 (mt_o rfl) (by omega)
                                        refine e_Ok.ps1 (x := (1, 275)) (q := 249) 1 rfl ?_
                                        refine e_Ok.getr (z := 290) rfl (el_o rfl) rfl (ef_o rfl) (e_uq hw113 (Or.inl (by decide)) (e_uq hw110 (Or.inl (by decide)) (e_uq hw107 (Or.inl (by decide)) (e_Has.eq hT (mt_o rfl))))) ⟨by decide, by decide⟩ ?_
                                        refine e_Ok.ps2 (x := (0, 100)) (y := (0, 6 * p1 + w 286 p1)) (q := 256) 2 rfl ?_
                                        refine e_Ok.ast rfl (el_o rfl) rfl rfl (by omega) ?_
                                        generalize hw116 : e_up w113 290 (6 * p1 + w 286 p1) 100 = w116
                                        have hT118 : e_Has mTy w116 := e_Has.upr hT115 hw116 (mt_o rfl) (by omega)
                                        refine e_Ok.ps1 (x := (1, 275)) (q := 258) 1 rfl ?_
                                        refine e_Ok.getr (z := 291) rfl (el_o rfl) rfl (ef_o rfl) (e_uq hw116 (Or.inl (by decide)) (e_uq hw113 (Or.inl (by decide)) (e_uq hw110 (Or.inl (by decide)) (e_uq hw107 (Or.inl (by decide)) (e_Has.eq hT (mt_o rfl)))))) ⟨by decide, by decide⟩ ?_
                                        refine e_Ok.ps2 (x := (0, 10)) (y := (0, 6 * p1 + w 286 p1)) (q := 265) 2 rfl ?_
                                        refine e_Ok.ast rfl (el_o rfl) rfl rfl (by omega) ?_
                                        generalize hw119 : e_up w116 291 (6 * p1 + w 286 p1) 10 = w119
                                        have hT121 : e_Has mTy w119 := e_Has.upr hT118 hw119 (mt_o rfl) (by omega)
                                        refine e_Ok.ps1 (x := (1, 275)) (q := 267) 1 rfl ?_
                                        refine e_Ok.getr (z := 292) rfl (el_o rfl) rfl (ef_o rfl) (e_uq hw119 (Or.inl (by decide)) (e_uq hw116 (Or.inl (by decide)) (e_uq hw113 (Or.inl (by decide)) (e_uq hw110 (Or.inl (by decide)) (e_uq hw107 (Or.inl (by decide)) (e_Has.eq hT (mt_o rfl))))))) ⟨by decide, by decide⟩ ?_
                                        refine e_Ok.ps2 (x := (0, p5)) (y := (0, 6 * p1 + w 286 p1)) (q := 274) 2 rfl ?_
                                        refine e_Ok.ast rfl (el_o rfl) rfl rfl (by omega) ?_
                                        generalize hw122 : e_up w119 292 (6 * p1 + w 286 p1) p5 = w122
                                        have hT124 : e_Has mTy w122 := e_Has.upr hT121 hw122 (mt_o rfl) (by omega)
                                        refine e_Ok.ps1 (x := (1, 275)) (q := 276) 1 rfl ?_
                                        refine e_Ok.getr (z := 293) rfl (el_o rfl) rfl (ef_o rfl) (e_uq hw122 (Or.inl (by decide)) (e_uq hw119 (Or.inl (by decide)) (e_uq hw116 (Or.inl (by decide)) (e_uq hw113 (Or.inl (by decide)) (e_uq hw110 (Or.inl (by decide)) (e_uq hw107 (Or.inl (by decide)) (e_Has.eq hT (mt_o rfl)))))))) ⟨by decide, by decide⟩ ?_
                                        refine e_Ok.ps2 (x := (0, 0)) (y := (0, 6 * p1 + w 286 p1)) (q := 282) 2 rfl ?_
                                        refine e_Ok.ast rfl (el_o rfl) rfl rfl (by omega) ?_
                                        generalize hw125 : e_up w122 293 (6 * p1 + w 286 p1) 0 = w125
                                        have hT127 : e_Has mTy w125 := e_Has.upr hT124 hw125 (mt_o rfl) (by omega)
                                        refine e_Ok.ps1 (x := (1, 275)) (q := 284) 1 rfl ?_
                                        refine e_Ok.getr (z := 286) rfl (el_o rfl) rfl (ef_o rfl) (e_uq hw125 (Or.inl (by decide)) (e_uq hw122 (Or.inl (by decide)) (e_uq hw119 (Or.inl (by decide)) (e_uq hw116 (Or.inl (by decide)) (e_uq hw113 (Or.inl (by decide)) (e_uq hw110 (Or.inl (by decide)) (e_uq hw107 (Or.inl (by decide)) (e_Has.eq hT (mt_o rfl))))))))) ⟨by decide, by decide⟩ ?_
                                        refine e_Ok.ps3 (x := (0, p1)) (y := (1, 286)) (z := (0, p1)) (q := 289) 2 rfl ?_
                                        refine e_Ok.ald (z := w 286 p1) rfl (el_o rfl) rfl (by omega) (e_uq hw125 (Or.inl (by decide)) (e_uq hw122 (Or.inl (by decide)) (e_uq hw119 (Or.inl (by decide)) (e_uq hw116 (Or.inl (by decide)) (e_uq hw113 (Or.inl (by decide)) (e_uq hw110 (Or.inl (by decide)) (e_uq hw107 (Or.inl (by decide)) rfl))))))) (by omega) ?_
                                        refine e_Ok.ps1 (x := (0, 1)) (q := 291) 1 rfl ?_
                                        refine e_Ok.add (z := w 286 p1 + 1) rfl rfl (by omega) ?_
                                        refine e_Ok.ast rfl (el_o rfl) rfl rfl (by omega) ?_
                                        generalize hw128 : e_up w125 286 p1 (w 286 p1 + 1) = w128
                                        have hT130 : e_Has mTy w128 := e_Has.upr hT127 hw128 (mt_o rfl) (by omega)
                                        refine e_Ok.ps1 (x := (1, 275)) (q := 294) 1 rfl ?_
                                        refine e_Ok.getr (z := 286) rfl (el_o rfl) rfl (ef_o rfl) (e_uq hw128 (Or.inl (by decide)) (e_uq hw125 (Or.inl (by decide)) (e_uq hw122 (Or.inl (by decide)) (e_uq hw119 (Or.inl (by decide)) (e_uq hw116 (Or.inl (by decide)) (e_uq hw113 (Or.inl (by decide)) (e_uq hw110 (Or.inl (by decide)) (e_uq hw107 (Or.inl (by decide)) (e_Has.eq hT (mt_o rfl)))))))))) ⟨by decide, by decide⟩ ?_
                                        refine e_Ok.ps1 (x := (0, p1)) (q := 298) 1 rfl ?_
                                        refine e_Ok.ald (z := w 286 p1 + 1) rfl (el_o rfl) rfl (by omega) (e_ue hw128) (by omega) ?_
                                        refine e_Ok.ps1 (x := (0, 1)) (q := 300) 1 rfl ?_
                                        refine e_Ok.sub' (z := w 286 p1) rfl (by omega) (by omega) ?_
                                        refine e_Ok.rets rfl rfl ?_
                                        exact ⟨_, rfl, hT130, Or.inr ⟨by omega, by omega, (show e_fr (mJo p1 (w 286 p1)) w w128 from e_fr.up (show e_fr (mJo p1 (w 286 p1)) w w125 from e_fr.up (show e_fr (mJo p1 (w 286 p1)) w w122 from e_fr.up (show e_fr (mJo p1 (w 286 p1)) w w119 from e_fr.up (show e_fr (mJo p1 (w 286 p1)) w w116 from e_fr.up (show e_fr (mJo p1 (w 286 p1)) w w113 from e_fr.up (show e_fr (mJo p1 (w 286 p1)) w w110 from e_fr.up (show e_fr (mJo p1 (w 286 p1)) w w107 from e_fr.up (e_fr.refl w) hw107 (by first | exact Or.inr ⟨(by decide), ⟨(by decide), (by omega)⟩⟩ | (unfold mJo; omega))) hw110 (by first | exact Or.inr ⟨(by decide), ⟨(by decide), (by omega)⟩⟩ | (unfold mJo; omega))) hw113 (by first | exact Or.inr ⟨(by decide), ⟨(by decide), (by omega)⟩⟩ | (unfold mJo; omega))) hw116 (by first | exact Or.inr ⟨(by decide), ⟨(by decide), (by omega)⟩⟩ | (unfold mJo; omega))) hw119 (by first | exact Or.inr ⟨(by decide), ⟨(by decide), (by omega)⟩⟩ | (unfold mJo; omega))) hw122 (by first | exact Or.inr ⟨(by decide), ⟨(by decide), (by omega)⟩⟩ | (unfold mJo; omega))) hw125 (by first | exact Or.inr ⟨(by decide), ⟨(by decide), (by omega)⟩⟩ | (unfold mJo; omega))) hw128 (by first | exact Or.inl ⟨rfl, (by omega)⟩ | (unfold mJo; omega))), (e_ue hw128), (e_uq hw128 (Or.inl (by first | decide | omega)) (e_uq hw125 (Or.inl (by first | decide | omega)) (e_uq hw122 (Or.inl (by first | decide | omega)) (e_uq hw119 (Or.inl (by first | decide | omega)) (e_uq hw116 (Or.inl (by first | decide | omega)) (e_uq hw113 (Or.inl (by first | decide | omega)) (e_ue hw110))))))), (e_uq hw128 (Or.inl (by first | decide | omega)) (e_uq hw125 (Or.inl (by first | decide | omega)) (e_uq hw122 (Or.inl (by first | decide | omega)) (e_uq hw119 (Or.inl (by first | decide | omega)) (e_uq hw116 (Or.inl (by first | decide | omega)) (e_ue hw113)))))), (e_uq hw128 (Or.inl (by first | decide | omega)) (e_uq hw125 (Or.inl (by first | decide | omega)) (e_uq hw122 (Or.inl (by first | decide | omega)) (e_uq hw119 (Or.inl (by first | decide | omega)) (e_ue hw116))))), (e_uq hw128 (Or.inl (by first | decide | omega)) (e_uq hw125 (Or.inl (by first | decide | omega)) (e_uq hw122 (Or.inl (by first | decide | omega)) (e_ue hw119))))⟩⟩
                                      · replace h106 : (w 286 p1 : Int) = 6 := Classical.not_not.mp (show ¬ ((w 286 p1 : Int) ≠ 6) from h106)
                                        refine e_Ok.ps1 (x := (0, (-3))) (q := 207) 1 rfl ?_
                                        refine e_Ok.rets rfl rfl ?_
                                        exact ⟨_, rfl, hT, Or.inl rfl⟩
                                    · replace h105 : (w 275 3 : Int) ≠ 0 := (show ¬ ((w 275 3 : Int) = 0) from h105)
                                      refine e_Ok.ps1 (x := (0, (-2))) (q := 193) 1 rfl ?_
                                      refine e_Ok.rets rfl rfl ?_
                                      exact ⟨_, rfl, hT, Or.inl rfl⟩
                                  · replace h103 : (y7 : Int) > 8000 := Int.not_le.mp (show ¬ ((y7 : Int) ≤ 8000) from h103)
                                    refine e_Ok.ps1 (x := (0, (-1))) (q := 183) 1 rfl ?_
                                    refine e_Ok.rets rfl rfl ?_
                                    exact ⟨_, rfl, hT, Or.inl rfl⟩
                                · replace h102 : (p2 : Int) = 1 := Classical.not_not.mp (show ¬ ((p2 : Int) ≠ 1) from h102)
                                  exfalso; omega
                              · replace h101 : (y8 : Int) < w 286 p1 := Int.not_le.mp (show ¬ ((y8 : Int) ≥ w 286 p1) from h101)
                                refine e_Ok.ps2 (x := (1, 275)) (y := (0, y7)) (q := 109) 2 rfl ?_
                                refine e_Ok.getr (z := 292) rfl (el_o rfl) rfl (ef_o rfl) (e_Has.eq hT (mt_o rfl)) ⟨by decide, by decide⟩ ?_
                                refine e_Ok.ps2 (x := (0, p1)) (y := (0, 6)) (q := 115) 2 rfl ?_
                                refine e_Ok.mul (z := 6 * p1) rfl rfl (by omega) ?_
                                refine e_Ok.ps1 (x := (0, y8)) (q := 118) 1 rfl ?_
                                refine e_Ok.add (z := 6 * p1 + y8) rfl rfl (by omega) ?_
                                have h131 := (e_Has.get hT (c := 292) (k := 6 * p1 + y8) (lo := 0) (hi := 8000) (mt_o rfl) (by decide))
                                refine e_Ok.ald (z := w 292 (6 * p1 + y8)) rfl (el_o rfl) rfl (by omega) rfl (e_bq h131 (by decide) (by decide)) ?_
                                refine e_Ok.ps1 (x := (1, 275)) (q := 121) 1 rfl ?_
                                refine e_Ok.getr (z := 287) rfl (el_o rfl) rfl (ef_o rfl) (e_Has.eq hT (mt_o rfl)) ⟨by decide, by decide⟩ ?_
                                refine e_Ok.ps2 (x := (0, p1)) (y := (0, 6)) (q := 127) 2 rfl ?_
                                refine e_Ok.mul (z := 6 * p1) rfl rfl (by omega) ?_
                                refine e_Ok.ps1 (x := (0, y8)) (q := 130) 1 rfl ?_
                                refine e_Ok.add (z := 6 * p1 + y8) rfl rfl (by omega) ?_
                                have h132 := (e_Has.get hT (c := 287) (k := 6 * p1 + y8) (lo := 0) (hi := 1) (mt_o rfl) (by decide))
                                refine e_Ok.ald (z := w 287 (6 * p1 + y8)) rfl (el_o rfl) rfl (by omega) rfl (e_bq h132 (by decide) (by decide)) ?_
                                refine e_Ok.ps1 (x := (0, 1)) (q := 133) 1 rfl ?_
                                refine e_Ok.if2 rfl (fun h133 => ?_) (fun h133 => ?_)
                                · replace h133 : (w 287 (6 * p1 + y8) : Int) ≠ 1 := h133
                                  refine e_Ok.ps1 (x := (1, 275)) (q := 141) 1 rfl ?_
                                  refine e_Ok.getr (z := 289) rfl (el_o rfl) rfl (ef_o rfl) (e_Has.eq hT (mt_o rfl)) ⟨by decide, by decide⟩ ?_
                                  refine e_Ok.ps2 (x := (0, p1)) (y := (0, 6)) (q := 147) 2 rfl ?_
                                  refine e_Ok.mul (z := 6 * p1) rfl rfl (by omega) ?_
                                  refine e_Ok.ps1 (x := (0, y8)) (q := 150) 1 rfl ?_
                                  refine e_Ok.add (z := 6 * p1 + y8) rfl rfl (by omega) ?_
                                  have h134 := (e_Has.get hT (c := 289) (k := 6 * p1 + y8) (lo := 0) (hi := 100000) (mt_o rfl) (by decide))
                                  refine e_Ok.ald (z := w 289 (6 * p1 + y8)) rfl (el_o rfl) rfl (by omega) rfl (e_bq h134 (by decide) (by decide)) ?_
                                  refine e_Ok.add (z := w 292 (6 * p1 + y8) + w 289 (6 * p1 + y8)) rfl rfl (by omega) ?_
                                  refine e_Ok.any rfl (eF_add_any _ _) (fun z135 z135a z135b => ?_)
                                  refine e_Ok.run (t' := (156, [(7, (0, z135)), (0, (1, 275)), (1, (0, p1)), (2, (0, p2)), (3, (0, p3)), (4, (0, p4)), (5, (0, p5)), (8, (0, y8))], [], w)) 1 rfl ?_
                                  refine e_Ok.inc (z := y8 + 1) rfl rfl (by first | with_reducible rfl | omega) (by omega) ?_
                                  show e_Ok 20 elay ecode eI (d + 1) 279 (159, [(8, (0, y8 + 1)), (7, (0, z135)), (0, (1, 275)), (1, (0, p1)), (2, (0, p2)), (3, (0, p3)), (4, (0, p4)), (5, (0, p5))], [], w) _
                                  refine e_Ok.ps0 (q := 95) 1 rfl ?_
                                  refine e_Ok.sub eAlk (e_sub_of rfl ?_) (ih98 z135 (y8 + 1) (by omega) (by omega))
                                  exact ⟨rfl, rfl, rfl, rfl, rfl, rfl, rfl, rfl, trivial⟩
                                · replace h133 : (w 287 (6 * p1 + y8) : Int) = 1 := Classical.not_not.mp (show ¬ ((w 287 (6 * p1 + y8) : Int) ≠ 1) from h133)
                                  refine e_Ok.ps1 (x := (0, 0)) (q := 152) 2 rfl ?_
                                  refine e_Ok.add (z := w 292 (6 * p1 + y8)) rfl (by omega) (by omega) ?_
                                  refine e_Ok.any rfl (eF_add_any _ _) (fun z136 z136a z136b => ?_)
                                  refine e_Ok.run (t' := (156, [(7, (0, z136)), (0, (1, 275)), (1, (0, p1)), (2, (0, p2)), (3, (0, p3)), (4, (0, p4)), (5, (0, p5)), (8, (0, y8))], [], w)) 1 rfl ?_
                                  refine e_Ok.inc (z := y8 + 1) rfl rfl (by first | with_reducible rfl | omega) (by omega) ?_
                                  show e_Ok 20 elay ecode eI (d + 1) 279 (159, [(8, (0, y8 + 1)), (7, (0, z136)), (0, (1, 275)), (1, (0, p1)), (2, (0, p2)), (3, (0, p3)), (4, (0, p4)), (5, (0, p5))], [], w) _
                                  refine e_Ok.ps0 (q := 95) 1 rfl ?_
                                  refine e_Ok.sub eAlk (e_sub_of rfl ?_) (ih98 z136 (y8 + 1) (by omega) (by omega))
                                  exact ⟨rfl, rfl, rfl, rfl, rfl, rfl, rfl, rfl, trivial⟩
                          refine e_Ok.sub eAlk (e_sub_of rfl ?_) (hL97 (7 + 1 : Int).toNat p5 0 (by omega) (by omega))
                          exact ⟨rfl, rfl, rfl, rfl, rfl, rfl, rfl, rfl, trivial⟩
                        · replace h96 : (p2 : Int) = 1 := Classical.not_not.mp (show ¬ ((p2 : Int) ≠ 1) from h96)
                          exfalso; omega
                      · replace h95 : (1 : Int) = 0 := Classical.not_not.mp (show ¬ ((1 : Int) ≠ 0) from h95)
                        exfalso; omega
                    · refine e_Ok.nrm (q := 71) (st' := [(0, 0)]) rfl rfl ?_
                      refine e_Ok.if1 rfl (fun h137 => ?_) (fun h137 => ?_)
                      · replace h137 : (0 : Int) ≠ 0 := h137
                        exfalso; omega
                      · replace h137 : (0 : Int) = 0 := Classical.not_not.mp (show ¬ ((0 : Int) ≠ 0) from h137)
                        refine e_Ok.ps1 (x := (0, (-1))) (q := 75) 1 rfl ?_
                        refine e_Ok.rets rfl rfl ?_
                        exact ⟨_, rfl, hT, Or.inl rfl⟩
                · refine e_Ok.nrm (q := 58) (st' := [(0, 0)]) rfl rfl ?_
                  refine e_Ok.if1 rfl (fun h138 => ?_) (fun h138 => ?_)
                  · replace h138 : (0 : Int) = 0 := h138
                    refine e_Ok.ps1 (x := (0, (-1))) (q := 75) 1 rfl ?_
                    refine e_Ok.rets rfl rfl ?_
                    exact ⟨_, rfl, hT, Or.inl rfl⟩
                  · replace h138 : (0 : Int) ≠ 0 := (show ¬ ((0 : Int) = 0) from h138)
                    exfalso; omega
            · refine e_Ok.nrm (q := 45) (st' := [(0, 0)]) rfl rfl ?_
              refine e_Ok.if1 rfl (fun h139 => ?_) (fun h139 => ?_)
              · replace h139 : (0 : Int) = 0 := h139
                refine e_Ok.ps1 (x := (0, (-1))) (q := 75) 1 rfl ?_
                refine e_Ok.rets rfl rfl ?_
                exact ⟨_, rfl, hT, Or.inl rfl⟩
              · replace h139 : (0 : Int) ≠ 0 := (show ¬ ((0 : Int) = 0) from h139)
                exfalso; omega
        · replace h13 : (1 : Int) = 0 := Classical.not_not.mp (show ¬ ((1 : Int) ≠ 0) from h13)
          exfalso; omega
      · refine e_Ok.nrm (q := 15) (st' := [(0, 0)]) rfl rfl ?_
        refine e_Ok.if1 rfl (fun h140 => ?_) (fun h140 => ?_)
        · replace h140 : (0 : Int) ≠ 0 := h140
          exfalso; omega
        · replace h140 : (0 : Int) = 0 := Classical.not_not.mp (show ¬ ((0 : Int) ≠ 0) from h140)
          refine e_Ok.ps1 (x := (0, (-1))) (q := 19) 1 rfl ?_
          refine e_Ok.rets rfl rfl ?_
          exact ⟨_, rfl, hT, Or.inl rfl⟩
  · refine e_Ok.nrm (q := 5) (st' := [(0, 0)]) rfl rfl ?_
    refine e_Ok.if1 rfl (fun h141 => ?_) (fun h141 => ?_)
    · replace h141 : (0 : Int) = 0 := h141
      refine e_Ok.ps1 (x := (0, (-1))) (q := 19) 1 rfl ?_
      refine e_Ok.rets rfl rfl ?_
      exact ⟨_, rfl, hT, Or.inl rfl⟩
    · replace h141 : (0 : Int) ≠ 0 := (show ¬ ((0 : Int) = 0) from h141)
      exfalso; omega
end
end
-- part 74
section
noncomputable section
/-! a wire more makes no circle -/
theorem cnt_le {α : Type} (P Q : α → Bool) : ∀ l : List α, (∀ x ∈ l, P x = true → Q x = true) → (l.filter P).length ≤ (l.filter Q).length
  | [], _ => Nat.le_refl _
  | a :: r, h => by
    have ih := cnt_le P Q r (fun x hx => h x (List.mem_cons_of_mem _ hx))
    have ha := h a List.mem_cons_self
    cases hp : P a <;> cases hq : Q a <;> simp [List.filter_cons, hp, hq] <;> first | omega | simp [hp, hq] at ha
theorem cnt_lt {α : Type} (P Q : α → Bool) : ∀ l : List α, (∀ x ∈ l, P x = true → Q x = true) → (∃ x ∈ l, P x = false ∧ Q x = true) → (l.filter P).length < (l.filter Q).length
  | [], _, h => by obtain ⟨x, hx, -⟩ := h; cases hx
  | a :: r, h, hx => by
    have hr := fun x hx => h x (List.mem_cons_of_mem _ hx)
    have ha := h a List.mem_cons_self
    have hle := cnt_le P Q r hr
    cases hp : P a <;> cases hq : Q a
    · obtain ⟨x, k1, k2, k3⟩ := hx
      rcases List.mem_cons.mp k1 with rfl | k1
      · rw [hq] at k3; cases k3
      · have := cnt_lt P Q r hr ⟨x, k1, k2, k3⟩
        simp [List.filter_cons, hp, hq]; omega
    · simp [List.filter_cons, hp, hq]; omega
    · simp [hp, hq] at ha
    · obtain ⟨x, k1, k2, k3⟩ := hx
      rcases List.mem_cons.mp k1 with rfl | k1
      · rw [hp] at k2; cases k2
      · have := cnt_lt P Q r hr ⟨x, k1, k2, k3⟩
        simp [List.filter_cons, hp, hq]; omega
def rkOf (key : Int → Int) (p : Int) : Int := (((List.range 64).filter (fun q : Nat => decide (key (q : Int) < key p))).length : Int)
theorem mAc.ofKey {w : eW} (key : Int → Int) (hw : ∀ p, 0 ≤ p → p ≤ 63 → w 318 p ≤ 63) (h : ∀ p, 0 ≤ p → p ≤ 63 → 0 ≤ w 318 p → key (w 318 p) < key p) : mAc w := by
  refine ⟨rkOf key, fun p h0 h1 => ⟨⟨?_, ?_⟩, fun hq => ?_⟩⟩
  · unfold rkOf; omega
  · have : ((List.range 64).filter (fun q : Nat => decide (key (q : Int) < key p))).length < ((List.range 64).filter (fun _ : Nat => true)).length := by
      refine cnt_lt _ _ _ (fun _ _ _ => rfl) ⟨p.toNat, List.mem_range.mpr (by omega), ?_, rfl⟩
      rw [show ((p.toNat : Nat) : Int) = p by omega]
      exact decide_eq_false (by omega)
    have e : ((List.range 64).filter (fun _ : Nat => true)).length = 64 := by decide
    unfold rkOf
    omega
  · have hk := h p h0 h1 hq
    have hle := hw p h0 h1
    have : ((List.range 64).filter (fun q : Nat => decide (key (q : Int) < key (w 318 p)))).length < ((List.range 64).filter (fun q : Nat => decide (key (q : Int) < key p))).length := by
      refine cnt_lt _ _ _ (fun x _ hx => ?_) ⟨(w 318 p).toNat, List.mem_range.mpr (by omega), ?_, ?_⟩
      · have := of_decide_eq_true hx
        exact decide_eq_true (by omega)
      · rw [show (((w 318 p).toNat : Nat) : Int) = w 318 p by omega]; exact decide_eq_false (by omega)
      · rw [show (((w 318 p).toNat : Nat) : Int) = w 318 p by omega]; exact decide_eq_true hk
    unfold rkOf
    omega
def wHit (w : eW) (to : Int) : Nat → Int → Prop
  | 0, p => p = to
  | n + 1, p => 0 ≤ p ∧ wHit w to n (w 318 p)
theorem mAc.wire {w w' : eW} {a b : Int} (hA : mAc w) (hT : ∀ p, 0 ≤ p → p ≤ 63 → -1 ≤ w 318 p ∧ w 318 p ≤ 63) (ha : 0 ≤ a ∧ a ≤ 63) (hb : 0 ≤ b ∧ b ≤ 63) (hn : ¬ ∃ n, wHit w b n a) (hw : ∀ p, w' 318 p = if p = b then a else w 318 p) : mAc w' := by
  obtain ⟨rk, hrk⟩ := hA
  classical
  refine mAc.ofKey (fun p => if (∃ n, wHit w b n p) then rk p + 64 else rk p) (fun p h0 h1 => ?_) (fun p h0 h1 hq => ?_)
  · rw [hw]; by_cases e : p = b
    · rw [if_pos e]; exact ha.2
    · rw [if_neg e]; exact (hT p h0 h1).2
  · have hp := hrk p h0 h1
    rw [hw] at hq ⊢
    by_cases e : p = b
    · rw [if_pos e]
      have k1 : ∃ n, wHit w b n p := ⟨0, e⟩
      have k2 := hrk a ha.1 ha.2
      simp only [if_neg hn, if_pos k1]
      omega
    · rw [if_neg e] at hq ⊢
      have hlt := hp.2 hq
      by_cases k : ∃ n, wHit w b n p
      · have k2 : ∃ n, wHit w b n (w 318 p) := by
          obtain ⟨n, hn'⟩ := k
          cases n with
          | zero => exact absurd hn' e
          | succ n => exact ⟨n, hn'.2⟩
        simp only [if_pos k, if_pos k2]
        omega
      · have k2 : ¬ ∃ n, wHit w b n (w 318 p) := fun ⟨n, hn'⟩ => k ⟨n + 1, h0, hn'⟩
        simp only [if_neg k, if_neg k2]
        exact hlt
end
end
-- part 75
section
noncomputable section
theorem mAc.rk1 {w : eW} (h : mAc w) : ∃ rk : Int → Int, (∀ p, 0 ≤ p → p ≤ 63 → (0 ≤ rk p ∧ rk p ≤ 63) ∧ (0 ≤ w 318 p → rk (w 318 p) < rk p)) ∧ rk (-1) = -1 := by
  obtain ⟨rk, h⟩ := h
  refine ⟨fun p => if p < 0 then -1 else rk p, fun p h0 h1 => ?_, rfl⟩
  have := h p h0 h1
  simp only [if_neg (show ¬ p < 0 by omega)]
  exact ⟨this.1, fun q => by rw [if_neg (by omega)]; exact this.2 q⟩
set_option maxHeartbeats 4000000 in
theorem c_295 {d : Nat} (hd : 22 ≤ d) {w : eW} (hT : e_Has mTy w) (hA : mAc w) {p1 p2 p3 : Int} (g1 : -2147483648 ≤ p1 ∧ p1 ≤ 2147483647) (g2 : -2147483648 ≤ p2 ∧ p2 ≤ 2147483647) (g3 : 0 ≤ p3 ∧ p3 ≤ 1) : e_Ok 20 elay ecode eI d 295 (0, [(0, (1, 275)), (1, (0, p1)), (2, (0, p2)), (3, (0, p3))], [], w) (fun r w' => ∃ z : Int, r = [(0, z)] ∧ e_Has mTy w' ∧ (w = w' ∨ (w 275 3 = 0 ∧ e_fr (mF (-1) 318 319) w w')) ∧ mAc w') := by
  obtain ⟨d, rfl⟩ : ∃ e, d = e + 1 := ⟨d - 1, by omega⟩
  obtain ⟨rk, hrk, hrm⟩ := mAc.rk1 hA
  refine e_Ok.ps3 (x := (4, 63)) (y := (4, 0)) (z := (4, p1)) (q := 6) 4 rfl ?_
  refine e_Ok.callS rfl (e_dq hd rfl) rfl rfl (c_266) (fun r1 w2 h3 => ?_)
  obtain ⟨z4, rfl, rfl, q5⟩ := h3
  obtain ⟨rfl, q5⟩ | ⟨rfl, q5⟩ := q5
  · refine e_Ok.nrm (q := 9) (st' := [(0, 1)]) rfl rfl ?_
    refine e_Ok.if1 rfl (fun h6 => ?_) (fun h6 => ?_)
    · replace h6 : (1 : Int) = 0 := h6
      exfalso; omega
    · replace h6 : (1 : Int) ≠ 0 := (show ¬ ((1 : Int) = 0) from h6)
      refine e_Ok.ps3 (x := (4, 63)) (y := (4, 0)) (z := (4, p2)) (q := 18) 4 rfl ?_
      refine e_Ok.callS rfl (e_dq hd rfl) rfl rfl (c_266) (fun r7 w8 h9 => ?_)
      obtain ⟨z10, rfl, rfl, q11⟩ := h9
      obtain ⟨rfl, q11⟩ | ⟨rfl, q11⟩ := q11
      · refine e_Ok.nrm (q := 21) (st' := [(0, 1)]) rfl rfl ?_
        refine e_Ok.if1 rfl (fun h12 => ?_) (fun h12 => ?_)
        · replace h12 : (1 : Int) ≠ 0 := h12
          refine e_Ok.run (t' := (32, [(5, (0, p1)), (4, (0, 0)), (0, (1, 275)), (1, (0, p1)), (2, (0, p2)), (3, (0, p3))], [], w)) 4 rfl ?_
          have hL13 : ∀ (nn : Nat) (y5 : Int), (-1 ≤ y5 ∧ y5 ≤ 63 ∧ -1 ≤ rk y5) ∧ ((∃ n, wHit w p2 n p1) → ∃ n, wHit w p2 n y5) → rk y5 + 1 < nn → e_Ok 20 elay ecode eI (d + 1) 295 (32, [(0, (1, 275)), (1, (0, p1)), (2, (0, p2)), (3, (0, p3)), (4, (0, 0)), (5, (0, y5))], [], w) (fun r w' => ∃ z : Int, r = [(0, z)] ∧ e_Has mTy w' ∧ (w = w' ∨ (w 275 3 = 0 ∧ e_fr (mF (-1) 318 319) w w')) ∧ mAc w') := by
            intro nn
            induction nn with
            | zero => intro y5 hj hm; obtain ⟨j15, j16⟩ := hj; exfalso; omega
            | succ nn ih14 =>
              intro y5 hj hm
              obtain ⟨j15, j16⟩ := hj
              refine e_Ok.run (t' := (34, [(0, (1, 275)), (1, (0, p1)), (2, (0, p2)), (3, (0, p3)), (4, (0, 0)), (5, (0, y5))], [(0, y5)], w)) 1 rfl ?_
              refine e_Ok.if1 rfl (fun h17 => ?_) (fun h17 => ?_)
              · replace h17 : (y5 : Int) < 0 := h17
                refine e_Ok.ps1 (x := (1, 275)) (q := 68) 1 rfl ?_
                have h18 := (e_Has.get hT (c := 275) (k := 3) (lo := 0) (hi := 1) (mt_o rfl) (by decide))
                refine e_Ok.getf (z := w 275 3) rfl (el_o rfl) rfl (ef_o rfl) rfl (e_bq h18 (by decide) (by decide)) ?_
                refine e_Ok.if1 rfl (fun h19 => ?_) (fun h19 => ?_)
                · replace h19 : (w 275 3 : Int) ≠ 0 := h19
                  refine e_Ok.ps1 (x := (0, (-2))) (q := 90) 1 rfl ?_
                  refine e_Ok.rets rfl rfl ?_
                  exact ⟨_, rfl, hT, Or.inl rfl, hA⟩
                · replace h19 : (w 275 3 : Int) = 0 := Classical.not_not.mp (show ¬ ((w 275 3 : Int) ≠ 0) from h19)
                  refine e_Ok.ps1 (x := (1, 275)) (q := 75) 1 rfl ?_
                  refine e_Ok.getr (z := 318) rfl (el_o rfl) rfl (ef_o rfl) (e_Has.eq hT (mt_o rfl)) ⟨by decide, by decide⟩ ?_
                  refine e_Ok.ps1 (x := (0, p2)) (q := 79) 1 rfl ?_
                  have h20 := (e_Has.get hT (c := 318) (k := p2) (lo := (-1)) (hi := 63) (mt_o rfl) (by decide))
                  refine e_Ok.ald (z := w 318 p2) rfl (el_o rfl) rfl (by omega) rfl (e_bq h20 (by decide) (by decide)) ?_
                  refine e_Ok.if1 rfl (fun h21 => ?_) (fun h21 => ?_)
                  · replace h21 : (w 318 p2 : Int) ≥ 0 := h21
                    refine e_Ok.ps1 (x := (0, (-2))) (q := 90) 1 rfl ?_
                    refine e_Ok.rets rfl rfl ?_
                    exact ⟨_, rfl, hT, Or.inl rfl, hA⟩
                  · replace h21 : (w 318 p2 : Int) < 0 := Int.not_le.mp (show ¬ ((w 318 p2 : Int) ≥ 0) from h21)
                    refine e_Ok.ps1 (x := (0, 0)) (q := 85) 1 rfl ?_
                    refine e_Ok.if1 rfl (fun h22 => ?_) (fun h22 => ?_)
                    · replace h22 : (0 : Int) = 0 := h22
                      refine e_Ok.ps1 (x := (1, 275)) (q := 92) 1 rfl ?_
                      refine e_Ok.getr (z := 318) rfl (el_o rfl) rfl (ef_o rfl) (e_Has.eq hT (mt_o rfl)) ⟨by decide, by decide⟩ ?_
                      refine e_Ok.ps2 (x := (0, p1)) (y := (0, p2)) (q := 97) 2 rfl ?_
                      refine e_Ok.ast rfl (el_o rfl) rfl rfl (by omega) ?_
                      generalize hw23 : e_up w 318 p2 p1 = w23
                      have hT25 : e_Has mTy w23 := e_Has.upr hT hw23 (mt_o rfl) (by omega)
                      refine e_Ok.ps1 (x := (1, 275)) (q := 99) 1 rfl ?_
                      refine e_Ok.getr (z := 319) rfl (el_o rfl) rfl (ef_o rfl) (e_uq hw23 (Or.inl (by decide)) (e_Has.eq hT (mt_o rfl))) ⟨by decide, by decide⟩ ?_
                      refine e_Ok.ps2 (x := (0, p3)) (y := (0, p2)) (q := 104) 2 rfl ?_
                      refine e_Ok.ast rfl (el_o rfl) rfl (e_nar_b (by omega)) (by omega) ?_
                      generalize hw26 : e_up w23 319 p2 p3 = w26
                      have hT28 : e_Has mTy w26 := e_Has.upr hT25 hw26 (mt_o rfl) (by omega)
                      refine e_Ok.ps1 (x := (0, 0)) (q := 106) 1 rfl ?_
                      refine e_Ok.rets rfl rfl ?_
                      have hnh : ¬ ∃ n, wHit w p2 n p1 := fun hh => by
                        obtain ⟨n, hn⟩ := j16 hh
                        cases n with
                        | zero => have hn0 : y5 = p2 := hn; omega
                        | succ n => have := hn.1; omega
                      have hx : ∀ p, w26 318 p = if p = p2 then p1 else w 318 p := fun p => by rw [← hw26, e_up_ne _ _ (Or.inl (by decide)), ← hw23]; unfold e_up; by_cases e : p = p2 <;> simp [e]
                      exact ⟨_, rfl, hT28, Or.inr ⟨by omega, (show e_fr (mF (-1) 318 319) w w26 from e_fr.up (show e_fr (mF (-1) 318 319) w w23 from e_fr.up (e_fr.refl w) hw23 (by first | exact Or.inr ⟨(by decide), (by decide)⟩ | (unfold mF; omega))) hw26 (by first | exact Or.inr ⟨(by decide), (by decide)⟩ | (unfold mF; omega)))⟩, mAc.wire hA (fun p g1 g2 => e_Has.get hT (c := 318) (k := p) (lo := -1) (hi := 63) (mt_o rfl) (by decide)) (by omega) (by omega) hnh hx⟩
                    · replace h22 : (0 : Int) ≠ 0 := (show ¬ ((0 : Int) = 0) from h22)
                      exfalso; omega
              · replace h17 : (y5 : Int) ≥ 0 := Int.not_lt.mp (show ¬ ((y5 : Int) < 0) from h17)
                refine e_Ok.ps1 (x := (0, 0)) (q := 39) 1 rfl ?_
                refine e_Ok.if1 rfl (fun h29 => ?_) (fun h29 => ?_)
                · replace h29 : (0 : Int) ≠ 0 := h29
                  exfalso; omega
                · replace h29 : (0 : Int) = 0 := Classical.not_not.mp (show ¬ ((0 : Int) ≠ 0) from h29)
                  refine e_Ok.ps2 (x := (0, p2)) (y := (0, y5)) (q := 45) 2 rfl ?_
                  refine e_Ok.if2 rfl (fun h30 => ?_) (fun h30 => ?_)
                  · replace h30 : (y5 : Int) ≠ p2 := h30
                    refine e_Ok.run (t' := (56, [(4, (0, 0)), (0, (1, 275)), (1, (0, p1)), (2, (0, p2)), (3, (0, p3)), (5, (0, y5))], [(1, 275)], w)) 3 rfl ?_
                    refine e_Ok.getr (z := 318) rfl (el_o rfl) rfl (ef_o rfl) (e_Has.eq hT (mt_o rfl)) ⟨by decide, by decide⟩ ?_
                    refine e_Ok.ps1 (x := (0, y5)) (q := 61) 1 rfl ?_
                    have h31 := (e_Has.get hT (c := 318) (k := y5) (lo := (-1)) (hi := 63) (mt_o rfl) (by decide))
                    refine e_Ok.ald (z := w 318 y5) rfl (el_o rfl) rfl (by omega) rfl (e_bq h31 (by decide) (by decide)) ?_
                    refine e_Ok.run (t' := (64, [(5, (0, w 318 y5)), (4, (0, 0)), (0, (1, 275)), (1, (0, p1)), (2, (0, p2)), (3, (0, p3))], [], w)) 1 rfl ?_
                    have hg5 := hrk y5 (by omega) (by omega)
                    have hmu : rk (w 318 y5) + 1 < rk y5 + 1 ∧ -1 ≤ rk (w 318 y5) := by
                      by_cases e : 0 ≤ w 318 y5
                      · have q1 := hg5.2 e; have q2 := hrk (w 318 y5) e (by omega); omega
                      · rw [show w 318 y5 = -1 by omega, hrm]; omega
                    refine e_Ok.run (t' := (32, [(5, (0, w 318 y5)), (4, (0, 0)), (0, (1, 275)), (1, (0, p1)), (2, (0, p2)), (3, (0, p3))], [], w)) 1 rfl ?_
                    refine e_Ok.sub eAlk (e_sub_of rfl ?_) (ih14 (w 318 y5) ⟨by omega, (fun hh => by obtain ⟨n, hn⟩ := j16 hh; cases n with | zero => exact absurd (show y5 = p2 from hn) (by omega) | succ n => exact ⟨n, hn.2⟩)⟩ (by omega))
                    exact ⟨rfl, rfl, rfl, rfl, rfl, rfl, trivial⟩
                  · replace h30 : (y5 : Int) = p2 := Classical.not_not.mp (show ¬ ((y5 : Int) ≠ p2) from h30)
                    refine e_Ok.run (t' := (56, [(4, (0, 1)), (0, (1, 275)), (1, (0, p1)), (2, (0, p2)), (3, (0, p3)), (5, (0, y5))], [(1, 275)], w)) 4 rfl ?_
                    refine e_Ok.getr (z := 318) rfl (el_o rfl) rfl (ef_o rfl) (e_Has.eq hT (mt_o rfl)) ⟨by decide, by decide⟩ ?_
                    refine e_Ok.ps1 (x := (0, y5)) (q := 61) 1 rfl ?_
                    have h32 := (e_Has.get hT (c := 318) (k := y5) (lo := (-1)) (hi := 63) (mt_o rfl) (by decide))
                    refine e_Ok.ald (z := w 318 y5) rfl (el_o rfl) rfl (by omega) rfl (e_bq h32 (by decide) (by decide)) ?_
                    refine e_Ok.run (t' := (64, [(5, (0, w 318 y5)), (4, (0, 1)), (0, (1, 275)), (1, (0, p1)), (2, (0, p2)), (3, (0, p3))], [], w)) 1 rfl ?_
                    have hg5 := hrk y5 (by omega) (by omega)
                    have hmu : rk (w 318 y5) + 1 < rk y5 + 1 ∧ -1 ≤ rk (w 318 y5) := by
                      by_cases e : 0 ≤ w 318 y5
                      · have q1 := hg5.2 e; have q2 := hrk (w 318 y5) e (by omega); omega
                      · rw [show w 318 y5 = -1 by omega, hrm]; omega
                    refine e_Ok.run (t' := (32, [(5, (0, w 318 y5)), (4, (0, 1)), (0, (1, 275)), (1, (0, p1)), (2, (0, p2)), (3, (0, p3))], [], w)) 1 rfl ?_
                    refine e_Ok.ps1 (x := (0, w 318 y5)) (q := 34) 1 rfl ?_
                    refine e_Ok.if1 rfl (fun h33 => ?_) (fun h33 => ?_)
                    · replace h33 : (w 318 y5 : Int) < 0 := h33
                      refine e_Ok.ps1 (x := (1, 275)) (q := 68) 1 rfl ?_
                      have h34 := (e_Has.get hT (c := 275) (k := 3) (lo := 0) (hi := 1) (mt_o rfl) (by decide))
                      refine e_Ok.getf (z := w 275 3) rfl (el_o rfl) rfl (ef_o rfl) rfl (e_bq h34 (by decide) (by decide)) ?_
                      refine e_Ok.if1 rfl (fun h35 => ?_) (fun h35 => ?_)
                      · replace h35 : (w 275 3 : Int) ≠ 0 := h35
                        refine e_Ok.ps1 (x := (0, (-2))) (q := 90) 1 rfl ?_
                        refine e_Ok.rets rfl rfl ?_
                        exact ⟨_, rfl, hT, Or.inl rfl, hA⟩
                      · replace h35 : (w 275 3 : Int) = 0 := Classical.not_not.mp (show ¬ ((w 275 3 : Int) ≠ 0) from h35)
                        refine e_Ok.ps1 (x := (1, 275)) (q := 75) 1 rfl ?_
                        refine e_Ok.getr (z := 318) rfl (el_o rfl) rfl (ef_o rfl) (e_Has.eq hT (mt_o rfl)) ⟨by decide, by decide⟩ ?_
                        refine e_Ok.ps1 (x := (0, p2)) (q := 79) 1 rfl ?_
                        have h36 := (e_Has.get hT (c := 318) (k := p2) (lo := (-1)) (hi := 63) (mt_o rfl) (by decide))
                        refine e_Ok.ald (z := w 318 p2) rfl (el_o rfl) rfl (by omega) rfl (e_bq h36 (by decide) (by decide)) ?_
                        refine e_Ok.if1 rfl (fun h37 => ?_) (fun h37 => ?_)
                        · replace h37 : (w 318 p2 : Int) ≥ 0 := h37
                          refine e_Ok.ps1 (x := (0, (-2))) (q := 90) 1 rfl ?_
                          refine e_Ok.rets rfl rfl ?_
                          exact ⟨_, rfl, hT, Or.inl rfl, hA⟩
                        · replace h37 : (w 318 p2 : Int) < 0 := Int.not_le.mp (show ¬ ((w 318 p2 : Int) ≥ 0) from h37)
                          refine e_Ok.ps1 (x := (0, 1)) (q := 85) 1 rfl ?_
                          refine e_Ok.if1 rfl (fun h38 => ?_) (fun h38 => ?_)
                          · replace h38 : (1 : Int) = 0 := h38
                            exfalso; omega
                          · replace h38 : (1 : Int) ≠ 0 := (show ¬ ((1 : Int) = 0) from h38)
                            refine e_Ok.ps1 (x := (0, (-2))) (q := 90) 1 rfl ?_
                            refine e_Ok.rets rfl rfl ?_
                            exact ⟨_, rfl, hT, Or.inl rfl, hA⟩
                    · replace h33 : (w 318 y5 : Int) ≥ 0 := Int.not_lt.mp (show ¬ ((w 318 y5 : Int) < 0) from h33)
                      refine e_Ok.ps1 (x := (0, 1)) (q := 39) 1 rfl ?_
                      refine e_Ok.if1 rfl (fun h39 => ?_) (fun h39 => ?_)
                      · replace h39 : (1 : Int) ≠ 0 := h39
                        refine e_Ok.ps1 (x := (1, 275)) (q := 68) 1 rfl ?_
                        have h40 := (e_Has.get hT (c := 275) (k := 3) (lo := 0) (hi := 1) (mt_o rfl) (by decide))
                        refine e_Ok.getf (z := w 275 3) rfl (el_o rfl) rfl (ef_o rfl) rfl (e_bq h40 (by decide) (by decide)) ?_
                        refine e_Ok.if1 rfl (fun h41 => ?_) (fun h41 => ?_)
                        · replace h41 : (w 275 3 : Int) ≠ 0 := h41
                          refine e_Ok.ps1 (x := (0, (-2))) (q := 90) 1 rfl ?_
                          refine e_Ok.rets rfl rfl ?_
                          exact ⟨_, rfl, hT, Or.inl rfl, hA⟩
                        · replace h41 : (w 275 3 : Int) = 0 := Classical.not_not.mp (show ¬ ((w 275 3 : Int) ≠ 0) from h41)
                          refine e_Ok.ps1 (x := (1, 275)) (q := 75) 1 rfl ?_
                          refine e_Ok.getr (z := 318) rfl (el_o rfl) rfl (ef_o rfl) (e_Has.eq hT (mt_o rfl)) ⟨by decide, by decide⟩ ?_
                          refine e_Ok.ps1 (x := (0, p2)) (q := 79) 1 rfl ?_
                          have h42 := (e_Has.get hT (c := 318) (k := p2) (lo := (-1)) (hi := 63) (mt_o rfl) (by decide))
                          refine e_Ok.ald (z := w 318 p2) rfl (el_o rfl) rfl (by omega) rfl (e_bq h42 (by decide) (by decide)) ?_
                          refine e_Ok.if1 rfl (fun h43 => ?_) (fun h43 => ?_)
                          · replace h43 : (w 318 p2 : Int) ≥ 0 := h43
                            refine e_Ok.ps1 (x := (0, (-2))) (q := 90) 1 rfl ?_
                            refine e_Ok.rets rfl rfl ?_
                            exact ⟨_, rfl, hT, Or.inl rfl, hA⟩
                          · replace h43 : (w 318 p2 : Int) < 0 := Int.not_le.mp (show ¬ ((w 318 p2 : Int) ≥ 0) from h43)
                            refine e_Ok.ps1 (x := (0, 1)) (q := 85) 1 rfl ?_
                            refine e_Ok.if1 rfl (fun h44 => ?_) (fun h44 => ?_)
                            · replace h44 : (1 : Int) = 0 := h44
                              exfalso; omega
                            · replace h44 : (1 : Int) ≠ 0 := (show ¬ ((1 : Int) = 0) from h44)
                              refine e_Ok.ps1 (x := (0, (-2))) (q := 90) 1 rfl ?_
                              refine e_Ok.rets rfl rfl ?_
                              exact ⟨_, rfl, hT, Or.inl rfl, hA⟩
                      · replace h39 : (1 : Int) = 0 := Classical.not_not.mp (show ¬ ((1 : Int) ≠ 0) from h39)
                        exfalso; omega
          refine e_Ok.sub eAlk (e_sub_of rfl ?_) (hL13 (rk p1 + 1 + 1 : Int).toNat p1 ⟨by have := hrk p1 (by omega) (by omega); omega, (fun h => h)⟩ (by omega))
          exact ⟨rfl, rfl, rfl, rfl, rfl, rfl, trivial⟩
        · replace h12 : (1 : Int) = 0 := Classical.not_not.mp (show ¬ ((1 : Int) ≠ 0) from h12)
          exfalso; omega
      · refine e_Ok.nrm (q := 21) (st' := [(0, 0)]) rfl rfl ?_
        refine e_Ok.if1 rfl (fun h45 => ?_) (fun h45 => ?_)
        · replace h45 : (0 : Int) ≠ 0 := h45
          exfalso; omega
        · replace h45 : (0 : Int) = 0 := Classical.not_not.mp (show ¬ ((0 : Int) ≠ 0) from h45)
          refine e_Ok.ps1 (x := (0, (-1))) (q := 25) 1 rfl ?_
          refine e_Ok.rets rfl rfl ?_
          exact ⟨_, rfl, hT, Or.inl rfl, hA⟩
  · refine e_Ok.nrm (q := 9) (st' := [(0, 0)]) rfl rfl ?_
    refine e_Ok.if1 rfl (fun h46 => ?_) (fun h46 => ?_)
    · replace h46 : (0 : Int) = 0 := h46
      refine e_Ok.ps1 (x := (0, (-1))) (q := 25) 1 rfl ?_
      refine e_Ok.rets rfl rfl ?_
      exact ⟨_, rfl, hT, Or.inl rfl, hA⟩
    · replace h46 : (0 : Int) ≠ 0 := (show ¬ ((0 : Int) = 0) from h46)
      exfalso; omega
end
end
-- part 76
section
noncomputable section
/-! what the arms' motion keeps: joints within their limits, ways that lead within them -/
/-- P m j: where the joint j of the arm a is after m steps of its way, from the step i on -/
def wyP (w : eW) (a i : Int) (P : Int → Int → Int) : Prop :=
  (∀ m, i ≤ m → m < w 276 (36 * a + 19) → w 276 (1000 * a + m + 21060) < 2 * w 286 a) ∧
  (∀ m j, i ≤ m → m < w 276 (36 * a + 19) → 0 ≤ j → j ≤ 5 → (w 276 (1000 * a + m + 21060) = 2 * j → P (m + 1) j = P m j + w 276 (36 * a + 26)) ∧ (w 276 (1000 * a + m + 21060) = 2 * j + 1 → P (m + 1) j = P m j - w 276 (36 * a + 26)) ∧ (w 276 (1000 * a + m + 21060) ≠ 2 * j → w 276 (1000 * a + m + 21060) ≠ 2 * j + 1 → P (m + 1) j = P m j)) ∧
  (∀ m j, i ≤ m → m ≤ w 276 (36 * a + 19) → 0 ≤ j → j < w 286 a → w 288 (6 * a + j) ≤ P m j ∧ P m j ≤ w 289 (6 * a + j))
def moJ (w : eW) (a j : Int) : Prop := joOk (w 276 (36 * a + 16)) (w 276 (36 * a + j + 32)) (w 276 (36 * a + j + 38)) (w 276 (36 * a + j + 44)) (w 288 (6 * a + j)) (w 289 (6 * a + j)) (w 291 (6 * a + j))
/-- the way of the arm a; x: that arm stands, and is to take up its way again -/
def mWy (w : eW) (x a : Int) : Prop :=
  (w 276 (36 * a + 20) = 1 → a < w 275 10 ∧ 0 ≤ w 276 (36 * a + 19) ∧ ∃ P, wyP w a 0 P ∧ ∀ j, 0 ≤ j → j < w 286 a → P 0 j = w 276 (36 * a + j + 32)) ∧
  (w 276 (36 * a + 22) = 1 → (a = x ∨ w 276 (36 * a + 16) = 1) ∧ w 276 (36 * a + 23) ≤ w 276 (36 * a + 19) ∧ ∃ P, wyP w a (w 276 (36 * a + 23)) P ∧ ∀ j, 0 ≤ j → j < w 286 a → (a ≠ x → P (w 276 (36 * a + 23)) j = w 276 (36 * a + j + 44)) ∧ (a = x → P (w 276 (36 * a + 23)) j = w 276 (36 * a + j + 32)))
def mMo (w : eW) (x : Int) : Prop := (∀ a j, 0 ≤ a → a ≤ 3 → 0 ≤ j → j < w 286 a → moJ w a j) ∧ (∀ a, 0 ≤ a → a ≤ 3 → mWy w x a) ∧ (w 276 1 = 0 → ∀ a, 0 ≤ a → a < w 275 10 → w 276 (36 * a + 16) = 0)
/-- what mMo reads, but for states and travels -/
def moK (c k : Int) : Prop := (c = 275 ∧ k = 10) ∨ c = 286 ∨ (288 ≤ c ∧ c ≤ 291) ∨ (c = 276 ∧ (k = 1 ∨ (16 ≤ k ∧ k < 160 ∧ ((k - 16) % 36 = 3 ∨ (k - 16) % 36 = 4 ∨ (k - 16) % 36 = 7 ∨ (k - 16) % 36 = 10 ∨ (16 ≤ (k - 16) % 36 ∧ (k - 16) % 36 ≤ 33))) ∨ (21060 ≤ k ∧ k < 25060)))
theorem wyP.fr {w w' : eW} {a i : Int} {P : Int → Int → Int} (h : wyP w a i P) (ha : 0 ≤ a ∧ a ≤ 3) (hi : 0 ≤ i) (hs : w 276 (36 * a + 19) ≤ 999) (h1 : w' 276 (36 * a + 19) = w 276 (36 * a + 19)) (h2 : w' 276 (36 * a + 26) = w 276 (36 * a + 26)) (h3 : ∀ c k, c = 286 ∨ c = 288 ∨ c = 289 → w' c k = w c k) (h4 : ∀ k, 21060 ≤ k → k < 25060 → w' 276 k = w 276 k) : wyP w' a i P := by
  obtain ⟨q1, q2, q3⟩ := h
  refine ⟨fun m g1 g2 => ?_, fun m j g1 g2 g3 g4 => ?_, fun m j g1 g2 g3 g4 => ?_⟩
  · rw [h1] at g2
    rw [h4 _ (by omega) (by omega), h3 286 _ (by omega)]
    exact q1 m g1 g2
  · rw [h1] at g2
    rw [h4 _ (by omega) (by omega), h2]
    exact q2 m j g1 g2 g3 g4
  · rw [h1] at g2
    rw [h3 286 _ (by omega)] at g4
    rw [h3 288 _ (by omega), h3 289 _ (by omega)]
    exact q3 m j g1 g2 g3 g4
theorem moK_a {a f : Int} (ha : 0 ≤ a ∧ a ≤ 3) (hf : f = 19 ∨ f = 20 ∨ f = 23 ∨ f = 26) : moK 276 (36 * a + f) := by unfold moK; omega
theorem moK_j {a j f : Int} (ha : 0 ≤ a ∧ a ≤ 3) (hj : 0 ≤ j ∧ j ≤ 5) (hf : f = 32 ∨ f = 38 ∨ f = 44) : moK 276 (36 * a + j + f) := by unfold moK; omega
/-- the types that mMo's own proofs want -/
def moT (w : eW) : Prop := w 275 10 ≤ 4 ∧ ∀ a, 0 ≤ a → a ≤ 3 → w 276 (36 * a + 19) ≤ 999 ∧ 0 ≤ w 276 (36 * a + 23) ∧ 0 ≤ w 286 a ∧ w 286 a ≤ 6
theorem mWy.fr {w w' : eW} {x a : Int} (hty : moT w) (ha : 0 ≤ a ∧ a ≤ 3) (hf : ∀ c k, moK c k → (c = 276 → k < 160 → 36 * a + 16 ≤ k ∧ k ≤ 36 * a + 51) → w' c k = w c k) (hS : w' 276 (36 * a + 22) = 1 → w' 276 (36 * a + 16) = w 276 (36 * a + 16) ∧ w 276 (36 * a + 22) = 1) (h : mWy w x a) : mWy w' x a := by
  obtain ⟨y1, y2, y3, y4⟩ := hty.2 a ha.1 ha.2
  have f1 := hf 276 _ (moK_a ha (f := 19) (by omega)) (by omega)
  have f2 := hf 276 _ (moK_a ha (f := 20) (by omega)) (by omega)
  have f3 := hf 276 _ (moK_a ha (f := 23) (by omega)) (by omega)
  have f4 := hf 276 _ (moK_a ha (f := 26) (by omega)) (by omega)
  have f5 : ∀ c k, c = 286 ∨ c = 288 ∨ c = 289 → w' c k = w c k := fun c k q => hf c k (by unfold moK; omega) (by omega)
  have f6 : ∀ k, 21060 ≤ k → k < 25060 → w' 276 k = w 276 k := fun k q1 q2 => hf 276 k (by unfold moK; omega) (by omega)
  have f7 : w' 275 10 = w 275 10 := hf 275 10 (by unfold moK; omega) (by omega)
  obtain ⟨q1, q2⟩ := h
  refine ⟨fun e => ?_, fun e => ?_⟩
  · rw [f2] at e
    obtain ⟨z1, z2, P, z3, z4⟩ := q1 e
    refine ⟨by rw [f7]; exact z1, by rw [f1]; exact z2, P, z3.fr ha (by omega) y1 f1 f4 f5 f6, fun j g1 g2 => ?_⟩
    rw [f5 286 _ (by omega)] at g2
    rw [hf 276 _ (moK_j ha (j := j) (f := 32) (by omega) (by omega)) (by omega)]
    exact z4 j g1 g2
  · obtain ⟨s1, s2⟩ := hS e
    obtain ⟨z1, z2, P, z3, z4⟩ := q2 s2
    rw [f3, f1, s1]
    refine ⟨z1, z2, P, z3.fr ha y2 y1 f1 f4 f5 f6, fun j g1 g2 => ?_⟩
    rw [f5 286 _ (by omega)] at g2
    rw [hf 276 _ (moK_j ha (j := j) (f := 32) (by omega) (by omega)) (by omega), hf 276 _ (moK_j ha (j := j) (f := 44) (by omega) (by omega)) (by omega)]
    exact z4 j g1 g2
theorem mMo.rel {w w' : eW} {x : Int} (h : mMo w x) (hty : moT w) (hg : mCf w) (hs : sRel w w') (hf : ∀ c k, moK c k → w' c k = w c k) : mMo w' x := by
  obtain ⟨h1, h2, h3⟩ := h
  have f5 : ∀ c k, c = 286 ∨ c = 288 ∨ c = 289 ∨ c = 291 → w' c k = w c k := fun c k q => hf c k (by unfold moK; omega)
  refine ⟨fun a j g1 g2 g3 g4 => ?_, fun a g1 g2 => ?_, fun e a g1 g2 => ?_⟩
  · rw [f5 286 _ (by omega)] at g4
    have y := hty.2 a g1 g2
    have q := h1 a j g1 g2 g3 g4
    unfold moJ at q ⊢
    rw [hf 276 _ (moK_j ⟨g1, g2⟩ (j := j) (f := 32) (by omega) (by omega)), hf 276 _ (moK_j ⟨g1, g2⟩ (j := j) (f := 38) (by omega) (by omega)), hf 276 _ (moK_j ⟨g1, g2⟩ (j := j) (f := 44) (by omega) (by omega)), f5 288 _ (by omega), f5 289 _ (by omega), f5 291 _ (by omega)]
    rcases hs a g1 g2 with s | s
    · rw [s.1]; exact q
    · rw [s.2.1]
      rw [s.1] at q
      exact joOk.brake (hg a j g1 g2 g3 g4).2 q
  · refine (h2 a g1 g2).fr hty ⟨g1, g2⟩ (fun c k q _ => hf c k q) (fun e => ?_)
    rcases hs a g1 g2 with s | s <;> omega
  · have e1 : w' 276 1 = w 276 1 := hf 276 1 (by unfold moK; omega)
    have e2 : w' 275 10 = w 275 10 := hf 275 10 (by unfold moK; omega)
    rw [e1] at e
    rw [e2] at g2
    have q := h3 e a g1 g2
    have y := hty.1
    rcases hs a g1 (by omega) with s | s <;> omega
theorem mWy.ne {w : eW} {x x' a : Int} (h : mWy w x a) (h1 : a ≠ x) (h2 : a ≠ x') : mWy w x' a := by
  obtain ⟨q1, q2⟩ := h
  refine ⟨q1, fun e => ?_⟩
  obtain ⟨z1, z2, P, z3, z4⟩ := q2 e
  exact ⟨Or.inr (z1.resolve_left h1), z2, P, z3, fun j g1 g2 => ⟨fun _ => (z4 j g1 g2).1 h1, fun e => absurd e h2⟩⟩
/-- the arm a, which stands, begins a move -/
theorem mMo.begin {w w' : eW} {x a : Int} (h : mMo w x) (hx : x = -1 ∨ x = a) (hty : moT w) (ha : 0 ≤ a ∧ a ≤ 3) (hS : w 276 (36 * a + 16) = 0) (hP : w 276 1 ≠ 0)
    (hf : ∀ c k, moK c k → ¬ (c = 276 ∧ ((36 * a + 44 ≤ k ∧ k ≤ 36 * a + 49) ∨ k = 36 * a + 23)) → w' c k = w c k) (hb : ∀ b, 0 ≤ b → b ≤ 3 → b ≠ a → w' 276 (36 * b + 16) = w 276 (36 * b + 16) ∧ w' 276 (36 * b + 22) = w 276 (36 * b + 22))
    (hS' : w' 276 (36 * a + 16) = 1) (hg : ∀ j, 0 ≤ j → j < w 286 a → w 288 (6 * a + j) ≤ w' 276 (36 * a + j + 44) ∧ w' 276 (36 * a + j + 44) ≤ w 289 (6 * a + j))
    (hW : w' 276 (36 * a + 22) = 1 → w' 276 (36 * a + 23) ≤ w' 276 (36 * a + 19) ∧ ∃ P, wyP w' a (w' 276 (36 * a + 23)) P ∧ ∀ j, 0 ≤ j → j < w' 286 a → P (w' 276 (36 * a + 23)) j = w' 276 (36 * a + j + 44)) : mMo w' (-1) := by
  obtain ⟨h1, h2, h3⟩ := h
  have f5 : ∀ c k, c = 286 ∨ c = 288 ∨ c = 289 ∨ c = 291 → w' c k = w c k := fun c k q => hf c k (by unfold moK; omega) (by omega)
  refine ⟨fun b j g1 g2 g3 g4 => ?_, fun b g1 g2 => ?_, fun e b g1 g2 => ?_⟩
  · rw [f5 286 _ (by omega)] at g4
    have y := hty.2 b g1 g2
    have q := h1 b j g1 g2 g3 g4
    unfold moJ at q ⊢
    rw [hf 276 _ (moK_j ⟨g1, g2⟩ (j := j) (f := 32) (by omega) (by omega)) (by omega), hf 276 _ (moK_j ⟨g1, g2⟩ (j := j) (f := 38) (by omega) (by omega)) (by omega), f5 288 _ (by omega), f5 289 _ (by omega), f5 291 _ (by omega)]
    by_cases e : b = a
    · subst e
      rw [hS']
      rw [hS] at q
      obtain ⟨q1, q2, -, -⟩ := q
      have q3 := hg j g3 g4
      have q4 := q2 rfl
      refine ⟨q1, by omega, fun _ => ⟨q3, by omega, by omega⟩, by omega⟩
    · rw [hf 276 _ (moK_j ⟨g1, g2⟩ (j := j) (f := 44) (by omega) (by omega)) (by omega), (hb b g1 g2 e).1]
      exact q
  · by_cases e : b = a
    · subst e
      obtain ⟨y1, y2, y3, y4⟩ := hty.2 b g1 g2
      obtain ⟨q1, q2⟩ := h2 b g1 g2
      refine ⟨fun e => ?_, fun e => ?_⟩
      · have f1 := hf 276 _ (moK_a ⟨g1, g2⟩ (f := 19) (by omega)) (by omega)
        have f4 := hf 276 _ (moK_a ⟨g1, g2⟩ (f := 26) (by omega)) (by omega)
        rw [hf 276 _ (moK_a ⟨g1, g2⟩ (f := 20) (by omega)) (by omega)] at e
        obtain ⟨z1, z2, P, z3, z4⟩ := q1 e
        refine ⟨by rw [hf 275 10 (by unfold moK; omega) (by omega)]; exact z1, by rw [f1]; exact z2, P, z3.fr ⟨g1, g2⟩ (by omega) y1 f1 f4 (fun c k q => f5 c k (by omega)) (fun k q1 q2 => hf 276 k (by unfold moK; omega) (by omega)), fun j g3 g4 => ?_⟩
        rw [f5 286 _ (by omega)] at g4
        rw [hf 276 _ (moK_j ⟨g1, g2⟩ (j := j) (f := 32) (by omega) (by omega)) (by omega)]
        exact z4 j g3 g4
      · obtain ⟨z1, P, z2, z3⟩ := hW e
        exact ⟨Or.inr hS', z1, P, z2, fun j g3 g4 => ⟨fun _ => z3 j g3 g4, fun e => by omega⟩⟩
    · have q := (h2 b g1 g2).ne (x' := -1) (by omega) (by omega)
      have q2 := hb b g1 g2 e
      exact q.fr hty ⟨g1, g2⟩ (fun c k q3 q4 => hf c k q3 (by omega)) (fun e => by omega)
  · exact absurd (Eq.trans (hf 276 1 (by unfold moK; omega) (by omega)).symm e) hP
/-- the arm a has gone on by a tick -/
theorem mMo.went {w w' : eW} {x a : Int} (h : mMo w (-1)) (hx : x = -1 ∨ x = a) (hty : moT w) (ha : 0 ≤ a ∧ a ≤ 3) (hP : w 276 1 ≠ 0)
    (hf : ∀ c k, moK c k → ¬ (c = 276 ∧ ((36 * a + 32 ≤ k ∧ k ≤ 36 * a + 43) ∨ (k < 160 ∧ (k - 16) % 36 = 4))) → w' c k = w c k) (hb : ∀ b, 0 ≤ b → b ≤ 3 → b ≠ a → w' 276 (36 * b + 16) = w 276 (36 * b + 16) ∧ w' 276 (36 * b + 22) = w 276 (36 * b + 22)) (hbT : w' 276 (36 * a + 22) = w 276 (36 * a + 22))
    (hj : ∀ j, 0 ≤ j → j < w 286 a → moJ w' a j) (hS : w 276 (36 * a + 16) = 1 → (x = a ∧ ∀ j, 0 ≤ j → j < w 286 a → w' 276 (36 * a + j + 32) = w 276 (36 * a + j + 44)) ∨ (x = -1 ∧ w' 276 (36 * a + 16) = 1))
    (hF : (∀ b, 0 ≤ b → b < w 275 10 → w' 276 (36 * b + 20) = 0) ∨ ((∀ b, 0 ≤ b → b ≤ 3 → w' 276 (36 * b + 20) = w 276 (36 * b + 20)) ∧ ∀ j, 0 ≤ j → j < w 286 a → w' 276 (36 * a + j + 32) = w 276 (36 * a + j + 32))) (hF2 : ∀ b, 0 ≤ b → b ≤ 3 → w' 276 (36 * b + 20) = 0 ∨ w' 276 (36 * b + 20) = w 276 (36 * b + 20)) : mMo w' x := by
  obtain ⟨h1, h2, h3⟩ := h
  have f5 : ∀ c k, c = 286 ∨ c = 288 ∨ c = 289 ∨ c = 291 → w' c k = w c k := fun c k q => hf c k (by unfold moK; omega) (by omega)
  refine ⟨fun b j g1 g2 g3 g4 => ?_, fun b g1 g2 => ?_, fun e b g1 g2 => ?_⟩
  · rw [f5 286 _ (by omega)] at g4
    have y := hty.2 b g1 g2
    by_cases e : b = a
    · subst e
      exact hj j g3 g4
    · have q := h1 b j g1 g2 g3 g4
      unfold moJ at q ⊢
      rw [hf 276 _ (moK_j ⟨g1, g2⟩ (j := j) (f := 32) (by omega) (by omega)) (by omega), hf 276 _ (moK_j ⟨g1, g2⟩ (j := j) (f := 38) (by omega) (by omega)) (by omega), hf 276 _ (moK_j ⟨g1, g2⟩ (j := j) (f := 44) (by omega) (by omega)) (by omega), f5 288 _ (by omega), f5 289 _ (by omega), f5 291 _ (by omega), (hb b g1 g2 e).1]
      exact q
  · obtain ⟨y1, y2, y3, y4⟩ := hty.2 b g1 g2
    have f1 := hf 276 _ (moK_a ⟨g1, g2⟩ (f := 19) (by omega)) (by omega)
    have f3 := hf 276 _ (moK_a ⟨g1, g2⟩ (f := 23) (by omega)) (by omega)
    have f4 := hf 276 _ (moK_a ⟨g1, g2⟩ (f := 26) (by omega)) (by omega)
    have f6 : ∀ k, 21060 ≤ k → k < 25060 → w' 276 k = w 276 k := fun k q1 q2 => hf 276 k (by unfold moK; omega) (by omega)
    obtain ⟨q1, q2⟩ := h2 b g1 g2
    refine ⟨fun e => ?_, fun e => ?_⟩
    · have e1 : w 276 (36 * b + 20) = 1 := by have := hF2 b g1 g2; omega
      obtain ⟨z1, z2, P, z3, z4⟩ := q1 e1
      rcases hF with hF | hF
      · have := hF b g1 z1; omega
      · refine ⟨by rw [hf 275 10 (by unfold moK; omega) (by omega)]; exact z1, by rw [f1]; exact z2, P, z3.fr ⟨g1, g2⟩ (by omega) y1 f1 f4 (fun c k q => f5 c k (by omega)) f6, fun j g3 g4 => ?_⟩
        rw [f5 286 _ (by omega)] at g4
        by_cases e : b = a
        · subst e
          rw [hF.2 j g3 g4]
          exact z4 j g3 g4
        · rw [hf 276 _ (moK_j ⟨g1, g2⟩ (j := j) (f := 32) (by omega) (by omega)) (by omega)]
          exact z4 j g3 g4
    · have e1 : w 276 (36 * b + 22) = 1 := by
        by_cases e9 : b = a
        · subst e9; omega
        · have := hb b g1 g2 e9; omega
      obtain ⟨z1, z2, P, z3, z4⟩ := q2 e1
      rw [f1, f3]
      have zz : w 276 (36 * b + 16) = 1 := z1.resolve_left (by omega)
      refine ⟨?_, z2, P, z3.fr ⟨g1, g2⟩ y2 y1 f1 f4 (fun c k q => f5 c k (by omega)) f6, fun j g3 g4 => ?_⟩
      · by_cases e9 : b = a
        · subst e9
          rcases hS zz with q | q
          · exact Or.inl q.1.symm
          · exact Or.inr q.2
        · exact Or.inr (by have := hb b g1 g2 e9; omega)
      · rw [f5 286 _ (by omega)] at g4
        have z5 := (z4 j g3 g4).1 (by omega)
        rw [hf 276 _ (moK_j ⟨g1, g2⟩ (j := j) (f := 44) (by omega) (by omega)) (by omega)]
        refine ⟨fun _ => z5, fun e2 => ?_⟩
        subst e2
        rcases hx with hx | hx
        · omega
        · subst hx
          rcases hS zz with q | q
          · rw [q.2 j g3 g4]; exact z5
          · omega
  · exact absurd (Eq.trans (hf 276 1 (by unfold moK; omega) (by omega)).symm e) hP
/-- ways grow old; states and travels are as they were -/
theorem mMo.old {w w' : eW} {x : Int} (h : mMo w x) (hty : moT w) (hs : ∀ b, 0 ≤ b → b ≤ 3 → w' 276 (36 * b + 16) = w 276 (36 * b + 16) ∧ w' 276 (36 * b + 22) = w 276 (36 * b + 22)) (hf : ∀ c k, moK c k → ¬ (c = 276 ∧ k < 160 ∧ (k - 16) % 36 = 4) → w' c k = w c k) (hF : ∀ b, 0 ≤ b → b ≤ 3 → w' 276 (36 * b + 20) = 0 ∨ w' 276 (36 * b + 20) = w 276 (36 * b + 20)) : mMo w' x := by
  obtain ⟨h1, h2, h3⟩ := h
  have f5 : ∀ c k, c = 286 ∨ c = 288 ∨ c = 289 ∨ c = 291 → w' c k = w c k := fun c k q => hf c k (by unfold moK; omega) (by omega)
  refine ⟨fun a j g1 g2 g3 g4 => ?_, fun a g1 g2 => ?_, fun e a g1 g2 => ?_⟩
  · rw [f5 286 _ (by omega)] at g4
    have y := hty.2 a g1 g2
    have q := h1 a j g1 g2 g3 g4
    unfold moJ at q ⊢
    rw [hf 276 _ (moK_j ⟨g1, g2⟩ (j := j) (f := 32) (by omega) (by omega)) (by omega), hf 276 _ (moK_j ⟨g1, g2⟩ (j := j) (f := 38) (by omega) (by omega)) (by omega), hf 276 _ (moK_j ⟨g1, g2⟩ (j := j) (f := 44) (by omega) (by omega)) (by omega), f5 288 _ (by omega), f5 289 _ (by omega), f5 291 _ (by omega), (hs a g1 g2).1]
    exact q
  · obtain ⟨y1, y2, y3, y4⟩ := hty.2 a g1 g2
    have f1 := hf 276 _ (moK_a ⟨g1, g2⟩ (f := 19) (by omega)) (by omega)
    have f3 := hf 276 _ (moK_a ⟨g1, g2⟩ (f := 23) (by omega)) (by omega)
    have f4 := hf 276 _ (moK_a ⟨g1, g2⟩ (f := 26) (by omega)) (by omega)
    have f6 : ∀ k, 21060 ≤ k → k < 25060 → w' 276 k = w 276 k := fun k q1 q2 => hf 276 k (by unfold moK; omega) (by omega)
    have f7 : w' 275 10 = w 275 10 := hf 275 10 (by unfold moK; omega) (by omega)
    obtain ⟨q1, q2⟩ := h2 a g1 g2
    refine ⟨fun e => ?_, fun e => ?_⟩
    · have e1 : w 276 (36 * a + 20) = 1 := by have := hF a g1 g2; omega
      obtain ⟨z1, z2, P, z3, z4⟩ := q1 e1
      refine ⟨by rw [f7]; exact z1, by rw [f1]; exact z2, P, z3.fr ⟨g1, g2⟩ (by omega) y1 f1 f4 (fun c k q => f5 c k (by omega)) f6, fun j g3 g4 => ?_⟩
      rw [f5 286 _ (by omega)] at g4
      rw [hf 276 _ (moK_j ⟨g1, g2⟩ (j := j) (f := 32) (by omega) (by omega)) (by omega)]
      exact z4 j g3 g4
    · rw [(hs a g1 g2).2] at e
      obtain ⟨z1, z2, P, z3, z4⟩ := q2 e
      rw [f3, f1, (hs a g1 g2).1]
      refine ⟨z1, z2, P, z3.fr ⟨g1, g2⟩ y2 y1 f1 f4 (fun c k q => f5 c k (by omega)) f6, fun j g3 g4 => ?_⟩
      rw [f5 286 _ (by omega)] at g4
      rw [hf 276 _ (moK_j ⟨g1, g2⟩ (j := j) (f := 32) (by omega) (by omega)) (by omega), hf 276 _ (moK_j ⟨g1, g2⟩ (j := j) (f := 44) (by omega) (by omega)) (by omega)]
      exact z4 j g3 g4
  · rw [hf 276 1 (by unfold moK; omega) (by omega)] at e
    rw [hf 275 10 (by unfold moK; omega) (by omega)] at g2
    have := hty.1
    rw [(hs a g1 (by omega)).1]
    exact h3 e a g1 g2
theorem e_Has.mo {w : eW} (h : e_Has mTy w) : moT w :=
  ⟨(h.get (c := 275) (k := 10) (lo := 0) (hi := 4) rfl (by decide)).2, fun a g1 g2 => ⟨(h.get (nR_WAY_SIZE ⟨g1, g2⟩) (by decide)).2, (h.get (nR_TRAVEL_AT ⟨g1, g2⟩) (by decide)).1, (h.get (c := 286) (k := a) (lo := 0) (hi := 6) rfl (by decide)).1, (h.get (c := 286) (k := a) (lo := 0) (hi := 6) rfl (by decide)).2⟩⟩
end
end
-- part 77
section
noncomputable section
/-! belts: a part is in at most one order, at one place -/
theorem pig : ∀ (m n : Nat) (f : Int → Int), (∀ i : Int, 1 ≤ i → i ≤ n → 0 ≤ f i ∧ f i < m) → (∀ i j : Int, 1 ≤ i → i < j → j ≤ n → f i ≠ f j) → n ≤ m := by
  intro m
  induction m with
  | zero =>
    intro n f h _
    by_cases e : n = 0
    · omega
    · have := h 1 (by omega) (by omega); omega
  | succ m ih =>
    intro n f h hi
    by_cases e : n = 0
    · omega
    · obtain ⟨k, rfl⟩ : ∃ k, n = k + 1 := ⟨n - 1, by omega⟩
      have := ih k (fun i => if f i = m then f (k + 1 : Nat) else f i) (fun i g1 g2 => by
        have q1 := h i g1 (by omega)
        have q2 := h (k + 1 : Nat) (by omega) (by omega)
        have q3 := hi i (k + 1 : Nat) g1 (by omega) (by omega)
        split <;> omega) (fun i j g1 g2 g3 => by
        have q1 := hi i j g1 g2 (by omega)
        have q2 := hi i (k + 1 : Nat) g1 (by omega) (by omega)
        have q3 := hi j (k + 1 : Nat) (by omega) (by omega) (by omega)
        split <;> split <;> omega)
      omega
def mOr (w : eW) (m : Int) : Prop :=
  (∀ b i, 0 ≤ b → b ≤ 3 → 1 ≤ i → i ≤ w 276 (33 * b + 20704) → (0 ≤ w 276 (33 * b + i + 20704) ∧ w 276 (33 * b + i + 20704) < m) ∧ w 276 (4 * w 276 (33 * b + i + 20704) + 20576) = b) ∧
  (∀ b i j, 0 ≤ b → b ≤ 3 → 1 ≤ i → i < j → j ≤ w 276 (33 * b + 20704) → w 276 (33 * b + i + 20704) ≠ w 276 (33 * b + j + 20704)) ∧
  (∀ p, 0 ≤ p → p < m → w 276 (4 * p + 20576) < 4 → ∃ i, 1 ≤ i ∧ i ≤ w 276 (33 * w 276 (4 * p + 20576) + 20704) ∧ w 276 (33 * w 276 (4 * p + 20576) + i + 20704) = p) ∧
  (∀ a, 0 ≤ a → a ≤ 3 → 0 ≤ w 276 (36 * a + 17) → w 276 (36 * a + 17) < m ∧ w 276 (4 * w 276 (36 * a + 17) + 20576) = a + 4)
/-- what mOr reads -/
def orK (k : Int) : Prop := (20576 ≤ k ∧ k < 20704 ∧ k % 4 = 0) ∨ (20704 ≤ k ∧ k < 20836) ∨ (16 ≤ k ∧ k < 160 ∧ (k - 16) % 36 = 1)
theorem mOr.fr {w w' : eW} {m : Int} (h : mOr w m) (hm : m ≤ 32) (hn : ∀ b, 0 ≤ b → b ≤ 3 → w 276 (33 * b + 20704) ≤ 32) (h0 : ∀ p, 0 ≤ p → p < m → 0 ≤ w 276 (4 * p + 20576)) (hf : ∀ k, orK k → w' 276 k = w 276 k) : mOr w' m := by
  obtain ⟨h1, h2, h3, h4⟩ := h
  have e0 : ∀ b, 0 ≤ b → b ≤ 3 → w' 276 (33 * b + 20704) = w 276 (33 * b + 20704) := fun b g1 g2 => hf _ (by unfold orK; omega)
  have e1 : ∀ b i, 0 ≤ b → b ≤ 3 → 1 ≤ i → i ≤ w 276 (33 * b + 20704) → w' 276 (33 * b + i + 20704) = w 276 (33 * b + i + 20704) := fun b i g1 g2 g3 g4 => hf _ (by have := hn b g1 g2; unfold orK; omega)
  have e2 : ∀ p, 0 ≤ p → p < m → w' 276 (4 * p + 20576) = w 276 (4 * p + 20576) := fun p g1 g2 => hf _ (by unfold orK; omega)
  have e3 : ∀ a, 0 ≤ a → a ≤ 3 → w' 276 (36 * a + 17) = w 276 (36 * a + 17) := fun a g1 g2 => hf _ (by unfold orK; omega)
  refine ⟨fun b i g1 g2 g3 g4 => ?_, fun b i j g1 g2 g3 g4 g5 => ?_, fun p g1 g2 g3 => ?_, fun a g1 g2 g3 => ?_⟩
  · rw [e0 b g1 g2] at g4
    have q := h1 b i g1 g2 g3 g4
    rw [e1 b i g1 g2 g3 g4, e2 _ q.1.1 q.1.2]
    exact q
  · rw [e0 b g1 g2] at g5
    rw [e1 b i g1 g2 g3 (by omega), e1 b j g1 g2 (by omega) g5]
    exact h2 b i j g1 g2 g3 g4 g5
  · rw [e2 p g1 g2] at g3 ⊢
    obtain ⟨i, q1, q2, q3⟩ := h3 p g1 g2 g3
    have := h0 p g1 g2
    exact ⟨i, q1, by rw [e0 _ this (by omega)]; exact q2, by rw [e1 _ i this (by omega) q1 q2]; exact q3⟩
  · rw [e3 a g1 g2] at g3 ⊢
    have q := h4 a g1 g2 g3
    rw [e2 _ g3 q.1]
    exact q
/-- p is in no order: there is room -/
theorem mOr.room {w : eW} {m p b : Int} (h : mOr w m) (hm : m ≤ 32) (hp : 0 ≤ p ∧ p ≤ 31) (hb : 0 ≤ b ∧ b ≤ 3) (hw : p < m → 4 ≤ w 276 (4 * p + 20576)) : w 276 (33 * b + 20704) ≤ 31 := by
  by_cases hc : w 276 (33 * b + 20704) ≤ 31
  · exact hc
  · exfalso
    have hne : ∀ i, 1 ≤ i → i ≤ w 276 (33 * b + 20704) → w 276 (33 * b + i + 20704) ≠ p := by
      intro i g1 g2 e
      have q := h.1 b i hb.1 hb.2 g1 g2
      rw [e] at q
      have := hw q.1.2
      omega
    have := pig 32 33 (fun i => if i = 33 then p else w 276 (33 * b + i + 20704)) (fun i g1 g2 => by
      split
      · omega
      · have := h.1 b i hb.1 hb.2 g1 (by omega); omega) (fun i j g1 g2 g3 => by
      rw [if_neg (by omega)]
      split
      · exact hne i g1 (by omega)
      · exact h.2.1 b i j hb.1 hb.2 g1 g2 (by omega))
    omega
theorem mOr.comes {w w' : eW} {m m' p b k : Int} (h : mOr w m) (hm : m' ≤ 32) (hmm : (m' = m ∧ p < m) ∨ (m' = m + 1 ∧ p = m)) (hn : ∀ b, 0 ≤ b → b ≤ 3 → w 276 (33 * b + 20704) ≤ 32) (h0 : ∀ p, 0 ≤ p → p < m → 0 ≤ w 276 (4 * p + 20576)) (hp : 0 ≤ p ∧ p ≤ 31) (hb : 0 ≤ b ∧ b ≤ 3) (hw : p < m → 4 ≤ w 276 (4 * p + 20576)) (hh : ∀ a, 0 ≤ a → a ≤ 3 → w 276 (36 * a + 17) ≠ p)
    (hk : 0 ≤ k ∧ k ≤ w 276 (33 * b + 20704)) (c1 : ∀ i, 1 ≤ i → i ≤ k → w' 276 (33 * b + i + 20704) = w 276 (33 * b + i + 20704)) (c2 : w' 276 (33 * b + k + 20705) = p) (c3 : ∀ i, k + 2 ≤ i → i ≤ w 276 (33 * b + 20704) + 1 → w' 276 (33 * b + i + 20704) = w 276 (33 * b + i + 20703)) (c4 : w' 276 (33 * b + 20704) = w 276 (33 * b + 20704) + 1) (c5 : w' 276 (4 * p + 20576) = b)
    (hf : ∀ k, orK k → ¬ (33 * b + 20704 ≤ k ∧ k ≤ 33 * b + 20736) → k ≠ 4 * p + 20576 → w' 276 k = w 276 k) : mOr w' m' := by
  obtain ⟨h1, h2, h3, h4⟩ := h
  have e0 : ∀ c, 0 ≤ c → c ≤ 3 → c ≠ b → w' 276 (33 * c + 20704) = w 276 (33 * c + 20704) := fun c g1 g2 g3 => hf _ (by unfold orK; omega) (by omega) (by omega)
  have e1 : ∀ c i, 0 ≤ c → c ≤ 3 → c ≠ b → 1 ≤ i → i ≤ w 276 (33 * c + 20704) → w' 276 (33 * c + i + 20704) = w 276 (33 * c + i + 20704) := fun c i g1 g2 g0 g3 g4 => hf _ (by have := hn c g1 g2; unfold orK; omega) (by have := hn c g1 g2; omega) (by omega)
  have e2 : ∀ q, 0 ≤ q → q < m → q ≠ p → w' 276 (4 * q + 20576) = w 276 (4 * q + 20576) := fun q g1 g2 g3 => hf _ (by unfold orK; omega) (by omega) (by omega)
  have e3 : ∀ a, 0 ≤ a → a ≤ 3 → w' 276 (36 * a + 17) = w 276 (36 * a + 17) := fun a g1 g2 => hf _ (by unfold orK; omega) (by omega) (by omega)
  have hne : ∀ c i, 0 ≤ c → c ≤ 3 → 1 ≤ i → i ≤ w 276 (33 * c + 20704) → w 276 (33 * c + i + 20704) ≠ p := by
    intro c i g0 g00 g1 g2 e
    have q := h1 c i g0 g00 g1 g2
    rw [e] at q
    have := hw q.1.2
    omega
  -- an entry of the new order
  have en : ∀ i, 1 ≤ i → i ≤ w 276 (33 * b + 20704) + 1 → (i = k + 1 ∧ w' 276 (33 * b + i + 20704) = p) ∨ (i ≠ k + 1 ∧ ∃ i', 1 ≤ i' ∧ i' ≤ w 276 (33 * b + 20704) ∧ (i' = i ∧ i ≤ k ∨ (i' = i - 1 ∧ k + 2 ≤ i)) ∧ w' 276 (33 * b + i + 20704) = w 276 (33 * b + i' + 20704)) := by
    intro i g1 g2
    rcases Int.lt_or_le k i with g | g
    · by_cases e : i = k + 1
      · exact Or.inl ⟨e, by rw [e, show 33 * b + (k + 1) + 20704 = 33 * b + k + 20705 by omega]; exact c2⟩
      · exact Or.inr ⟨e, i - 1, by omega, by omega, Or.inr ⟨rfl, by omega⟩, by rw [c3 i (by omega) g2, show 33 * b + (i - 1) + 20704 = 33 * b + i + 20703 by omega]⟩
    · exact Or.inr ⟨by omega, i, g1, by omega, Or.inl ⟨rfl, g⟩, c1 i g1 g⟩
  refine ⟨fun c i g1 g2 g3 g4 => ?_, fun c i j g1 g2 g3 g4 g5 => ?_, fun q g1 g2 g3 => ?_, fun a g1 g2 g3 => ?_⟩
  · by_cases e : c = b
    · subst e
      rcases en i g3 (by omega) with ⟨z1, z2⟩ | ⟨z1, i', z2, z3, z4, z5⟩
      · rw [z2]; exact ⟨by omega, c5⟩
      · rw [z5]
        have q := h1 c i' g1 g2 z2 z3
        rw [e2 _ q.1.1 q.1.2 (hne c i' g1 g2 z2 z3)]
        exact ⟨by omega, q.2⟩
    · rw [e0 c g1 g2 e] at g4
      rw [e1 c i g1 g2 e g3 g4]
      have q := h1 c i g1 g2 g3 g4
      rw [e2 _ q.1.1 q.1.2 (hne c i g1 g2 g3 g4)]
      exact ⟨by omega, q.2⟩
  · by_cases e : c = b
    · subst e
      rcases en i g3 (by omega) with ⟨z1, z2⟩ | ⟨z1, i', z2, z3, z4, z5⟩
      · rcases en j (by omega) (by omega) with ⟨u1, u2⟩ | ⟨u1, j', u2, u3, u4, u5⟩
        · omega
        · rw [z2, u5]; exact (hne c j' g1 g2 u2 u3).symm
      · rcases en j (by omega) (by omega) with ⟨u1, u2⟩ | ⟨u1, j', u2, u3, u4, u5⟩
        · rw [z5, u2]; exact hne c i' g1 g2 z2 z3
        · rw [z5, u5]; exact h2 c i' j' g1 g2 z2 (by omega) u3
    · rw [e0 c g1 g2 e] at g5
      rw [e1 c i g1 g2 e g3 (by omega), e1 c j g1 g2 e (by omega) g5]
      exact h2 c i j g1 g2 g3 g4 g5
  · by_cases e : q = p
    · subst e
      rw [c5]
      exact ⟨k + 1, by omega, by omega, by rw [show 33 * b + (k + 1) + 20704 = 33 * b + k + 20705 by omega]; exact c2⟩
    · have g4 : q < m := by omega
      rw [e2 q g1 g4 e] at g3 ⊢
      obtain ⟨i, q1, q2, q3⟩ := h3 q g1 g4 g3
      have q0 := h0 q g1 g4
      by_cases e9 : w 276 (4 * q + 20576) = b
      · rw [e9] at q2 q3 ⊢
        rcases Int.lt_or_le k i with g | g
        · exact ⟨i + 1, by omega, by omega, by rw [c3 (i + 1) (by omega) (by omega), show 33 * b + (i + 1) + 20703 = 33 * b + i + 20704 by omega]; exact q3⟩
        · exact ⟨i, q1, by omega, by rw [c1 i q1 g]; exact q3⟩
      · exact ⟨i, q1, by rw [e0 _ q0 (by omega) e9]; exact q2, by rw [e1 _ i q0 (by omega) e9 q1 q2]; exact q3⟩
  · rw [e3 a g1 g2] at g3 ⊢
    have q := h4 a g1 g2 g3
    rw [e2 _ g3 q.1 (hh a g1 g2)]
    exact ⟨by omega, q.2⟩
/-- the arm a takes p, which lies -/
theorem mOr.up {w w' : eW} {m p a : Int} (h : mOr w m) (hm : m ≤ 32) (hn : ∀ b, 0 ≤ b → b ≤ 3 → w 276 (33 * b + 20704) ≤ 32) (h0 : ∀ p, 0 ≤ p → p < m → 0 ≤ w 276 (4 * p + 20576)) (hp : 0 ≤ p ∧ p < m) (ha : 0 ≤ a ∧ a ≤ 3) (hw : w 276 (4 * p + 20576) = 8) (c5 : w' 276 (4 * p + 20576) = a + 4) (c6 : w' 276 (36 * a + 17) = p)
    (hf : ∀ k, orK k → k ≠ 4 * p + 20576 → k ≠ 36 * a + 17 → w' 276 k = w 276 k) : mOr w' m := by
  obtain ⟨h1, h2, h3, h4⟩ := h
  have e0 : ∀ c, 0 ≤ c → c ≤ 3 → w' 276 (33 * c + 20704) = w 276 (33 * c + 20704) := fun c g1 g2 => hf _ (by unfold orK; omega) (by omega) (by omega)
  have e1 : ∀ c i, 0 ≤ c → c ≤ 3 → 1 ≤ i → i ≤ w 276 (33 * c + 20704) → w' 276 (33 * c + i + 20704) = w 276 (33 * c + i + 20704) := fun c i g1 g2 g3 g4 => hf _ (by have := hn c g1 g2; unfold orK; omega) (by omega) (by omega)
  have e2 : ∀ q, 0 ≤ q → q < m → q ≠ p → w' 276 (4 * q + 20576) = w 276 (4 * q + 20576) := fun q g1 g2 g3 => hf _ (by unfold orK; omega) (by omega) (by omega)
  have e3 : ∀ b, 0 ≤ b → b ≤ 3 → b ≠ a → w' 276 (36 * b + 17) = w 276 (36 * b + 17) := fun b g1 g2 g3 => hf _ (by unfold orK; omega) (by omega) (by omega)
  have hne : ∀ c i, 0 ≤ c → c ≤ 3 → 1 ≤ i → i ≤ w 276 (33 * c + 20704) → w 276 (33 * c + i + 20704) ≠ p := by
    intro c i g0 g00 g1 g2 e
    have q := h1 c i g0 g00 g1 g2
    rw [e] at q
    omega
  refine ⟨fun c i g1 g2 g3 g4 => ?_, fun c i j g1 g2 g3 g4 g5 => ?_, fun q g1 g2 g3 => ?_, fun b g1 g2 g3 => ?_⟩
  · rw [e0 c g1 g2] at g4
    have q := h1 c i g1 g2 g3 g4
    rw [e1 c i g1 g2 g3 g4, e2 _ q.1.1 q.1.2 (hne c i g1 g2 g3 g4)]
    exact q
  · rw [e0 c g1 g2] at g5
    rw [e1 c i g1 g2 g3 (by omega), e1 c j g1 g2 (by omega) g5]
    exact h2 c i j g1 g2 g3 g4 g5
  · by_cases e : q = p
    · subst e; omega
    · rw [e2 q g1 g2 e] at g3 ⊢
      obtain ⟨i, q1, q2, q3⟩ := h3 q g1 g2 g3
      have := h0 q g1 g2
      exact ⟨i, q1, by rw [e0 _ this (by omega)]; exact q2, by rw [e1 _ i this (by omega) q1 q2]; exact q3⟩
  · by_cases e : b = a
    · subst e
      rw [c6]; exact ⟨hp.2, c5⟩
    · rw [e3 b g1 g2 e] at g3 ⊢
      have q := h4 b g1 g2 g3
      by_cases e9 : w 276 (36 * b + 17) = p
      · rw [e9] at q; omega
      · rw [e2 _ g3 q.1 e9]; exact q
/-- the arm a takes p from the place k of the belt b -/
theorem mOr.grip {w w' : eW} {m p a b k : Int} (h : mOr w m) (hm : m ≤ 32) (hn : ∀ b, 0 ≤ b → b ≤ 3 → w 276 (33 * b + 20704) ≤ 32) (h0 : ∀ p, 0 ≤ p → p < m → 0 ≤ w 276 (4 * p + 20576)) (hp : 0 ≤ p ∧ p < m) (ha : 0 ≤ a ∧ a ≤ 3) (hb : 0 ≤ b ∧ b ≤ 3) (hk : 1 ≤ k ∧ k ≤ w 276 (33 * b + 20704)) (hkp : w 276 (33 * b + k + 20704) = p)
    (c1 : ∀ i, 1 ≤ i → i < k → w' 276 (33 * b + i + 20704) = w 276 (33 * b + i + 20704)) (c3 : ∀ i, k ≤ i → i < w 276 (33 * b + 20704) → w' 276 (33 * b + i + 20704) = w 276 (33 * b + i + 20705)) (c4 : w' 276 (33 * b + 20704) = w 276 (33 * b + 20704) - 1) (c5 : w' 276 (4 * p + 20576) = a + 4) (c6 : w' 276 (36 * a + 17) = p)
    (hf : ∀ k, orK k → ¬ (33 * b + 20704 ≤ k ∧ k ≤ 33 * b + 20736) → k ≠ 4 * p + 20576 → k ≠ 36 * a + 17 → w' 276 k = w 276 k) : mOr w' m := by
  obtain ⟨h1, h2, h3, h4⟩ := h
  have hpb := (h1 b k hb.1 hb.2 hk.1 hk.2).2
  rw [hkp] at hpb
  have e0 : ∀ c, 0 ≤ c → c ≤ 3 → c ≠ b → w' 276 (33 * c + 20704) = w 276 (33 * c + 20704) := fun c g1 g2 g3 => hf _ (by unfold orK; omega) (by omega) (by omega) (by omega)
  have e1 : ∀ c i, 0 ≤ c → c ≤ 3 → c ≠ b → 1 ≤ i → i ≤ w 276 (33 * c + 20704) → w' 276 (33 * c + i + 20704) = w 276 (33 * c + i + 20704) := fun c i g1 g2 g0 g3 g4 => hf _ (by have := hn c g1 g2; unfold orK; omega) (by have := hn c g1 g2; omega) (by omega) (by omega)
  have e2 : ∀ q, 0 ≤ q → q < m → q ≠ p → w' 276 (4 * q + 20576) = w 276 (4 * q + 20576) := fun q g1 g2 g3 => hf _ (by unfold orK; omega) (by omega) (by omega) (by omega)
  have e3 : ∀ b, 0 ≤ b → b ≤ 3 → b ≠ a → w' 276 (36 * b + 17) = w 276 (36 * b + 17) := fun b g1 g2 g3 => hf _ (by unfold orK; omega) (by omega) (by omega) (by omega)
  have hne : ∀ c i, 0 ≤ c → c ≤ 3 → 1 ≤ i → i ≤ w 276 (33 * c + 20704) → (c = b → i ≠ k) → w 276 (33 * c + i + 20704) ≠ p := by
    intro c i g0 g00 g1 g2 g3 e
    have q := h1 c i g0 g00 g1 g2
    rw [e] at q
    have e9 : c = b := by omega
    subst e9
    have e8 := g3 rfl
    rcases Int.lt_or_le i k with g | g
    · exact h2 c i k g0 g00 g1 g hk.2 (by rw [e, hkp])
    · exact h2 c k i g0 g00 hk.1 (by omega) g2 (by rw [e, hkp])
  have en : ∀ i, 1 ≤ i → i ≤ w 276 (33 * b + 20704) - 1 → ∃ i', 1 ≤ i' ∧ i' ≤ w 276 (33 * b + 20704) ∧ i' ≠ k ∧ (i' = i ∧ i < k ∨ (i' = i + 1 ∧ k ≤ i)) ∧ w' 276 (33 * b + i + 20704) = w 276 (33 * b + i' + 20704) := by
    intro i g1 g2
    rcases Int.lt_or_le i k with g | g
    · exact ⟨i, g1, by omega, by omega, Or.inl ⟨rfl, g⟩, c1 i g1 g⟩
    · exact ⟨i + 1, by omega, by omega, by omega, Or.inr ⟨rfl, g⟩, by rw [c3 i g (by omega), show 33 * b + (i + 1) + 20704 = 33 * b + i + 20705 by omega]⟩
  refine ⟨fun c i g1 g2 g3 g4 => ?_, fun c i j g1 g2 g3 g4 g5 => ?_, fun q g1 g2 g3 => ?_, fun c g1 g2 g3 => ?_⟩
  · by_cases e : c = b
    · subst e
      obtain ⟨i', z2, z3, z0, z4, z5⟩ := en i g3 (by omega)
      rw [z5]
      have q := h1 c i' g1 g2 z2 z3
      rw [e2 _ q.1.1 q.1.2 (hne c i' g1 g2 z2 z3 (fun _ => z0))]
      exact q
    · rw [e0 c g1 g2 e] at g4
      rw [e1 c i g1 g2 e g3 g4]
      have q := h1 c i g1 g2 g3 g4
      rw [e2 _ q.1.1 q.1.2 (hne c i g1 g2 g3 g4 (fun e' => absurd e' e))]
      exact q
  · by_cases e : c = b
    · subst e
      obtain ⟨i', z2, z3, z0, z4, z5⟩ := en i g3 (by omega)
      obtain ⟨j', u2, u3, u0, u4, u5⟩ := en j (by omega) (by omega)
      rw [z5, u5]; exact h2 c i' j' g1 g2 z2 (by omega) u3
    · rw [e0 c g1 g2 e] at g5
      rw [e1 c i g1 g2 e g3 (by omega), e1 c j g1 g2 e (by omega) g5]
      exact h2 c i j g1 g2 g3 g4 g5
  · by_cases e : q = p
    · subst e; omega
    · rw [e2 q g1 g2 e] at g3 ⊢
      obtain ⟨i, q1, q2, q3⟩ := h3 q g1 g2 g3
      have q0 := h0 q g1 g2
      by_cases e9 : w 276 (4 * q + 20576) = b
      · rw [e9] at q2 q3 ⊢
        have hik : i ≠ k := fun e8 => by rw [e8, hkp] at q3; omega
        rcases Int.lt_or_le i k with g | g
        · exact ⟨i, q1, by omega, by rw [c1 i q1 g]; exact q3⟩
        · exact ⟨i - 1, by omega, by omega, by rw [c3 (i - 1) (by omega) (by omega), show 33 * b + (i - 1) + 20705 = 33 * b + i + 20704 by omega]; exact q3⟩
      · exact ⟨i, q1, by rw [e0 _ q0 (by omega) e9]; exact q2, by rw [e1 _ i q0 (by omega) e9 q1 q2]; exact q3⟩
  · by_cases e : c = a
    · subst e
      rw [c6]; exact ⟨hp.2, c5⟩
    · rw [e3 c g1 g2 e] at g3 ⊢
      have q := h4 c g1 g2 g3
      by_cases e9 : w 276 (36 * c + 17) = p
      · rw [e9] at q; omega
      · rw [e2 _ g3 q.1 e9]; exact q
/-- p, which nobody holds, lies now -/
theorem mOr.lies {w w' : eW} {m m' p : Int} (h : mOr w m) (hm : m' ≤ 32) (hmm : (m' = m ∧ p < m) ∨ (m' = m + 1 ∧ p = m)) (hn : ∀ b, 0 ≤ b → b ≤ 3 → w 276 (33 * b + 20704) ≤ 32) (h0 : ∀ p, 0 ≤ p → p < m → 0 ≤ w 276 (4 * p + 20576)) (hp : 0 ≤ p ∧ p ≤ 31) (hw : p < m → 4 ≤ w 276 (4 * p + 20576)) (hh : ∀ a, 0 ≤ a → a ≤ 3 → w 276 (36 * a + 17) ≠ p) (c5 : w' 276 (4 * p + 20576) = 8)
    (hf : ∀ k, orK k → k ≠ 4 * p + 20576 → w' 276 k = w 276 k) : mOr w' m' := by
  obtain ⟨h1, h2, h3, h4⟩ := h
  have e0 : ∀ c, 0 ≤ c → c ≤ 3 → w' 276 (33 * c + 20704) = w 276 (33 * c + 20704) := fun c g1 g2 => hf _ (by unfold orK; omega) (by omega)
  have e1 : ∀ c i, 0 ≤ c → c ≤ 3 → 1 ≤ i → i ≤ w 276 (33 * c + 20704) → w' 276 (33 * c + i + 20704) = w 276 (33 * c + i + 20704) := fun c i g1 g2 g3 g4 => hf _ (by have := hn c g1 g2; unfold orK; omega) (by omega)
  have e2 : ∀ q, 0 ≤ q → q < m → q ≠ p → w' 276 (4 * q + 20576) = w 276 (4 * q + 20576) := fun q g1 g2 g3 => hf _ (by unfold orK; omega) (by omega)
  have e3 : ∀ b, 0 ≤ b → b ≤ 3 → w' 276 (36 * b + 17) = w 276 (36 * b + 17) := fun b g1 g2 => hf _ (by unfold orK; omega) (by omega)
  have hne : ∀ c i, 0 ≤ c → c ≤ 3 → 1 ≤ i → i ≤ w 276 (33 * c + 20704) → w 276 (33 * c + i + 20704) ≠ p := by
    intro c i g0 g00 g1 g2 e
    have q := h1 c i g0 g00 g1 g2
    rw [e] at q
    have := hw q.1.2
    omega
  refine ⟨fun c i g1 g2 g3 g4 => ?_, fun c i j g1 g2 g3 g4 g5 => ?_, fun q g1 g2 g3 => ?_, fun b g1 g2 g3 => ?_⟩
  · rw [e0 c g1 g2] at g4
    have q := h1 c i g1 g2 g3 g4
    rw [e1 c i g1 g2 g3 g4, e2 _ q.1.1 q.1.2 (hne c i g1 g2 g3 g4)]
    exact ⟨by omega, q.2⟩
  · rw [e0 c g1 g2] at g5
    rw [e1 c i g1 g2 g3 (by omega), e1 c j g1 g2 (by omega) g5]
    exact h2 c i j g1 g2 g3 g4 g5
  · by_cases e : q = p
    · subst e; omega
    · have g4 : q < m := by omega
      rw [e2 q g1 g4 e] at g3 ⊢
      obtain ⟨i, q1, q2, q3⟩ := h3 q g1 g4 g3
      have := h0 q g1 g4
      exact ⟨i, q1, by rw [e0 _ this (by omega)]; exact q2, by rw [e1 _ i this (by omega) q1 q2]; exact q3⟩
  · rw [e3 b g1 g2] at g3 ⊢
    have q := h4 b g1 g2 g3
    rw [e2 _ g3 q.1 (hh b g1 g2)]
    exact ⟨by omega, q.2⟩
/-- the arm a lets go -/
theorem mOr.off {w w' : eW} {m a : Int} (h : mOr w m) (hm : m ≤ 32) (hn : ∀ b, 0 ≤ b → b ≤ 3 → w 276 (33 * b + 20704) ≤ 32) (h0 : ∀ p, 0 ≤ p → p < m → 0 ≤ w 276 (4 * p + 20576)) (ha : 0 ≤ a ∧ a ≤ 3) (c6 : w' 276 (36 * a + 17) = -1) (hf : ∀ k, orK k → k ≠ 36 * a + 17 → w' 276 k = w 276 k) : mOr w' m := by
  obtain ⟨h1, h2, h3, h4⟩ := h
  have e0 : ∀ c, 0 ≤ c → c ≤ 3 → w' 276 (33 * c + 20704) = w 276 (33 * c + 20704) := fun c g1 g2 => hf _ (by unfold orK; omega) (by omega)
  have e1 : ∀ c i, 0 ≤ c → c ≤ 3 → 1 ≤ i → i ≤ w 276 (33 * c + 20704) → w' 276 (33 * c + i + 20704) = w 276 (33 * c + i + 20704) := fun c i g1 g2 g3 g4 => hf _ (by have := hn c g1 g2; unfold orK; omega) (by omega)
  have e2 : ∀ q, 0 ≤ q → q < m → w' 276 (4 * q + 20576) = w 276 (4 * q + 20576) := fun q g1 g2 => hf _ (by unfold orK; omega) (by omega)
  have e3 : ∀ b, 0 ≤ b → b ≤ 3 → b ≠ a → w' 276 (36 * b + 17) = w 276 (36 * b + 17) := fun b g1 g2 g3 => hf _ (by unfold orK; omega) (by omega)
  refine ⟨fun c i g1 g2 g3 g4 => ?_, fun c i j g1 g2 g3 g4 g5 => ?_, fun q g1 g2 g3 => ?_, fun b g1 g2 g3 => ?_⟩
  · rw [e0 c g1 g2] at g4
    have q := h1 c i g1 g2 g3 g4
    rw [e1 c i g1 g2 g3 g4, e2 _ q.1.1 q.1.2]
    exact q
  · rw [e0 c g1 g2] at g5
    rw [e1 c i g1 g2 g3 (by omega), e1 c j g1 g2 (by omega) g5]
    exact h2 c i j g1 g2 g3 g4 g5
  · rw [e2 q g1 g2] at g3 ⊢
    obtain ⟨i, q1, q2, q3⟩ := h3 q g1 g2 g3
    have := h0 q g1 g2
    exact ⟨i, q1, by rw [e0 _ this (by omega)]; exact q2, by rw [e1 _ i this (by omega) q1 q2]; exact q3⟩
  · by_cases e : b = a
    · subst e; omega
    · rw [e3 b g1 g2 e] at g3 ⊢
      have q := h4 b g1 g2 g3
      rw [e2 _ g3 q.1]
      exact q
theorem e_Has.orn {w : eW} (h : e_Has mTy w) : ∀ b, 0 ≤ b → b ≤ 3 → w 276 (33 * b + 20704) ≤ 32 := fun b g1 g2 => (h.get (nR_ORDER (b := b) ⟨g1, g2⟩) (by decide)).2
theorem e_Has.orw {w : eW} {m : Int} (h : e_Has mTy w) (hm : m ≤ 32) : ∀ p, 0 ≤ p → p < m → 0 ≤ w 276 (4 * p + 20576) := fun p g1 g2 => (h.get (nR_WHERE (p := p) ⟨g1, by omega⟩) (by decide)).1
end
end
-- part 78
section
noncomputable section
theorem mCf.fr {w w' : eW} (h : mCf w) (hf : ∀ c k, c = 286 ∨ c = 290 ∨ c = 291 → w' c k = w c k) : mCf w' := fun a j g1 g2 g3 g4 => by
  rw [hf 290 _ (by omega), hf 291 _ (by omega)]
  rw [hf 286 _ (by omega)] at g4
  exact h a j g1 g2 g3 g4
def mGo (a c k : Int) : Prop := c = 276 ∧ 36 * a + 44 ≤ k ∧ k ≤ 36 * a + 49
def mMv (t a c k : Int) : Prop := mLv t c k ∨ (c = 276 ∧ (k = 36 * a + 16 ∨ k = 36 * a + 24 ∨ k = 36 * a + 25 ∨ k = 36 * a + 27 ∨ (36 * a + 44 ≤ k ∧ k ≤ 36 * a + 49) ∨ k = 1260 * t + 423))
theorem moK_lv {t c k : Int} (ht : 0 ≤ t ∧ t ≤ 15) (q : moK c k) : ¬ mLv t c k := by unfold moK at q; unfold mLv; omega
theorem moK_mv {t a c k : Int} (ht : 0 ≤ t ∧ t ≤ 15) (ha : 0 ≤ a ∧ a ≤ 3) (q : moK c k) (q2 : ¬ (c = 276 ∧ ((36 * a + 44 ≤ k ∧ k ≤ 36 * a + 49) ∨ k = 36 * a + 23))) : ¬ mMv t a c k := fun h => h.elim (moK_lv ht q) (fun h => by unfold moK at q; omega)
theorem moK_275 {c k i : Int} (q : moK c k) (hi : i ≠ 10) : c ≠ 275 ∨ k ≠ i := by unfold moK at q; omega
theorem moK_now {c k i : Int} (q : moK c k) (hi : 160 ≤ i ∧ i < 21060) : c ≠ 276 ∨ k ≠ i := by unfold moK at q; omega
theorem no_78_0 {a : Int} {k : Int} : ¬ mGo a 275 k := by unfold mGo; omega
theorem no_78_1 {a : Int} {k : Int} : ¬ mBe a 275 k := by unfold mBe; omega
theorem no_78_2 {a : Int} {t : Int} (ha : 0 ≤ a ∧ a ≤ 3) (ht : 0 ≤ t ∧ t ≤ 15) : ¬ mBe a 276 (1260 * t + 428) := by unfold mBe; omega
theorem no_78_3 {a : Int} {t : Int} (ha : 0 ≤ a ∧ a ≤ 3) (ht : 0 ≤ t ∧ t ≤ 15) : ¬ mGo a 276 (1260 * t + 428) := by unfold mGo; omega
theorem no_78_4 {a : Int} (ha : 0 ≤ a ∧ a ≤ 3) : ¬ mBe a 276 5 := by unfold mBe; omega
theorem no_78_5 {a : Int} (ha : 0 ≤ a ∧ a ≤ 3) : ¬ mGo a 276 5 := by unfold mGo; omega
theorem no_78_6 {a : Int} {b : Int} (ha : 0 ≤ a ∧ a ≤ 3) (hb : 0 ≤ b ∧ b ≤ 3) : ¬ mGo a 276 (36 * b + 16) := by unfold mGo; omega
theorem no_78_7 {a : Int} {b : Int} (ha : 0 ≤ a ∧ a ≤ 3) (hb : 0 ≤ b ∧ b ≤ 3) : ¬ mBe a 276 (36 * b + 22) := by unfold mBe; omega
theorem no_78_8 {a : Int} {b : Int} (ha : 0 ≤ a ∧ a ≤ 3) (hb : 0 ≤ b ∧ b ≤ 3) : ¬ mGo a 276 (36 * b + 22) := by unfold mGo; omega
theorem no_78_9 {a : Int} {j : Int} (ha : 0 ≤ a ∧ a ≤ 3) (hj : 0 ≤ j ∧ j ≤ 5) : ¬ mBe a 276 (36 * a + j + 44) := by unfold mBe; omega
theorem no_78_10 {a : Int} (ha : 0 ≤ a ∧ a ≤ 3) : ¬ mBe a 276 (36 * a + 22) := by unfold mBe; omega
theorem no_78_11 {a : Int} (ha : 0 ≤ a ∧ a ≤ 3) : ¬ mGo a 276 (36 * a + 22) := by unfold mGo; omega
theorem no_78_12 {a : Int} {t : Int} {i : Int} (ha : 0 ≤ a ∧ a ≤ 3) (ht : 0 ≤ t ∧ t ≤ 15) (hi : 0 ≤ i ∧ i ≤ 5) : ¬ mBe a 276 (1260 * t + 2 * i + 436) := by unfold mBe; omega
theorem no_78_13 {a : Int} {t : Int} {i : Int} (ha : 0 ≤ a ∧ a ≤ 3) (ht : 0 ≤ t ∧ t ≤ 15) (hi : 0 ≤ i ∧ i ≤ 5) : ¬ mGo a 276 (1260 * t + 2 * i + 436) := by unfold mGo; omega
theorem no_78_14 {a : Int} {t : Int} {i : Int} (ha : 0 ≤ a ∧ a ≤ 3) (ht : 0 ≤ t ∧ t ≤ 15) (hi : 0 ≤ i ∧ i ≤ 5) : ¬ mBe a 276 (1260 * t + 2 * i + 439) := by unfold mBe; omega
theorem no_78_15 {a : Int} {t : Int} {i : Int} (ha : 0 ≤ a ∧ a ≤ 3) (ht : 0 ≤ t ∧ t ≤ 15) (hi : 0 ≤ i ∧ i ≤ 5) : ¬ mGo a 276 (1260 * t + 2 * i + 439) := by unfold mGo; omega
theorem no_78_16 {a : Int} {t : Int} (ha : 0 ≤ a ∧ a ≤ 3) (ht : 0 ≤ t ∧ t ≤ 15) : ¬ mBe a 276 (1260 * t + 429) := by unfold mBe; omega
theorem no_78_17 {a : Int} {t : Int} (ha : 0 ≤ a ∧ a ≤ 3) (ht : 0 ≤ t ∧ t ≤ 15) : ¬ mGo a 276 (1260 * t + 429) := by unfold mGo; omega
theorem no_78_18 {a : Int} {k : Int} : ¬ mBe a 330 k := by unfold mBe; omega
theorem no_78_19 {a : Int} {k : Int} : ¬ mGo a 330 k := by unfold mGo; omega
theorem no_78_20 {a : Int} {k : Int} : ¬ mGo a 345 k := by unfold mGo; omega
theorem su_78_21 {a : Int} {t : Int} {c k : Int} (q : mBe a c k) : mMv t a c k := by
  unfold mBe at q
  rcases q with ⟨q, (q | q | q | q)⟩
  · exact Or.inr ⟨(by omega), Or.inl (by omega)⟩
  · exact Or.inr ⟨(by omega), Or.inr (Or.inl (by omega))⟩
  · exact Or.inr ⟨(by omega), Or.inr (Or.inr (Or.inl (by omega)))⟩
  · exact Or.inr ⟨(by omega), Or.inr (Or.inr (Or.inr (Or.inl (by omega))))⟩
set_option maxHeartbeats 4000000 in
theorem c_380 {d : Nat} (hd : 33 ≤ d) {w : eW} (hT : e_Has mTy w) (hCf : mCf w) (hMo : mMo w (-1)) {t a g : Int} (ht : 0 ≤ t ∧ t ≤ 15) (ha : 0 ≤ a ∧ a ≤ 3) (h96 : w 275 96 = t) (h97 : w 275 97 = 1260 * t + 416) (h98 : w 275 98 = a) {n nt nw : Int} {dl sg pi en : Int → Int} {an br : Int → Int → Prop} {bs ow : Int → Int} (hC : cOk w a n nt nw dl sg pi en an br) {p : Int} (hP : topOk w a t g p n nt nw dl sg pi an br bs ow) (hE : w 276 5 ≤ 2147483000) (h102 : w 275 102 = dl p) (hst : e_kn w 345 0 (dl p - 1)) (hop : w 328 (10000 * a + p) = 32) : e_Ok 20 elay ecode eI d 380 (0, [(0, (1, 275)), (1, (0, w 329 (10000 * a + p))), (2, (0, p))], [], w) (fun r' w' => r' = [] ∧ e_fr (mMv t a) w w' ∧ e_Has mTy w' ∧ (w 276 5 ≤ w' 276 5 ∧ w' 276 5 ≤ w 276 5 + 2) ∧ mMo w' (-1) ∧ ((w' 275 102 = 0 ∧ ((w' 275 100 = 1 ∧ (w' 276 (1260 * t + 416) = 6 ∨ w' 276 (1260 * t + 416) = 7)) ∨ (w' 275 100 = w 275 100 ∧ w' 276 (1260 * t + 416) = w 276 (1260 * t + 416) ∧ w' 276 5 = w 276 5 ∧ ∃ (g' p' : Int) (bs' ow' : Int → Int), g' ≤ g ∧ (g' = g → p < p') ∧ topOk w' a t g' p' n nt nw dl sg pi an br bs' ow' ∧ dl p' = 0 ∧ sg p' = 0))) ∨ (w' 275 100 = 1 ∧ w' 276 (1260 * t + 416) = 2 ∧ topOk w' a t g (p + 1) n nt nw dl sg pi an br bs ow ∧ dl (p + 1) = 0))) := by
  obtain ⟨d, rfl⟩ : ∃ e, d = e + 1 := ⟨d - 1, by omega⟩
  obtain ⟨hpn, hpc, hru⟩ := id hP
  obtain ⟨hg, hF, hlow, hrr, hPn, hch, hpe⟩ := id hru
  have hCn := hC.1
  have hins := hC.2.1 p hpn.1 hpn.2
  have hbg := hlow.2.1 g (by omega) (by omega)
  have hpen := hins.1.2.2.2.1
  have hpib := hC.2.2.2.1.2.1 _ hrr.1 hrr.2
  obtain ⟨hi0, -, -, -, -, -, -, -, hi8, -, hi10, -, -, -, -, -, -, -, -, -⟩ := id hins
  have hja := (e_Has.get hT (c := 286) (k := a) (lo := 0) (hi := 6) (mt_o rfl) (by decide))
  have k8 := hi8 (by omega)
  unfold iS iFT at k8
  have k10 := hi10 hop
  refine e_Ok.run (t' := (2, [(0, (1, 275)), (1, (0, w 329 (10000 * a + p))), (2, (0, p))], [(1, 275), (0, w 329 (10000 * a + p))], w)) 2 rfl ?_
  refine e_Ok.getr (z := 286) rfl (el_o rfl) rfl (ef_o rfl) (e_Has.eq hT (mt_o rfl)) ⟨by decide, by decide⟩ ?_
  refine e_Ok.ps1 (x := (1, 275)) (q := 6) 1 rfl ?_
  refine e_Ok.getf (z := a) rfl (el_o rfl) rfl (ef_o rfl) h98 (by omega) ?_
  refine e_Ok.ald (z := w 286 a) rfl (el_o rfl) rfl (by omega) rfl (by omega) ?_
  refine e_Ok.if2 rfl (fun h1 => ?_) (fun h1 => ?_)
  · replace h1 : (w 329 (10000 * a + p) : Int) ≠ w 286 a := h1
    refine e_Ok.run (t' := (22, [(4, (0, 0)), (3, (0, 0)), (0, (1, 275)), (1, (0, w 329 (10000 * a + p))), (2, (0, p))], [], w)) 4 rfl ?_
    have hL2 : ∀ (nn : Nat) (y3 : Int) (y4 : Int), (0 ≤ y3 ∧ y3 ≤ 1) ∧ (0 ≤ y4 ∧ y4 ≤ 6) ∧ ((y3 = 1 → w 329 (10000 * a + p) = w 286 a ∧ ∀ j, 0 ≤ j → j < y4 → w 288 (6 * a + j) ≤ w 345 j ∧ w 345 j ≤ w 289 (6 * a + j))) → 7 - y4 < nn → e_Ok 20 elay ecode eI (d + 1) 380 (22, [(0, (1, 275)), (1, (0, w 329 (10000 * a + p))), (2, (0, p)), (3, (0, y3)), (4, (0, y4))], [], w) (fun r' w' => r' = [] ∧ e_fr (mMv t a) w w' ∧ e_Has mTy w' ∧ (w 276 5 ≤ w' 276 5 ∧ w' 276 5 ≤ w 276 5 + 2) ∧ mMo w' (-1) ∧ ((w' 275 102 = 0 ∧ ((w' 275 100 = 1 ∧ (w' 276 (1260 * t + 416) = 6 ∨ w' 276 (1260 * t + 416) = 7)) ∨ (w' 275 100 = w 275 100 ∧ w' 276 (1260 * t + 416) = w 276 (1260 * t + 416) ∧ w' 276 5 = w 276 5 ∧ ∃ (g' p' : Int) (bs' ow' : Int → Int), g' ≤ g ∧ (g' = g → p < p') ∧ topOk w' a t g' p' n nt nw dl sg pi an br bs' ow' ∧ dl p' = 0 ∧ sg p' = 0))) ∨ (w' 275 100 = 1 ∧ w' 276 (1260 * t + 416) = 2 ∧ topOk w' a t g (p + 1) n nt nw dl sg pi an br bs ow ∧ dl (p + 1) = 0))) := by
      intro nn
      induction nn with
      | zero => intro y3 y4 hj hm; obtain ⟨j4, j5, j6⟩ := hj; exfalso; omega
      | succ nn ih3 =>
        intro y3 y4 hj hm
        obtain ⟨j4, j5, j6⟩ := hj
        refine e_Ok.run (t' := (25, [(0, (1, 275)), (1, (0, w 329 (10000 * a + p))), (2, (0, p)), (3, (0, y3)), (4, (0, y4))], [(1, 275), (0, y4)], w)) 2 rfl ?_
        refine e_Ok.getr (z := 286) rfl (el_o rfl) rfl (ef_o rfl) (e_Has.eq hT (mt_o rfl)) ⟨by decide, by decide⟩ ?_
        refine e_Ok.ps1 (x := (1, 275)) (q := 29) 1 rfl ?_
        refine e_Ok.getf (z := a) rfl (el_o rfl) rfl (ef_o rfl) h98 (by omega) ?_
        refine e_Ok.ald (z := w 286 a) rfl (el_o rfl) rfl (by omega) rfl (by omega) ?_
        refine e_Ok.if2 rfl (fun h7 => ?_) (fun h7 => ?_)
        · replace h7 : (y4 : Int) ≥ w 286 a := h7
          refine e_Ok.ps1 (x := (1, 275)) (q := 91) 1 rfl ?_
          refine e_Ok.getf (z := a) rfl (el_o rfl) rfl (ef_o rfl) h98 (by omega) ?_
          refine e_Ok.callS rfl (e_dq hd rfl) rfl rfl (c_268 (by omega)) (fun r8 w9 h10 => ?_)
          obtain ⟨rfl, rfl⟩ := h10
          refine e_Ok.nrm (q := 97) (st' := [(0, 36 * a + 16)]) rfl rfl ?_
          refine e_Ok.run (t' := (100, [(4, (0, 36 * a + 16)), (0, (1, 275)), (1, (0, w 329 (10000 * a + p))), (2, (0, p)), (3, (0, y3))], [(0, y3)], w)) 2 rfl ?_
          refine e_Ok.if1 rfl (fun h11 => ?_) (fun h11 => ?_)
          · replace h11 : (y3 : Int) ≠ 0 := h11
            refine e_Ok.ps1 (x := (1, 275)) (q := 108) 1 rfl ?_
            refine e_Ok.getr (z := 276) rfl (el_o rfl) rfl (ef_o rfl) (e_Has.eq hT (mt_o rfl)) ⟨by decide, by decide⟩ ?_
            refine e_Ok.ps2 (x := (0, 0)) (y := (0, 36 * a + 16)) (q := 114) 2 rfl ?_
            refine e_Ok.add (z := 36 * a + 16) rfl (e_adl (by decide)) (by omega) ?_
            have h12 := (e_Has.get hT (c := 276) (k := 36 * a + 16) (lo := 0) (hi := 2) (nR_STATE (a := a) (by omega)) (by decide))
            refine e_Ok.ald (z := w 276 (36 * a + 16)) rfl (el_o rfl) rfl (by omega) rfl (e_bq h12 (by decide) (by decide)) ?_
            refine e_Ok.if1 rfl (fun h13 => ?_) (fun h13 => ?_)
            · replace h13 : (w 276 (36 * a + 16) : Int) = 0 := h13
              refine e_Ok.ps1 (x := (1, 275)) (q := 124) 1 rfl ?_
              refine e_Ok.getr (z := 276) rfl (el_o rfl) rfl (ef_o rfl) (e_Has.eq hT (mt_o rfl)) ⟨by decide, by decide⟩ ?_
              refine e_Ok.ps1 (x := (0, 1)) (q := 128) 1 rfl ?_
              have h14 := (e_Has.get hT (c := 276) (k := 1) (lo := 0) (hi := 1) (mt_o rfl) (by decide))
              refine e_Ok.ald (z := w 276 1) rfl (el_o rfl) rfl (by omega) rfl (e_bq h14 (by decide) (by decide)) ?_
              refine e_Ok.if1 rfl (fun h15 => ?_) (fun h15 => ?_)
              · replace h15 : (w 276 1 : Int) ≠ 0 := h15
                refine e_Ok.run (t' := (141, [(5, (0, 0)), (4, (0, 36 * a + 16)), (0, (1, 275)), (1, (0, w 329 (10000 * a + p))), (2, (0, p)), (3, (0, y3))], [(0, 0)], w)) 3 rfl ?_
                refine e_Ok.if1 rfl (fun h16 => ?_) (fun h16 => ?_)
                · replace h16 : (0 : Int) = 0 := h16
                  have hfit := j6 (by omega)
                  refine e_Ok.run (t' := (154, [(6, (0, 0)), (5, (0, 0)), (4, (0, 36 * a + 16)), (0, (1, 275)), (1, (0, w 329 (10000 * a + p))), (2, (0, p)), (3, (0, y3))], [], w)) 2 rfl ?_
                  have hL17 : ∀ (nn : Nat) (y6 : Int) (v2 : eW), e_fr (mMv t a) w v2 ∧ e_Has mTy v2 ∧ (0 ≤ y6 ∧ y6 ≤ 6) ∧ (∀ j, 0 ≤ j → j < y6 → v2 276 (36 * a + j + 44) = w 345 j) ∧ e_fr (mGo a) w v2 → 7 - y6 < nn → e_Ok 20 elay ecode eI (d + 1) 380 (154, [(0, (1, 275)), (1, (0, w 329 (10000 * a + p))), (2, (0, p)), (4, (0, 36 * a + 16)), (6, (0, y6))], [], v2) (fun r' w' => r' = [] ∧ e_fr (mMv t a) w w' ∧ e_Has mTy w' ∧ (w 276 5 ≤ w' 276 5 ∧ w' 276 5 ≤ w 276 5 + 2) ∧ mMo w' (-1) ∧ ((w' 275 102 = 0 ∧ ((w' 275 100 = 1 ∧ (w' 276 (1260 * t + 416) = 6 ∨ w' 276 (1260 * t + 416) = 7)) ∨ (w' 275 100 = w 275 100 ∧ w' 276 (1260 * t + 416) = w 276 (1260 * t + 416) ∧ w' 276 5 = w 276 5 ∧ ∃ (g' p' : Int) (bs' ow' : Int → Int), g' ≤ g ∧ (g' = g → p < p') ∧ topOk w' a t g' p' n nt nw dl sg pi an br bs' ow' ∧ dl p' = 0 ∧ sg p' = 0))) ∨ (w' 275 100 = 1 ∧ w' 276 (1260 * t + 416) = 2 ∧ topOk w' a t g (p + 1) n nt nw dl sg pi an br bs ow ∧ dl (p + 1) = 0))) := by
                    intro nn
                    induction nn with
                    | zero => intro y6 v2 hj hm; obtain ⟨j19, j20, j21, j22, j23⟩ := hj; exfalso; omega
                    | succ nn ih18 =>
                      intro y6 v2 hj hm
                      obtain ⟨j19, j20, j21, j22, j23⟩ := hj
                      refine e_Ok.run (t' := (157, [(0, (1, 275)), (1, (0, w 329 (10000 * a + p))), (2, (0, p)), (4, (0, 36 * a + 16)), (6, (0, y6))], [(0, w 329 (10000 * a + p)), (0, y6)], v2)) 2 rfl ?_
                      refine e_Ok.if2 rfl (fun h24 => ?_) (fun h24 => ?_)
                      · replace h24 : (y6 : Int) ≥ w 329 (10000 * a + p) := h24
                        refine e_Ok.ps2 (x := (1, 275)) (y := (1, 275)) (q := 188) 2 rfl ?_
                        refine e_Ok.getf (z := a) rfl (el_o rfl) rfl (ef_o rfl) ((j23 275 98 (by first | exact no_78_0 | (unfold mGo; omega))).trans h98) (by omega) ?_
                        refine e_Ok.callV rfl (e_dq hd rfl) rfl rfl rfl rfl (c_381 (e_dq hd rfl) j20 (mCf.fr hCf (fun c k q => ((j23 c k (by unfold mGo; omega)).trans rfl))) (by omega)) (fun r25 w26 h27 => ?_)
                        obtain ⟨rfl, q28, q28T, q28s⟩ := h27
                        refine e_Ok.nrm (q := 194) (st' := []) rfl rfl ?_
                        refine e_Ok.ps1 (x := (1, 275)) (q := 195) 1 rfl ?_
                        refine e_Ok.getr (z := 276) rfl (el_o rfl) rfl (ef_o rfl) ((q28 275 0 (by first | exact no_78_1 | (unfold mBe; omega))).trans ((j23 275 0 (by first | exact no_78_0 | (unfold mGo; omega))).trans (e_Has.eq hT (mt_o rfl)))) ⟨by decide, by decide⟩ ?_
                        refine e_Ok.ps2 (x := (0, 9)) (y := (0, 36 * a + 16)) (q := 202) 2 rfl ?_
                        refine e_Ok.add (z := 36 * a + 25) rfl (e_adl (by decide)) (by omega) ?_
                        refine e_Ok.ps1 (x := (1, 275)) (q := 204) 1 rfl ?_
                        refine e_Ok.getf (z := t) rfl (el_o rfl) rfl (ef_o rfl) ((q28 275 96 (by first | exact no_78_1 | (unfold mBe; omega))).trans ((j23 275 96 (by first | exact no_78_0 | (unfold mGo; omega))).trans h96)) (by omega) ?_
                        refine e_Ok.ast rfl (el_o rfl) rfl rfl (by omega) ?_
                        generalize hw30 : e_up w26 276 (36 * a + 25) t = w30
                        have hT32 : e_Has mTy w30 := e_Has.upr q28T hw30 (nR_MOVER (a := a) (by omega)) (by omega)
                        refine e_Ok.ps1 (x := (1, 275)) (q := 209) 1 rfl ?_
                        refine e_Ok.getr (z := 276) rfl (el_o rfl) rfl (ef_o rfl) (e_uq hw30 (Or.inl (by decide)) ((q28 275 0 (by first | exact no_78_1 | (unfold mBe; omega))).trans ((j23 275 0 (by first | exact no_78_0 | (unfold mGo; omega))).trans (e_Has.eq hT (mt_o rfl))))) ⟨by decide, by decide⟩ ?_
                        refine e_Ok.ps1 (x := (1, 275)) (q := 213) 1 rfl ?_
                        refine e_Ok.getf (z := 1260 * t + 416) rfl (el_o rfl) rfl (ef_o rfl) (e_uq hw30 (Or.inl (by decide)) ((q28 275 97 (by first | exact no_78_1 | (unfold mBe; omega))).trans ((j23 275 97 (by first | exact no_78_0 | (unfold mGo; omega))).trans h97))) (by omega) ?_
                        refine e_Ok.ps1 (x := (0, 2)) (q := 217) 1 rfl ?_
                        refine e_Ok.ast rfl (el_o rfl) rfl rfl (by omega) ?_
                        generalize hw33 : e_up w30 276 (1260 * t + 416) 2 = w33
                        have hT35 : e_Has mTy w33 := e_Has.upr hT32 hw33 (nR_TSTATE (t := t) (by omega)) (by omega)
                        refine e_Ok.ps1 (x := (1, 275)) (q := 219) 1 rfl ?_
                        refine e_Ok.getr (z := 276) rfl (el_o rfl) rfl (ef_o rfl) (e_uq hw33 (Or.inl (by decide)) (e_uq hw30 (Or.inl (by decide)) ((q28 275 0 (by first | exact no_78_1 | (unfold mBe; omega))).trans ((j23 275 0 (by first | exact no_78_0 | (unfold mGo; omega))).trans (e_Has.eq hT (mt_o rfl)))))) ⟨by decide, by decide⟩ ?_
                        refine e_Ok.ps1 (x := (1, 275)) (q := 223) 1 rfl ?_
                        refine e_Ok.getf (z := 1260 * t + 416) rfl (el_o rfl) rfl (ef_o rfl) (e_uq hw33 (Or.inl (by decide)) (e_uq hw30 (Or.inl (by decide)) ((q28 275 97 (by first | exact no_78_1 | (unfold mBe; omega))).trans ((j23 275 97 (by first | exact no_78_0 | (unfold mGo; omega))).trans h97)))) (by omega) ?_
                        refine e_Ok.ps1 (x := (0, 7)) (q := 228) 1 rfl ?_
                        refine e_Ok.add (z := 1260 * t + 423) rfl (e_adl (by decide)) (by omega) ?_
                        refine e_Ok.ps1 (x := (0, 0)) (q := 230) 1 rfl ?_
                        refine e_Ok.ast rfl (el_o rfl) rfl rfl (by omega) ?_
                        generalize hw36 : e_up w33 276 (1260 * t + 423) 0 = w36
                        have hT38 : e_Has mTy w36 := e_Has.upr hT35 hw36 (nR_BROKEN (t := t) (by omega)) (by omega)
                        refine e_Ok.ps2 (x := (0, 1)) (y := (1, 275)) (q := 233) 2 rfl ?_
                        refine e_Ok.putb rfl (el_o rfl) rfl (ef_o rfl) (by omega) ?_
                        generalize hw40 : e_up w36 275 100 1 = w40
                        have hT42 : e_Has mTy w40 := e_Has.ups hT38 hw40 (mt_o rfl)
                        refine e_Ok.ps3 (x := (0, 1)) (y := (0, p)) (z := (1, 275)) (q := 239) 3 rfl ?_
                        refine e_Ok.add (z := p + 1) rfl rfl (by omega) ?_
                        refine e_Ok.callV rfl (e_dq hd rfl) rfl rfl rfl rfl (c_365 (e_dq hd rfl) hT42 (by omega) (e_uq hw40 (Or.inr (by first | decide | omega)) (e_uq hw36 (Or.inl (by first | decide | omega)) (e_uq hw33 (Or.inl (by first | decide | omega)) (e_uq hw30 (Or.inl (by first | decide | omega)) ((q28 275 97 (by first | exact no_78_1 | (unfold mBe; omega))).trans ((j23 275 97 (by first | exact no_78_0 | (unfold mGo; omega))).trans h97)))))) (f := g + 1) (z := 1260 * t + 2 * g + 436) (e_uq hw40 (Or.inl (by first | decide | omega)) (e_uq hw36 (Or.inr (by omega)) (e_uq hw33 (Or.inr (by omega)) (e_uq hw30 (Or.inr (by omega)) ((q28 276 (1260 * t + 428) (by first | exact no_78_2 (by omega) (by omega) | (unfold mBe; omega))).trans ((j23 276 (1260 * t + 428) (by first | exact no_78_3 (by omega) (by omega) | (unfold mGo; omega))).trans hF)))))) (by omega) (by omega)) (fun r43 w44 h45 => ?_)
                        obtain ⟨rfl, hw44⟩ := h45
                        have f46 : e_fr (mMv t a) w w44 := e_fr.up (show e_fr (mMv t a) w w40 from e_fr.up (show e_fr (mMv t a) w w36 from e_fr.up (show e_fr (mMv t a) w w33 from e_fr.up (show e_fr (mMv t a) w w30 from e_fr.up (show e_fr (mMv t a) w w26 from e_fr.trans j19 (e_fr.mono q28 (fun c k q => by first | exact su_78_21 q | (unfold mBe at q; unfold mMv mLv; omega)))) hw30 (by first | exact Or.inl (Or.inr ⟨rfl, Or.inr (Or.inr (Or.inr (Or.inl ⟨(by omega), ⟨(by omega), Or.inr (Or.inr (Or.inr (by omega)))⟩⟩)))⟩) | (unfold mMv mLv; omega))) hw33 (by first | exact Or.inl (Or.inr ⟨rfl, Or.inr (Or.inr (Or.inr (Or.inr (Or.inr (Or.inl (by omega))))))⟩) | (unfold mMv mLv; omega))) hw36 (by first | exact Or.inl (Or.inr ⟨rfl, Or.inr (Or.inr (Or.inr (Or.inr (Or.inl ⟨(by omega), ⟨(by omega), (by omega)⟩⟩))))⟩) | (unfold mMv mLv; omega))) hw40 (by first | exact Or.inl (Or.inl ⟨rfl, Or.inl rfl⟩) | (unfold mMv mLv; omega))) hw44 (by first | exact Or.inl (Or.inr ⟨rfl, Or.inr (Or.inr (Or.inr (Or.inr (Or.inr (Or.inr (Or.inr (Or.inr (Or.inr ⟨(by omega), (by omega)⟩))))))))⟩) | (unfold mMv mLv; omega))
                        have hT47 : e_Has mTy w44 := e_Has.upr hT42 hw44 (nR_FRg t (g) (by omega) (by omega) (by omega)) (by omega)
                        refine e_Ok.nrm (q := 243) (st' := []) rfl rfl ?_
                        refine e_Ok.rets rfl rfl ?_
                        have e48 : w44 276 5 = w 276 5 := (e_uq hw44 (Or.inr (by omega)) (e_uq hw40 (Or.inl (by decide)) (e_uq hw36 (Or.inr (by omega)) (e_uq hw33 (Or.inr (by omega)) (e_uq hw30 (Or.inr (by omega)) ((q28 276 5 (by first | exact no_78_4 (by omega) | (unfold mBe; omega))).trans ((j23 276 5 (by first | exact no_78_5 (by omega) | (unfold mGo; omega))).trans rfl)))))))
                        have hmo : mMo w44 (-1) := mMo.begin hMo (Or.inl rfl) (e_Has.mo hT) ha (by omega) (by omega) (fun c k q q2 => f46 c k (moK_mv ht ha q q2)) (fun b g1 g2 g3 => ⟨(e_uq hw44 (Or.inr (by omega)) (e_uq hw40 (Or.inl (by omega)) (e_uq hw36 (Or.inr (by omega)) (e_uq hw33 (Or.inr (by omega)) (e_uq hw30 (Or.inr (by omega)) ((q28 276 (36 * b + 16) (by unfold mBe; omega)).trans ((j23 276 (36 * b + 16) (by first | exact no_78_6 (by omega) (by omega) | (unfold mGo; omega))).trans rfl))))))), (e_uq hw44 (Or.inr (by omega)) (e_uq hw40 (Or.inl (by omega)) (e_uq hw36 (Or.inr (by omega)) (e_uq hw33 (Or.inr (by omega)) (e_uq hw30 (Or.inr (by omega)) ((q28 276 (36 * b + 22) (by first | exact no_78_7 (by omega) (by omega) | (unfold mBe; omega))).trans ((j23 276 (36 * b + 22) (by first | exact no_78_8 (by omega) (by omega) | (unfold mGo; omega))).trans rfl)))))))⟩) (e_uq hw44 (Or.inr (by omega)) (e_uq hw40 (Or.inl (by omega)) (e_uq hw36 (Or.inr (by omega)) (e_uq hw33 (Or.inr (by omega)) (e_uq hw30 (Or.inr (by omega)) q28s))))) (fun j g1 g2 => by rw [show w44 276 (36 * a + j + 44) = w 345 j from Eq.trans (e_uq hw44 (Or.inr (by omega)) (e_uq hw40 (Or.inl (by omega)) (e_uq hw36 (Or.inr (by omega)) (e_uq hw33 (Or.inr (by omega)) (e_uq hw30 (Or.inr (by omega)) ((q28 276 (36 * a + j + 44) (by first | exact no_78_9 (by omega) (by omega) | (unfold mBe; omega))).trans rfl)))))) (j22 j g1 (by omega))]; exact hfit.2 j g1 (by omega)) (fun e => by have e1 := ((hMo.2.1 a ha.1 ha.2).2 (Eq.trans (Eq.symm (e_uq hw44 (Or.inr (by omega)) (e_uq hw40 (Or.inl (by omega)) (e_uq hw36 (Or.inr (by omega)) (e_uq hw33 (Or.inr (by omega)) (e_uq hw30 (Or.inr (by omega)) ((q28 276 (36 * a + 22) (by first | exact no_78_10 (by omega) | (unfold mBe; omega))).trans ((j23 276 (36 * a + 22) (by first | exact no_78_11 (by omega) | (unfold mGo; omega))).trans rfl)))))))) e)).1; exfalso; omega)
                        have hrn := runOk.fr (w' := w44) (fun c k q1 q2 => (e_uq hw44 (Or.inl (by omega)) (e_uq hw40 (Or.inl (by omega)) (e_uq hw36 (Or.inl (by omega)) (e_uq hw33 (Or.inl (by omega)) (e_uq hw30 (Or.inl (by omega)) ((q28 c k (by unfold mBe; omega)).trans ((j23 c k (by unfold mGo; omega)).trans rfl)))))))) (fun i q1 q2 => ⟨(e_uq hw44 (Or.inr (by omega)) (e_uq hw40 (Or.inl (by omega)) (e_uq hw36 (Or.inr (by omega)) (e_uq hw33 (Or.inr (by omega)) (e_uq hw30 (Or.inr (by omega)) ((q28 276 (1260 * t + 2 * i + 436) (by first | exact no_78_12 (by omega) (by omega) (by omega) | (unfold mBe; omega))).trans ((j23 276 (1260 * t + 2 * i + 436) (by first | exact no_78_13 (by omega) (by omega) (by omega) | (unfold mGo; omega))).trans rfl))))))), (e_uq hw44 (Or.inr (by omega)) (e_uq hw40 (Or.inl (by omega)) (e_uq hw36 (Or.inr (by omega)) (e_uq hw33 (Or.inr (by omega)) (e_uq hw30 (Or.inr (by omega)) ((q28 276 (1260 * t + 2 * i + 439) (by first | exact no_78_14 (by omega) (by omega) (by omega) | (unfold mBe; omega))).trans ((j23 276 (1260 * t + 2 * i + 439) (by first | exact no_78_15 (by omega) (by omega) (by omega) | (unfold mGo; omega))).trans rfl)))))))⟩) (e_uq hw44 (Or.inr (by omega)) (e_uq hw40 (Or.inl (by omega)) (e_uq hw36 (Or.inr (by omega)) (e_uq hw33 (Or.inr (by omega)) (e_uq hw30 (Or.inr (by omega)) ((q28 276 (1260 * t + 428) (by first | exact no_78_2 (by omega) (by omega) | (unfold mBe; omega))).trans ((j23 276 (1260 * t + 428) (by first | exact no_78_3 (by omega) (by omega) | (unfold mGo; omega))).trans rfl))))))) (e_uq hw44 (Or.inr (by omega)) (e_uq hw40 (Or.inl (by omega)) (e_uq hw36 (Or.inr (by omega)) (e_uq hw33 (Or.inr (by omega)) (e_uq hw30 (Or.inr (by omega)) ((q28 276 (1260 * t + 429) (by first | exact no_78_16 (by omega) (by omega) | (unfold mBe; omega))).trans ((j23 276 (1260 * t + 429) (by first | exact no_78_17 (by omega) (by omega) | (unfold mGo; omega))).trans rfl))))))) (fun k q1 q2 => (e_uq hw44 (Or.inr (by omega)) (e_uq hw40 (Or.inl (by omega)) (e_uq hw36 (Or.inr (by omega)) (e_uq hw33 (Or.inr (by omega)) (e_uq hw30 (Or.inr (by omega)) ((q28 276 (1260 * t + k + 476) (by unfold mBe; omega)).trans ((j23 276 (1260 * t + k + 476) (by unfold mGo; omega)).trans rfl)))))))) (by omega) hru
                        have erg : w44 330 (10000 * a + (p + 1)) = w 330 (10000 * a + p) := by rw [show 10000 * a + (p + 1) = 10000 * a + p + 1 by omega]; exact Eq.trans (e_uq hw44 (Or.inl (by first | decide | omega)) (e_uq hw40 (Or.inl (by first | decide | omega)) (e_uq hw36 (Or.inl (by first | decide | omega)) (e_uq hw33 (Or.inl (by first | decide | omega)) (e_uq hw30 (Or.inl (by first | decide | omega)) ((q28 330 (10000 * a + p + 1) (by first | exact no_78_18 | (unfold mBe; omega))).trans ((j23 330 (10000 * a + p + 1) (by first | exact no_78_19 | (unfold mGo; omega))).trans rfl))))))) k8.1.2
                        exact ⟨rfl, f46, hT47, by omega, hmo, Or.inr ⟨(e_uq hw44 (Or.inl (by first | decide | omega)) (e_ue hw40)), (e_uq hw44 (Or.inr (by omega)) (e_uq hw40 (Or.inl (by first | decide | omega)) (e_uq hw36 (Or.inr (by omega)) (e_ue hw33)))), runOk.at hrn (by omega) (e_ue hw44) erg, by omega⟩⟩
                      · replace h24 : (y6 : Int) < w 329 (10000 * a + p) := Int.not_le.mp (show ¬ ((y6 : Int) ≥ w 329 (10000 * a + p)) from h24)
                        have hgl := hfit.2 y6 (by omega) (by omega)
                        have hb288 := e_Has.get hT (c := 288) (k := 6 * a + y6) (lo := -100000) (hi := 0) (mt_o rfl) (by decide)
                        have hb289 := e_Has.get hT (c := 289) (k := 6 * a + y6) (lo := 0) (hi := 100000) (mt_o rfl) (by decide)
                        refine e_Ok.ps1 (x := (1, 275)) (q := 161) 1 rfl ?_
                        refine e_Ok.getr (z := 276) rfl (el_o rfl) rfl (ef_o rfl) ((j23 275 0 (by first | exact no_78_0 | (unfold mGo; omega))).trans (e_Has.eq hT (mt_o rfl))) ⟨by decide, by decide⟩ ?_
                        refine e_Ok.ps2 (x := (0, 28)) (y := (0, 36 * a + 16)) (q := 168) 2 rfl ?_
                        refine e_Ok.add (z := 36 * a + 44) rfl (e_adl (by decide)) (by omega) ?_
                        refine e_Ok.ps1 (x := (0, y6)) (q := 171) 1 rfl ?_
                        refine e_Ok.add (z := 36 * a + y6 + 44) rfl (by omega) (by omega) ?_
                        refine e_Ok.ps1 (x := (1, 275)) (q := 173) 1 rfl ?_
                        refine e_Ok.getr (z := 345) rfl (el_o rfl) rfl (ef_o rfl) ((j23 275 101 (by first | exact no_78_0 | (unfold mGo; omega))).trans (e_Has.eq hT (mt_o rfl))) ⟨by decide, by decide⟩ ?_
                        refine e_Ok.ps1 (x := (0, y6)) (q := 178) 1 rfl ?_
                        have h49 := (hst y6 (by omega) (by omega))
                        refine e_Ok.ald (z := w 345 y6) rfl (el_o rfl) rfl (by omega) ((j23 345 y6 (by first | exact no_78_20 | (unfold mGo; omega))).trans rfl) (by omega) ?_
                        refine e_Ok.ast rfl (el_o rfl) rfl rfl (by omega) ?_
                        generalize hw50 : e_up v2 276 (36 * a + y6 + 44) (w 345 y6) = w50
                        have hT52 : e_Has mTy w50 := e_Has.upr j20 hw50 (nR_GOAL (a := a) (j := y6) (by omega) (by omega)) (by omega)
                        refine e_Ok.inc (z := y6 + 1) rfl rfl (by first | with_reducible rfl | omega) (by omega) ?_
                        show e_Ok 20 elay ecode eI (d + 1) 380 (183, [(6, (0, y6 + 1)), (0, (1, 275)), (1, (0, w 329 (10000 * a + p))), (2, (0, p)), (4, (0, 36 * a + 16))], [], w50) _
                        refine e_Ok.ps0 (q := 154) 1 rfl ?_
                        refine e_Ok.sub eAlk (e_sub_of rfl ?_) (ih18 (y6 + 1) w50 ⟨(show e_fr (mMv t a) w w50 from e_fr.up j19 hw50 (by unfold mMv mLv; omega)), hT52, by omega, (fun j g1 g2 => Decidable.byCases (p := j = y6) (fun e => by rw [e, ← hw50]; exact e_up_eq _ _ _ _) (fun e => Eq.trans (e_un hw50 (Or.inr (by omega))) (j22 j g1 (by omega)))), (e_fr.up j23 hw50 (by unfold mGo; omega))⟩ (by omega))
                        exact ⟨rfl, rfl, rfl, rfl, rfl, trivial⟩
                  refine e_Ok.sub eAlk (e_sub_of rfl ?_) (hL17 (7 + 1 : Int).toNat 0 w ⟨(e_fr.refl w), hT, by omega, (fun j g1 g2 => by omega), (e_fr.refl w)⟩ (by omega))
                  exact ⟨rfl, rfl, rfl, rfl, rfl, trivial⟩
                · replace h16 : (0 : Int) ≠ 0 := (show ¬ ((0 : Int) = 0) from h16)
                  exfalso; omega
              · replace h15 : (w 276 1 : Int) = 0 := Classical.not_not.mp (show ¬ ((w 276 1 : Int) ≠ 0) from h15)
                refine e_Ok.run (t' := (141, [(5, (0, 5)), (4, (0, 36 * a + 16)), (0, (1, 275)), (1, (0, w 329 (10000 * a + p))), (2, (0, p)), (3, (0, y3))], [(0, 5)], w)) 4 rfl ?_
                refine e_Ok.if1 rfl (fun h53 => ?_) (fun h53 => ?_)
                · replace h53 : (5 : Int) = 0 := h53
                  exfalso; omega
                · replace h53 : (5 : Int) ≠ 0 := (show ¬ ((5 : Int) = 0) from h53)
                  refine e_Ok.ps2 (x := (0, 5)) (y := (1, 275)) (q := 147) 2 rfl ?_
                  refine e_Ok.callV rfl (e_dq hd rfl) rfl rfl rfl rfl (c_369 (e_dq hd rfl) hT (by omega) (by omega) h96 h97 h98 hC hP (by omega) (by omega)) (fun r54 w55 h56 => ?_)
                  obtain ⟨rfl, ⟨q57, q57S⟩, q57T, q57n, q57d, q57c⟩ := h56
                  refine e_Ok.nrm (q := 150) (st' := []) rfl rfl ?_
                  refine e_Ok.rets rfl rfl ?_
                  exact ⟨rfl, (show e_fr (mMv t a) w w55 from e_fr.trans (e_fr.refl w) (e_fr.mono q57 (fun c k q => by exact Or.inl q))), q57T, by omega, mMo.rel hMo (e_Has.mo hT) hCf (sRel.trans sRel.refl q57S) (fun c k q => q57 c k (moK_lv ht q)), Or.inl ⟨q57d, q57c⟩⟩
            · replace h13 : (w 276 (36 * a + 16) : Int) ≠ 0 := (show ¬ ((w 276 (36 * a + 16) : Int) = 0) from h13)
              refine e_Ok.run (t' := (141, [(5, (0, 4)), (4, (0, 36 * a + 16)), (0, (1, 275)), (1, (0, w 329 (10000 * a + p))), (2, (0, p)), (3, (0, y3))], [(0, 4)], w)) 4 rfl ?_
              refine e_Ok.if1 rfl (fun h59 => ?_) (fun h59 => ?_)
              · replace h59 : (4 : Int) = 0 := h59
                exfalso; omega
              · replace h59 : (4 : Int) ≠ 0 := (show ¬ ((4 : Int) = 0) from h59)
                refine e_Ok.ps2 (x := (0, 4)) (y := (1, 275)) (q := 147) 2 rfl ?_
                refine e_Ok.callV rfl (e_dq hd rfl) rfl rfl rfl rfl (c_369 (e_dq hd rfl) hT (by omega) (by omega) h96 h97 h98 hC hP (by omega) (by omega)) (fun r60 w61 h62 => ?_)
                obtain ⟨rfl, ⟨q63, q63S⟩, q63T, q63n, q63d, q63c⟩ := h62
                refine e_Ok.nrm (q := 150) (st' := []) rfl rfl ?_
                refine e_Ok.rets rfl rfl ?_
                exact ⟨rfl, (show e_fr (mMv t a) w w61 from e_fr.trans (e_fr.refl w) (e_fr.mono q63 (fun c k q => by exact Or.inl q))), q63T, by omega, mMo.rel hMo (e_Has.mo hT) hCf (sRel.trans sRel.refl q63S) (fun c k q => q63 c k (moK_lv ht q)), Or.inl ⟨q63d, q63c⟩⟩
          · replace h11 : (y3 : Int) = 0 := Classical.not_not.mp (show ¬ ((y3 : Int) ≠ 0) from h11)
            refine e_Ok.run (t' := (141, [(5, (0, 3)), (4, (0, 36 * a + 16)), (0, (1, 275)), (1, (0, w 329 (10000 * a + p))), (2, (0, p)), (3, (0, y3))], [(0, 3)], w)) 4 rfl ?_
            refine e_Ok.if1 rfl (fun h65 => ?_) (fun h65 => ?_)
            · replace h65 : (3 : Int) = 0 := h65
              exfalso; omega
            · replace h65 : (3 : Int) ≠ 0 := (show ¬ ((3 : Int) = 0) from h65)
              refine e_Ok.ps2 (x := (0, 3)) (y := (1, 275)) (q := 147) 2 rfl ?_
              refine e_Ok.callV rfl (e_dq hd rfl) rfl rfl rfl rfl (c_369 (e_dq hd rfl) hT (by omega) (by omega) h96 h97 h98 hC hP (by omega) (by omega)) (fun r66 w67 h68 => ?_)
              obtain ⟨rfl, ⟨q69, q69S⟩, q69T, q69n, q69d, q69c⟩ := h68
              refine e_Ok.nrm (q := 150) (st' := []) rfl rfl ?_
              refine e_Ok.rets rfl rfl ?_
              exact ⟨rfl, (show e_fr (mMv t a) w w67 from e_fr.trans (e_fr.refl w) (e_fr.mono q69 (fun c k q => by exact Or.inl q))), q69T, by omega, mMo.rel hMo (e_Has.mo hT) hCf (sRel.trans sRel.refl q69S) (fun c k q => q69 c k (moK_lv ht q)), Or.inl ⟨q69d, q69c⟩⟩
        · replace h7 : (y4 : Int) < w 286 a := Int.not_le.mp (show ¬ ((y4 : Int) ≥ w 286 a) from h7)
          refine e_Ok.ps1 (x := (0, y3)) (q := 37) 1 rfl ?_
          refine e_Ok.if1 rfl (fun h71 => ?_) (fun h71 => ?_)
          · replace h71 : (y3 : Int) = 0 := h71
            refine e_Ok.ps1 (x := (1, 275)) (q := 91) 1 rfl ?_
            refine e_Ok.getf (z := a) rfl (el_o rfl) rfl (ef_o rfl) h98 (by omega) ?_
            refine e_Ok.callS rfl (e_dq hd rfl) rfl rfl (c_268 (by omega)) (fun r72 w73 h74 => ?_)
            obtain ⟨rfl, rfl⟩ := h74
            refine e_Ok.nrm (q := 97) (st' := [(0, 36 * a + 16)]) rfl rfl ?_
            refine e_Ok.run (t' := (100, [(4, (0, 36 * a + 16)), (0, (1, 275)), (1, (0, w 329 (10000 * a + p))), (2, (0, p)), (3, (0, y3))], [(0, y3)], w)) 2 rfl ?_
            refine e_Ok.if1 rfl (fun h75 => ?_) (fun h75 => ?_)
            · replace h75 : (y3 : Int) ≠ 0 := h75
              exfalso; omega
            · replace h75 : (y3 : Int) = 0 := Classical.not_not.mp (show ¬ ((y3 : Int) ≠ 0) from h75)
              refine e_Ok.run (t' := (141, [(5, (0, 3)), (4, (0, 36 * a + 16)), (0, (1, 275)), (1, (0, w 329 (10000 * a + p))), (2, (0, p)), (3, (0, y3))], [(0, 3)], w)) 4 rfl ?_
              refine e_Ok.if1 rfl (fun h76 => ?_) (fun h76 => ?_)
              · replace h76 : (3 : Int) = 0 := h76
                exfalso; omega
              · replace h76 : (3 : Int) ≠ 0 := (show ¬ ((3 : Int) = 0) from h76)
                refine e_Ok.ps2 (x := (0, 3)) (y := (1, 275)) (q := 147) 2 rfl ?_
                refine e_Ok.callV rfl (e_dq hd rfl) rfl rfl rfl rfl (c_369 (e_dq hd rfl) hT (by omega) (by omega) h96 h97 h98 hC hP (by omega) (by omega)) (fun r77 w78 h79 => ?_)
                obtain ⟨rfl, ⟨q80, q80S⟩, q80T, q80n, q80d, q80c⟩ := h79
                refine e_Ok.nrm (q := 150) (st' := []) rfl rfl ?_
                refine e_Ok.rets rfl rfl ?_
                exact ⟨rfl, (show e_fr (mMv t a) w w78 from e_fr.trans (e_fr.refl w) (e_fr.mono q80 (fun c k q => by exact Or.inl q))), q80T, by omega, mMo.rel hMo (e_Has.mo hT) hCf (sRel.trans sRel.refl q80S) (fun c k q => q80 c k (moK_lv ht q)), Or.inl ⟨q80d, q80c⟩⟩
          · replace h71 : (y3 : Int) ≠ 0 := (show ¬ ((y3 : Int) = 0) from h71)
            have hfi := j6 (by omega)
            refine e_Ok.ps1 (x := (1, 275)) (q := 41) 1 rfl ?_
            refine e_Ok.getr (z := 345) rfl (el_o rfl) rfl (ef_o rfl) (e_Has.eq hT (mt_o rfl)) ⟨by decide, by decide⟩ ?_
            refine e_Ok.ps1 (x := (0, y4)) (q := 46) 1 rfl ?_
            have h82 := (hst y4 (by omega) (by omega))
            refine e_Ok.ald (z := w 345 y4) rfl (el_o rfl) rfl (by omega) rfl (by omega) ?_
            refine e_Ok.run (t' := (49, [(0, (1, 275)), (1, (0, w 329 (10000 * a + p))), (2, (0, p)), (3, (0, y3)), (4, (0, y4))], [(1, 275), (4, w 345 y4)], w)) 2 rfl ?_
            refine e_Ok.getr (z := 288) rfl (el_o rfl) rfl (ef_o rfl) (e_Has.eq hT (mt_o rfl)) ⟨by decide, by decide⟩ ?_
            refine e_Ok.ps2 (x := (1, 275)) (y := (0, 6)) (q := 55) 2 rfl ?_
            refine e_Ok.getf (z := a) rfl (el_o rfl) rfl (ef_o rfl) h98 (by omega) ?_
            refine e_Ok.mul (z := 6 * a) rfl rfl (by omega) ?_
            refine e_Ok.ps1 (x := (0, y4)) (q := 61) 1 rfl ?_
            refine e_Ok.add (z := 6 * a + y4) rfl rfl (by omega) ?_
            have h83 := (e_Has.get hT (c := 288) (k := 6 * a + y4) (lo := (-100000)) (hi := 0) (mt_o rfl) (by decide))
            refine e_Ok.ald (z := w 288 (6 * a + y4)) rfl (el_o rfl) rfl (by omega) rfl (e_bq h83 (by decide) (by decide)) ?_
            refine e_Ok.run (t' := (65, [(0, (1, 275)), (1, (0, w 329 (10000 * a + p))), (2, (0, p)), (3, (0, y3)), (4, (0, y4))], [(1, 275), (4, w 288 (6 * a + y4)), (4, w 345 y4)], w)) 2 rfl ?_
            refine e_Ok.getr (z := 289) rfl (el_o rfl) rfl (ef_o rfl) (e_Has.eq hT (mt_o rfl)) ⟨by decide, by decide⟩ ?_
            refine e_Ok.ps2 (x := (1, 275)) (y := (0, 6)) (q := 71) 2 rfl ?_
            refine e_Ok.getf (z := a) rfl (el_o rfl) rfl (ef_o rfl) h98 (by omega) ?_
            refine e_Ok.mul (z := 6 * a) rfl rfl (by omega) ?_
            refine e_Ok.ps1 (x := (0, y4)) (q := 77) 1 rfl ?_
            refine e_Ok.add (z := 6 * a + y4) rfl rfl (by omega) ?_
            have h84 := (e_Has.get hT (c := 289) (k := 6 * a + y4) (lo := 0) (hi := 100000) (mt_o rfl) (by decide))
            refine e_Ok.ald (z := w 289 (6 * a + y4)) rfl (el_o rfl) rfl (by omega) rfl (e_bq h84 (by decide) (by decide)) ?_
            refine e_Ok.run (t' := (80, [(0, (1, 275)), (1, (0, w 329 (10000 * a + p))), (2, (0, p)), (3, (0, y3)), (4, (0, y4))], [(4, w 289 (6 * a + y4)), (4, w 288 (6 * a + y4)), (4, w 345 y4)], w)) 1 rfl ?_
            refine e_Ok.callS rfl (e_dq hd rfl) rfl rfl (c_266) (fun r85 w86 h87 => ?_)
            obtain ⟨z88, rfl, rfl, q89⟩ := h87
            obtain ⟨rfl, q89⟩ | ⟨rfl, q89⟩ := q89
            · refine e_Ok.nrm (q := 83) (st' := [(0, 1)]) rfl rfl ?_
              refine e_Ok.run (t' := (84, [(3, (0, 1)), (0, (1, 275)), (1, (0, w 329 (10000 * a + p))), (2, (0, p)), (4, (0, y4))], [], w)) 1 rfl ?_
              refine e_Ok.inc (z := y4 + 1) rfl rfl (by first | with_reducible rfl | omega) (by omega) ?_
              show e_Ok 20 elay ecode eI (d + 1) 380 (87, [(4, (0, y4 + 1)), (3, (0, 1)), (0, (1, 275)), (1, (0, w 329 (10000 * a + p))), (2, (0, p))], [], w) _
              refine e_Ok.ps0 (q := 22) 1 rfl ?_
              refine e_Ok.sub eAlk (e_sub_of rfl ?_) (ih3 1 (y4 + 1) ⟨by omega, by omega, (fun _ => ⟨hfi.1, fun j g1 g2 => Decidable.byCases (p := j = y4) (fun e => by rw [e]; omega) (fun e => hfi.2 j g1 (by omega))⟩)⟩ (by omega))
              exact ⟨rfl, rfl, rfl, rfl, rfl, trivial⟩
            · refine e_Ok.nrm (q := 83) (st' := [(0, 0)]) rfl rfl ?_
              refine e_Ok.run (t' := (84, [(3, (0, 0)), (0, (1, 275)), (1, (0, w 329 (10000 * a + p))), (2, (0, p)), (4, (0, y4))], [], w)) 1 rfl ?_
              refine e_Ok.inc (z := y4 + 1) rfl rfl (by first | with_reducible rfl | omega) (by omega) ?_
              show e_Ok 20 elay ecode eI (d + 1) 380 (87, [(4, (0, y4 + 1)), (3, (0, 0)), (0, (1, 275)), (1, (0, w 329 (10000 * a + p))), (2, (0, p))], [], w) _
              refine e_Ok.ps0 (q := 22) 1 rfl ?_
              refine e_Ok.sub eAlk (e_sub_of rfl ?_) (ih3 0 (y4 + 1) ⟨by omega, by omega, (fun e => by omega)⟩ (by omega))
              exact ⟨rfl, rfl, rfl, rfl, rfl, trivial⟩
    refine e_Ok.sub eAlk (e_sub_of rfl ?_) (hL2 (7 + 1 : Int).toNat 0 0 ⟨by omega, by omega, (fun e => ⟨by omega, fun j g1 g2 => by omega⟩)⟩ (by omega))
    exact ⟨rfl, rfl, rfl, rfl, rfl, trivial⟩
  · replace h1 : (w 329 (10000 * a + p) : Int) = w 286 a := Classical.not_not.mp (show ¬ ((w 329 (10000 * a + p) : Int) ≠ w 286 a) from h1)
    refine e_Ok.run (t' := (22, [(4, (0, 0)), (3, (0, 1)), (0, (1, 275)), (1, (0, w 329 (10000 * a + p))), (2, (0, p))], [], w)) 5 rfl ?_
    have hL90 : ∀ (nn : Nat) (y3 : Int) (y4 : Int), (0 ≤ y3 ∧ y3 ≤ 1) ∧ (0 ≤ y4 ∧ y4 ≤ 6) ∧ ((y3 = 1 → w 329 (10000 * a + p) = w 286 a ∧ ∀ j, 0 ≤ j → j < y4 → w 288 (6 * a + j) ≤ w 345 j ∧ w 345 j ≤ w 289 (6 * a + j))) → 7 - y4 < nn → e_Ok 20 elay ecode eI (d + 1) 380 (22, [(0, (1, 275)), (1, (0, w 329 (10000 * a + p))), (2, (0, p)), (3, (0, y3)), (4, (0, y4))], [], w) (fun r' w' => r' = [] ∧ e_fr (mMv t a) w w' ∧ e_Has mTy w' ∧ (w 276 5 ≤ w' 276 5 ∧ w' 276 5 ≤ w 276 5 + 2) ∧ mMo w' (-1) ∧ ((w' 275 102 = 0 ∧ ((w' 275 100 = 1 ∧ (w' 276 (1260 * t + 416) = 6 ∨ w' 276 (1260 * t + 416) = 7)) ∨ (w' 275 100 = w 275 100 ∧ w' 276 (1260 * t + 416) = w 276 (1260 * t + 416) ∧ w' 276 5 = w 276 5 ∧ ∃ (g' p' : Int) (bs' ow' : Int → Int), g' ≤ g ∧ (g' = g → p < p') ∧ topOk w' a t g' p' n nt nw dl sg pi an br bs' ow' ∧ dl p' = 0 ∧ sg p' = 0))) ∨ (w' 275 100 = 1 ∧ w' 276 (1260 * t + 416) = 2 ∧ topOk w' a t g (p + 1) n nt nw dl sg pi an br bs ow ∧ dl (p + 1) = 0))) := by
      intro nn
      induction nn with
      | zero => intro y3 y4 hj hm; obtain ⟨j92, j93, j94⟩ := hj; exfalso; omega
      | succ nn ih91 =>
        intro y3 y4 hj hm
        obtain ⟨j92, j93, j94⟩ := hj
        refine e_Ok.run (t' := (25, [(0, (1, 275)), (1, (0, w 329 (10000 * a + p))), (2, (0, p)), (3, (0, y3)), (4, (0, y4))], [(1, 275), (0, y4)], w)) 2 rfl ?_
        refine e_Ok.getr (z := 286) rfl (el_o rfl) rfl (ef_o rfl) (e_Has.eq hT (mt_o rfl)) ⟨by decide, by decide⟩ ?_
        refine e_Ok.ps1 (x := (1, 275)) (q := 29) 1 rfl ?_
        refine e_Ok.getf (z := a) rfl (el_o rfl) rfl (ef_o rfl) h98 (by omega) ?_
        refine e_Ok.ald (z := w 286 a) rfl (el_o rfl) rfl (by omega) rfl (by omega) ?_
        refine e_Ok.if2 rfl (fun h95 => ?_) (fun h95 => ?_)
        · replace h95 : (y4 : Int) ≥ w 286 a := h95
          refine e_Ok.ps1 (x := (1, 275)) (q := 91) 1 rfl ?_
          refine e_Ok.getf (z := a) rfl (el_o rfl) rfl (ef_o rfl) h98 (by omega) ?_
          refine e_Ok.callS rfl (e_dq hd rfl) rfl rfl (c_268 (by omega)) (fun r101 w103 h104 => ?_)
          obtain ⟨rfl, rfl⟩ := h104
          refine e_Ok.nrm (q := 97) (st' := [(0, 36 * a + 16)]) rfl rfl ?_
          refine e_Ok.run (t' := (100, [(4, (0, 36 * a + 16)), (0, (1, 275)), (1, (0, w 329 (10000 * a + p))), (2, (0, p)), (3, (0, y3))], [(0, y3)], w)) 2 rfl ?_
          refine e_Ok.if1 rfl (fun h105 => ?_) (fun h105 => ?_)
          · replace h105 : (y3 : Int) ≠ 0 := h105
            refine e_Ok.ps1 (x := (1, 275)) (q := 108) 1 rfl ?_
            refine e_Ok.getr (z := 276) rfl (el_o rfl) rfl (ef_o rfl) (e_Has.eq hT (mt_o rfl)) ⟨by decide, by decide⟩ ?_
            refine e_Ok.ps2 (x := (0, 0)) (y := (0, 36 * a + 16)) (q := 114) 2 rfl ?_
            refine e_Ok.add (z := 36 * a + 16) rfl (e_adl (by decide)) (by omega) ?_
            have h106 := (e_Has.get hT (c := 276) (k := 36 * a + 16) (lo := 0) (hi := 2) (nR_STATE (a := a) (by omega)) (by decide))
            refine e_Ok.ald (z := w 276 (36 * a + 16)) rfl (el_o rfl) rfl (by omega) rfl (e_bq h106 (by decide) (by decide)) ?_
            refine e_Ok.if1 rfl (fun h107 => ?_) (fun h107 => ?_)
            · replace h107 : (w 276 (36 * a + 16) : Int) = 0 := h107
              refine e_Ok.ps1 (x := (1, 275)) (q := 124) 1 rfl ?_
              refine e_Ok.getr (z := 276) rfl (el_o rfl) rfl (ef_o rfl) (e_Has.eq hT (mt_o rfl)) ⟨by decide, by decide⟩ ?_
              refine e_Ok.ps1 (x := (0, 1)) (q := 128) 1 rfl ?_
              have h108 := (e_Has.get hT (c := 276) (k := 1) (lo := 0) (hi := 1) (mt_o rfl) (by decide))
              refine e_Ok.ald (z := w 276 1) rfl (el_o rfl) rfl (by omega) rfl (e_bq h108 (by decide) (by decide)) ?_
              refine e_Ok.if1 rfl (fun h109 => ?_) (fun h109 => ?_)
              · replace h109 : (w 276 1 : Int) ≠ 0 := h109
                refine e_Ok.run (t' := (141, [(5, (0, 0)), (4, (0, 36 * a + 16)), (0, (1, 275)), (1, (0, w 329 (10000 * a + p))), (2, (0, p)), (3, (0, y3))], [(0, 0)], w)) 3 rfl ?_
                refine e_Ok.if1 rfl (fun h110 => ?_) (fun h110 => ?_)
                · replace h110 : (0 : Int) = 0 := h110
                  have hfit := j94 (by omega)
                  refine e_Ok.run (t' := (154, [(6, (0, 0)), (5, (0, 0)), (4, (0, 36 * a + 16)), (0, (1, 275)), (1, (0, w 329 (10000 * a + p))), (2, (0, p)), (3, (0, y3))], [], w)) 2 rfl ?_
                  have hL111 : ∀ (nn : Nat) (y6 : Int) (v2 : eW), e_fr (mMv t a) w v2 ∧ e_Has mTy v2 ∧ (0 ≤ y6 ∧ y6 ≤ 6) ∧ (∀ j, 0 ≤ j → j < y6 → v2 276 (36 * a + j + 44) = w 345 j) ∧ e_fr (mGo a) w v2 → 7 - y6 < nn → e_Ok 20 elay ecode eI (d + 1) 380 (154, [(0, (1, 275)), (1, (0, w 329 (10000 * a + p))), (2, (0, p)), (4, (0, 36 * a + 16)), (6, (0, y6))], [], v2) (fun r' w' => r' = [] ∧ e_fr (mMv t a) w w' ∧ e_Has mTy w' ∧ (w 276 5 ≤ w' 276 5 ∧ w' 276 5 ≤ w 276 5 + 2) ∧ mMo w' (-1) ∧ ((w' 275 102 = 0 ∧ ((w' 275 100 = 1 ∧ (w' 276 (1260 * t + 416) = 6 ∨ w' 276 (1260 * t + 416) = 7)) ∨ (w' 275 100 = w 275 100 ∧ w' 276 (1260 * t + 416) = w 276 (1260 * t + 416) ∧ w' 276 5 = w 276 5 ∧ ∃ (g' p' : Int) (bs' ow' : Int → Int), g' ≤ g ∧ (g' = g → p < p') ∧ topOk w' a t g' p' n nt nw dl sg pi an br bs' ow' ∧ dl p' = 0 ∧ sg p' = 0))) ∨ (w' 275 100 = 1 ∧ w' 276 (1260 * t + 416) = 2 ∧ topOk w' a t g (p + 1) n nt nw dl sg pi an br bs ow ∧ dl (p + 1) = 0))) := by
                    intro nn
                    induction nn with
                    | zero => intro y6 v2 hj hm; obtain ⟨j113, j114, j115, j116, j117⟩ := hj; exfalso; omega
                    | succ nn ih112 =>
                      intro y6 v2 hj hm
                      obtain ⟨j113, j114, j115, j116, j117⟩ := hj
                      refine e_Ok.run (t' := (157, [(0, (1, 275)), (1, (0, w 329 (10000 * a + p))), (2, (0, p)), (4, (0, 36 * a + 16)), (6, (0, y6))], [(0, w 329 (10000 * a + p)), (0, y6)], v2)) 2 rfl ?_
                      refine e_Ok.if2 rfl (fun h118 => ?_) (fun h118 => ?_)
                      · replace h118 : (y6 : Int) ≥ w 329 (10000 * a + p) := h118
                        refine e_Ok.ps2 (x := (1, 275)) (y := (1, 275)) (q := 188) 2 rfl ?_
                        refine e_Ok.getf (z := a) rfl (el_o rfl) rfl (ef_o rfl) ((j117 275 98 (by first | exact no_78_0 | (unfold mGo; omega))).trans h98) (by omega) ?_
                        refine e_Ok.callV rfl (e_dq hd rfl) rfl rfl rfl rfl (c_381 (e_dq hd rfl) j114 (mCf.fr hCf (fun c k q => ((j117 c k (by unfold mGo; omega)).trans rfl))) (by omega)) (fun r119 w120 h121 => ?_)
                        obtain ⟨rfl, q122, q122T, q122s⟩ := h121
                        refine e_Ok.nrm (q := 194) (st' := []) rfl rfl ?_
                        refine e_Ok.ps1 (x := (1, 275)) (q := 195) 1 rfl ?_
                        refine e_Ok.getr (z := 276) rfl (el_o rfl) rfl (ef_o rfl) ((q122 275 0 (by first | exact no_78_1 | (unfold mBe; omega))).trans ((j117 275 0 (by first | exact no_78_0 | (unfold mGo; omega))).trans (e_Has.eq hT (mt_o rfl)))) ⟨by decide, by decide⟩ ?_
                        refine e_Ok.ps2 (x := (0, 9)) (y := (0, 36 * a + 16)) (q := 202) 2 rfl ?_
                        refine e_Ok.add (z := 36 * a + 25) rfl (e_adl (by decide)) (by omega) ?_
                        refine e_Ok.ps1 (x := (1, 275)) (q := 204) 1 rfl ?_
                        refine e_Ok.getf (z := t) rfl (el_o rfl) rfl (ef_o rfl) ((q122 275 96 (by first | exact no_78_1 | (unfold mBe; omega))).trans ((j117 275 96 (by first | exact no_78_0 | (unfold mGo; omega))).trans h96)) (by omega) ?_
                        refine e_Ok.ast rfl (el_o rfl) rfl rfl (by omega) ?_
                        generalize hw124 : e_up w120 276 (36 * a + 25) t = w124
                        have hT126 : e_Has mTy w124 := e_Has.upr q122T hw124 (nR_MOVER (a := a) (by omega)) (by omega)
                        refine e_Ok.ps1 (x := (1, 275)) (q := 209) 1 rfl ?_
                        refine e_Ok.getr (z := 276) rfl (el_o rfl) rfl (ef_o rfl) (e_uq hw124 (Or.inl (by decide)) ((q122 275 0 (by first | exact no_78_1 | (unfold mBe; omega))).trans ((j117 275 0 (by first | exact no_78_0 | (unfold mGo; omega))).trans (e_Has.eq hT (mt_o rfl))))) ⟨by decide, by decide⟩ ?_
                        refine e_Ok.ps1 (x := (1, 275)) (q := 213) 1 rfl ?_
                        refine e_Ok.getf (z := 1260 * t + 416) rfl (el_o rfl) rfl (ef_o rfl) (e_uq hw124 (Or.inl (by decide)) ((q122 275 97 (by first | exact no_78_1 | (unfold mBe; omega))).trans ((j117 275 97 (by first | exact no_78_0 | (unfold mGo; omega))).trans h97))) (by omega) ?_
                        refine e_Ok.ps1 (x := (0, 2)) (q := 217) 1 rfl ?_
                        refine e_Ok.ast rfl (el_o rfl) rfl rfl (by omega) ?_
                        generalize hw127 : e_up w124 276 (1260 * t + 416) 2 = w127
                        have hT129 : e_Has mTy w127 := e_Has.upr hT126 hw127 (nR_TSTATE (t := t) (by omega)) (by omega)
                        refine e_Ok.ps1 (x := (1, 275)) (q := 219) 1 rfl ?_
                        refine e_Ok.getr (z := 276) rfl (el_o rfl) rfl (ef_o rfl) (e_uq hw127 (Or.inl (by decide)) (e_uq hw124 (Or.inl (by decide)) ((q122 275 0 (by first | exact no_78_1 | (unfold mBe; omega))).trans ((j117 275 0 (by first | exact no_78_0 | (unfold mGo; omega))).trans (e_Has.eq hT (mt_o rfl)))))) ⟨by decide, by decide⟩ ?_
                        refine e_Ok.ps1 (x := (1, 275)) (q := 223) 1 rfl ?_
                        refine e_Ok.getf (z := 1260 * t + 416) rfl (el_o rfl) rfl (ef_o rfl) (e_uq hw127 (Or.inl (by decide)) (e_uq hw124 (Or.inl (by decide)) ((q122 275 97 (by first | exact no_78_1 | (unfold mBe; omega))).trans ((j117 275 97 (by first | exact no_78_0 | (unfold mGo; omega))).trans h97)))) (by omega) ?_
                        refine e_Ok.ps1 (x := (0, 7)) (q := 228) 1 rfl ?_
                        refine e_Ok.add (z := 1260 * t + 423) rfl (e_adl (by decide)) (by omega) ?_
                        refine e_Ok.ps1 (x := (0, 0)) (q := 230) 1 rfl ?_
                        refine e_Ok.ast rfl (el_o rfl) rfl rfl (by omega) ?_
                        generalize hw130 : e_up w127 276 (1260 * t + 423) 0 = w130
                        have hT132 : e_Has mTy w130 := e_Has.upr hT129 hw130 (nR_BROKEN (t := t) (by omega)) (by omega)
                        refine e_Ok.ps2 (x := (0, 1)) (y := (1, 275)) (q := 233) 2 rfl ?_
                        refine e_Ok.putb rfl (el_o rfl) rfl (ef_o rfl) (by omega) ?_
                        generalize hw133 : e_up w130 275 100 1 = w133
                        have hT135 : e_Has mTy w133 := e_Has.ups hT132 hw133 (mt_o rfl)
                        refine e_Ok.ps3 (x := (0, 1)) (y := (0, p)) (z := (1, 275)) (q := 239) 3 rfl ?_
                        refine e_Ok.add (z := p + 1) rfl rfl (by omega) ?_
                        refine e_Ok.callV rfl (e_dq hd rfl) rfl rfl rfl rfl (c_365 (e_dq hd rfl) hT135 (by omega) (e_uq hw133 (Or.inr (by first | decide | omega)) (e_uq hw130 (Or.inl (by first | decide | omega)) (e_uq hw127 (Or.inl (by first | decide | omega)) (e_uq hw124 (Or.inl (by first | decide | omega)) ((q122 275 97 (by first | exact no_78_1 | (unfold mBe; omega))).trans ((j117 275 97 (by first | exact no_78_0 | (unfold mGo; omega))).trans h97)))))) (f := g + 1) (z := 1260 * t + 2 * g + 436) (e_uq hw133 (Or.inl (by first | decide | omega)) (e_uq hw130 (Or.inr (by omega)) (e_uq hw127 (Or.inr (by omega)) (e_uq hw124 (Or.inr (by omega)) ((q122 276 (1260 * t + 428) (by first | exact no_78_2 (by omega) (by omega) | (unfold mBe; omega))).trans ((j117 276 (1260 * t + 428) (by first | exact no_78_3 (by omega) (by omega) | (unfold mGo; omega))).trans hF)))))) (by omega) (by omega)) (fun r136 w137 h138 => ?_)
                        obtain ⟨rfl, hw137⟩ := h138
                        have f139 : e_fr (mMv t a) w w137 := e_fr.up (show e_fr (mMv t a) w w133 from e_fr.up (show e_fr (mMv t a) w w130 from e_fr.up (show e_fr (mMv t a) w w127 from e_fr.up (show e_fr (mMv t a) w w124 from e_fr.up (show e_fr (mMv t a) w w120 from e_fr.trans j113 (e_fr.mono q122 (fun c k q => by first | exact su_78_21 q | (unfold mBe at q; unfold mMv mLv; omega)))) hw124 (by first | exact Or.inl (Or.inr ⟨rfl, Or.inr (Or.inr (Or.inr (Or.inl ⟨(by omega), ⟨(by omega), Or.inr (Or.inr (Or.inr (by omega)))⟩⟩)))⟩) | (unfold mMv mLv; omega))) hw127 (by first | exact Or.inl (Or.inr ⟨rfl, Or.inr (Or.inr (Or.inr (Or.inr (Or.inr (Or.inl (by omega))))))⟩) | (unfold mMv mLv; omega))) hw130 (by first | exact Or.inl (Or.inr ⟨rfl, Or.inr (Or.inr (Or.inr (Or.inr (Or.inl ⟨(by omega), ⟨(by omega), (by omega)⟩⟩))))⟩) | (unfold mMv mLv; omega))) hw133 (by first | exact Or.inl (Or.inl ⟨rfl, Or.inl rfl⟩) | (unfold mMv mLv; omega))) hw137 (by first | exact Or.inl (Or.inr ⟨rfl, Or.inr (Or.inr (Or.inr (Or.inr (Or.inr (Or.inr (Or.inr (Or.inr (Or.inr ⟨(by omega), (by omega)⟩))))))))⟩) | (unfold mMv mLv; omega))
                        have hT140 : e_Has mTy w137 := e_Has.upr hT135 hw137 (nR_FRg t (g) (by omega) (by omega) (by omega)) (by omega)
                        refine e_Ok.nrm (q := 243) (st' := []) rfl rfl ?_
                        refine e_Ok.rets rfl rfl ?_
                        have e141 : w137 276 5 = w 276 5 := (e_uq hw137 (Or.inr (by omega)) (e_uq hw133 (Or.inl (by decide)) (e_uq hw130 (Or.inr (by omega)) (e_uq hw127 (Or.inr (by omega)) (e_uq hw124 (Or.inr (by omega)) ((q122 276 5 (by first | exact no_78_4 (by omega) | (unfold mBe; omega))).trans ((j117 276 5 (by first | exact no_78_5 (by omega) | (unfold mGo; omega))).trans rfl)))))))
                        have hmo : mMo w137 (-1) := mMo.begin hMo (Or.inl rfl) (e_Has.mo hT) ha (by omega) (by omega) (fun c k q q2 => f139 c k (moK_mv ht ha q q2)) (fun b g1 g2 g3 => ⟨(e_uq hw137 (Or.inr (by omega)) (e_uq hw133 (Or.inl (by omega)) (e_uq hw130 (Or.inr (by omega)) (e_uq hw127 (Or.inr (by omega)) (e_uq hw124 (Or.inr (by omega)) ((q122 276 (36 * b + 16) (by unfold mBe; omega)).trans ((j117 276 (36 * b + 16) (by first | exact no_78_6 (by omega) (by omega) | (unfold mGo; omega))).trans rfl))))))), (e_uq hw137 (Or.inr (by omega)) (e_uq hw133 (Or.inl (by omega)) (e_uq hw130 (Or.inr (by omega)) (e_uq hw127 (Or.inr (by omega)) (e_uq hw124 (Or.inr (by omega)) ((q122 276 (36 * b + 22) (by first | exact no_78_7 (by omega) (by omega) | (unfold mBe; omega))).trans ((j117 276 (36 * b + 22) (by first | exact no_78_8 (by omega) (by omega) | (unfold mGo; omega))).trans rfl)))))))⟩) (e_uq hw137 (Or.inr (by omega)) (e_uq hw133 (Or.inl (by omega)) (e_uq hw130 (Or.inr (by omega)) (e_uq hw127 (Or.inr (by omega)) (e_uq hw124 (Or.inr (by omega)) q122s))))) (fun j g1 g2 => by rw [show w137 276 (36 * a + j + 44) = w 345 j from Eq.trans (e_uq hw137 (Or.inr (by omega)) (e_uq hw133 (Or.inl (by omega)) (e_uq hw130 (Or.inr (by omega)) (e_uq hw127 (Or.inr (by omega)) (e_uq hw124 (Or.inr (by omega)) ((q122 276 (36 * a + j + 44) (by first | exact no_78_9 (by omega) (by omega) | (unfold mBe; omega))).trans rfl)))))) (j116 j g1 (by omega))]; exact hfit.2 j g1 (by omega)) (fun e => by have e1 := ((hMo.2.1 a ha.1 ha.2).2 (Eq.trans (Eq.symm (e_uq hw137 (Or.inr (by omega)) (e_uq hw133 (Or.inl (by omega)) (e_uq hw130 (Or.inr (by omega)) (e_uq hw127 (Or.inr (by omega)) (e_uq hw124 (Or.inr (by omega)) ((q122 276 (36 * a + 22) (by first | exact no_78_10 (by omega) | (unfold mBe; omega))).trans ((j117 276 (36 * a + 22) (by first | exact no_78_11 (by omega) | (unfold mGo; omega))).trans rfl)))))))) e)).1; exfalso; omega)
                        have hrn := runOk.fr (w' := w137) (fun c k q1 q2 => (e_uq hw137 (Or.inl (by omega)) (e_uq hw133 (Or.inl (by omega)) (e_uq hw130 (Or.inl (by omega)) (e_uq hw127 (Or.inl (by omega)) (e_uq hw124 (Or.inl (by omega)) ((q122 c k (by unfold mBe; omega)).trans ((j117 c k (by unfold mGo; omega)).trans rfl)))))))) (fun i q1 q2 => ⟨(e_uq hw137 (Or.inr (by omega)) (e_uq hw133 (Or.inl (by omega)) (e_uq hw130 (Or.inr (by omega)) (e_uq hw127 (Or.inr (by omega)) (e_uq hw124 (Or.inr (by omega)) ((q122 276 (1260 * t + 2 * i + 436) (by first | exact no_78_12 (by omega) (by omega) (by omega) | (unfold mBe; omega))).trans ((j117 276 (1260 * t + 2 * i + 436) (by first | exact no_78_13 (by omega) (by omega) (by omega) | (unfold mGo; omega))).trans rfl))))))), (e_uq hw137 (Or.inr (by omega)) (e_uq hw133 (Or.inl (by omega)) (e_uq hw130 (Or.inr (by omega)) (e_uq hw127 (Or.inr (by omega)) (e_uq hw124 (Or.inr (by omega)) ((q122 276 (1260 * t + 2 * i + 439) (by first | exact no_78_14 (by omega) (by omega) (by omega) | (unfold mBe; omega))).trans ((j117 276 (1260 * t + 2 * i + 439) (by first | exact no_78_15 (by omega) (by omega) (by omega) | (unfold mGo; omega))).trans rfl)))))))⟩) (e_uq hw137 (Or.inr (by omega)) (e_uq hw133 (Or.inl (by omega)) (e_uq hw130 (Or.inr (by omega)) (e_uq hw127 (Or.inr (by omega)) (e_uq hw124 (Or.inr (by omega)) ((q122 276 (1260 * t + 428) (by first | exact no_78_2 (by omega) (by omega) | (unfold mBe; omega))).trans ((j117 276 (1260 * t + 428) (by first | exact no_78_3 (by omega) (by omega) | (unfold mGo; omega))).trans rfl))))))) (e_uq hw137 (Or.inr (by omega)) (e_uq hw133 (Or.inl (by omega)) (e_uq hw130 (Or.inr (by omega)) (e_uq hw127 (Or.inr (by omega)) (e_uq hw124 (Or.inr (by omega)) ((q122 276 (1260 * t + 429) (by first | exact no_78_16 (by omega) (by omega) | (unfold mBe; omega))).trans ((j117 276 (1260 * t + 429) (by first | exact no_78_17 (by omega) (by omega) | (unfold mGo; omega))).trans rfl))))))) (fun k q1 q2 => (e_uq hw137 (Or.inr (by omega)) (e_uq hw133 (Or.inl (by omega)) (e_uq hw130 (Or.inr (by omega)) (e_uq hw127 (Or.inr (by omega)) (e_uq hw124 (Or.inr (by omega)) ((q122 276 (1260 * t + k + 476) (by unfold mBe; omega)).trans ((j117 276 (1260 * t + k + 476) (by unfold mGo; omega)).trans rfl)))))))) (by omega) hru
                        have erg : w137 330 (10000 * a + (p + 1)) = w 330 (10000 * a + p) := by rw [show 10000 * a + (p + 1) = 10000 * a + p + 1 by omega]; exact Eq.trans (e_uq hw137 (Or.inl (by first | decide | omega)) (e_uq hw133 (Or.inl (by first | decide | omega)) (e_uq hw130 (Or.inl (by first | decide | omega)) (e_uq hw127 (Or.inl (by first | decide | omega)) (e_uq hw124 (Or.inl (by first | decide | omega)) ((q122 330 (10000 * a + p + 1) (by first | exact no_78_18 | (unfold mBe; omega))).trans ((j117 330 (10000 * a + p + 1) (by first | exact no_78_19 | (unfold mGo; omega))).trans rfl))))))) k8.1.2
                        exact ⟨rfl, f139, hT140, by omega, hmo, Or.inr ⟨(e_uq hw137 (Or.inl (by first | decide | omega)) (e_ue hw133)), (e_uq hw137 (Or.inr (by omega)) (e_uq hw133 (Or.inl (by first | decide | omega)) (e_uq hw130 (Or.inr (by omega)) (e_ue hw127)))), runOk.at hrn (by omega) (e_ue hw137) erg, by omega⟩⟩
                      · replace h118 : (y6 : Int) < w 329 (10000 * a + p) := Int.not_le.mp (show ¬ ((y6 : Int) ≥ w 329 (10000 * a + p)) from h118)
                        have hgl := hfit.2 y6 (by omega) (by omega)
                        have hb288 := e_Has.get hT (c := 288) (k := 6 * a + y6) (lo := -100000) (hi := 0) (mt_o rfl) (by decide)
                        have hb289 := e_Has.get hT (c := 289) (k := 6 * a + y6) (lo := 0) (hi := 100000) (mt_o rfl) (by decide)
                        refine e_Ok.ps1 (x := (1, 275)) (q := 161) 1 rfl ?_
                        refine e_Ok.getr (z := 276) rfl (el_o rfl) rfl (ef_o rfl) ((j117 275 0 (by first | exact no_78_0 | (unfold mGo; omega))).trans (e_Has.eq hT (mt_o rfl))) ⟨by decide, by decide⟩ ?_
                        refine e_Ok.ps2 (x := (0, 28)) (y := (0, 36 * a + 16)) (q := 168) 2 rfl ?_
                        refine e_Ok.add (z := 36 * a + 44) rfl (e_adl (by decide)) (by omega) ?_
                        refine e_Ok.ps1 (x := (0, y6)) (q := 171) 1 rfl ?_
                        refine e_Ok.add (z := 36 * a + y6 + 44) rfl (by omega) (by omega) ?_
                        refine e_Ok.ps1 (x := (1, 275)) (q := 173) 1 rfl ?_
                        refine e_Ok.getr (z := 345) rfl (el_o rfl) rfl (ef_o rfl) ((j117 275 101 (by first | exact no_78_0 | (unfold mGo; omega))).trans (e_Has.eq hT (mt_o rfl))) ⟨by decide, by decide⟩ ?_
                        refine e_Ok.ps1 (x := (0, y6)) (q := 178) 1 rfl ?_
                        have h142 := (hst y6 (by omega) (by omega))
                        refine e_Ok.ald (z := w 345 y6) rfl (el_o rfl) rfl (by omega) ((j117 345 y6 (by first | exact no_78_20 | (unfold mGo; omega))).trans rfl) (by omega) ?_
                        refine e_Ok.ast rfl (el_o rfl) rfl rfl (by omega) ?_
                        generalize hw143 : e_up v2 276 (36 * a + y6 + 44) (w 345 y6) = w143
                        have hT145 : e_Has mTy w143 := e_Has.upr j114 hw143 (nR_GOAL (a := a) (j := y6) (by omega) (by omega)) (by omega)
                        refine e_Ok.inc (z := y6 + 1) rfl rfl (by first | with_reducible rfl | omega) (by omega) ?_
                        show e_Ok 20 elay ecode eI (d + 1) 380 (183, [(6, (0, y6 + 1)), (0, (1, 275)), (1, (0, w 329 (10000 * a + p))), (2, (0, p)), (4, (0, 36 * a + 16))], [], w143) _
                        refine e_Ok.ps0 (q := 154) 1 rfl ?_
                        refine e_Ok.sub eAlk (e_sub_of rfl ?_) (ih112 (y6 + 1) w143 ⟨(show e_fr (mMv t a) w w143 from e_fr.up j113 hw143 (by unfold mMv mLv; omega)), hT145, by omega, (fun j g1 g2 => Decidable.byCases (p := j = y6) (fun e => by rw [e, ← hw143]; exact e_up_eq _ _ _ _) (fun e => Eq.trans (e_un hw143 (Or.inr (by omega))) (j116 j g1 (by omega)))), (e_fr.up j117 hw143 (by unfold mGo; omega))⟩ (by omega))
                        exact ⟨rfl, rfl, rfl, rfl, rfl, trivial⟩
                  refine e_Ok.sub eAlk (e_sub_of rfl ?_) (hL111 (7 + 1 : Int).toNat 0 w ⟨(e_fr.refl w), hT, by omega, (fun j g1 g2 => by omega), (e_fr.refl w)⟩ (by omega))
                  exact ⟨rfl, rfl, rfl, rfl, rfl, trivial⟩
                · replace h110 : (0 : Int) ≠ 0 := (show ¬ ((0 : Int) = 0) from h110)
                  exfalso; omega
              · replace h109 : (w 276 1 : Int) = 0 := Classical.not_not.mp (show ¬ ((w 276 1 : Int) ≠ 0) from h109)
                refine e_Ok.run (t' := (141, [(5, (0, 5)), (4, (0, 36 * a + 16)), (0, (1, 275)), (1, (0, w 329 (10000 * a + p))), (2, (0, p)), (3, (0, y3))], [(0, 5)], w)) 4 rfl ?_
                refine e_Ok.if1 rfl (fun h146 => ?_) (fun h146 => ?_)
                · replace h146 : (5 : Int) = 0 := h146
                  exfalso; omega
                · replace h146 : (5 : Int) ≠ 0 := (show ¬ ((5 : Int) = 0) from h146)
                  refine e_Ok.ps2 (x := (0, 5)) (y := (1, 275)) (q := 147) 2 rfl ?_
                  refine e_Ok.callV rfl (e_dq hd rfl) rfl rfl rfl rfl (c_369 (e_dq hd rfl) hT (by omega) (by omega) h96 h97 h98 hC hP (by omega) (by omega)) (fun r147 w148 h149 => ?_)
                  obtain ⟨rfl, ⟨q150, q150S⟩, q150T, q150n, q150d, q150c⟩ := h149
                  refine e_Ok.nrm (q := 150) (st' := []) rfl rfl ?_
                  refine e_Ok.rets rfl rfl ?_
                  exact ⟨rfl, (show e_fr (mMv t a) w w148 from e_fr.trans (e_fr.refl w) (e_fr.mono q150 (fun c k q => by exact Or.inl q))), q150T, by omega, mMo.rel hMo (e_Has.mo hT) hCf (sRel.trans sRel.refl q150S) (fun c k q => q150 c k (moK_lv ht q)), Or.inl ⟨q150d, q150c⟩⟩
            · replace h107 : (w 276 (36 * a + 16) : Int) ≠ 0 := (show ¬ ((w 276 (36 * a + 16) : Int) = 0) from h107)
              refine e_Ok.run (t' := (141, [(5, (0, 4)), (4, (0, 36 * a + 16)), (0, (1, 275)), (1, (0, w 329 (10000 * a + p))), (2, (0, p)), (3, (0, y3))], [(0, 4)], w)) 4 rfl ?_
              refine e_Ok.if1 rfl (fun h152 => ?_) (fun h152 => ?_)
              · replace h152 : (4 : Int) = 0 := h152
                exfalso; omega
              · replace h152 : (4 : Int) ≠ 0 := (show ¬ ((4 : Int) = 0) from h152)
                refine e_Ok.ps2 (x := (0, 4)) (y := (1, 275)) (q := 147) 2 rfl ?_
                refine e_Ok.callV rfl (e_dq hd rfl) rfl rfl rfl rfl (c_369 (e_dq hd rfl) hT (by omega) (by omega) h96 h97 h98 hC hP (by omega) (by omega)) (fun r153 w154 h155 => ?_)
                obtain ⟨rfl, ⟨q156, q156S⟩, q156T, q156n, q156d, q156c⟩ := h155
                refine e_Ok.nrm (q := 150) (st' := []) rfl rfl ?_
                refine e_Ok.rets rfl rfl ?_
                exact ⟨rfl, (show e_fr (mMv t a) w w154 from e_fr.trans (e_fr.refl w) (e_fr.mono q156 (fun c k q => by exact Or.inl q))), q156T, by omega, mMo.rel hMo (e_Has.mo hT) hCf (sRel.trans sRel.refl q156S) (fun c k q => q156 c k (moK_lv ht q)), Or.inl ⟨q156d, q156c⟩⟩
          · replace h105 : (y3 : Int) = 0 := Classical.not_not.mp (show ¬ ((y3 : Int) ≠ 0) from h105)
            refine e_Ok.run (t' := (141, [(5, (0, 3)), (4, (0, 36 * a + 16)), (0, (1, 275)), (1, (0, w 329 (10000 * a + p))), (2, (0, p)), (3, (0, y3))], [(0, 3)], w)) 4 rfl ?_
            refine e_Ok.if1 rfl (fun h158 => ?_) (fun h158 => ?_)
            · replace h158 : (3 : Int) = 0 := h158
              exfalso; omega
            · replace h158 : (3 : Int) ≠ 0 := (show ¬ ((3 : Int) = 0) from h158)
              refine e_Ok.ps2 (x := (0, 3)) (y := (1, 275)) (q := 147) 2 rfl ?_
              refine e_Ok.callV rfl (e_dq hd rfl) rfl rfl rfl rfl (c_369 (e_dq hd rfl) hT (by omega) (by omega) h96 h97 h98 hC hP (by omega) (by omega)) (fun r159 w160 h161 => ?_)
              obtain ⟨rfl, ⟨q162, q162S⟩, q162T, q162n, q162d, q162c⟩ := h161
              refine e_Ok.nrm (q := 150) (st' := []) rfl rfl ?_
              refine e_Ok.rets rfl rfl ?_
              exact ⟨rfl, (show e_fr (mMv t a) w w160 from e_fr.trans (e_fr.refl w) (e_fr.mono q162 (fun c k q => by exact Or.inl q))), q162T, by omega, mMo.rel hMo (e_Has.mo hT) hCf (sRel.trans sRel.refl q162S) (fun c k q => q162 c k (moK_lv ht q)), Or.inl ⟨q162d, q162c⟩⟩
        · replace h95 : (y4 : Int) < w 286 a := Int.not_le.mp (show ¬ ((y4 : Int) ≥ w 286 a) from h95)
          refine e_Ok.ps1 (x := (0, y3)) (q := 37) 1 rfl ?_
          refine e_Ok.if1 rfl (fun h164 => ?_) (fun h164 => ?_)
          · replace h164 : (y3 : Int) = 0 := h164
            refine e_Ok.ps1 (x := (1, 275)) (q := 91) 1 rfl ?_
            refine e_Ok.getf (z := a) rfl (el_o rfl) rfl (ef_o rfl) h98 (by omega) ?_
            refine e_Ok.callS rfl (e_dq hd rfl) rfl rfl (c_268 (by omega)) (fun r165 w166 h167 => ?_)
            obtain ⟨rfl, rfl⟩ := h167
            refine e_Ok.nrm (q := 97) (st' := [(0, 36 * a + 16)]) rfl rfl ?_
            refine e_Ok.run (t' := (100, [(4, (0, 36 * a + 16)), (0, (1, 275)), (1, (0, w 329 (10000 * a + p))), (2, (0, p)), (3, (0, y3))], [(0, y3)], w)) 2 rfl ?_
            refine e_Ok.if1 rfl (fun h168 => ?_) (fun h168 => ?_)
            · replace h168 : (y3 : Int) ≠ 0 := h168
              exfalso; omega
            · replace h168 : (y3 : Int) = 0 := Classical.not_not.mp (show ¬ ((y3 : Int) ≠ 0) from h168)
              refine e_Ok.run (t' := (141, [(5, (0, 3)), (4, (0, 36 * a + 16)), (0, (1, 275)), (1, (0, w 329 (10000 * a + p))), (2, (0, p)), (3, (0, y3))], [(0, 3)], w)) 4 rfl ?_
              refine e_Ok.if1 rfl (fun h169 => ?_) (fun h169 => ?_)
              · replace h169 : (3 : Int) = 0 := h169
                exfalso; omega
              · replace h169 : (3 : Int) ≠ 0 := (show ¬ ((3 : Int) = 0) from h169)
                refine e_Ok.ps2 (x := (0, 3)) (y := (1, 275)) (q := 147) 2 rfl ?_
                refine e_Ok.callV rfl (e_dq hd rfl) rfl rfl rfl rfl (c_369 (e_dq hd rfl) hT (by omega) (by omega) h96 h97 h98 hC hP (by omega) (by omega)) (fun r170 w171 h172 => ?_)
                obtain ⟨rfl, ⟨q173, q173S⟩, q173T, q173n, q173d, q173c⟩ := h172
                refine e_Ok.nrm (q := 150) (st' := []) rfl rfl ?_
                refine e_Ok.rets rfl rfl ?_
                exact ⟨rfl, (show e_fr (mMv t a) w w171 from e_fr.trans (e_fr.refl w) (e_fr.mono q173 (fun c k q => by exact Or.inl q))), q173T, by omega, mMo.rel hMo (e_Has.mo hT) hCf (sRel.trans sRel.refl q173S) (fun c k q => q173 c k (moK_lv ht q)), Or.inl ⟨q173d, q173c⟩⟩
          · replace h164 : (y3 : Int) ≠ 0 := (show ¬ ((y3 : Int) = 0) from h164)
            have hfi := j94 (by omega)
            refine e_Ok.ps1 (x := (1, 275)) (q := 41) 1 rfl ?_
            refine e_Ok.getr (z := 345) rfl (el_o rfl) rfl (ef_o rfl) (e_Has.eq hT (mt_o rfl)) ⟨by decide, by decide⟩ ?_
            refine e_Ok.ps1 (x := (0, y4)) (q := 46) 1 rfl ?_
            have h175 := (hst y4 (by omega) (by omega))
            refine e_Ok.ald (z := w 345 y4) rfl (el_o rfl) rfl (by omega) rfl (by omega) ?_
            refine e_Ok.run (t' := (49, [(0, (1, 275)), (1, (0, w 329 (10000 * a + p))), (2, (0, p)), (3, (0, y3)), (4, (0, y4))], [(1, 275), (4, w 345 y4)], w)) 2 rfl ?_
            refine e_Ok.getr (z := 288) rfl (el_o rfl) rfl (ef_o rfl) (e_Has.eq hT (mt_o rfl)) ⟨by decide, by decide⟩ ?_
            refine e_Ok.ps2 (x := (1, 275)) (y := (0, 6)) (q := 55) 2 rfl ?_
            refine e_Ok.getf (z := a) rfl (el_o rfl) rfl (ef_o rfl) h98 (by omega) ?_
            refine e_Ok.mul (z := 6 * a) rfl rfl (by omega) ?_
            refine e_Ok.ps1 (x := (0, y4)) (q := 61) 1 rfl ?_
            refine e_Ok.add (z := 6 * a + y4) rfl rfl (by omega) ?_
            have h176 := (e_Has.get hT (c := 288) (k := 6 * a + y4) (lo := (-100000)) (hi := 0) (mt_o rfl) (by decide))
            refine e_Ok.ald (z := w 288 (6 * a + y4)) rfl (el_o rfl) rfl (by omega) rfl (e_bq h176 (by decide) (by decide)) ?_
            refine e_Ok.run (t' := (65, [(0, (1, 275)), (1, (0, w 329 (10000 * a + p))), (2, (0, p)), (3, (0, y3)), (4, (0, y4))], [(1, 275), (4, w 288 (6 * a + y4)), (4, w 345 y4)], w)) 2 rfl ?_
            refine e_Ok.getr (z := 289) rfl (el_o rfl) rfl (ef_o rfl) (e_Has.eq hT (mt_o rfl)) ⟨by decide, by decide⟩ ?_
            refine e_Ok.ps2 (x := (1, 275)) (y := (0, 6)) (q := 71) 2 rfl ?_
            refine e_Ok.getf (z := a) rfl (el_o rfl) rfl (ef_o rfl) h98 (by omega) ?_
            refine e_Ok.mul (z := 6 * a) rfl rfl (by omega) ?_
            refine e_Ok.ps1 (x := (0, y4)) (q := 77) 1 rfl ?_
            refine e_Ok.add (z := 6 * a + y4) rfl rfl (by omega) ?_
            have h177 := (e_Has.get hT (c := 289) (k := 6 * a + y4) (lo := 0) (hi := 100000) (mt_o rfl) (by decide))
            refine e_Ok.ald (z := w 289 (6 * a + y4)) rfl (el_o rfl) rfl (by omega) rfl (e_bq h177 (by decide) (by decide)) ?_
            refine e_Ok.run (t' := (80, [(0, (1, 275)), (1, (0, w 329 (10000 * a + p))), (2, (0, p)), (3, (0, y3)), (4, (0, y4))], [(4, w 289 (6 * a + y4)), (4, w 288 (6 * a + y4)), (4, w 345 y4)], w)) 1 rfl ?_
            refine e_Ok.callS rfl (e_dq hd rfl) rfl rfl (c_266) (fun r178 w179 h180 => ?_)
            obtain ⟨z181, rfl, rfl, q182⟩ := h180
            obtain ⟨rfl, q182⟩ | ⟨rfl, q182⟩ := q182
            · refine e_Ok.nrm (q := 83) (st' := [(0, 1)]) rfl rfl ?_
              refine e_Ok.run (t' := (84, [(3, (0, 1)), (0, (1, 275)), (1, (0, w 329 (10000 * a + p))), (2, (0, p)), (4, (0, y4))], [], w)) 1 rfl ?_
              refine e_Ok.inc (z := y4 + 1) rfl rfl (by first | with_reducible rfl | omega) (by omega) ?_
              show e_Ok 20 elay ecode eI (d + 1) 380 (87, [(4, (0, y4 + 1)), (3, (0, 1)), (0, (1, 275)), (1, (0, w 329 (10000 * a + p))), (2, (0, p))], [], w) _
              refine e_Ok.ps0 (q := 22) 1 rfl ?_
              refine e_Ok.sub eAlk (e_sub_of rfl ?_) (ih91 1 (y4 + 1) ⟨by omega, by omega, (fun _ => ⟨hfi.1, fun j g1 g2 => Decidable.byCases (p := j = y4) (fun e => by rw [e]; omega) (fun e => hfi.2 j g1 (by omega))⟩)⟩ (by omega))
              exact ⟨rfl, rfl, rfl, rfl, rfl, trivial⟩
            · refine e_Ok.nrm (q := 83) (st' := [(0, 0)]) rfl rfl ?_
              refine e_Ok.run (t' := (84, [(3, (0, 0)), (0, (1, 275)), (1, (0, w 329 (10000 * a + p))), (2, (0, p)), (4, (0, y4))], [], w)) 1 rfl ?_
              refine e_Ok.inc (z := y4 + 1) rfl rfl (by first | with_reducible rfl | omega) (by omega) ?_
              show e_Ok 20 elay ecode eI (d + 1) 380 (87, [(4, (0, y4 + 1)), (3, (0, 0)), (0, (1, 275)), (1, (0, w 329 (10000 * a + p))), (2, (0, p))], [], w) _
              refine e_Ok.ps0 (q := 22) 1 rfl ?_
              refine e_Ok.sub eAlk (e_sub_of rfl ?_) (ih91 0 (y4 + 1) ⟨by omega, by omega, (fun e => by omega)⟩ (by omega))
              exact ⟨rfl, rfl, rfl, rfl, rfl, trivial⟩
    refine e_Ok.sub eAlk (e_sub_of rfl ?_) (hL90 (7 + 1 : Int).toNat 1 0 ⟨by omega, by omega, (fun e => ⟨by omega, fun j g1 g2 => by omega⟩)⟩ (by omega))
    exact ⟨rfl, rfl, rfl, rfl, rfl, trivial⟩
end
end
