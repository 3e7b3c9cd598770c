noncomputable section
def mJo (a j c k : Int) : Prop := (c = 286 ∧ k = a) ∨ (287 ≤ c ∧ c ≤ 293 ∧ k = 6 * a + j)
set_option maxHeartbeats 4000000 in
theorem c_279 {d : Nat} (hd : 23 ≤ d) {w : eW} (hT : e_Has mTy w) {p1 p2 p3 p4 p5 : Int} (g1 : -2147483648 ≤ p1 ∧ p1 ≤ 2147483647) (g2 : -2147483648 ≤ p2 ∧ p2 ≤ 2147483647) (g3 : -2147483648 ≤ p3 ∧ p3 ≤ 2147483647) (g4 : -2147483648 ≤ p4 ∧ p4 ≤ 2147483647) (g5 : -2147483648 ≤ p5 ∧ p5 ≤ 2147483647) : e_Ok 20 elay ecode eI d 279 (0, [(0, (1, 275)), (1, (0, p1)), (2, (0, p2)), (3, (0, p3)), (4, (0, p4)), (5, (0, p5))], [], w) (fun r w' => ∃ z : Int, r = [(0, z)] ∧ e_Has mTy w' ∧ (w = w' ∨ ((0 ≤ p1 ∧ p1 < w 275 10 ∧ w 286 p1 ≤ 5) ∧ w 275 3 = 0 ∧ e_fr (mJo p1 (w 286 p1)) w w' ∧ w' 286 p1 = w 286 p1 + 1 ∧ w' 288 (6 * p1 + w 286 p1) = p3 ∧ w' 289 (6 * p1 + w 286 p1) = p4 ∧ w' 290 (6 * p1 + w 286 p1) = 100 ∧ w' 291 (6 * p1 + w 286 p1) = 10))) := by
  obtain ⟨d, rfl⟩ : ∃ e, d = e + 1 := ⟨d - 1, by omega⟩
  refine e_Ok.run (t' := (2, [(0, (1, 275)), (1, (0, p1)), (2, (0, p2)), (3, (0, p3)), (4, (0, p4)), (5, (0, p5))], [(0, p1), (1, 275)], w)) 2 rfl ?_
  refine e_Ok.callV rfl (by omega) rfl rfl rfl rfl (c_270 (by omega) hT) (fun r1 w2 h3 => ?_)
  have h4 := e_Has.get hT (c := 275) (k := 10) (lo := 0) (hi := 4) rfl (by decide)
  obtain ⟨z5, rfl, rfl, q6⟩ := h3
  obtain ⟨rfl, q6⟩ | ⟨rfl, q6⟩ := q6
  · show e_Ok 20 elay ecode eI (d + 1) 279 (5, [(0, (1, 275)), (1, (0, p1)), (2, (0, p2)), (3, (0, p3)), (4, (0, p4)), (5, (0, p5))], [(0, 1)], w) _
    refine e_Ok.if1 rfl (fun h7 => ?_) (fun h7 => ?_)
    · replace h7 : (1 : Int) = 0 := h7
      exfalso; omega
    · replace h7 : (1 : Int) ≠ 0 := by have q : ¬ ((1 : Int) = 0) := h7; omega
      refine e_Ok.run (t' := (12, [(0, (1, 275)), (1, (0, p1)), (2, (0, p2)), (3, (0, p3)), (4, (0, p4)), (5, (0, p5))], [(4, 1), (4, 0), (4, p2)], w)) 4 rfl ?_
      refine e_Ok.callS rfl (by omega) rfl rfl (c_266) (fun r8 w9 h10 => ?_)
      obtain ⟨z11, rfl, rfl, q12⟩ := h10
      obtain ⟨rfl, q12⟩ | ⟨rfl, q12⟩ := q12
      · show e_Ok 20 elay ecode eI (d + 1) 279 (15, [(0, (1, 275)), (1, (0, p1)), (2, (0, p2)), (3, (0, p3)), (4, (0, p4)), (5, (0, p5))], [(0, 1)], w) _
        refine e_Ok.if1 rfl (fun h13 => ?_) (fun h13 => ?_)
        · replace h13 : (1 : Int) ≠ 0 := h13
          refine e_Ok.run (t' := (21, [(0, (1, 275)), (1, (0, p1)), (2, (0, p2)), (3, (0, p3)), (4, (0, p4)), (5, (0, p5))], [(0, p2)], w)) 1 rfl ?_
          refine e_Ok.if1 rfl (fun h14 => ?_) (fun h14 => ?_)
          · replace h14 : (p2 : Int) ≠ 0 := h14
            refine e_Ok.run (t' := (39, [(6, (0, 8000)), (0, (1, 275)), (1, (0, p1)), (2, (0, p2)), (3, (0, p3)), (4, (0, p4)), (5, (0, p5))], [(0, 8000), (4, p3)], w)) 5 rfl ?_
            refine e_Ok.neg (z := (-8000)) rfl (by omega) (by omega) ?_
            refine e_Ok.run (t' := (42, [(6, (0, 8000)), (0, (1, 275)), (1, (0, p1)), (2, (0, p2)), (3, (0, p3)), (4, (0, p4)), (5, (0, p5))], [(4, 0), (4, (-8000)), (4, p3)], w)) 2 rfl ?_
            refine e_Ok.callS rfl (by omega) rfl rfl (c_266) (fun r15 w16 h17 => ?_)
            obtain ⟨z18, rfl, rfl, q19⟩ := h17
            obtain ⟨rfl, q19⟩ | ⟨rfl, q19⟩ := q19
            · show e_Ok 20 elay ecode eI (d + 1) 279 (45, [(6, (0, 8000)), (0, (1, 275)), (1, (0, p1)), (2, (0, p2)), (3, (0, p3)), (4, (0, p4)), (5, (0, p5))], [(0, 1)], w) _
              refine e_Ok.if1 rfl (fun h20 => ?_) (fun h20 => ?_)
              · replace h20 : (1 : Int) = 0 := h20
                exfalso; omega
              · replace h20 : (1 : Int) ≠ 0 := by have q : ¬ ((1 : Int) = 0) := h20; omega
                refine e_Ok.run (t' := (55, [(6, (0, 8000)), (0, (1, 275)), (1, (0, p1)), (2, (0, p2)), (3, (0, p3)), (4, (0, p4)), (5, (0, p5))], [(4, 8000), (4, 0), (4, p4)], w)) 5 rfl ?_
                refine e_Ok.callS rfl (by omega) rfl rfl (c_266) (fun r21 w22 h23 => ?_)
                obtain ⟨z24, rfl, rfl, q25⟩ := h23
                obtain ⟨rfl, q25⟩ | ⟨rfl, q25⟩ := q25
                · show e_Ok 20 elay ecode eI (d + 1) 279 (58, [(6, (0, 8000)), (0, (1, 275)), (1, (0, p1)), (2, (0, p2)), (3, (0, p3)), (4, (0, p4)), (5, (0, p5))], [(0, 1)], w) _
                  refine e_Ok.if1 rfl (fun h26 => ?_) (fun h26 => ?_)
                  · replace h26 : (1 : Int) = 0 := h26
                    exfalso; omega
                  · replace h26 : (1 : Int) ≠ 0 := by have q : ¬ ((1 : Int) = 0) := h26; omega
                    refine e_Ok.run (t' := (68, [(6, (0, 8000)), (0, (1, 275)), (1, (0, p1)), (2, (0, p2)), (3, (0, p3)), (4, (0, p4)), (5, (0, p5))], [(4, 8000), (4, 0), (4, p5)], w)) 4 rfl ?_
                    refine e_Ok.callS rfl (by omega) rfl rfl (c_266) (fun r27 w28 h29 => ?_)
                    obtain ⟨z30, rfl, rfl, q31⟩ := h29
                    obtain ⟨rfl, q31⟩ | ⟨rfl, q31⟩ := q31
                    · show e_Ok 20 elay ecode eI (d + 1) 279 (71, [(6, (0, 8000)), (0, (1, 275)), (1, (0, p1)), (2, (0, p2)), (3, (0, p3)), (4, (0, p4)), (5, (0, p5))], [(0, 1)], w) _
                      refine e_Ok.if1 rfl (fun h32 => ?_) (fun h32 => ?_)
                      · replace h32 : (1 : Int) ≠ 0 := h32
                        refine e_Ok.run (t' := (80, [(6, (0, 8000)), (0, (1, 275)), (1, (0, p1)), (2, (0, p2)), (3, (0, p3)), (4, (0, p4)), (5, (0, p5))], [(0, 1), (0, p2), (0, p5)], w)) 3 rfl ?_
                        refine e_Ok.if2 rfl (fun h33 => ?_) (fun h33 => ?_)
                        · replace h33 : (p2 : Int) ≠ 1 := h33
                          exfalso; omega
                        · replace h33 : (p2 : Int) = 1 := by have q : ¬ ((p2 : Int) ≠ 1) := h33; omega
                          refine e_Ok.run (t' := (89, [(6, (0, 8000)), (0, (1, 275)), (1, (0, p1)), (2, (0, p2)), (3, (0, p3)), (4, (0, p4)), (5, (0, p5))], [(0, p4), (0, p5)], w)) 2 rfl ?_
                          refine e_Ok.add (z := p5 + p4) rfl (by omega) (by omega) ?_
                          refine e_Ok.run (t' := (95, [(8, (0, 0)), (7, (0, p5 + p4)), (6, (0, 8000)), (0, (1, 275)), (1, (0, p1)), (2, (0, p2)), (3, (0, p3)), (4, (0, p4)), (5, (0, p5))], [], w)) 3 rfl ?_
                          have hL34 : ∀ (nn : Nat) (y7 : Int) (y8 : Int), 0 ≤ y8 ∧ y8 ≤ 6 → 7 - y8 < nn → e_Ok 20 elay ecode eI (d + 1) 279 (95, [(0, (1, 275)), (1, (0, p1)), (2, (0, p2)), (3, (0, p3)), (4, (0, p4)), (5, (0, p5)), (7, (0, y7)), (8, (0, y8))], [], w) (fun r w' => ∃ z : Int, r = [(0, z)] ∧ e_Has mTy w' ∧ (w = w' ∨ ((0 ≤ p1 ∧ p1 < w 275 10 ∧ w 286 p1 ≤ 5) ∧ w 275 3 = 0 ∧ e_fr (mJo p1 (w 286 p1)) w w' ∧ w' 286 p1 = w 286 p1 + 1 ∧ w' 288 (6 * p1 + w 286 p1) = p3 ∧ w' 289 (6 * p1 + w 286 p1) = p4 ∧ w' 290 (6 * p1 + w 286 p1) = 100 ∧ w' 291 (6 * p1 + w 286 p1) = 10))) := by
                            intro nn
                            induction nn with
                            | zero => intro y7 y8 hj hm; obtain j36 := hj; exfalso; omega
                            | succ nn ih35 =>
                              intro y7 y8 hj hm
                              obtain j36 := hj
                              refine e_Ok.run (t' := (98, [(0, (1, 275)), (1, (0, p1)), (2, (0, p2)), (3, (0, p3)), (4, (0, p4)), (5, (0, p5)), (7, (0, y7)), (8, (0, y8))], [(1, 275), (0, y8)], w)) 2 rfl ?_
                              refine e_Ok.getr (z := 286) rfl (el_o rfl) rfl rfl (e_Has.eq hT rfl) (by omega) ?_
                              refine e_Ok.run (t' := (102, [(0, (1, 275)), (1, (0, p1)), (2, (0, p2)), (3, (0, p3)), (4, (0, p4)), (5, (0, p5)), (7, (0, y7)), (8, (0, y8))], [(0, p1), (1, 286), (0, y8)], w)) 1 rfl ?_
                              have h37 := (e_Has.get hT (c := 286) (k := p1) (lo := 0) (hi := 6) rfl (by decide))
                              refine e_Ok.ald (z := w 286 p1) rfl (el_o rfl) rfl (by omega) rfl (by omega) ?_
                              refine e_Ok.if2 rfl (fun h38 => ?_) (fun h38 => ?_)
                              · replace h38 : (y8 : Int) ≥ w 286 p1 := h38
                                refine e_Ok.run (t' := (164, [(0, (1, 275)), (1, (0, p1)), (2, (0, p2)), (3, (0, p3)), (4, (0, p4)), (5, (0, p5)), (7, (0, y7)), (8, (0, y8))], [(0, 1), (0, p2)], w)) 2 rfl ?_
                                refine e_Ok.if2 rfl (fun h39 => ?_) (fun h39 => ?_)
                                · replace h39 : (p2 : Int) ≠ 1 := h39
                                  exfalso; omega
                                · replace h39 : (p2 : Int) = 1 := by have q : ¬ ((p2 : Int) ≠ 1) := h39; omega
                                  refine e_Ok.run (t' := (170, [(0, (1, 275)), (1, (0, p1)), (2, (0, p2)), (3, (0, p3)), (4, (0, p4)), (5, (0, p5)), (7, (0, y7)), (8, (0, y8))], [(0, p3), (0, p5)], w)) 2 rfl ?_
                                  refine e_Ok.add (z := p5 + p3) rfl (by omega) (by omega) ?_
                                  refine e_Ok.if1 rfl (fun h40 => ?_) (fun h40 => ?_)
                                  · replace h40 : (p5 + p3 : Int) < 0 := h40
                                    refine e_Ok.run (t' := (183, [(0, (1, 275)), (1, (0, p1)), (2, (0, p2)), (3, (0, p3)), (4, (0, p4)), (5, (0, p5)), (7, (0, y7)), (8, (0, y8))], [(0, (-1))], w)) 1 rfl ?_
                                    refine e_Ok.rets rfl rfl ?_
                                    exact ⟨_, rfl, hT, Or.inl rfl⟩
                                  · replace h40 : (p5 + p3 : Int) ≥ 0 := by have q : ¬ ((p5 + p3 : Int) < 0) := h40; omega
                                    refine e_Ok.run (t' := (179, [(0, (1, 275)), (1, (0, p1)), (2, (0, p2)), (3, (0, p3)), (4, (0, p4)), (5, (0, p5)), (7, (0, y7)), (8, (0, y8))], [(0, 8000), (0, y7)], w)) 2 rfl ?_
                                    refine e_Ok.if2 rfl (fun h41 => ?_) (fun h41 => ?_)
                                    · replace h41 : (y7 : Int) ≤ 8000 := h41
                                      refine e_Ok.run (t' := (185, [(0, (1, 275)), (1, (0, p1)), (2, (0, p2)), (3, (0, p3)), (4, (0, p4)), (5, (0, p5)), (7, (0, y7)), (8, (0, y8))], [(1, 275)], w)) 1 rfl ?_
                                      have h42 := (e_Has.get hT (c := 275) (k := 3) (lo := 0) (hi := 1) rfl (by decide))
                                      refine e_Ok.getf (z := w 275 3) rfl (el_o rfl) rfl rfl rfl (by omega) ?_
                                      refine e_Ok.if1 rfl (fun h43 => ?_) (fun h43 => ?_)
                                      · replace h43 : (w 275 3 : Int) = 0 := h43
                                        refine e_Ok.run (t' := (195, [(0, (1, 275)), (1, (0, p1)), (2, (0, p2)), (3, (0, p3)), (4, (0, p4)), (5, (0, p5)), (7, (0, y7)), (8, (0, y8))], [(1, 275)], w)) 1 rfl ?_
                                        refine e_Ok.getr (z := 286) rfl (el_o rfl) rfl rfl (e_Has.eq hT rfl) (by omega) ?_
                                        refine e_Ok.run (t' := (199, [(0, (1, 275)), (1, (0, p1)), (2, (0, p2)), (3, (0, p3)), (4, (0, p4)), (5, (0, p5)), (7, (0, y7)), (8, (0, y8))], [(0, p1), (1, 286)], w)) 1 rfl ?_
                                        refine e_Ok.ald (z := w 286 p1) rfl (el_o rfl) rfl (by omega) rfl (by omega) ?_
                                        refine e_Ok.run (t' := (202, [(0, (1, 275)), (1, (0, p1)), (2, (0, p2)), (3, (0, p3)), (4, (0, p4)), (5, (0, p5)), (7, (0, y7)), (8, (0, y8))], [(0, 6), (0, w 286 p1)], w)) 1 rfl ?_
                                        refine e_Ok.if2 rfl (fun h44 => ?_) (fun h44 => ?_)
                                        · replace h44 : (w 286 p1 : Int) ≠ 6 := h44
                                          refine e_Ok.run (t' := (211, [(0, (1, 275)), (1, (0, p1)), (2, (0, p2)), (3, (0, p3)), (4, (0, p4)), (5, (0, p5)), (7, (0, y7)), (8, (0, y8))], [(0, p1), (0, 6)], w)) 2 rfl ?_
                                          refine e_Ok.mul (z := 6 * p1) rfl (by omega) (by omega) ?_
                                          refine e_Ok.run (t' := (213, [(0, (1, 275)), (1, (0, p1)), (2, (0, p2)), (3, (0, p3)), (4, (0, p4)), (5, (0, p5)), (7, (0, y7)), (8, (0, y8))], [(1, 275), (0, 6 * p1)], w)) 1 rfl ?_
                                          refine e_Ok.getr (z := 286) rfl (el_o rfl) rfl rfl (e_Has.eq hT rfl) (by omega) ?_
                                          refine e_Ok.run (t' := (217, [(0, (1, 275)), (1, (0, p1)), (2, (0, p2)), (3, (0, p3)), (4, (0, p4)), (5, (0, p5)), (7, (0, y7)), (8, (0, y8))], [(0, p1), (1, 286), (0, 6 * p1)], w)) 1 rfl ?_
                                          refine e_Ok.ald (z := w 286 p1) rfl (el_o rfl) rfl (by omega) rfl (by omega) ?_
                                          refine e_Ok.add (z := 6 * p1 + w 286 p1) rfl (by omega) (by omega) ?_
                                          refine e_Ok.run (t' := (222, [(8, (0, 6 * p1 + w 286 p1)), (0, (1, 275)), (1, (0, p1)), (2, (0, p2)), (3, (0, p3)), (4, (0, p4)), (5, (0, p5)), (7, (0, y7))], [(1, 275)], w)) 2 rfl ?_
                                          refine e_Ok.getr (z := 287) rfl (el_o rfl) rfl rfl (e_Has.eq hT rfl) (by omega) ?_
                                          refine e_Ok.run (t' := (229, [(8, (0, 6 * p1 + w 286 p1)), (0, (1, 275)), (1, (0, p1)), (2, (0, p2)), (3, (0, p3)), (4, (0, p4)), (5, (0, p5)), (7, (0, y7))], [(0, p2), (0, 1), (0, 6 * p1 + w 286 p1), (1, 287)], w)) 3 rfl ?_
                                          refine e_Ok.sub' (z := -p2 + 1) rfl (by omega) (by omega) ?_
                                          refine e_Ok.ast rfl (el_o rfl) rfl rfl (by omega) ?_
                                          generalize hw45 : e_up w 287 (6 * p1 + w 286 p1) (-p2 + 1) = w45
                                          have f46 : e_fr (mJo p1 (w 286 p1)) w w45 := e_fr.up (e_fr.refl w) hw45 (by unfold mJo; omega)
                                          have hT47 : e_Has mTy w45 := e_Has.upr hT hw45 rfl (by omega)
                                          refine e_Ok.run (t' := (232, [(8, (0, 6 * p1 + w 286 p1)), (0, (1, 275)), (1, (0, p1)), (2, (0, p2)), (3, (0, p3)), (4, (0, p4)), (5, (0, p5)), (7, (0, y7))], [(1, 275)], w45)) 1 rfl ?_
                                          refine e_Ok.getr (z := 288) rfl (el_o rfl) rfl rfl (by rw [← hw45]; exact (e_up_ne _ _ (Or.inl (by omega))).trans (e_Has.eq hT rfl)) (by omega) ?_
                                          refine e_Ok.run (t' := (238, [(8, (0, 6 * p1 + w 286 p1)), (0, (1, 275)), (1, (0, p1)), (2, (0, p2)), (3, (0, p3)), (4, (0, p4)), (5, (0, p5)), (7, (0, y7))], [(0, p3), (0, 6 * p1 + w 286 p1), (1, 288)], w45)) 2 rfl ?_
                                          refine e_Ok.ast rfl (el_o rfl) rfl rfl (by omega) ?_
                                          generalize hw48 : e_up w45 288 (6 * p1 + w 286 p1) p3 = w48
                                          have f49 : e_fr (mJo p1 (w 286 p1)) w w48 := e_fr.up f46 hw48 (by unfold mJo; omega)
                                          have hT50 : e_Has mTy w48 := e_Has.upr hT47 hw48 rfl (by omega)
                                          refine e_Ok.run (t' := (240, [(8, (0, 6 * p1 + w 286 p1)), (0, (1, 275)), (1, (0, p1)), (2, (0, p2)), (3, (0, p3)), (4, (0, p4)), (5, (0, p5)), (7, (0, y7))], [(1, 275)], w48)) 1 rfl ?_
                                          refine e_Ok.getr (z := 289) rfl (el_o rfl) rfl rfl (by rw [← hw48]; exact (e_up_ne _ _ (Or.inl (by omega))).trans (by rw [← hw45]; exact (e_up_ne _ _ (Or.inl (by omega))).trans (e_Has.eq hT rfl))) (by omega) ?_
                                          refine e_Ok.run (t' := (247, [(8, (0, 6 * p1 + w 286 p1)), (0, (1, 275)), (1, (0, p1)), (2, (0, p2)), (3, (0, p3)), (4, (0, p4)), (5, (0, p5)), (7, (0, y7))], [(0, p4), (0, 6 * p1 + w 286 p1), (1, 289)], w48)) 2 rfl ?_
                                          refine e_Ok.ast rfl (el_o rfl) rfl rfl (by omega) ?_
                                          generalize hw51 : e_up w48 289 (6 * p1 + w 286 p1) p4 = w51
                                          have f52 : e_fr (mJo p1 (w 286 p1)) w w51 := e_fr.up f49 hw51 (by unfold mJo; omega)
                                          have hT53 : e_Has mTy w51 := e_Has.upr hT50 hw51 rfl (by omega)
                                          refine e_Ok.run (t' := (249, [(8, (0, 6 * p1 + w 286 p1)), (0, (1, 275)), (1, (0, p1)), (2, (0, p2)), (3, (0, p3)), (4, (0, p4)), (5, (0, p5)), (7, (0, y7))], [(1, 275)], w51)) 1 rfl ?_
                                          refine e_Ok.getr (z := 290) rfl (el_o rfl) rfl rfl (by rw [← hw51]; exact (e_up_ne _ _ (Or.inl (by omega))).trans (by rw [← hw48]; exact (e_up_ne _ _ (Or.inl (by omega))).trans (by rw [← hw45]; exact (e_up_ne _ _ (Or.inl (by omega))).trans (e_Has.eq hT rfl)))) (by omega) ?_
                                          refine e_Ok.run (t' := (256, [(8, (0, 6 * p1 + w 286 p1)), (0, (1, 275)), (1, (0, p1)), (2, (0, p2)), (3, (0, p3)), (4, (0, p4)), (5, (0, p5)), (7, (0, y7))], [(0, 100), (0, 6 * p1 + w 286 p1), (1, 290)], w51)) 2 rfl ?_
                                          refine e_Ok.ast rfl (el_o rfl) rfl rfl (by omega) ?_
                                          generalize hw54 : e_up w51 290 (6 * p1 + w 286 p1) 100 = w54
                                          have f55 : e_fr (mJo p1 (w 286 p1)) w w54 := e_fr.up f52 hw54 (by unfold mJo; omega)
                                          have hT56 : e_Has mTy w54 := e_Has.upr hT53 hw54 rfl (by omega)
                                          refine e_Ok.run (t' := (258, [(8, (0, 6 * p1 + w 286 p1)), (0, (1, 275)), (1, (0, p1)), (2, (0, p2)), (3, (0, p3)), (4, (0, p4)), (5, (0, p5)), (7, (0, y7))], [(1, 275)], w54)) 1 rfl ?_
                                          refine e_Ok.getr (z := 291) rfl (el_o rfl) rfl rfl (by rw [← hw54]; exact (e_up_ne _ _ (Or.inl (by omega))).trans (by rw [← hw51]; exact (e_up_ne _ _ (Or.inl (by omega))).trans (by rw [← hw48]; exact (e_up_ne _ _ (Or.inl (by omega))).trans (by rw [← hw45]; exact (e_up_ne _ _ (Or.inl (by omega))).trans (e_Has.eq hT rfl))))) (by omega) ?_
                                          refine e_Ok.run (t' := (265, [(8, (0, 6 * p1 + w 286 p1)), (0, (1, 275)), (1, (0, p1)), (2, (0, p2)), (3, (0, p3)), (4, (0, p4)), (5, (0, p5)), (7, (0, y7))], [(0, 10), (0, 6 * p1 + w 286 p1), (1, 291)], w54)) 2 rfl ?_
                                          refine e_Ok.ast rfl (el_o rfl) rfl rfl (by omega) ?_
                                          generalize hw57 : e_up w54 291 (6 * p1 + w 286 p1) 10 = w57
                                          have f58 : e_fr (mJo p1 (w 286 p1)) w w57 := e_fr.up f55 hw57 (by unfold mJo; omega)
                                          have hT59 : e_Has mTy w57 := e_Has.upr hT56 hw57 rfl (by omega)
                                          refine e_Ok.run (t' := (267, [(8, (0, 6 * p1 + w 286 p1)), (0, (1, 275)), (1, (0, p1)), (2, (0, p2)), (3, (0, p3)), (4, (0, p4)), (5, (0, p5)), (7, (0, y7))], [(1, 275)], w57)) 1 rfl ?_
                                          refine e_Ok.getr (z := 292) rfl (el_o rfl) rfl rfl (by rw [← hw57]; exact (e_up_ne _ _ (Or.inl (by omega))).trans (by rw [← hw54]; exact (e_up_ne _ _ (Or.inl (by omega))).trans (by rw [← hw51]; exact (e_up_ne _ _ (Or.inl (by omega))).trans (by rw [← hw48]; exact (e_up_ne _ _ (Or.inl (by omega))).trans (by rw [← hw45]; exact (e_up_ne _ _ (Or.inl (by omega))).trans (e_Has.eq hT rfl)))))) (by omega) ?_
                                          refine e_Ok.run (t' := (274, [(8, (0, 6 * p1 + w 286 p1)), (0, (1, 275)), (1, (0, p1)), (2, (0, p2)), (3, (0, p3)), (4, (0, p4)), (5, (0, p5)), (7, (0, y7))], [(0, p5), (0, 6 * p1 + w 286 p1), (1, 292)], w57)) 2 rfl ?_
                                          refine e_Ok.ast rfl (el_o rfl) rfl rfl (by omega) ?_
                                          generalize hw60 : e_up w57 292 (6 * p1 + w 286 p1) p5 = w60
                                          have f61 : e_fr (mJo p1 (w 286 p1)) w w60 := e_fr.up f58 hw60 (by unfold mJo; omega)
                                          have hT62 : e_Has mTy w60 := e_Has.upr hT59 hw60 rfl (by omega)
                                          refine e_Ok.run (t' := (276, [(8, (0, 6 * p1 + w 286 p1)), (0, (1, 275)), (1, (0, p1)), (2, (0, p2)), (3, (0, p3)), (4, (0, p4)), (5, (0, p5)), (7, (0, y7))], [(1, 275)], w60)) 1 rfl ?_
                                          refine e_Ok.getr (z := 293) rfl (el_o rfl) rfl rfl (by rw [← hw60]; exact (e_up_ne _ _ (Or.inl (by omega))).trans (by rw [← hw57]; exact (e_up_ne _ _ (Or.inl (by omega))).trans (by rw [← hw54]; exact (e_up_ne _ _ (Or.inl (by omega))).trans (by rw [← hw51]; exact (e_up_ne _ _ (Or.inl (by omega))).trans (by rw [← hw48]; exact (e_up_ne _ _ (Or.inl (by omega))).trans (by rw [← hw45]; exact (e_up_ne _ _ (Or.inl (by omega))).trans (e_Has.eq hT rfl))))))) (by omega) ?_
                                          refine e_Ok.run (t' := (282, [(8, (0, 6 * p1 + w 286 p1)), (0, (1, 275)), (1, (0, p1)), (2, (0, p2)), (3, (0, p3)), (4, (0, p4)), (5, (0, p5)), (7, (0, y7))], [(0, 0), (0, 6 * p1 + w 286 p1), (1, 293)], w60)) 2 rfl ?_
                                          refine e_Ok.ast rfl (el_o rfl) rfl rfl (by omega) ?_
                                          generalize hw63 : e_up w60 293 (6 * p1 + w 286 p1) 0 = w63
                                          have f64 : e_fr (mJo p1 (w 286 p1)) w w63 := e_fr.up f61 hw63 (by unfold mJo; omega)
                                          have hT65 : e_Has mTy w63 := e_Has.upr hT62 hw63 rfl (by omega)
                                          refine e_Ok.run (t' := (284, [(8, (0, 6 * p1 + w 286 p1)), (0, (1, 275)), (1, (0, p1)), (2, (0, p2)), (3, (0, p3)), (4, (0, p4)), (5, (0, p5)), (7, (0, y7))], [(1, 275)], w63)) 1 rfl ?_
                                          refine e_Ok.getr (z := 286) rfl (el_o rfl) rfl rfl (by rw [← hw63]; exact (e_up_ne _ _ (Or.inl (by omega))).trans (by rw [← hw60]; exact (e_up_ne _ _ (Or.inl (by omega))).trans (by rw [← hw57]; exact (e_up_ne _ _ (Or.inl (by omega))).trans (by rw [← hw54]; exact (e_up_ne _ _ (Or.inl (by omega))).trans (by rw [← hw51]; exact (e_up_ne _ _ (Or.inl (by omega))).trans (by rw [← hw48]; exact (e_up_ne _ _ (Or.inl (by omega))).trans (by rw [← hw45]; exact (e_up_ne _ _ (Or.inl (by omega))).trans (e_Has.eq hT rfl)))))))) (by omega) ?_
                                          refine e_Ok.run (t' := (289, [(8, (0, 6 * p1 + w 286 p1)), (0, (1, 275)), (1, (0, p1)), (2, (0, p2)), (3, (0, p3)), (4, (0, p4)), (5, (0, p5)), (7, (0, y7))], [(0, p1), (1, 286), (0, p1), (1, 286)], w63)) 2 rfl ?_
                                          refine e_Ok.ald (z := w 286 p1) rfl (el_o rfl) rfl (by omega) (by rw [← hw63]; exact (e_up_ne _ _ (Or.inl (by omega))).trans (by rw [← hw60]; exact (e_up_ne _ _ (Or.inl (by omega))).trans (by rw [← hw57]; exact (e_up_ne _ _ (Or.inl (by omega))).trans (by rw [← hw54]; exact (e_up_ne _ _ (Or.inl (by omega))).trans (by rw [← hw51]; exact (e_up_ne _ _ (Or.inl (by omega))).trans (by rw [← hw48]; exact (e_up_ne _ _ (Or.inl (by omega))).trans (by rw [← hw45]; exact (e_up_ne _ _ (Or.inl (by omega))).trans rfl))))))) (by omega) ?_
                                          refine e_Ok.run (t' := (291, [(8, (0, 6 * p1 + w 286 p1)), (0, (1, 275)), (1, (0, p1)), (2, (0, p2)), (3, (0, p3)), (4, (0, p4)), (5, (0, p5)), (7, (0, y7))], [(0, 1), (0, w 286 p1), (0, p1), (1, 286)], w63)) 1 rfl ?_
                                          refine e_Ok.add (z := w 286 p1 + 1) rfl (by omega) (by omega) ?_
                                          refine e_Ok.ast rfl (el_o rfl) rfl rfl (by omega) ?_
                                          generalize hw66 : e_up w63 286 p1 (w 286 p1 + 1) = w66
                                          have f67 : e_fr (mJo p1 (w 286 p1)) w w66 := e_fr.up f64 hw66 (by unfold mJo; omega)
                                          have hT68 : e_Has mTy w66 := e_Has.upr hT65 hw66 rfl (by omega)
                                          refine e_Ok.run (t' := (294, [(8, (0, 6 * p1 + w 286 p1)), (0, (1, 275)), (1, (0, p1)), (2, (0, p2)), (3, (0, p3)), (4, (0, p4)), (5, (0, p5)), (7, (0, y7))], [(1, 275)], w66)) 1 rfl ?_
                                          refine e_Ok.getr (z := 286) rfl (el_o rfl) rfl rfl (by rw [← hw66]; exact (e_up_ne _ _ (Or.inl (by omega))).trans (by rw [← hw63]; exact (e_up_ne _ _ (Or.inl (by omega))).trans (by rw [← hw60]; exact (e_up_ne _ _ (Or.inl (by omega))).trans (by rw [← hw57]; exact (e_up_ne _ _ (Or.inl (by omega))).trans (by rw [← hw54]; exact (e_up_ne _ _ (Or.inl (by omega))).trans (by rw [← hw51]; exact (e_up_ne _ _ (Or.inl (by omega))).trans (by rw [← hw48]; exact (e_up_ne _ _ (Or.inl (by omega))).trans (by rw [← hw45]; exact (e_up_ne _ _ (Or.inl (by omega))).trans (e_Has.eq hT rfl))))))))) (by omega) ?_
                                          refine e_Ok.run (t' := (298, [(8, (0, 6 * p1 + w 286 p1)), (0, (1, 275)), (1, (0, p1)), (2, (0, p2)), (3, (0, p3)), (4, (0, p4)), (5, (0, p5)), (7, (0, y7))], [(0, p1), (1, 286)], w66)) 1 rfl ?_
                                          refine e_Ok.ald (z := w 286 p1 + 1) rfl (el_o rfl) rfl (by omega) (by rw [← hw66]; exact e_up_eq _ _ _ _) (by omega) ?_
                                          refine e_Ok.run (t' := (300, [(8, (0, 6 * p1 + w 286 p1)), (0, (1, 275)), (1, (0, p1)), (2, (0, p2)), (3, (0, p3)), (4, (0, p4)), (5, (0, p5)), (7, (0, y7))], [(0, 1), (0, w 286 p1 + 1)], w66)) 1 rfl ?_
                                          refine e_Ok.sub' (z := w 286 p1) rfl (by omega) (by omega) ?_
                                          refine e_Ok.rets rfl rfl ?_
                                          exact ⟨_, rfl, hT68, Or.inr ⟨by omega, by omega, f67, (by rw [← hw66]; exact e_up_eq _ _ _ _), (by rw [← hw66]; exact (e_up_ne _ _ (Or.inl (by omega))).trans (by rw [← hw63]; exact (e_up_ne _ _ (Or.inl (by omega))).trans (by rw [← hw60]; exact (e_up_ne _ _ (Or.inl (by omega))).trans (by rw [← hw57]; exact (e_up_ne _ _ (Or.inl (by omega))).trans (by rw [← hw54]; exact (e_up_ne _ _ (Or.inl (by omega))).trans (by rw [← hw51]; exact (e_up_ne _ _ (Or.inl (by omega))).trans (by rw [← hw48]; exact e_up_eq _ _ _ _))))))), (by rw [← hw66]; exact (e_up_ne _ _ (Or.inl (by omega))).trans (by rw [← hw63]; exact (e_up_ne _ _ (Or.inl (by omega))).trans (by rw [← hw60]; exact (e_up_ne _ _ (Or.inl (by omega))).trans (by rw [← hw57]; exact (e_up_ne _ _ (Or.inl (by omega))).trans (by rw [← hw54]; exact (e_up_ne _ _ (Or.inl (by omega))).trans (by rw [← hw51]; exact e_up_eq _ _ _ _)))))), (by rw [← hw66]; exact (e_up_ne _ _ (Or.inl (by omega))).trans (by rw [← hw63]; exact (e_up_ne _ _ (Or.inl (by omega))).trans (by rw [← hw60]; exact (e_up_ne _ _ (Or.inl (by omega))).trans (by rw [← hw57]; exact (e_up_ne _ _ (Or.inl (by omega))).trans (by rw [← hw54]; exact e_up_eq _ _ _ _))))), (by rw [← hw66]; exact (e_up_ne _ _ (Or.inl (by omega))).trans (by rw [← hw63]; exact (e_up_ne _ _ (Or.inl (by omega))).trans (by rw [← hw60]; exact (e_up_ne _ _ (Or.inl (by omega))).trans (by rw [← hw57]; exact e_up_eq _ _ _ _))))⟩⟩
                                        · replace h44 : (w 286 p1 : Int) = 6 := by have q : ¬ ((w 286 p1 : Int) ≠ 6) := h44; omega
                                          refine e_Ok.run (t' := (207, [(0, (1, 275)), (1, (0, p1)), (2, (0, p2)), (3, (0, p3)), (4, (0, p4)), (5, (0, p5)), (7, (0, y7)), (8, (0, y8))], [(0, (-3))], w)) 1 rfl ?_
                                          refine e_Ok.rets rfl rfl ?_
                                          exact ⟨_, rfl, hT, Or.inl rfl⟩
                                      · replace h43 : (w 275 3 : Int) ≠ 0 := by have q : ¬ ((w 275 3 : Int) = 0) := h43; omega
                                        refine e_Ok.run (t' := (193, [(0, (1, 275)), (1, (0, p1)), (2, (0, p2)), (3, (0, p3)), (4, (0, p4)), (5, (0, p5)), (7, (0, y7)), (8, (0, y8))], [(0, (-2))], w)) 1 rfl ?_
                                        refine e_Ok.rets rfl rfl ?_
                                        exact ⟨_, rfl, hT, Or.inl rfl⟩
                                    · replace h41 : (y7 : Int) > 8000 := by have q : ¬ ((y7 : Int) ≤ 8000) := h41; omega
                                      refine e_Ok.run (t' := (183, [(0, (1, 275)), (1, (0, p1)), (2, (0, p2)), (3, (0, p3)), (4, (0, p4)), (5, (0, p5)), (7, (0, y7)), (8, (0, y8))], [(0, (-1))], w)) 1 rfl ?_
                                      refine e_Ok.rets rfl rfl ?_
                                      exact ⟨_, rfl, hT, Or.inl rfl⟩
                              · replace h38 : (y8 : Int) < w 286 p1 := by have q : ¬ ((y8 : Int) ≥ w 286 p1) := h38; omega
                                refine e_Ok.run (t' := (109, [(0, (1, 275)), (1, (0, p1)), (2, (0, p2)), (3, (0, p3)), (4, (0, p4)), (5, (0, p5)), (7, (0, y7)), (8, (0, y8))], [(1, 275), (0, y7)], w)) 2 rfl ?_
                                refine e_Ok.getr (z := 292) rfl (el_o rfl) rfl rfl (e_Has.eq hT rfl) (by omega) ?_
                                refine e_Ok.run (t' := (115, [(0, (1, 275)), (1, (0, p1)), (2, (0, p2)), (3, (0, p3)), (4, (0, p4)), (5, (0, p5)), (7, (0, y7)), (8, (0, y8))], [(0, p1), (0, 6), (1, 292), (0, y7)], w)) 2 rfl ?_
                                refine e_Ok.mul (z := 6 * p1) rfl (by omega) (by omega) ?_
                                refine e_Ok.run (t' := (118, [(0, (1, 275)), (1, (0, p1)), (2, (0, p2)), (3, (0, p3)), (4, (0, p4)), (5, (0, p5)), (7, (0, y7)), (8, (0, y8))], [(0, y8), (0, 6 * p1), (1, 292), (0, y7)], w)) 1 rfl ?_
                                refine e_Ok.add (z := 6 * p1 + y8) rfl (by omega) (by omega) ?_
                                have h69 := (e_Has.get hT (c := 292) (k := 6 * p1 + y8) (lo := 0) (hi := 8000) rfl (by decide))
                                refine e_Ok.ald (z := w 292 (6 * p1 + y8)) rfl (el_o rfl) rfl (by omega) rfl (by omega) ?_
                                refine e_Ok.run (t' := (121, [(0, (1, 275)), (1, (0, p1)), (2, (0, p2)), (3, (0, p3)), (4, (0, p4)), (5, (0, p5)), (7, (0, y7)), (8, (0, y8))], [(1, 275), (0, w 292 (6 * p1 + y8)), (0, y7)], w)) 1 rfl ?_
                                refine e_Ok.getr (z := 287) rfl (el_o rfl) rfl rfl (e_Has.eq hT rfl) (by omega) ?_
                                refine e_Ok.run (t' := (127, [(0, (1, 275)), (1, (0, p1)), (2, (0, p2)), (3, (0, p3)), (4, (0, p4)), (5, (0, p5)), (7, (0, y7)), (8, (0, y8))], [(0, p1), (0, 6), (1, 287), (0, w 292 (6 * p1 + y8)), (0, y7)], w)) 2 rfl ?_
                                refine e_Ok.mul (z := 6 * p1) rfl (by omega) (by omega) ?_
                                refine e_Ok.run (t' := (130, [(0, (1, 275)), (1, (0, p1)), (2, (0, p2)), (3, (0, p3)), (4, (0, p4)), (5, (0, p5)), (7, (0, y7)), (8, (0, y8))], [(0, y8), (0, 6 * p1), (1, 287), (0, w 292 (6 * p1 + y8)), (0, y7)], w)) 1 rfl ?_
                                refine e_Ok.add (z := 6 * p1 + y8) rfl (by omega) (by omega) ?_
                                have h70 := (e_Has.get hT (c := 287) (k := 6 * p1 + y8) (lo := 0) (hi := 1) rfl (by decide))
                                refine e_Ok.ald (z := w 287 (6 * p1 + y8)) rfl (el_o rfl) rfl (by omega) rfl (by omega) ?_
                                refine e_Ok.run (t' := (133, [(0, (1, 275)), (1, (0, p1)), (2, (0, p2)), (3, (0, p3)), (4, (0, p4)), (5, (0, p5)), (7, (0, y7)), (8, (0, y8))], [(0, 1), (0, w 287 (6 * p1 + y8)), (0, w 292 (6 * p1 + y8)), (0, y7)], w)) 1 rfl ?_
                                refine e_Ok.if2 rfl (fun h71 => ?_) (fun h71 => ?_)
                                · replace h71 : (w 287 (6 * p1 + y8) : Int) ≠ 1 := h71
                                  refine e_Ok.run (t' := (141, [(0, (1, 275)), (1, (0, p1)), (2, (0, p2)), (3, (0, p3)), (4, (0, p4)), (5, (0, p5)), (7, (0, y7)), (8, (0, y8))], [(1, 275), (0, w 292 (6 * p1 + y8)), (0, y7)], w)) 1 rfl ?_
                                  refine e_Ok.getr (z := 289) rfl (el_o rfl) rfl rfl (e_Has.eq hT rfl) (by omega) ?_
                                  refine e_Ok.run (t' := (147, [(0, (1, 275)), (1, (0, p1)), (2, (0, p2)), (3, (0, p3)), (4, (0, p4)), (5, (0, p5)), (7, (0, y7)), (8, (0, y8))], [(0, p1), (0, 6), (1, 289), (0, w 292 (6 * p1 + y8)), (0, y7)], w)) 2 rfl ?_
                                  refine e_Ok.mul (z := 6 * p1) rfl (by omega) (by omega) ?_
                                  refine e_Ok.run (t' := (150, [(0, (1, 275)), (1, (0, p1)), (2, (0, p2)), (3, (0, p3)), (4, (0, p4)), (5, (0, p5)), (7, (0, y7)), (8, (0, y8))], [(0, y8), (0, 6 * p1), (1, 289), (0, w 292 (6 * p1 + y8)), (0, y7)], w)) 1 rfl ?_
                                  refine e_Ok.add (z := 6 * p1 + y8) rfl (by omega) (by omega) ?_
                                  have h72 := (e_Has.get hT (c := 289) (k := 6 * p1 + y8) (lo := 0) (hi := 100000) rfl (by decide))
                                  refine e_Ok.ald (z := w 289 (6 * p1 + y8)) rfl (el_o rfl) rfl (by omega) rfl (by omega) ?_
                                  refine e_Ok.add (z := w 292 (6 * p1 + y8) + w 289 (6 * p1 + y8)) rfl (by omega) (by omega) ?_
                                  refine e_Ok.any rfl (eF_add_any _ _) (fun z73 z73a z73b => ?_)
                                  refine e_Ok.run (t' := (156, [(7, (0, z73)), (0, (1, 275)), (1, (0, p1)), (2, (0, p2)), (3, (0, p3)), (4, (0, p4)), (5, (0, p5)), (8, (0, y8))], [], w)) 1 rfl ?_
                                  refine e_Ok.inc (z := y8 + 1) rfl rfl (by omega) (by omega) ?_
                                  show e_Ok 20 elay ecode eI (d + 1) 279 (159, [(8, (0, y8 + 1)), (7, (0, z73)), (0, (1, 275)), (1, (0, p1)), (2, (0, p2)), (3, (0, p3)), (4, (0, p4)), (5, (0, p5))], [], w) _
                                  refine e_Ok.run (t' := (95, [(8, (0, y8 + 1)), (7, (0, z73)), (0, (1, 275)), (1, (0, p1)), (2, (0, p2)), (3, (0, p3)), (4, (0, p4)), (5, (0, p5))], [], w)) 1 rfl ?_
                                  refine e_Ok.sub eAlk (e_sub_of rfl ?_) (ih35 z73 (y8 + 1) (by omega) (by omega))
                                  exact ⟨rfl, rfl, rfl, rfl, rfl, rfl, rfl, rfl, trivial⟩
                                · replace h71 : (w 287 (6 * p1 + y8) : Int) = 1 := by have q : ¬ ((w 287 (6 * p1 + y8) : Int) ≠ 1) := h71; omega
                                  refine e_Ok.run (t' := (152, [(0, (1, 275)), (1, (0, p1)), (2, (0, p2)), (3, (0, p3)), (4, (0, p4)), (5, (0, p5)), (7, (0, y7)), (8, (0, y8))], [(0, 0), (0, w 292 (6 * p1 + y8)), (0, y7)], w)) 2 rfl ?_
                                  refine e_Ok.add (z := w 292 (6 * p1 + y8)) rfl (by omega) (by omega) ?_
                                  refine e_Ok.any rfl (eF_add_any _ _) (fun z74 z74a z74b => ?_)
                                  refine e_Ok.run (t' := (156, [(7, (0, z74)), (0, (1, 275)), (1, (0, p1)), (2, (0, p2)), (3, (0, p3)), (4, (0, p4)), (5, (0, p5)), (8, (0, y8))], [], w)) 1 rfl ?_
                                  refine e_Ok.inc (z := y8 + 1) rfl rfl (by omega) (by omega) ?_
                                  show e_Ok 20 elay ecode eI (d + 1) 279 (159, [(8, (0, y8 + 1)), (7, (0, z74)), (0, (1, 275)), (1, (0, p1)), (2, (0, p2)), (3, (0, p3)), (4, (0, p4)), (5, (0, p5))], [], w) _
                                  refine e_Ok.run (t' := (95, [(8, (0, y8 + 1)), (7, (0, z74)), (0, (1, 275)), (1, (0, p1)), (2, (0, p2)), (3, (0, p3)), (4, (0, p4)), (5, (0, p5))], [], w)) 1 rfl ?_
                                  refine e_Ok.sub eAlk (e_sub_of rfl ?_) (ih35 z74 (y8 + 1) (by omega) (by omega))
                                  exact ⟨rfl, rfl, rfl, rfl, rfl, rfl, rfl, rfl, trivial⟩
                          refine e_Ok.sub eAlk (e_sub_of rfl ?_) (hL34 (7 + 1 : Int).toNat (p5 + p4) 0 (by omega) (by omega))
                          exact ⟨rfl, rfl, rfl, rfl, rfl, rfl, rfl, rfl, trivial⟩
                      · replace h32 : (1 : Int) = 0 := by have q : ¬ ((1 : Int) ≠ 0) := h32; omega
                        exfalso; omega
                    · show e_Ok 20 elay ecode eI (d + 1) 279 (71, [(6, (0, 8000)), (0, (1, 275)), (1, (0, p1)), (2, (0, p2)), (3, (0, p3)), (4, (0, p4)), (5, (0, p5))], [(0, 0)], w) _
                      refine e_Ok.if1 rfl (fun h75 => ?_) (fun h75 => ?_)
                      · replace h75 : (0 : Int) ≠ 0 := h75
                        exfalso; omega
                      · replace h75 : (0 : Int) = 0 := by have q : ¬ ((0 : Int) ≠ 0) := h75; omega
                        refine e_Ok.run (t' := (75, [(6, (0, 8000)), (0, (1, 275)), (1, (0, p1)), (2, (0, p2)), (3, (0, p3)), (4, (0, p4)), (5, (0, p5))], [(0, (-1))], w)) 1 rfl ?_
                        refine e_Ok.rets rfl rfl ?_
                        exact ⟨_, rfl, hT, Or.inl rfl⟩
                · show e_Ok 20 elay ecode eI (d + 1) 279 (58, [(6, (0, 8000)), (0, (1, 275)), (1, (0, p1)), (2, (0, p2)), (3, (0, p3)), (4, (0, p4)), (5, (0, p5))], [(0, 0)], w) _
                  refine e_Ok.if1 rfl (fun h76 => ?_) (fun h76 => ?_)
                  · replace h76 : (0 : Int) = 0 := h76
                    refine e_Ok.run (t' := (75, [(6, (0, 8000)), (0, (1, 275)), (1, (0, p1)), (2, (0, p2)), (3, (0, p3)), (4, (0, p4)), (5, (0, p5))], [(0, (-1))], w)) 1 rfl ?_
                    refine e_Ok.rets rfl rfl ?_
                    exact ⟨_, rfl, hT, Or.inl rfl⟩
                  · replace h76 : (0 : Int) ≠ 0 := by have q : ¬ ((0 : Int) = 0) := h76; omega
                    exfalso; omega
            · show e_Ok 20 elay ecode eI (d + 1) 279 (45, [(6, (0, 8000)), (0, (1, 275)), (1, (0, p1)), (2, (0, p2)), (3, (0, p3)), (4, (0, p4)), (5, (0, p5))], [(0, 0)], w) _
              refine e_Ok.if1 rfl (fun h77 => ?_) (fun h77 => ?_)
              · replace h77 : (0 : Int) = 0 := h77
                refine e_Ok.run (t' := (75, [(6, (0, 8000)), (0, (1, 275)), (1, (0, p1)), (2, (0, p2)), (3, (0, p3)), (4, (0, p4)), (5, (0, p5))], [(0, (-1))], w)) 1 rfl ?_
                refine e_Ok.rets rfl rfl ?_
                exact ⟨_, rfl, hT, Or.inl rfl⟩
              · replace h77 : (0 : Int) ≠ 0 := by have q : ¬ ((0 : Int) = 0) := h77; omega
                exfalso; omega
          · replace h14 : (p2 : Int) = 0 := by have q : ¬ ((p2 : Int) ≠ 0) := h14; omega
            refine e_Ok.run (t' := (39, [(6, (0, 100000)), (0, (1, 275)), (1, (0, p1)), (2, (0, p2)), (3, (0, p3)), (4, (0, p4)), (5, (0, p5))], [(0, 100000), (4, p3)], w)) 6 rfl ?_
            refine e_Ok.neg (z := (-100000)) rfl (by omega) (by omega) ?_
            refine e_Ok.run (t' := (42, [(6, (0, 100000)), (0, (1, 275)), (1, (0, p1)), (2, (0, p2)), (3, (0, p3)), (4, (0, p4)), (5, (0, p5))], [(4, 0), (4, (-100000)), (4, p3)], w)) 2 rfl ?_
            refine e_Ok.callS rfl (by omega) rfl rfl (c_266) (fun r78 w79 h80 => ?_)
            obtain ⟨z81, rfl, rfl, q82⟩ := h80
            obtain ⟨rfl, q82⟩ | ⟨rfl, q82⟩ := q82
            · show e_Ok 20 elay ecode eI (d + 1) 279 (45, [(6, (0, 100000)), (0, (1, 275)), (1, (0, p1)), (2, (0, p2)), (3, (0, p3)), (4, (0, p4)), (5, (0, p5))], [(0, 1)], w) _
              refine e_Ok.if1 rfl (fun h83 => ?_) (fun h83 => ?_)
              · replace h83 : (1 : Int) = 0 := h83
                exfalso; omega
              · replace h83 : (1 : Int) ≠ 0 := by have q : ¬ ((1 : Int) = 0) := h83; omega
                refine e_Ok.run (t' := (55, [(6, (0, 100000)), (0, (1, 275)), (1, (0, p1)), (2, (0, p2)), (3, (0, p3)), (4, (0, p4)), (5, (0, p5))], [(4, 100000), (4, 0), (4, p4)], w)) 5 rfl ?_
                refine e_Ok.callS rfl (by omega) rfl rfl (c_266) (fun r84 w85 h86 => ?_)
                obtain ⟨z87, rfl, rfl, q88⟩ := h86
                obtain ⟨rfl, q88⟩ | ⟨rfl, q88⟩ := q88
                · show e_Ok 20 elay ecode eI (d + 1) 279 (58, [(6, (0, 100000)), (0, (1, 275)), (1, (0, p1)), (2, (0, p2)), (3, (0, p3)), (4, (0, p4)), (5, (0, p5))], [(0, 1)], w) _
                  refine e_Ok.if1 rfl (fun h89 => ?_) (fun h89 => ?_)
                  · replace h89 : (1 : Int) = 0 := h89
                    exfalso; omega
                  · replace h89 : (1 : Int) ≠ 0 := by have q : ¬ ((1 : Int) = 0) := h89; omega
                    refine e_Ok.run (t' := (68, [(6, (0, 100000)), (0, (1, 275)), (1, (0, p1)), (2, (0, p2)), (3, (0, p3)), (4, (0, p4)), (5, (0, p5))], [(4, 8000), (4, 0), (4, p5)], w)) 4 rfl ?_
                    refine e_Ok.callS rfl (by omega) rfl rfl (c_266) (fun r90 w91 h92 => ?_)
                    obtain ⟨z93, rfl, rfl, q94⟩ := h92
                    obtain ⟨rfl, q94⟩ | ⟨rfl, q94⟩ := q94
                    · show e_Ok 20 elay ecode eI (d + 1) 279 (71, [(6, (0, 100000)), (0, (1, 275)), (1, (0, p1)), (2, (0, p2)), (3, (0, p3)), (4, (0, p4)), (5, (0, p5))], [(0, 1)], w) _
                      refine e_Ok.if1 rfl (fun h95 => ?_) (fun h95 => ?_)
                      · replace h95 : (1 : Int) ≠ 0 := h95
                        refine e_Ok.run (t' := (80, [(6, (0, 100000)), (0, (1, 275)), (1, (0, p1)), (2, (0, p2)), (3, (0, p3)), (4, (0, p4)), (5, (0, p5))], [(0, 1), (0, p2), (0, p5)], w)) 3 rfl ?_
                        refine e_Ok.if2 rfl (fun h96 => ?_) (fun h96 => ?_)
                        · replace h96 : (p2 : Int) ≠ 1 := h96
                          refine e_Ok.run (t' := (89, [(6, (0, 100000)), (0, (1, 275)), (1, (0, p1)), (2, (0, p2)), (3, (0, p3)), (4, (0, p4)), (5, (0, p5))], [(0, 0), (0, p5)], w)) 1 rfl ?_
                          refine e_Ok.add (z := p5) rfl (by omega) (by omega) ?_
                          refine e_Ok.run (t' := (95, [(8, (0, 0)), (7, (0, p5)), (6, (0, 100000)), (0, (1, 275)), (1, (0, p1)), (2, (0, p2)), (3, (0, p3)), (4, (0, p4)), (5, (0, p5))], [], w)) 3 rfl ?_
                          have hL97 : ∀ (nn : Nat) (y7 : Int) (y8 : Int), 0 ≤ y8 ∧ y8 ≤ 6 → 7 - y8 < nn → e_Ok 20 elay ecode eI (d + 1) 279 (95, [(0, (1, 275)), (1, (0, p1)), (2, (0, p2)), (3, (0, p3)), (4, (0, p4)), (5, (0, p5)), (7, (0, y7)), (8, (0, y8))], [], w) (fun r w' => ∃ z : Int, r = [(0, z)] ∧ e_Has mTy w' ∧ (w = w' ∨ ((0 ≤ p1 ∧ p1 < w 275 10 ∧ w 286 p1 ≤ 5) ∧ w 275 3 = 0 ∧ e_fr (mJo p1 (w 286 p1)) w w' ∧ w' 286 p1 = w 286 p1 + 1 ∧ w' 288 (6 * p1 + w 286 p1) = p3 ∧ w' 289 (6 * p1 + w 286 p1) = p4 ∧ w' 290 (6 * p1 + w 286 p1) = 100 ∧ w' 291 (6 * p1 + w 286 p1) = 10))) := by
                            intro nn
                            induction nn with
                            | zero => intro y7 y8 hj hm; obtain j99 := hj; exfalso; omega
                            | succ nn ih98 =>
                              intro y7 y8 hj hm
                              obtain j99 := hj
                              refine e_Ok.run (t' := (98, [(0, (1, 275)), (1, (0, p1)), (2, (0, p2)), (3, (0, p3)), (4, (0, p4)), (5, (0, p5)), (7, (0, y7)), (8, (0, y8))], [(1, 275), (0, y8)], w)) 2 rfl ?_
                              refine e_Ok.getr (z := 286) rfl (el_o rfl) rfl rfl (e_Has.eq hT rfl) (by omega) ?_
                              refine e_Ok.run (t' := (102, [(0, (1, 275)), (1, (0, p1)), (2, (0, p2)), (3, (0, p3)), (4, (0, p4)), (5, (0, p5)), (7, (0, y7)), (8, (0, y8))], [(0, p1), (1, 286), (0, y8)], w)) 1 rfl ?_
                              have h100 := (e_Has.get hT (c := 286) (k := p1) (lo := 0) (hi := 6) rfl (by decide))
                              refine e_Ok.ald (z := w 286 p1) rfl (el_o rfl) rfl (by omega) rfl (by omega) ?_
                              refine e_Ok.if2 rfl (fun h101 => ?_) (fun h101 => ?_)
                              · replace h101 : (y8 : Int) ≥ w 286 p1 := h101
                                refine e_Ok.run (t' := (164, [(0, (1, 275)), (1, (0, p1)), (2, (0, p2)), (3, (0, p3)), (4, (0, p4)), (5, (0, p5)), (7, (0, y7)), (8, (0, y8))], [(0, 1), (0, p2)], w)) 2 rfl ?_
                                refine e_Ok.if2 rfl (fun h102 => ?_) (fun h102 => ?_)
                                · replace h102 : (p2 : Int) ≠ 1 := h102
                                  refine e_Ok.run (t' := (179, [(0, (1, 275)), (1, (0, p1)), (2, (0, p2)), (3, (0, p3)), (4, (0, p4)), (5, (0, p5)), (7, (0, y7)), (8, (0, y8))], [(0, 8000), (0, y7)], w)) 2 rfl ?_
                                  refine e_Ok.if2 rfl (fun h103 => ?_) (fun h103 => ?_)
                                  · replace h103 : (y7 : Int) ≤ 8000 := h103
                                    refine e_Ok.run (t' := (185, [(0, (1, 275)), (1, (0, p1)), (2, (0, p2)), (3, (0, p3)), (4, (0, p4)), (5, (0, p5)), (7, (0, y7)), (8, (0, y8))], [(1, 275)], w)) 1 rfl ?_
                                    have h104 := (e_Has.get hT (c := 275) (k := 3) (lo := 0) (hi := 1) rfl (by decide))
                                    refine e_Ok.getf (z := w 275 3) rfl (el_o rfl) rfl rfl rfl (by omega) ?_
                                    refine e_Ok.if1 rfl (fun h105 => ?_) (fun h105 => ?_)
                                    · replace h105 : (w 275 3 : Int) = 0 := h105
                                      refine e_Ok.run (t' := (195, [(0, (1, 275)), (1, (0, p1)), (2, (0, p2)), (3, (0, p3)), (4, (0, p4)), (5, (0, p5)), (7, (0, y7)), (8, (0, y8))], [(1, 275)], w)) 1 rfl ?_
                                      refine e_Ok.getr (z := 286) rfl (el_o rfl) rfl rfl (e_Has.eq hT rfl) (by omega) ?_
                                      refine e_Ok.run (t' := (199, [(0, (1, 275)), (1, (0, p1)), (2, (0, p2)), (3, (0, p3)), (4, (0, p4)), (5, (0, p5)), (7, (0, y7)), (8, (0, y8))], [(0, p1), (1, 286)], w)) 1 rfl ?_
                                      refine e_Ok.ald (z := w 286 p1) rfl (el_o rfl) rfl (by omega) rfl (by omega) ?_
                                      refine e_Ok.run (t' := (202, [(0, (1, 275)), (1, (0, p1)), (2, (0, p2)), (3, (0, p3)), (4, (0, p4)), (5, (0, p5)), (7, (0, y7)), (8, (0, y8))], [(0, 6), (0, w 286 p1)], w)) 1 rfl ?_
                                      refine e_Ok.if2 rfl (fun h106 => ?_) (fun h106 => ?_)
                                      · replace h106 : (w 286 p1 : Int) ≠ 6 := h106
                                        refine e_Ok.run (t' := (211, [(0, (1, 275)), (1, (0, p1)), (2, (0, p2)), (3, (0, p3)), (4, (0, p4)), (5, (0, p5)), (7, (0, y7)), (8, (0, y8))], [(0, p1), (0, 6)], w)) 2 rfl ?_
                                        refine e_Ok.mul (z := 6 * p1) rfl (by omega) (by omega) ?_
                                        refine e_Ok.run (t' := (213, [(0, (1, 275)), (1, (0, p1)), (2, (0, p2)), (3, (0, p3)), (4, (0, p4)), (5, (0, p5)), (7, (0, y7)), (8, (0, y8))], [(1, 275), (0, 6 * p1)], w)) 1 rfl ?_
                                        refine e_Ok.getr (z := 286) rfl (el_o rfl) rfl rfl (e_Has.eq hT rfl) (by omega) ?_
                                        refine e_Ok.run (t' := (217, [(0, (1, 275)), (1, (0, p1)), (2, (0, p2)), (3, (0, p3)), (4, (0, p4)), (5, (0, p5)), (7, (0, y7)), (8, (0, y8))], [(0, p1), (1, 286), (0, 6 * p1)], w)) 1 rfl ?_
                                        refine e_Ok.ald (z := w 286 p1) rfl (el_o rfl) rfl (by omega) rfl (by omega) ?_
                                        refine e_Ok.add (z := 6 * p1 + w 286 p1) rfl (by omega) (by omega) ?_
                                        refine e_Ok.run (t' := (222, [(8, (0, 6 * p1 + w 286 p1)), (0, (1, 275)), (1, (0, p1)), (2, (0, p2)), (3, (0, p3)), (4, (0, p4)), (5, (0, p5)), (7, (0, y7))], [(1, 275)], w)) 2 rfl ?_
                                        refine e_Ok.getr (z := 287) rfl (el_o rfl) rfl rfl (e_Has.eq hT rfl) (by omega) ?_
                                        refine e_Ok.run (t' := (229, [(8, (0, 6 * p1 + w 286 p1)), (0, (1, 275)), (1, (0, p1)), (2, (0, p2)), (3, (0, p3)), (4, (0, p4)), (5, (0, p5)), (7, (0, y7))], [(0, p2), (0, 1), (0, 6 * p1 + w 286 p1), (1, 287)], w)) 3 rfl ?_
                                        refine e_Ok.sub' (z := -p2 + 1) rfl (by omega) (by omega) ?_
                                        refine e_Ok.ast rfl (el_o rfl) rfl rfl (by omega) ?_
                                        generalize hw107 : e_up w 287 (6 * p1 + w 286 p1) (-p2 + 1) = w107
                                        have f108 : e_fr (mJo p1 (w 286 p1)) w w107 := e_fr.up (e_fr.refl w) hw107 (by unfold mJo; omega)
                                        have hT109 : e_Has mTy w107 := e_Has.upr hT hw107 rfl (by omega)
                                        refine e_Ok.run (t' := (232, [(8, (0, 6 * p1 + w 286 p1)), (0, (1, 275)), (1, (0, p1)), (2, (0, p2)), (3, (0, p3)), (4, (0, p4)), (5, (0, p5)), (7, (0, y7))], [(1, 275)], w107)) 1 rfl ?_
                                        refine e_Ok.getr (z := 288) rfl (el_o rfl) rfl rfl (by rw [← hw107]; exact (e_up_ne _ _ (Or.inl (by omega))).trans (e_Has.eq hT rfl)) (by omega) ?_
                                        refine e_Ok.run (t' := (238, [(8, (0, 6 * p1 + w 286 p1)), (0, (1, 275)), (1, (0, p1)), (2, (0, p2)), (3, (0, p3)), (4, (0, p4)), (5, (0, p5)), (7, (0, y7))], [(0, p3), (0, 6 * p1 + w 286 p1), (1, 288)], w107)) 2 rfl ?_
                                        refine e_Ok.ast rfl (el_o rfl) rfl rfl (by omega) ?_
                                        generalize hw110 : e_up w107 288 (6 * p1 + w 286 p1) p3 = w110
                                        have f111 : e_fr (mJo p1 (w 286 p1)) w w110 := e_fr.up f108 hw110 (by unfold mJo; omega)
                                        have hT112 : e_Has mTy w110 := e_Has.upr hT109 hw110 rfl (by omega)
                                        refine e_Ok.run (t' := (240, [(8, (0, 6 * p1 + w 286 p1)), (0, (1, 275)), (1, (0, p1)), (2, (0, p2)), (3, (0, p3)), (4, (0, p4)), (5, (0, p5)), (7, (0, y7))], [(1, 275)], w110)) 1 rfl ?_
                                        refine e_Ok.getr (z := 289) rfl (el_o rfl) rfl rfl (by rw [← hw110]; exact (e_up_ne _ _ (Or.inl (by omega))).trans (by rw [← hw107]; exact (e_up_ne _ _ (Or.inl (by omega))).trans (e_Has.eq hT rfl))) (by omega) ?_
                                        refine e_Ok.run (t' := (247, [(8, (0, 6 * p1 + w 286 p1)), (0, (1, 275)), (1, (0, p1)), (2, (0, p2)), (3, (0, p3)), (4, (0, p4)), (5, (0, p5)), (7, (0, y7))], [(0, p4), (0, 6 * p1 + w 286 p1), (1, 289)], w110)) 2 rfl ?_
                                        refine e_Ok.ast rfl (el_o rfl) rfl rfl (by omega) ?_
                                        generalize hw113 : e_up w110 289 (6 * p1 + w 286 p1) p4 = w113
                                        have f114 : e_fr (mJo p1 (w 286 p1)) w w113 := e_fr.up f111 hw113 (by unfold mJo; omega)
                                        have hT115 : e_Has mTy w113 := e_Has.upr hT112 hw113 rfl (by omega)
                                        refine e_Ok.run (t' := (249, [(8, (0, 6 * p1 + w 286 p1)), (0, (1, 275)), (1, (0, p1)), (2, (0, p2)), (3, (0, p3)), (4, (0, p4)), (5, (0, p5)), (7, (0, y7))], [(1, 275)], w113)) 1 rfl ?_
                                        refine e_Ok.getr (z := 290) rfl (el_o rfl) rfl rfl (by rw [← hw113]; exact (e_up_ne _ _ (Or.inl (by omega))).trans (by rw [← hw110]; exact (e_up_ne _ _ (Or.inl (by omega))).trans (by rw [← hw107]; exact (e_up_ne _ _ (Or.inl (by omega))).trans (e_Has.eq hT rfl)))) (by omega) ?_
                                        refine e_Ok.run (t' := (256, [(8, (0, 6 * p1 + w 286 p1)), (0, (1, 275)), (1, (0, p1)), (2, (0, p2)), (3, (0, p3)), (4, (0, p4)), (5, (0, p5)), (7, (0, y7))], [(0, 100), (0, 6 * p1 + w 286 p1), (1, 290)], w113)) 2 rfl ?_
                                        refine e_Ok.ast rfl (el_o rfl) rfl rfl (by omega) ?_
                                        generalize hw116 : e_up w113 290 (6 * p1 + w 286 p1) 100 = w116
                                        have f117 : e_fr (mJo p1 (w 286 p1)) w w116 := e_fr.up f114 hw116 (by unfold mJo; omega)
                                        have hT118 : e_Has mTy w116 := e_Has.upr hT115 hw116 rfl (by omega)
                                        refine e_Ok.run (t' := (258, [(8, (0, 6 * p1 + w 286 p1)), (0, (1, 275)), (1, (0, p1)), (2, (0, p2)), (3, (0, p3)), (4, (0, p4)), (5, (0, p5)), (7, (0, y7))], [(1, 275)], w116)) 1 rfl ?_
                                        refine e_Ok.getr (z := 291) rfl (el_o rfl) rfl rfl (by rw [← hw116]; exact (e_up_ne _ _ (Or.inl (by omega))).trans (by rw [← hw113]; exact (e_up_ne _ _ (Or.inl (by omega))).trans (by rw [← hw110]; exact (e_up_ne _ _ (Or.inl (by omega))).trans (by rw [← hw107]; exact (e_up_ne _ _ (Or.inl (by omega))).trans (e_Has.eq hT rfl))))) (by omega) ?_
                                        refine e_Ok.run (t' := (265, [(8, (0, 6 * p1 + w 286 p1)), (0, (1, 275)), (1, (0, p1)), (2, (0, p2)), (3, (0, p3)), (4, (0, p4)), (5, (0, p5)), (7, (0, y7))], [(0, 10), (0, 6 * p1 + w 286 p1), (1, 291)], w116)) 2 rfl ?_
                                        refine e_Ok.ast rfl (el_o rfl) rfl rfl (by omega) ?_
                                        generalize hw119 : e_up w116 291 (6 * p1 + w 286 p1) 10 = w119
                                        have f120 : e_fr (mJo p1 (w 286 p1)) w w119 := e_fr.up f117 hw119 (by unfold mJo; omega)
                                        have hT121 : e_Has mTy w119 := e_Has.upr hT118 hw119 rfl (by omega)
                                        refine e_Ok.run (t' := (267, [(8, (0, 6 * p1 + w 286 p1)), (0, (1, 275)), (1, (0, p1)), (2, (0, p2)), (3, (0, p3)), (4, (0, p4)), (5, (0, p5)), (7, (0, y7))], [(1, 275)], w119)) 1 rfl ?_
                                        refine e_Ok.getr (z := 292) rfl (el_o rfl) rfl rfl (by rw [← hw119]; exact (e_up_ne _ _ (Or.inl (by omega))).trans (by rw [← hw116]; exact (e_up_ne _ _ (Or.inl (by omega))).trans (by rw [← hw113]; exact (e_up_ne _ _ (Or.inl (by omega))).trans (by rw [← hw110]; exact (e_up_ne _ _ (Or.inl (by omega))).trans (by rw [← hw107]; exact (e_up_ne _ _ (Or.inl (by omega))).trans (e_Has.eq hT rfl)))))) (by omega) ?_
                                        refine e_Ok.run (t' := (274, [(8, (0, 6 * p1 + w 286 p1)), (0, (1, 275)), (1, (0, p1)), (2, (0, p2)), (3, (0, p3)), (4, (0, p4)), (5, (0, p5)), (7, (0, y7))], [(0, p5), (0, 6 * p1 + w 286 p1), (1, 292)], w119)) 2 rfl ?_
                                        refine e_Ok.ast rfl (el_o rfl) rfl rfl (by omega) ?_
                                        generalize hw122 : e_up w119 292 (6 * p1 + w 286 p1) p5 = w122
                                        have f123 : e_fr (mJo p1 (w 286 p1)) w w122 := e_fr.up f120 hw122 (by unfold mJo; omega)
                                        have hT124 : e_Has mTy w122 := e_Has.upr hT121 hw122 rfl (by omega)
                                        refine e_Ok.run (t' := (276, [(8, (0, 6 * p1 + w 286 p1)), (0, (1, 275)), (1, (0, p1)), (2, (0, p2)), (3, (0, p3)), (4, (0, p4)), (5, (0, p5)), (7, (0, y7))], [(1, 275)], w122)) 1 rfl ?_
                                        refine e_Ok.getr (z := 293) rfl (el_o rfl) rfl rfl (by rw [← hw122]; exact (e_up_ne _ _ (Or.inl (by omega))).trans (by rw [← hw119]; exact (e_up_ne _ _ (Or.inl (by omega))).trans (by rw [← hw116]; exact (e_up_ne _ _ (Or.inl (by omega))).trans (by rw [← hw113]; exact (e_up_ne _ _ (Or.inl (by omega))).trans (by rw [← hw110]; exact (e_up_ne _ _ (Or.inl (by omega))).trans (by rw [← hw107]; exact (e_up_ne _ _ (Or.inl (by omega))).trans (e_Has.eq hT rfl))))))) (by omega) ?_
                                        refine e_Ok.run (t' := (282, [(8, (0, 6 * p1 + w 286 p1)), (0, (1, 275)), (1, (0, p1)), (2, (0, p2)), (3, (0, p3)), (4, (0, p4)), (5, (0, p5)), (7, (0, y7))], [(0, 0), (0, 6 * p1 + w 286 p1), (1, 293)], w122)) 2 rfl ?_
                                        refine e_Ok.ast rfl (el_o rfl) rfl rfl (by omega) ?_
                                        generalize hw125 : e_up w122 293 (6 * p1 + w 286 p1) 0 = w125
                                        have f126 : e_fr (mJo p1 (w 286 p1)) w w125 := e_fr.up f123 hw125 (by unfold mJo; omega)
                                        have hT127 : e_Has mTy w125 := e_Has.upr hT124 hw125 rfl (by omega)
                                        refine e_Ok.run (t' := (284, [(8, (0, 6 * p1 + w 286 p1)), (0, (1, 275)), (1, (0, p1)), (2, (0, p2)), (3, (0, p3)), (4, (0, p4)), (5, (0, p5)), (7, (0, y7))], [(1, 275)], w125)) 1 rfl ?_
                                        refine e_Ok.getr (z := 286) rfl (el_o rfl) rfl rfl (by rw [← hw125]; exact (e_up_ne _ _ (Or.inl (by omega))).trans (by rw [← hw122]; exact (e_up_ne _ _ (Or.inl (by omega))).trans (by rw [← hw119]; exact (e_up_ne _ _ (Or.inl (by omega))).trans (by rw [← hw116]; exact (e_up_ne _ _ (Or.inl (by omega))).trans (by rw [← hw113]; exact (e_up_ne _ _ (Or.inl (by omega))).trans (by rw [← hw110]; exact (e_up_ne _ _ (Or.inl (by omega))).trans (by rw [← hw107]; exact (e_up_ne _ _ (Or.inl (by omega))).trans (e_Has.eq hT rfl)))))))) (by omega) ?_
                                        refine e_Ok.run (t' := (289, [(8, (0, 6 * p1 + w 286 p1)), (0, (1, 275)), (1, (0, p1)), (2, (0, p2)), (3, (0, p3)), (4, (0, p4)), (5, (0, p5)), (7, (0, y7))], [(0, p1), (1, 286), (0, p1), (1, 286)], w125)) 2 rfl ?_
                                        refine e_Ok.ald (z := w 286 p1) rfl (el_o rfl) rfl (by omega) (by rw [← hw125]; exact (e_up_ne _ _ (Or.inl (by omega))).trans (by rw [← hw122]; exact (e_up_ne _ _ (Or.inl (by omega))).trans (by rw [← hw119]; exact (e_up_ne _ _ (Or.inl (by omega))).trans (by rw [← hw116]; exact (e_up_ne _ _ (Or.inl (by omega))).trans (by rw [← hw113]; exact (e_up_ne _ _ (Or.inl (by omega))).trans (by rw [← hw110]; exact (e_up_ne _ _ (Or.inl (by omega))).trans (by rw [← hw107]; exact (e_up_ne _ _ (Or.inl (by omega))).trans rfl))))))) (by omega) ?_
                                        refine e_Ok.run (t' := (291, [(8, (0, 6 * p1 + w 286 p1)), (0, (1, 275)), (1, (0, p1)), (2, (0, p2)), (3, (0, p3)), (4, (0, p4)), (5, (0, p5)), (7, (0, y7))], [(0, 1), (0, w 286 p1), (0, p1), (1, 286)], w125)) 1 rfl ?_
                                        refine e_Ok.add (z := w 286 p1 + 1) rfl (by omega) (by omega) ?_
                                        refine e_Ok.ast rfl (el_o rfl) rfl rfl (by omega) ?_
                                        generalize hw128 : e_up w125 286 p1 (w 286 p1 + 1) = w128
                                        have f129 : e_fr (mJo p1 (w 286 p1)) w w128 := e_fr.up f126 hw128 (by unfold mJo; omega)
                                        have hT130 : e_Has mTy w128 := e_Has.upr hT127 hw128 rfl (by omega)
                                        refine e_Ok.run (t' := (294, [(8, (0, 6 * p1 + w 286 p1)), (0, (1, 275)), (1, (0, p1)), (2, (0, p2)), (3, (0, p3)), (4, (0, p4)), (5, (0, p5)), (7, (0, y7))], [(1, 275)], w128)) 1 rfl ?_
                                        refine e_Ok.getr (z := 286) rfl (el_o rfl) rfl rfl (by rw [← hw128]; exact (e_up_ne _ _ (Or.inl (by omega))).trans (by rw [← hw125]; exact (e_up_ne _ _ (Or.inl (by omega))).trans (by rw [← hw122]; exact (e_up_ne _ _ (Or.inl (by omega))).trans (by rw [← hw119]; exact (e_up_ne _ _ (Or.inl (by omega))).trans (by rw [← hw116]; exact (e_up_ne _ _ (Or.inl (by omega))).trans (by rw [← hw113]; exact (e_up_ne _ _ (Or.inl (by omega))).trans (by rw [← hw110]; exact (e_up_ne _ _ (Or.inl (by omega))).trans (by rw [← hw107]; exact (e_up_ne _ _ (Or.inl (by omega))).trans (e_Has.eq hT rfl))))))))) (by omega) ?_
                                        refine e_Ok.run (t' := (298, [(8, (0, 6 * p1 + w 286 p1)), (0, (1, 275)), (1, (0, p1)), (2, (0, p2)), (3, (0, p3)), (4, (0, p4)), (5, (0, p5)), (7, (0, y7))], [(0, p1), (1, 286)], w128)) 1 rfl ?_
                                        refine e_Ok.ald (z := w 286 p1 + 1) rfl (el_o rfl) rfl (by omega) (by rw [← hw128]; exact e_up_eq _ _ _ _) (by omega) ?_
                                        refine e_Ok.run (t' := (300, [(8, (0, 6 * p1 + w 286 p1)), (0, (1, 275)), (1, (0, p1)), (2, (0, p2)), (3, (0, p3)), (4, (0, p4)), (5, (0, p5)), (7, (0, y7))], [(0, 1), (0, w 286 p1 + 1)], w128)) 1 rfl ?_
                                        refine e_Ok.sub' (z := w 286 p1) rfl (by omega) (by omega) ?_
                                        refine e_Ok.rets rfl rfl ?_
                                        exact ⟨_, rfl, hT130, Or.inr ⟨by omega, by omega, f129, (by rw [← hw128]; exact e_up_eq _ _ _ _), (by rw [← hw128]; exact (e_up_ne _ _ (Or.inl (by omega))).trans (by rw [← hw125]; exact (e_up_ne _ _ (Or.inl (by omega))).trans (by rw [← hw122]; exact (e_up_ne _ _ (Or.inl (by omega))).trans (by rw [← hw119]; exact (e_up_ne _ _ (Or.inl (by omega))).trans (by rw [← hw116]; exact (e_up_ne _ _ (Or.inl (by omega))).trans (by rw [← hw113]; exact (e_up_ne _ _ (Or.inl (by omega))).trans (by rw [← hw110]; exact e_up_eq _ _ _ _))))))), (by rw [← hw128]; exact (e_up_ne _ _ (Or.inl (by omega))).trans (by rw [← hw125]; exact (e_up_ne _ _ (Or.inl (by omega))).trans (by rw [← hw122]; exact (e_up_ne _ _ (Or.inl (by omega))).trans (by rw [← hw119]; exact (e_up_ne _ _ (Or.inl (by omega))).trans (by rw [← hw116]; exact (e_up_ne _ _ (Or.inl (by omega))).trans (by rw [← hw113]; exact e_up_eq _ _ _ _)))))), (by rw [← hw128]; exact (e_up_ne _ _ (Or.inl (by omega))).trans (by rw [← hw125]; exact (e_up_ne _ _ (Or.inl (by omega))).trans (by rw [← hw122]; exact (e_up_ne _ _ (Or.inl (by omega))).trans (by rw [← hw119]; exact (e_up_ne _ _ (Or.inl (by omega))).trans (by rw [← hw116]; exact e_up_eq _ _ _ _))))), (by rw [← hw128]; exact (e_up_ne _ _ (Or.inl (by omega))).trans (by rw [← hw125]; exact (e_up_ne _ _ (Or.inl (by omega))).trans (by rw [← hw122]; exact (e_up_ne _ _ (Or.inl (by omega))).trans (by rw [← hw119]; exact e_up_eq _ _ _ _))))⟩⟩
                                      · replace h106 : (w 286 p1 : Int) = 6 := by have q : ¬ ((w 286 p1 : Int) ≠ 6) := h106; omega
                                        refine e_Ok.run (t' := (207, [(0, (1, 275)), (1, (0, p1)), (2, (0, p2)), (3, (0, p3)), (4, (0, p4)), (5, (0, p5)), (7, (0, y7)), (8, (0, y8))], [(0, (-3))], w)) 1 rfl ?_
                                        refine e_Ok.rets rfl rfl ?_
                                        exact ⟨_, rfl, hT, Or.inl rfl⟩
                                    · replace h105 : (w 275 3 : Int) ≠ 0 := by have q : ¬ ((w 275 3 : Int) = 0) := h105; omega
                                      refine e_Ok.run (t' := (193, [(0, (1, 275)), (1, (0, p1)), (2, (0, p2)), (3, (0, p3)), (4, (0, p4)), (5, (0, p5)), (7, (0, y7)), (8, (0, y8))], [(0, (-2))], w)) 1 rfl ?_
                                      refine e_Ok.rets rfl rfl ?_
                                      exact ⟨_, rfl, hT, Or.inl rfl⟩
                                  · replace h103 : (y7 : Int) > 8000 := by have q : ¬ ((y7 : Int) ≤ 8000) := h103; omega
                                    refine e_Ok.run (t' := (183, [(0, (1, 275)), (1, (0, p1)), (2, (0, p2)), (3, (0, p3)), (4, (0, p4)), (5, (0, p5)), (7, (0, y7)), (8, (0, y8))], [(0, (-1))], w)) 1 rfl ?_
                                    refine e_Ok.rets rfl rfl ?_
                                    exact ⟨_, rfl, hT, Or.inl rfl⟩
                                · replace h102 : (p2 : Int) = 1 := by have q : ¬ ((p2 : Int) ≠ 1) := h102; omega
                                  exfalso; omega
                              · replace h101 : (y8 : Int) < w 286 p1 := by have q : ¬ ((y8 : Int) ≥ w 286 p1) := h101; omega
                                refine e_Ok.run (t' := (109, [(0, (1, 275)), (1, (0, p1)), (2, (0, p2)), (3, (0, p3)), (4, (0, p4)), (5, (0, p5)), (7, (0, y7)), (8, (0, y8))], [(1, 275), (0, y7)], w)) 2 rfl ?_
                                refine e_Ok.getr (z := 292) rfl (el_o rfl) rfl rfl (e_Has.eq hT rfl) (by omega) ?_
                                refine e_Ok.run (t' := (115, [(0, (1, 275)), (1, (0, p1)), (2, (0, p2)), (3, (0, p3)), (4, (0, p4)), (5, (0, p5)), (7, (0, y7)), (8, (0, y8))], [(0, p1), (0, 6), (1, 292), (0, y7)], w)) 2 rfl ?_
                                refine e_Ok.mul (z := 6 * p1) rfl (by omega) (by omega) ?_
                                refine e_Ok.run (t' := (118, [(0, (1, 275)), (1, (0, p1)), (2, (0, p2)), (3, (0, p3)), (4, (0, p4)), (5, (0, p5)), (7, (0, y7)), (8, (0, y8))], [(0, y8), (0, 6 * p1), (1, 292), (0, y7)], w)) 1 rfl ?_
                                refine e_Ok.add (z := 6 * p1 + y8) rfl (by omega) (by omega) ?_
                                have h131 := (e_Has.get hT (c := 292) (k := 6 * p1 + y8) (lo := 0) (hi := 8000) rfl (by decide))
                                refine e_Ok.ald (z := w 292 (6 * p1 + y8)) rfl (el_o rfl) rfl (by omega) rfl (by omega) ?_
                                refine e_Ok.run (t' := (121, [(0, (1, 275)), (1, (0, p1)), (2, (0, p2)), (3, (0, p3)), (4, (0, p4)), (5, (0, p5)), (7, (0, y7)), (8, (0, y8))], [(1, 275), (0, w 292 (6 * p1 + y8)), (0, y7)], w)) 1 rfl ?_
                                refine e_Ok.getr (z := 287) rfl (el_o rfl) rfl rfl (e_Has.eq hT rfl) (by omega) ?_
                                refine e_Ok.run (t' := (127, [(0, (1, 275)), (1, (0, p1)), (2, (0, p2)), (3, (0, p3)), (4, (0, p4)), (5, (0, p5)), (7, (0, y7)), (8, (0, y8))], [(0, p1), (0, 6), (1, 287), (0, w 292 (6 * p1 + y8)), (0, y7)], w)) 2 rfl ?_
                                refine e_Ok.mul (z := 6 * p1) rfl (by omega) (by omega) ?_
                                refine e_Ok.run (t' := (130, [(0, (1, 275)), (1, (0, p1)), (2, (0, p2)), (3, (0, p3)), (4, (0, p4)), (5, (0, p5)), (7, (0, y7)), (8, (0, y8))], [(0, y8), (0, 6 * p1), (1, 287), (0, w 292 (6 * p1 + y8)), (0, y7)], w)) 1 rfl ?_
                                refine e_Ok.add (z := 6 * p1 + y8) rfl (by omega) (by omega) ?_
                                have h132 := (e_Has.get hT (c := 287) (k := 6 * p1 + y8) (lo := 0) (hi := 1) rfl (by decide))
                                refine e_Ok.ald (z := w 287 (6 * p1 + y8)) rfl (el_o rfl) rfl (by omega) rfl (by omega) ?_
                                refine e_Ok.run (t' := (133, [(0, (1, 275)), (1, (0, p1)), (2, (0, p2)), (3, (0, p3)), (4, (0, p4)), (5, (0, p5)), (7, (0, y7)), (8, (0, y8))], [(0, 1), (0, w 287 (6 * p1 + y8)), (0, w 292 (6 * p1 + y8)), (0, y7)], w)) 1 rfl ?_
                                refine e_Ok.if2 rfl (fun h133 => ?_) (fun h133 => ?_)
                                · replace h133 : (w 287 (6 * p1 + y8) : Int) ≠ 1 := h133
                                  refine e_Ok.run (t' := (141, [(0, (1, 275)), (1, (0, p1)), (2, (0, p2)), (3, (0, p3)), (4, (0, p4)), (5, (0, p5)), (7, (0, y7)), (8, (0, y8))], [(1, 275), (0, w 292 (6 * p1 + y8)), (0, y7)], w)) 1 rfl ?_
                                  refine e_Ok.getr (z := 289) rfl (el_o rfl) rfl rfl (e_Has.eq hT rfl) (by omega) ?_
                                  refine e_Ok.run (t' := (147, [(0, (1, 275)), (1, (0, p1)), (2, (0, p2)), (3, (0, p3)), (4, (0, p4)), (5, (0, p5)), (7, (0, y7)), (8, (0, y8))], [(0, p1), (0, 6), (1, 289), (0, w 292 (6 * p1 + y8)), (0, y7)], w)) 2 rfl ?_
                                  refine e_Ok.mul (z := 6 * p1) rfl (by omega) (by omega) ?_
                                  refine e_Ok.run (t' := (150, [(0, (1, 275)), (1, (0, p1)), (2, (0, p2)), (3, (0, p3)), (4, (0, p4)), (5, (0, p5)), (7, (0, y7)), (8, (0, y8))], [(0, y8), (0, 6 * p1), (1, 289), (0, w 292 (6 * p1 + y8)), (0, y7)], w)) 1 rfl ?_
                                  refine e_Ok.add (z := 6 * p1 + y8) rfl (by omega) (by omega) ?_
                                  have h134 := (e_Has.get hT (c := 289) (k := 6 * p1 + y8) (lo := 0) (hi := 100000) rfl (by decide))
                                  refine e_Ok.ald (z := w 289 (6 * p1 + y8)) rfl (el_o rfl) rfl (by omega) rfl (by omega) ?_
                                  refine e_Ok.add (z := w 292 (6 * p1 + y8) + w 289 (6 * p1 + y8)) rfl (by omega) (by omega) ?_
                                  refine e_Ok.any rfl (eF_add_any _ _) (fun z135 z135a z135b => ?_)
                                  refine e_Ok.run (t' := (156, [(7, (0, z135)), (0, (1, 275)), (1, (0, p1)), (2, (0, p2)), (3, (0, p3)), (4, (0, p4)), (5, (0, p5)), (8, (0, y8))], [], w)) 1 rfl ?_
                                  refine e_Ok.inc (z := y8 + 1) rfl rfl (by omega) (by omega) ?_
                                  show e_Ok 20 elay ecode eI (d + 1) 279 (159, [(8, (0, y8 + 1)), (7, (0, z135)), (0, (1, 275)), (1, (0, p1)), (2, (0, p2)), (3, (0, p3)), (4, (0, p4)), (5, (0, p5))], [], w) _
                                  refine e_Ok.run (t' := (95, [(8, (0, y8 + 1)), (7, (0, z135)), (0, (1, 275)), (1, (0, p1)), (2, (0, p2)), (3, (0, p3)), (4, (0, p4)), (5, (0, p5))], [], w)) 1 rfl ?_
                                  refine e_Ok.sub eAlk (e_sub_of rfl ?_) (ih98 z135 (y8 + 1) (by omega) (by omega))
                                  exact ⟨rfl, rfl, rfl, rfl, rfl, rfl, rfl, rfl, trivial⟩
                                · replace h133 : (w 287 (6 * p1 + y8) : Int) = 1 := by have q : ¬ ((w 287 (6 * p1 + y8) : Int) ≠ 1) := h133; omega
                                  refine e_Ok.run (t' := (152, [(0, (1, 275)), (1, (0, p1)), (2, (0, p2)), (3, (0, p3)), (4, (0, p4)), (5, (0, p5)), (7, (0, y7)), (8, (0, y8))], [(0, 0), (0, w 292 (6 * p1 + y8)), (0, y7)], w)) 2 rfl ?_
                                  refine e_Ok.add (z := w 292 (6 * p1 + y8)) rfl (by omega) (by omega) ?_
                                  refine e_Ok.any rfl (eF_add_any _ _) (fun z136 z136a z136b => ?_)
                                  refine e_Ok.run (t' := (156, [(7, (0, z136)), (0, (1, 275)), (1, (0, p1)), (2, (0, p2)), (3, (0, p3)), (4, (0, p4)), (5, (0, p5)), (8, (0, y8))], [], w)) 1 rfl ?_
                                  refine e_Ok.inc (z := y8 + 1) rfl rfl (by omega) (by omega) ?_
                                  show e_Ok 20 elay ecode eI (d + 1) 279 (159, [(8, (0, y8 + 1)), (7, (0, z136)), (0, (1, 275)), (1, (0, p1)), (2, (0, p2)), (3, (0, p3)), (4, (0, p4)), (5, (0, p5))], [], w) _
                                  refine e_Ok.run (t' := (95, [(8, (0, y8 + 1)), (7, (0, z136)), (0, (1, 275)), (1, (0, p1)), (2, (0, p2)), (3, (0, p3)), (4, (0, p4)), (5, (0, p5))], [], w)) 1 rfl ?_
                                  refine e_Ok.sub eAlk (e_sub_of rfl ?_) (ih98 z136 (y8 + 1) (by omega) (by omega))
                                  exact ⟨rfl, rfl, rfl, rfl, rfl, rfl, rfl, rfl, trivial⟩
                          refine e_Ok.sub eAlk (e_sub_of rfl ?_) (hL97 (7 + 1 : Int).toNat p5 0 (by omega) (by omega))
                          exact ⟨rfl, rfl, rfl, rfl, rfl, rfl, rfl, rfl, trivial⟩
                        · replace h96 : (p2 : Int) = 1 := by have q : ¬ ((p2 : Int) ≠ 1) := h96; omega
                          exfalso; omega
                      · replace h95 : (1 : Int) = 0 := by have q : ¬ ((1 : Int) ≠ 0) := h95; omega
                        exfalso; omega
                    · show e_Ok 20 elay ecode eI (d + 1) 279 (71, [(6, (0, 100000)), (0, (1, 275)), (1, (0, p1)), (2, (0, p2)), (3, (0, p3)), (4, (0, p4)), (5, (0, p5))], [(0, 0)], w) _
                      refine e_Ok.if1 rfl (fun h137 => ?_) (fun h137 => ?_)
                      · replace h137 : (0 : Int) ≠ 0 := h137
                        exfalso; omega
                      · replace h137 : (0 : Int) = 0 := by have q : ¬ ((0 : Int) ≠ 0) := h137; omega
                        refine e_Ok.run (t' := (75, [(6, (0, 100000)), (0, (1, 275)), (1, (0, p1)), (2, (0, p2)), (3, (0, p3)), (4, (0, p4)), (5, (0, p5))], [(0, (-1))], w)) 1 rfl ?_
                        refine e_Ok.rets rfl rfl ?_
                        exact ⟨_, rfl, hT, Or.inl rfl⟩
                · show e_Ok 20 elay ecode eI (d + 1) 279 (58, [(6, (0, 100000)), (0, (1, 275)), (1, (0, p1)), (2, (0, p2)), (3, (0, p3)), (4, (0, p4)), (5, (0, p5))], [(0, 0)], w) _
                  refine e_Ok.if1 rfl (fun h138 => ?_) (fun h138 => ?_)
                  · replace h138 : (0 : Int) = 0 := h138
                    refine e_Ok.run (t' := (75, [(6, (0, 100000)), (0, (1, 275)), (1, (0, p1)), (2, (0, p2)), (3, (0, p3)), (4, (0, p4)), (5, (0, p5))], [(0, (-1))], w)) 1 rfl ?_
                    refine e_Ok.rets rfl rfl ?_
                    exact ⟨_, rfl, hT, Or.inl rfl⟩
                  · replace h138 : (0 : Int) ≠ 0 := by have q : ¬ ((0 : Int) = 0) := h138; omega
                    exfalso; omega
            · show e_Ok 20 elay ecode eI (d + 1) 279 (45, [(6, (0, 100000)), (0, (1, 275)), (1, (0, p1)), (2, (0, p2)), (3, (0, p3)), (4, (0, p4)), (5, (0, p5))], [(0, 0)], w) _
              refine e_Ok.if1 rfl (fun h139 => ?_) (fun h139 => ?_)
              · replace h139 : (0 : Int) = 0 := h139
                refine e_Ok.run (t' := (75, [(6, (0, 100000)), (0, (1, 275)), (1, (0, p1)), (2, (0, p2)), (3, (0, p3)), (4, (0, p4)), (5, (0, p5))], [(0, (-1))], w)) 1 rfl ?_
                refine e_Ok.rets rfl rfl ?_
                exact ⟨_, rfl, hT, Or.inl rfl⟩
              · replace h139 : (0 : Int) ≠ 0 := by have q : ¬ ((0 : Int) = 0) := h139; omega
                exfalso; omega
        · replace h13 : (1 : Int) = 0 := by have q : ¬ ((1 : Int) ≠ 0) := h13; omega
          exfalso; omega
      · show e_Ok 20 elay ecode eI (d + 1) 279 (15, [(0, (1, 275)), (1, (0, p1)), (2, (0, p2)), (3, (0, p3)), (4, (0, p4)), (5, (0, p5))], [(0, 0)], w) _
        refine e_Ok.if1 rfl (fun h140 => ?_) (fun h140 => ?_)
        · replace h140 : (0 : Int) ≠ 0 := h140
          exfalso; omega
        · replace h140 : (0 : Int) = 0 := by have q : ¬ ((0 : Int) ≠ 0) := h140; omega
          refine e_Ok.run (t' := (19, [(0, (1, 275)), (1, (0, p1)), (2, (0, p2)), (3, (0, p3)), (4, (0, p4)), (5, (0, p5))], [(0, (-1))], w)) 1 rfl ?_
          refine e_Ok.rets rfl rfl ?_
          exact ⟨_, rfl, hT, Or.inl rfl⟩
  · show e_Ok 20 elay ecode eI (d + 1) 279 (5, [(0, (1, 275)), (1, (0, p1)), (2, (0, p2)), (3, (0, p3)), (4, (0, p4)), (5, (0, p5))], [(0, 0)], w) _
    refine e_Ok.if1 rfl (fun h141 => ?_) (fun h141 => ?_)
    · replace h141 : (0 : Int) = 0 := h141
      refine e_Ok.run (t' := (19, [(0, (1, 275)), (1, (0, p1)), (2, (0, p2)), (3, (0, p3)), (4, (0, p4)), (5, (0, p5))], [(0, (-1))], w)) 1 rfl ?_
      refine e_Ok.rets rfl rfl ?_
      exact ⟨_, rfl, hT, Or.inl rfl⟩
    · replace h141 : (0 : Int) ≠ 0 := by have q : ¬ ((0 : Int) = 0) := h141; omega
      exfalso; omega
end
