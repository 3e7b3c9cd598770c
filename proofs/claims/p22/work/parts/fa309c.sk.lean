noncomputable section
theorem l_330 {d : Nat} (hd : 22 ≤ d) {w : eW} (hT : e_Has mLq w) (hH : e_Has mLr w) {N : Int} (hN : w 275 9 = N) (hNr : 0 ≤ N ∧ N ≤ 4000) {t b : Int} (ht : w 275 86 = t) (he : w 275 87 = t + 1) (htr : 0 ≤ t ∧ t < N) (hb : -1000 ≤ b ∧ b ≤ 127) : e_Ok 20 elay ecode eI d 330 (0, [(0, (1, 275)), (1, (0, b))], [], w) (fun r w' => r = [] ∧ e_fr mTq w w' ∧ tkS w' N ∧ t ≤ w' 275 86) := by
  obtain ⟨d, rfl⟩ : ∃ e, d = e + 1 := ⟨d - 1, by omega⟩
  refine e_Ok.run (t' := (2, [(0, (1, 275)), (1, (0, b))], [(0, 3), (1, 275)], w)) 2 rfl ?_
  refine e_Ok.putf rfl rfl rfl rfl ?_
  generalize hw1 : e_up w 275 84 3 = w1
  have f2 : e_fr mTq w w1 := e_fr.up (e_fr.refl w) hw1 (by unfold mTq; omega)
  refine e_Ok.run (t' := (7, [(0, (1, 275)), (1, (0, b))], [(0, b), (1, 275)], w1)) 2 rfl ?_
  refine e_Ok.putf rfl rfl rfl rfl ?_
  generalize hw3 : e_up w1 275 85 b = w3
  have f4 : e_fr mTq w w3 := e_fr.up f2 hw3 (by unfold mTq; omega)
  refine e_Ok.run (t' := (12, [(0, (1, 275)), (1, (0, b))], [(1, 275), (1, 275)], w3)) 2 rfl ?_
  refine e_Ok.getf (z := t) rfl rfl rfl rfl (by rw [← hw3]; exact (e_up_ne _ _ (Or.inr (by omega))).trans (by rw [← hw1]; exact (e_up_ne _ _ (Or.inr (by omega))).trans ht)) (by omega) ?_
  refine e_Ok.run (t' := (16, [(0, (1, 275)), (1, (0, b))], [(0, 1), (0, t), (1, 275)], w3)) 1 rfl ?_
  refine e_Ok.add (z := t + 1) rfl (by omega) (by omega) ?_
  refine e_Ok.callV rfl (by omega) rfl rfl rfl rfl (l_326 (mLT_Tq f4 hT) (mLH_Tq f4 hH) ((by rw [← hw3]; exact (e_up_ne _ _ (Or.inr (by omega))).trans (by rw [← hw1]; exact (e_up_ne _ _ (Or.inr (by omega))).trans hN))) hNr (by omega)) (fun r5 w6 h7 => ?_)
  obtain ⟨z8, rfl, rfl, q9⟩ := h7
  show e_Ok 20 elay ecode eI (d + 1) 330 (20, [(0, (1, 275)), (1, (0, b))], [(0, z8)], w3) _
  refine e_Ok.run (t' := (22, [(0, (1, 275)), (1, (0, b))], [(0, 61), (0, z8)], w3)) 1 rfl ?_
  refine e_Ok.if2 rfl (fun h10 => ?_) (fun h10 => ?_)
  · replace h10 : (z8 : Int) ≠ 61 := h10
    refine e_Ok.run (t' := (34, [(2, (0, 0)), (0, (1, 275)), (1, (0, b))], [(0, 33), (0, b)], w3)) 4 rfl ?_
    refine e_Ok.if2 rfl (fun h11 => ?_) (fun h11 => ?_)
    · replace h11 : (b : Int) = 33 := h11
      refine e_Ok.run (t' := (50, [(2, (0, 0)), (0, (1, 275)), (1, (0, b))], [(0, 0)], w3)) 1 rfl ?_
      refine e_Ok.if1 rfl (fun h12 => ?_) (fun h12 => ?_)
      · replace h12 : (0 : Int) = 0 := h12
        refine e_Ok.run (t' := (97, [(2, (0, 0)), (0, (1, 275)), (1, (0, b))], [(0, 43), (0, b)], w3)) 2 rfl ?_
        refine e_Ok.if2 rfl (fun h13 => ?_) (fun h13 => ?_)
        · replace h13 : (b : Int) = 43 := h13
          exfalso; omega
        · replace h13 : (b : Int) ≠ 43 := by have q : ¬ ((b : Int) = 43) := h13; omega
          refine e_Ok.run (t' := (103, [(2, (0, 0)), (0, (1, 275)), (1, (0, b))], [(0, 45), (0, b)], w3)) 2 rfl ?_
          refine e_Ok.if2 rfl (fun h14 => ?_) (fun h14 => ?_)
          · replace h14 : (b : Int) = 45 := h14
            exfalso; omega
          · replace h14 : (b : Int) ≠ 45 := by have q : ¬ ((b : Int) = 45) := h14; omega
            refine e_Ok.run (t' := (109, [(2, (0, 0)), (0, (1, 275)), (1, (0, b))], [(0, 42), (0, b)], w3)) 2 rfl ?_
            refine e_Ok.if2 rfl (fun h15 => ?_) (fun h15 => ?_)
            · replace h15 : (b : Int) = 42 := h15
              exfalso; omega
            · replace h15 : (b : Int) ≠ 42 := by have q : ¬ ((b : Int) = 42) := h15; omega
              refine e_Ok.run (t' := (115, [(2, (0, 0)), (0, (1, 275)), (1, (0, b))], [(0, 47), (0, b)], w3)) 2 rfl ?_
              refine e_Ok.if2 rfl (fun h16 => ?_) (fun h16 => ?_)
              · replace h16 : (b : Int) = 47 := h16
                exfalso; omega
              · replace h16 : (b : Int) ≠ 47 := by have q : ¬ ((b : Int) = 47) := h16; omega
                refine e_Ok.run (t' := (121, [(2, (0, 0)), (0, (1, 275)), (1, (0, b))], [(0, 37), (0, b)], w3)) 2 rfl ?_
                refine e_Ok.if2 rfl (fun h17 => ?_) (fun h17 => ?_)
                · replace h17 : (b : Int) = 37 := h17
                  exfalso; omega
                · replace h17 : (b : Int) ≠ 37 := by have q : ¬ ((b : Int) = 37) := h17; omega
                  refine e_Ok.run (t' := (127, [(2, (0, 0)), (0, (1, 275)), (1, (0, b))], [(0, 61), (0, b)], w3)) 2 rfl ?_
                  refine e_Ok.if2 rfl (fun h18 => ?_) (fun h18 => ?_)
                  · replace h18 : (b : Int) = 61 := h18
                    exfalso; omega
                  · replace h18 : (b : Int) ≠ 61 := by have q : ¬ ((b : Int) = 61) := h18; omega
                    refine e_Ok.run (t' := (133, [(2, (0, 0)), (0, (1, 275)), (1, (0, b))], [(0, 60), (0, b)], w3)) 2 rfl ?_
                    refine e_Ok.if2 rfl (fun h19 => ?_) (fun h19 => ?_)
                    · replace h19 : (b : Int) = 60 := h19
                      exfalso; omega
                    · replace h19 : (b : Int) ≠ 60 := by have q : ¬ ((b : Int) = 60) := h19; omega
                      refine e_Ok.run (t' := (139, [(2, (0, 0)), (0, (1, 275)), (1, (0, b))], [(0, 62), (0, b)], w3)) 2 rfl ?_
                      refine e_Ok.if2 rfl (fun h20 => ?_) (fun h20 => ?_)
                      · replace h20 : (b : Int) = 62 := h20
                        exfalso; omega
                      · replace h20 : (b : Int) ≠ 62 := by have q : ¬ ((b : Int) = 62) := h20; omega
                        refine e_Ok.run (t' := (145, [(2, (0, 0)), (0, (1, 275)), (1, (0, b))], [(0, 40), (0, b)], w3)) 2 rfl ?_
                        refine e_Ok.if2 rfl (fun h21 => ?_) (fun h21 => ?_)
                        · replace h21 : (b : Int) = 40 := h21
                          exfalso; omega
                        · replace h21 : (b : Int) ≠ 40 := by have q : ¬ ((b : Int) = 40) := h21; omega
                          refine e_Ok.run (t' := (151, [(2, (0, 0)), (0, (1, 275)), (1, (0, b))], [(0, 41), (0, b)], w3)) 2 rfl ?_
                          refine e_Ok.if2 rfl (fun h22 => ?_) (fun h22 => ?_)
                          · replace h22 : (b : Int) = 41 := h22
                            exfalso; omega
                          · replace h22 : (b : Int) ≠ 41 := by have q : ¬ ((b : Int) = 41) := h22; omega
                            refine e_Ok.run (t' := (157, [(2, (0, 0)), (0, (1, 275)), (1, (0, b))], [(0, 44), (0, b)], w3)) 2 rfl ?_
                            refine e_Ok.if2 rfl (fun h23 => ?_) (fun h23 => ?_)
                            · replace h23 : (b : Int) = 44 := h23
                              exfalso; omega
                            · replace h23 : (b : Int) ≠ 44 := by have q : ¬ ((b : Int) = 44) := h23; omega
                              refine e_Ok.run (t' := (163, [(2, (0, 0)), (0, (1, 275)), (1, (0, b))], [(0, 59), (0, b)], w3)) 2 rfl ?_
                              refine e_Ok.if2 rfl (fun h24 => ?_) (fun h24 => ?_)
                              · replace h24 : (b : Int) = 59 := h24
                                exfalso; omega
                              · replace h24 : (b : Int) ≠ 59 := by have q : ¬ ((b : Int) = 59) := h24; omega
                                refine e_Ok.run (t' := (169, [(2, (0, 0)), (0, (1, 275)), (1, (0, b))], [(0, 58), (0, b)], w3)) 2 rfl ?_
                                refine e_Ok.if2 rfl (fun h25 => ?_) (fun h25 => ?_)
                                · replace h25 : (b : Int) = 58 := h25
                                  exfalso; omega
                                · replace h25 : (b : Int) ≠ 58 := by have q : ¬ ((b : Int) = 58) := h25; omega
                                  refine e_Ok.run (t' := (174, [(2, (0, 0)), (0, (1, 275)), (1, (0, b))], [(0, 5), (1, 275)], w3)) 2 rfl ?_
                                  refine e_Ok.putf rfl rfl rfl rfl ?_
                                  generalize hw26 : e_up w3 275 84 5 = w26
                                  have f27 : e_fr mTq w w26 := e_fr.up f4 hw26 (by unfold mTq; omega)
                                  refine e_Ok.rets rfl rfl ?_
                                  have et86 : w26 275 86 = t := (by rw [← hw26]; exact (e_up_ne _ _ (Or.inr (by omega))).trans (by rw [← hw3]; exact (e_up_ne _ _ (Or.inr (by omega))).trans (by rw [← hw1]; exact (e_up_ne _ _ (Or.inr (by omega))).trans ht)))
                                  have et87 : w26 275 87 = t + 1 := (by rw [← hw26]; exact (e_up_ne _ _ (Or.inr (by omega))).trans (by rw [← hw3]; exact (e_up_ne _ _ (Or.inr (by omega))).trans (by rw [← hw1]; exact (e_up_ne _ _ (Or.inr (by omega))).trans he)))
                                  have et84 : w26 275 84 = 5 := (by rw [← hw26]; exact e_up_eq _ _ _ _)
                                  have et85 : w26 275 85 = b := (by rw [← hw26]; exact (e_up_ne _ _ (Or.inr (by omega))).trans (by rw [← hw3]; exact e_up_eq _ _ _ _))
                                  exact ⟨rfl, f27, by unfold tkS tkV; rw [et86, et87, et84, et85]; omega, by omega⟩
      · replace h12 : (0 : Int) ≠ 0 := by have q : ¬ ((0 : Int) = 0) := h12; omega
        exfalso; omega
    · replace h11 : (b : Int) ≠ 33 := by have q : ¬ ((b : Int) = 33) := h11; omega
      refine e_Ok.run (t' := (40, [(2, (0, 0)), (0, (1, 275)), (1, (0, b))], [(0, 60), (0, b)], w3)) 2 rfl ?_
      refine e_Ok.if2 rfl (fun h28 => ?_) (fun h28 => ?_)
      · replace h28 : (b : Int) = 60 := h28
        refine e_Ok.run (t' := (50, [(2, (0, 0)), (0, (1, 275)), (1, (0, b))], [(0, 0)], w3)) 1 rfl ?_
        refine e_Ok.if1 rfl (fun h29 => ?_) (fun h29 => ?_)
        · replace h29 : (0 : Int) = 0 := h29
          refine e_Ok.run (t' := (97, [(2, (0, 0)), (0, (1, 275)), (1, (0, b))], [(0, 43), (0, b)], w3)) 2 rfl ?_
          refine e_Ok.if2 rfl (fun h30 => ?_) (fun h30 => ?_)
          · replace h30 : (b : Int) = 43 := h30
            exfalso; omega
          · replace h30 : (b : Int) ≠ 43 := by have q : ¬ ((b : Int) = 43) := h30; omega
            refine e_Ok.run (t' := (103, [(2, (0, 0)), (0, (1, 275)), (1, (0, b))], [(0, 45), (0, b)], w3)) 2 rfl ?_
            refine e_Ok.if2 rfl (fun h31 => ?_) (fun h31 => ?_)
            · replace h31 : (b : Int) = 45 := h31
              exfalso; omega
            · replace h31 : (b : Int) ≠ 45 := by have q : ¬ ((b : Int) = 45) := h31; omega
              refine e_Ok.run (t' := (109, [(2, (0, 0)), (0, (1, 275)), (1, (0, b))], [(0, 42), (0, b)], w3)) 2 rfl ?_
              refine e_Ok.if2 rfl (fun h32 => ?_) (fun h32 => ?_)
              · replace h32 : (b : Int) = 42 := h32
                exfalso; omega
              · replace h32 : (b : Int) ≠ 42 := by have q : ¬ ((b : Int) = 42) := h32; omega
                refine e_Ok.run (t' := (115, [(2, (0, 0)), (0, (1, 275)), (1, (0, b))], [(0, 47), (0, b)], w3)) 2 rfl ?_
                refine e_Ok.if2 rfl (fun h33 => ?_) (fun h33 => ?_)
                · replace h33 : (b : Int) = 47 := h33
                  exfalso; omega
                · replace h33 : (b : Int) ≠ 47 := by have q : ¬ ((b : Int) = 47) := h33; omega
                  refine e_Ok.run (t' := (121, [(2, (0, 0)), (0, (1, 275)), (1, (0, b))], [(0, 37), (0, b)], w3)) 2 rfl ?_
                  refine e_Ok.if2 rfl (fun h34 => ?_) (fun h34 => ?_)
                  · replace h34 : (b : Int) = 37 := h34
                    exfalso; omega
                  · replace h34 : (b : Int) ≠ 37 := by have q : ¬ ((b : Int) = 37) := h34; omega
                    refine e_Ok.run (t' := (127, [(2, (0, 0)), (0, (1, 275)), (1, (0, b))], [(0, 61), (0, b)], w3)) 2 rfl ?_
                    refine e_Ok.if2 rfl (fun h35 => ?_) (fun h35 => ?_)
                    · replace h35 : (b : Int) = 61 := h35
                      exfalso; omega
                    · replace h35 : (b : Int) ≠ 61 := by have q : ¬ ((b : Int) = 61) := h35; omega
                      refine e_Ok.run (t' := (133, [(2, (0, 0)), (0, (1, 275)), (1, (0, b))], [(0, 60), (0, b)], w3)) 2 rfl ?_
                      refine e_Ok.if2 rfl (fun h36 => ?_) (fun h36 => ?_)
                      · replace h36 : (b : Int) = 60 := h36
                        refine e_Ok.rets rfl rfl ?_
                        have et86 : w3 275 86 = t := (by rw [← hw3]; exact (e_up_ne _ _ (Or.inr (by omega))).trans (by rw [← hw1]; exact (e_up_ne _ _ (Or.inr (by omega))).trans ht))
                        have et87 : w3 275 87 = t + 1 := (by rw [← hw3]; exact (e_up_ne _ _ (Or.inr (by omega))).trans (by rw [← hw1]; exact (e_up_ne _ _ (Or.inr (by omega))).trans he))
                        have et84 : w3 275 84 = 3 := (by rw [← hw3]; exact (e_up_ne _ _ (Or.inr (by omega))).trans (by rw [← hw1]; exact e_up_eq _ _ _ _))
                        have et85 : w3 275 85 = b := (by rw [← hw3]; exact e_up_eq _ _ _ _)
                        exact ⟨rfl, f4, by unfold tkS tkV; rw [et86, et87, et84, et85]; omega, by omega⟩
                      · replace h36 : (b : Int) ≠ 60 := by have q : ¬ ((b : Int) = 60) := h36; omega
                        exfalso; omega
        · replace h29 : (0 : Int) ≠ 0 := by have q : ¬ ((0 : Int) = 0) := h29; omega
          exfalso; omega
      · replace h28 : (b : Int) ≠ 60 := by have q : ¬ ((b : Int) = 60) := h28; omega
        refine e_Ok.run (t' := (46, [(2, (0, 0)), (0, (1, 275)), (1, (0, b))], [(0, 62), (0, b)], w3)) 2 rfl ?_
        refine e_Ok.if2 rfl (fun h37 => ?_) (fun h37 => ?_)
        · replace h37 : (b : Int) ≠ 62 := h37
          refine e_Ok.run (t' := (97, [(2, (0, 0)), (0, (1, 275)), (1, (0, b))], [(0, 43), (0, b)], w3)) 2 rfl ?_
          refine e_Ok.if2 rfl (fun h38 => ?_) (fun h38 => ?_)
          · replace h38 : (b : Int) = 43 := h38
            refine e_Ok.rets rfl rfl ?_
            have et86 : w3 275 86 = t := (by rw [← hw3]; exact (e_up_ne _ _ (Or.inr (by omega))).trans (by rw [← hw1]; exact (e_up_ne _ _ (Or.inr (by omega))).trans ht))
            have et87 : w3 275 87 = t + 1 := (by rw [← hw3]; exact (e_up_ne _ _ (Or.inr (by omega))).trans (by rw [← hw1]; exact (e_up_ne _ _ (Or.inr (by omega))).trans he))
            have et84 : w3 275 84 = 3 := (by rw [← hw3]; exact (e_up_ne _ _ (Or.inr (by omega))).trans (by rw [← hw1]; exact e_up_eq _ _ _ _))
            have et85 : w3 275 85 = b := (by rw [← hw3]; exact e_up_eq _ _ _ _)
            exact ⟨rfl, f4, by unfold tkS tkV; rw [et86, et87, et84, et85]; omega, by omega⟩
          · replace h38 : (b : Int) ≠ 43 := by have q : ¬ ((b : Int) = 43) := h38; omega
            refine e_Ok.run (t' := (103, [(2, (0, 0)), (0, (1, 275)), (1, (0, b))], [(0, 45), (0, b)], w3)) 2 rfl ?_
            refine e_Ok.if2 rfl (fun h40 => ?_) (fun h40 => ?_)
            · replace h40 : (b : Int) = 45 := h40
              refine e_Ok.rets rfl rfl ?_
              have et86 : w3 275 86 = t := (by rw [← hw3]; exact (e_up_ne _ _ (Or.inr (by omega))).trans (by rw [← hw1]; exact (e_up_ne _ _ (Or.inr (by omega))).trans ht))
              have et87 : w3 275 87 = t + 1 := (by rw [← hw3]; exact (e_up_ne _ _ (Or.inr (by omega))).trans (by rw [← hw1]; exact (e_up_ne _ _ (Or.inr (by omega))).trans he))
              have et84 : w3 275 84 = 3 := (by rw [← hw3]; exact (e_up_ne _ _ (Or.inr (by omega))).trans (by rw [← hw1]; exact e_up_eq _ _ _ _))
              have et85 : w3 275 85 = b := (by rw [← hw3]; exact e_up_eq _ _ _ _)
              exact ⟨rfl, f4, by unfold tkS tkV; rw [et86, et87, et84, et85]; omega, by omega⟩
            · replace h40 : (b : Int) ≠ 45 := by have q : ¬ ((b : Int) = 45) := h40; omega
              refine e_Ok.run (t' := (109, [(2, (0, 0)), (0, (1, 275)), (1, (0, b))], [(0, 42), (0, b)], w3)) 2 rfl ?_
              refine e_Ok.if2 rfl (fun h41 => ?_) (fun h41 => ?_)
              · replace h41 : (b : Int) = 42 := h41
                refine e_Ok.rets rfl rfl ?_
                have et86 : w3 275 86 = t := (by rw [← hw3]; exact (e_up_ne _ _ (Or.inr (by omega))).trans (by rw [← hw1]; exact (e_up_ne _ _ (Or.inr (by omega))).trans ht))
                have et87 : w3 275 87 = t + 1 := (by rw [← hw3]; exact (e_up_ne _ _ (Or.inr (by omega))).trans (by rw [← hw1]; exact (e_up_ne _ _ (Or.inr (by omega))).trans he))
                have et84 : w3 275 84 = 3 := (by rw [← hw3]; exact (e_up_ne _ _ (Or.inr (by omega))).trans (by rw [← hw1]; exact e_up_eq _ _ _ _))
                have et85 : w3 275 85 = b := (by rw [← hw3]; exact e_up_eq _ _ _ _)
                exact ⟨rfl, f4, by unfold tkS tkV; rw [et86, et87, et84, et85]; omega, by omega⟩
              · replace h41 : (b : Int) ≠ 42 := by have q : ¬ ((b : Int) = 42) := h41; omega
                refine e_Ok.run (t' := (115, [(2, (0, 0)), (0, (1, 275)), (1, (0, b))], [(0, 47), (0, b)], w3)) 2 rfl ?_
                refine e_Ok.if2 rfl (fun h42 => ?_) (fun h42 => ?_)
                · replace h42 : (b : Int) = 47 := h42
                  refine e_Ok.rets rfl rfl ?_
                  have et86 : w3 275 86 = t := (by rw [← hw3]; exact (e_up_ne _ _ (Or.inr (by omega))).trans (by rw [← hw1]; exact (e_up_ne _ _ (Or.inr (by omega))).trans ht))
                  have et87 : w3 275 87 = t + 1 := (by rw [← hw3]; exact (e_up_ne _ _ (Or.inr (by omega))).trans (by rw [← hw1]; exact (e_up_ne _ _ (Or.inr (by omega))).trans he))
                  have et84 : w3 275 84 = 3 := (by rw [← hw3]; exact (e_up_ne _ _ (Or.inr (by omega))).trans (by rw [← hw1]; exact e_up_eq _ _ _ _))
                  have et85 : w3 275 85 = b := (by rw [← hw3]; exact e_up_eq _ _ _ _)
                  exact ⟨rfl, f4, by unfold tkS tkV; rw [et86, et87, et84, et85]; omega, by omega⟩
                · replace h42 : (b : Int) ≠ 47 := by have q : ¬ ((b : Int) = 47) := h42; omega
                  refine e_Ok.run (t' := (121, [(2, (0, 0)), (0, (1, 275)), (1, (0, b))], [(0, 37), (0, b)], w3)) 2 rfl ?_
                  refine e_Ok.if2 rfl (fun h43 => ?_) (fun h43 => ?_)
                  · replace h43 : (b : Int) = 37 := h43
                    refine e_Ok.rets rfl rfl ?_
                    have et86 : w3 275 86 = t := (by rw [← hw3]; exact (e_up_ne _ _ (Or.inr (by omega))).trans (by rw [← hw1]; exact (e_up_ne _ _ (Or.inr (by omega))).trans ht))
                    have et87 : w3 275 87 = t + 1 := (by rw [← hw3]; exact (e_up_ne _ _ (Or.inr (by omega))).trans (by rw [← hw1]; exact (e_up_ne _ _ (Or.inr (by omega))).trans he))
                    have et84 : w3 275 84 = 3 := (by rw [← hw3]; exact (e_up_ne _ _ (Or.inr (by omega))).trans (by rw [← hw1]; exact e_up_eq _ _ _ _))
                    have et85 : w3 275 85 = b := (by rw [← hw3]; exact e_up_eq _ _ _ _)
                    exact ⟨rfl, f4, by unfold tkS tkV; rw [et86, et87, et84, et85]; omega, by omega⟩
                  · replace h43 : (b : Int) ≠ 37 := by have q : ¬ ((b : Int) = 37) := h43; omega
                    refine e_Ok.run (t' := (127, [(2, (0, 0)), (0, (1, 275)), (1, (0, b))], [(0, 61), (0, b)], w3)) 2 rfl ?_
                    refine e_Ok.if2 rfl (fun h44 => ?_) (fun h44 => ?_)
                    · replace h44 : (b : Int) = 61 := h44
                      refine e_Ok.rets rfl rfl ?_
                      have et86 : w3 275 86 = t := (by rw [← hw3]; exact (e_up_ne _ _ (Or.inr (by omega))).trans (by rw [← hw1]; exact (e_up_ne _ _ (Or.inr (by omega))).trans ht))
                      have et87 : w3 275 87 = t + 1 := (by rw [← hw3]; exact (e_up_ne _ _ (Or.inr (by omega))).trans (by rw [← hw1]; exact (e_up_ne _ _ (Or.inr (by omega))).trans he))
                      have et84 : w3 275 84 = 3 := (by rw [← hw3]; exact (e_up_ne _ _ (Or.inr (by omega))).trans (by rw [← hw1]; exact e_up_eq _ _ _ _))
                      have et85 : w3 275 85 = b := (by rw [← hw3]; exact e_up_eq _ _ _ _)
                      exact ⟨rfl, f4, by unfold tkS tkV; rw [et86, et87, et84, et85]; omega, by omega⟩
                    · replace h44 : (b : Int) ≠ 61 := by have q : ¬ ((b : Int) = 61) := h44; omega
                      refine e_Ok.run (t' := (133, [(2, (0, 0)), (0, (1, 275)), (1, (0, b))], [(0, 60), (0, b)], w3)) 2 rfl ?_
                      refine e_Ok.if2 rfl (fun h45 => ?_) (fun h45 => ?_)
                      · replace h45 : (b : Int) = 60 := h45
                        refine e_Ok.rets rfl rfl ?_
                        have et86 : w3 275 86 = t := (by rw [← hw3]; exact (e_up_ne _ _ (Or.inr (by omega))).trans (by rw [← hw1]; exact (e_up_ne _ _ (Or.inr (by omega))).trans ht))
                        have et87 : w3 275 87 = t + 1 := (by rw [← hw3]; exact (e_up_ne _ _ (Or.inr (by omega))).trans (by rw [← hw1]; exact (e_up_ne _ _ (Or.inr (by omega))).trans he))
                        have et84 : w3 275 84 = 3 := (by rw [← hw3]; exact (e_up_ne _ _ (Or.inr (by omega))).trans (by rw [← hw1]; exact e_up_eq _ _ _ _))
                        have et85 : w3 275 85 = b := (by rw [← hw3]; exact e_up_eq _ _ _ _)
                        exact ⟨rfl, f4, by unfold tkS tkV; rw [et86, et87, et84, et85]; omega, by omega⟩
                      · replace h45 : (b : Int) ≠ 60 := by have q : ¬ ((b : Int) = 60) := h45; omega
                        refine e_Ok.run (t' := (139, [(2, (0, 0)), (0, (1, 275)), (1, (0, b))], [(0, 62), (0, b)], w3)) 2 rfl ?_
                        refine e_Ok.if2 rfl (fun h46 => ?_) (fun h46 => ?_)
                        · replace h46 : (b : Int) = 62 := h46
                          refine e_Ok.rets rfl rfl ?_
                          have et86 : w3 275 86 = t := (by rw [← hw3]; exact (e_up_ne _ _ (Or.inr (by omega))).trans (by rw [← hw1]; exact (e_up_ne _ _ (Or.inr (by omega))).trans ht))
                          have et87 : w3 275 87 = t + 1 := (by rw [← hw3]; exact (e_up_ne _ _ (Or.inr (by omega))).trans (by rw [← hw1]; exact (e_up_ne _ _ (Or.inr (by omega))).trans he))
                          have et84 : w3 275 84 = 3 := (by rw [← hw3]; exact (e_up_ne _ _ (Or.inr (by omega))).trans (by rw [← hw1]; exact e_up_eq _ _ _ _))
                          have et85 : w3 275 85 = b := (by rw [← hw3]; exact e_up_eq _ _ _ _)
                          exact ⟨rfl, f4, by unfold tkS tkV; rw [et86, et87, et84, et85]; omega, by omega⟩
                        · replace h46 : (b : Int) ≠ 62 := by have q : ¬ ((b : Int) = 62) := h46; omega
                          refine e_Ok.run (t' := (145, [(2, (0, 0)), (0, (1, 275)), (1, (0, b))], [(0, 40), (0, b)], w3)) 2 rfl ?_
                          refine e_Ok.if2 rfl (fun h47 => ?_) (fun h47 => ?_)
                          · replace h47 : (b : Int) = 40 := h47
                            refine e_Ok.rets rfl rfl ?_
                            have et86 : w3 275 86 = t := (by rw [← hw3]; exact (e_up_ne _ _ (Or.inr (by omega))).trans (by rw [← hw1]; exact (e_up_ne _ _ (Or.inr (by omega))).trans ht))
                            have et87 : w3 275 87 = t + 1 := (by rw [← hw3]; exact (e_up_ne _ _ (Or.inr (by omega))).trans (by rw [← hw1]; exact (e_up_ne _ _ (Or.inr (by omega))).trans he))
                            have et84 : w3 275 84 = 3 := (by rw [← hw3]; exact (e_up_ne _ _ (Or.inr (by omega))).trans (by rw [← hw1]; exact e_up_eq _ _ _ _))
                            have et85 : w3 275 85 = b := (by rw [← hw3]; exact e_up_eq _ _ _ _)
                            exact ⟨rfl, f4, by unfold tkS tkV; rw [et86, et87, et84, et85]; omega, by omega⟩
                          · replace h47 : (b : Int) ≠ 40 := by have q : ¬ ((b : Int) = 40) := h47; omega
                            refine e_Ok.run (t' := (151, [(2, (0, 0)), (0, (1, 275)), (1, (0, b))], [(0, 41), (0, b)], w3)) 2 rfl ?_
                            refine e_Ok.if2 rfl (fun h48 => ?_) (fun h48 => ?_)
                            · replace h48 : (b : Int) = 41 := h48
                              refine e_Ok.rets rfl rfl ?_
                              have et86 : w3 275 86 = t := (by rw [← hw3]; exact (e_up_ne _ _ (Or.inr (by omega))).trans (by rw [← hw1]; exact (e_up_ne _ _ (Or.inr (by omega))).trans ht))
                              have et87 : w3 275 87 = t + 1 := (by rw [← hw3]; exact (e_up_ne _ _ (Or.inr (by omega))).trans (by rw [← hw1]; exact (e_up_ne _ _ (Or.inr (by omega))).trans he))
                              have et84 : w3 275 84 = 3 := (by rw [← hw3]; exact (e_up_ne _ _ (Or.inr (by omega))).trans (by rw [← hw1]; exact e_up_eq _ _ _ _))
                              have et85 : w3 275 85 = b := (by rw [← hw3]; exact e_up_eq _ _ _ _)
                              exact ⟨rfl, f4, by unfold tkS tkV; rw [et86, et87, et84, et85]; omega, by omega⟩
                            · replace h48 : (b : Int) ≠ 41 := by have q : ¬ ((b : Int) = 41) := h48; omega
                              refine e_Ok.run (t' := (157, [(2, (0, 0)), (0, (1, 275)), (1, (0, b))], [(0, 44), (0, b)], w3)) 2 rfl ?_
                              refine e_Ok.if2 rfl (fun h49 => ?_) (fun h49 => ?_)
                              · replace h49 : (b : Int) = 44 := h49
                                refine e_Ok.rets rfl rfl ?_
                                have et86 : w3 275 86 = t := (by rw [← hw3]; exact (e_up_ne _ _ (Or.inr (by omega))).trans (by rw [← hw1]; exact (e_up_ne _ _ (Or.inr (by omega))).trans ht))
                                have et87 : w3 275 87 = t + 1 := (by rw [← hw3]; exact (e_up_ne _ _ (Or.inr (by omega))).trans (by rw [← hw1]; exact (e_up_ne _ _ (Or.inr (by omega))).trans he))
                                have et84 : w3 275 84 = 3 := (by rw [← hw3]; exact (e_up_ne _ _ (Or.inr (by omega))).trans (by rw [← hw1]; exact e_up_eq _ _ _ _))
                                have et85 : w3 275 85 = b := (by rw [← hw3]; exact e_up_eq _ _ _ _)
                                exact ⟨rfl, f4, by unfold tkS tkV; rw [et86, et87, et84, et85]; omega, by omega⟩
                              · replace h49 : (b : Int) ≠ 44 := by have q : ¬ ((b : Int) = 44) := h49; omega
                                refine e_Ok.run (t' := (163, [(2, (0, 0)), (0, (1, 275)), (1, (0, b))], [(0, 59), (0, b)], w3)) 2 rfl ?_
                                refine e_Ok.if2 rfl (fun h50 => ?_) (fun h50 => ?_)
                                · replace h50 : (b : Int) = 59 := h50
                                  refine e_Ok.rets rfl rfl ?_
                                  have et86 : w3 275 86 = t := (by rw [← hw3]; exact (e_up_ne _ _ (Or.inr (by omega))).trans (by rw [← hw1]; exact (e_up_ne _ _ (Or.inr (by omega))).trans ht))
                                  have et87 : w3 275 87 = t + 1 := (by rw [← hw3]; exact (e_up_ne _ _ (Or.inr (by omega))).trans (by rw [← hw1]; exact (e_up_ne _ _ (Or.inr (by omega))).trans he))
                                  have et84 : w3 275 84 = 3 := (by rw [← hw3]; exact (e_up_ne _ _ (Or.inr (by omega))).trans (by rw [← hw1]; exact e_up_eq _ _ _ _))
                                  have et85 : w3 275 85 = b := (by rw [← hw3]; exact e_up_eq _ _ _ _)
                                  exact ⟨rfl, f4, by unfold tkS tkV; rw [et86, et87, et84, et85]; omega, by omega⟩
                                · replace h50 : (b : Int) ≠ 59 := by have q : ¬ ((b : Int) = 59) := h50; omega
                                  refine e_Ok.run (t' := (169, [(2, (0, 0)), (0, (1, 275)), (1, (0, b))], [(0, 58), (0, b)], w3)) 2 rfl ?_
                                  refine e_Ok.if2 rfl (fun h51 => ?_) (fun h51 => ?_)
                                  · replace h51 : (b : Int) = 58 := h51
                                    refine e_Ok.rets rfl rfl ?_
                                    have et86 : w3 275 86 = t := (by rw [← hw3]; exact (e_up_ne _ _ (Or.inr (by omega))).trans (by rw [← hw1]; exact (e_up_ne _ _ (Or.inr (by omega))).trans ht))
                                    have et87 : w3 275 87 = t + 1 := (by rw [← hw3]; exact (e_up_ne _ _ (Or.inr (by omega))).trans (by rw [← hw1]; exact (e_up_ne _ _ (Or.inr (by omega))).trans he))
                                    have et84 : w3 275 84 = 3 := (by rw [← hw3]; exact (e_up_ne _ _ (Or.inr (by omega))).trans (by rw [← hw1]; exact e_up_eq _ _ _ _))
                                    have et85 : w3 275 85 = b := (by rw [← hw3]; exact e_up_eq _ _ _ _)
                                    exact ⟨rfl, f4, by unfold tkS tkV; rw [et86, et87, et84, et85]; omega, by omega⟩
                                  · replace h51 : (b : Int) ≠ 58 := by have q : ¬ ((b : Int) = 58) := h51; omega
                                    refine e_Ok.run (t' := (174, [(2, (0, 0)), (0, (1, 275)), (1, (0, b))], [(0, 5), (1, 275)], w3)) 2 rfl ?_
                                    refine e_Ok.putf rfl rfl rfl rfl ?_
                                    generalize hw52 : e_up w3 275 84 5 = w52
                                    have f53 : e_fr mTq w w52 := e_fr.up f4 hw52 (by unfold mTq; omega)
                                    refine e_Ok.rets rfl rfl ?_
                                    have et86 : w52 275 86 = t := (by rw [← hw52]; exact (e_up_ne _ _ (Or.inr (by omega))).trans (by rw [← hw3]; exact (e_up_ne _ _ (Or.inr (by omega))).trans (by rw [← hw1]; exact (e_up_ne _ _ (Or.inr (by omega))).trans ht)))
                                    have et87 : w52 275 87 = t + 1 := (by rw [← hw52]; exact (e_up_ne _ _ (Or.inr (by omega))).trans (by rw [← hw3]; exact (e_up_ne _ _ (Or.inr (by omega))).trans (by rw [← hw1]; exact (e_up_ne _ _ (Or.inr (by omega))).trans he)))
                                    have et84 : w52 275 84 = 5 := (by rw [← hw52]; exact e_up_eq _ _ _ _)
                                    have et85 : w52 275 85 = b := (by rw [← hw52]; exact (e_up_ne _ _ (Or.inr (by omega))).trans (by rw [← hw3]; exact e_up_eq _ _ _ _))
                                    exact ⟨rfl, f53, by unfold tkS tkV; rw [et86, et87, et84, et85]; omega, by omega⟩
        · replace h37 : (b : Int) = 62 := by have q : ¬ ((b : Int) ≠ 62) := h37; omega
          refine e_Ok.run (t' := (50, [(2, (0, 0)), (0, (1, 275)), (1, (0, b))], [(0, 0)], w3)) 1 rfl ?_
          refine e_Ok.if1 rfl (fun h54 => ?_) (fun h54 => ?_)
          · replace h54 : (0 : Int) = 0 := h54
            refine e_Ok.run (t' := (97, [(2, (0, 0)), (0, (1, 275)), (1, (0, b))], [(0, 43), (0, b)], w3)) 2 rfl ?_
            refine e_Ok.if2 rfl (fun h55 => ?_) (fun h55 => ?_)
            · replace h55 : (b : Int) = 43 := h55
              exfalso; omega
            · replace h55 : (b : Int) ≠ 43 := by have q : ¬ ((b : Int) = 43) := h55; omega
              refine e_Ok.run (t' := (103, [(2, (0, 0)), (0, (1, 275)), (1, (0, b))], [(0, 45), (0, b)], w3)) 2 rfl ?_
              refine e_Ok.if2 rfl (fun h56 => ?_) (fun h56 => ?_)
              · replace h56 : (b : Int) = 45 := h56
                exfalso; omega
              · replace h56 : (b : Int) ≠ 45 := by have q : ¬ ((b : Int) = 45) := h56; omega
                refine e_Ok.run (t' := (109, [(2, (0, 0)), (0, (1, 275)), (1, (0, b))], [(0, 42), (0, b)], w3)) 2 rfl ?_
                refine e_Ok.if2 rfl (fun h57 => ?_) (fun h57 => ?_)
                · replace h57 : (b : Int) = 42 := h57
                  exfalso; omega
                · replace h57 : (b : Int) ≠ 42 := by have q : ¬ ((b : Int) = 42) := h57; omega
                  refine e_Ok.run (t' := (115, [(2, (0, 0)), (0, (1, 275)), (1, (0, b))], [(0, 47), (0, b)], w3)) 2 rfl ?_
                  refine e_Ok.if2 rfl (fun h58 => ?_) (fun h58 => ?_)
                  · replace h58 : (b : Int) = 47 := h58
                    exfalso; omega
                  · replace h58 : (b : Int) ≠ 47 := by have q : ¬ ((b : Int) = 47) := h58; omega
                    refine e_Ok.run (t' := (121, [(2, (0, 0)), (0, (1, 275)), (1, (0, b))], [(0, 37), (0, b)], w3)) 2 rfl ?_
                    refine e_Ok.if2 rfl (fun h59 => ?_) (fun h59 => ?_)
                    · replace h59 : (b : Int) = 37 := h59
                      exfalso; omega
                    · replace h59 : (b : Int) ≠ 37 := by have q : ¬ ((b : Int) = 37) := h59; omega
                      refine e_Ok.run (t' := (127, [(2, (0, 0)), (0, (1, 275)), (1, (0, b))], [(0, 61), (0, b)], w3)) 2 rfl ?_
                      refine e_Ok.if2 rfl (fun h60 => ?_) (fun h60 => ?_)
                      · replace h60 : (b : Int) = 61 := h60
                        exfalso; omega
                      · replace h60 : (b : Int) ≠ 61 := by have q : ¬ ((b : Int) = 61) := h60; omega
                        refine e_Ok.run (t' := (133, [(2, (0, 0)), (0, (1, 275)), (1, (0, b))], [(0, 60), (0, b)], w3)) 2 rfl ?_
                        refine e_Ok.if2 rfl (fun h61 => ?_) (fun h61 => ?_)
                        · replace h61 : (b : Int) = 60 := h61
                          exfalso; omega
                        · replace h61 : (b : Int) ≠ 60 := by have q : ¬ ((b : Int) = 60) := h61; omega
                          refine e_Ok.run (t' := (139, [(2, (0, 0)), (0, (1, 275)), (1, (0, b))], [(0, 62), (0, b)], w3)) 2 rfl ?_
                          refine e_Ok.if2 rfl (fun h62 => ?_) (fun h62 => ?_)
                          · replace h62 : (b : Int) = 62 := h62
                            refine e_Ok.rets rfl rfl ?_
                            have et86 : w3 275 86 = t := (by rw [← hw3]; exact (e_up_ne _ _ (Or.inr (by omega))).trans (by rw [← hw1]; exact (e_up_ne _ _ (Or.inr (by omega))).trans ht))
                            have et87 : w3 275 87 = t + 1 := (by rw [← hw3]; exact (e_up_ne _ _ (Or.inr (by omega))).trans (by rw [← hw1]; exact (e_up_ne _ _ (Or.inr (by omega))).trans he))
                            have et84 : w3 275 84 = 3 := (by rw [← hw3]; exact (e_up_ne _ _ (Or.inr (by omega))).trans (by rw [← hw1]; exact e_up_eq _ _ _ _))
                            have et85 : w3 275 85 = b := (by rw [← hw3]; exact e_up_eq _ _ _ _)
                            exact ⟨rfl, f4, by unfold tkS tkV; rw [et86, et87, et84, et85]; omega, by omega⟩
                          · replace h62 : (b : Int) ≠ 62 := by have q : ¬ ((b : Int) = 62) := h62; omega
                            exfalso; omega
          · replace h54 : (0 : Int) ≠ 0 := by have q : ¬ ((0 : Int) = 0) := h54; omega
            exfalso; omega
  · replace h10 : (z8 : Int) = 61 := by have q : ¬ ((z8 : Int) ≠ 61) := h10; omega
    refine e_Ok.run (t' := (34, [(2, (0, 1)), (0, (1, 275)), (1, (0, b))], [(0, 33), (0, b)], w3)) 5 rfl ?_
    refine e_Ok.if2 rfl (fun h63 => ?_) (fun h63 => ?_)
    · replace h63 : (b : Int) = 33 := h63
      refine e_Ok.run (t' := (50, [(2, (0, 1)), (0, (1, 275)), (1, (0, b))], [(0, 1)], w3)) 1 rfl ?_
      refine e_Ok.if1 rfl (fun h64 => ?_) (fun h64 => ?_)
      · replace h64 : (1 : Int) = 0 := h64
        exfalso; omega
      · replace h64 : (1 : Int) ≠ 0 := by have q : ¬ ((1 : Int) = 0) := h64; omega
        refine e_Ok.run (t' := (55, [(2, (0, 1)), (0, (1, 275)), (1, (0, b))], [(1, 275), (1, 275)], w3)) 2 rfl ?_
        refine e_Ok.getf (z := t + 1) rfl rfl rfl rfl (by rw [← hw3]; exact (e_up_ne _ _ (Or.inr (by omega))).trans (by rw [← hw1]; exact (e_up_ne _ _ (Or.inr (by omega))).trans he)) (by omega) ?_
        refine e_Ok.run (t' := (59, [(2, (0, 1)), (0, (1, 275)), (1, (0, b))], [(0, 1), (0, t + 1), (1, 275)], w3)) 1 rfl ?_
        refine e_Ok.add (z := t + 2) rfl (by omega) (by omega) ?_
        refine e_Ok.putf rfl rfl rfl rfl ?_
        generalize hw65 : e_up w3 275 87 (t + 2) = w65
        have f66 : e_fr mTq w w65 := e_fr.up f4 hw65 (by unfold mTq; omega)
        refine e_Ok.run (t' := (67, [(2, (0, 1)), (0, (1, 275)), (1, (0, b))], [(0, 33), (0, b), (1, 275)], w65)) 3 rfl ?_
        refine e_Ok.if2 rfl (fun h67 => ?_) (fun h67 => ?_)
        · replace h67 : (b : Int) ≠ 33 := h67
          exfalso; omega
        · replace h67 : (b : Int) = 33 := by have q : ¬ ((b : Int) ≠ 33) := h67; omega
          refine e_Ok.run (t' := (88, [(2, (0, 1)), (0, (1, 275)), (1, (0, b))], [(0, 110), (1, 275)], w65)) 2 rfl ?_
          refine e_Ok.putf rfl rfl rfl rfl ?_
          generalize hw68 : e_up w65 275 85 110 = w68
          have f69 : e_fr mTq w w68 := e_fr.up f66 hw68 (by unfold mTq; omega)
          refine e_Ok.run (t' := (177, [(2, (0, 1)), (0, (1, 275)), (1, (0, b))], [], w68)) 1 rfl ?_
          refine e_Ok.rets rfl rfl ?_
          have et86 : w68 275 86 = t := (by rw [← hw68]; exact (e_up_ne _ _ (Or.inr (by omega))).trans (by rw [← hw65]; exact (e_up_ne _ _ (Or.inr (by omega))).trans (by rw [← hw3]; exact (e_up_ne _ _ (Or.inr (by omega))).trans (by rw [← hw1]; exact (e_up_ne _ _ (Or.inr (by omega))).trans ht))))
          have et87 : w68 275 87 = t + 2 := (by rw [← hw68]; exact (e_up_ne _ _ (Or.inr (by omega))).trans (by rw [← hw65]; exact e_up_eq _ _ _ _))
          have et84 : w68 275 84 = 3 := (by rw [← hw68]; exact (e_up_ne _ _ (Or.inr (by omega))).trans (by rw [← hw65]; exact (e_up_ne _ _ (Or.inr (by omega))).trans (by rw [← hw3]; exact (e_up_ne _ _ (Or.inr (by omega))).trans (by rw [← hw1]; exact e_up_eq _ _ _ _))))
          have et85 : w68 275 85 = 110 := (by rw [← hw68]; exact e_up_eq _ _ _ _)
          exact ⟨rfl, f69, by unfold tkS tkV; rw [et86, et87, et84, et85]; omega, by omega⟩
    · replace h63 : (b : Int) ≠ 33 := by have q : ¬ ((b : Int) = 33) := h63; omega
      refine e_Ok.run (t' := (40, [(2, (0, 1)), (0, (1, 275)), (1, (0, b))], [(0, 60), (0, b)], w3)) 2 rfl ?_
      refine e_Ok.if2 rfl (fun h70 => ?_) (fun h70 => ?_)
      · replace h70 : (b : Int) = 60 := h70
        refine e_Ok.run (t' := (50, [(2, (0, 1)), (0, (1, 275)), (1, (0, b))], [(0, 1)], w3)) 1 rfl ?_
        refine e_Ok.if1 rfl (fun h71 => ?_) (fun h71 => ?_)
        · replace h71 : (1 : Int) = 0 := h71
          exfalso; omega
        · replace h71 : (1 : Int) ≠ 0 := by have q : ¬ ((1 : Int) = 0) := h71; omega
          refine e_Ok.run (t' := (55, [(2, (0, 1)), (0, (1, 275)), (1, (0, b))], [(1, 275), (1, 275)], w3)) 2 rfl ?_
          refine e_Ok.getf (z := t + 1) rfl rfl rfl rfl (by rw [← hw3]; exact (e_up_ne _ _ (Or.inr (by omega))).trans (by rw [← hw1]; exact (e_up_ne _ _ (Or.inr (by omega))).trans he)) (by omega) ?_
          refine e_Ok.run (t' := (59, [(2, (0, 1)), (0, (1, 275)), (1, (0, b))], [(0, 1), (0, t + 1), (1, 275)], w3)) 1 rfl ?_
          refine e_Ok.add (z := t + 2) rfl (by omega) (by omega) ?_
          refine e_Ok.putf rfl rfl rfl rfl ?_
          generalize hw72 : e_up w3 275 87 (t + 2) = w72
          have f73 : e_fr mTq w w72 := e_fr.up f4 hw72 (by unfold mTq; omega)
          refine e_Ok.run (t' := (67, [(2, (0, 1)), (0, (1, 275)), (1, (0, b))], [(0, 33), (0, b), (1, 275)], w72)) 3 rfl ?_
          refine e_Ok.if2 rfl (fun h74 => ?_) (fun h74 => ?_)
          · replace h74 : (b : Int) ≠ 33 := h74
            refine e_Ok.run (t' := (78, [(2, (0, 1)), (0, (1, 275)), (1, (0, b))], [(0, 60), (0, b), (1, 275)], w72)) 2 rfl ?_
            refine e_Ok.if2 rfl (fun h75 => ?_) (fun h75 => ?_)
            · replace h75 : (b : Int) ≠ 60 := h75
              exfalso; omega
            · replace h75 : (b : Int) = 60 := by have q : ¬ ((b : Int) ≠ 60) := h75; omega
              refine e_Ok.run (t' := (88, [(2, (0, 1)), (0, (1, 275)), (1, (0, b))], [(0, 108), (1, 275)], w72)) 2 rfl ?_
              refine e_Ok.putf rfl rfl rfl rfl ?_
              generalize hw76 : e_up w72 275 85 108 = w76
              have f77 : e_fr mTq w w76 := e_fr.up f73 hw76 (by unfold mTq; omega)
              refine e_Ok.run (t' := (177, [(2, (0, 1)), (0, (1, 275)), (1, (0, b))], [], w76)) 1 rfl ?_
              refine e_Ok.rets rfl rfl ?_
              have et86 : w76 275 86 = t := (by rw [← hw76]; exact (e_up_ne _ _ (Or.inr (by omega))).trans (by rw [← hw72]; exact (e_up_ne _ _ (Or.inr (by omega))).trans (by rw [← hw3]; exact (e_up_ne _ _ (Or.inr (by omega))).trans (by rw [← hw1]; exact (e_up_ne _ _ (Or.inr (by omega))).trans ht))))
              have et87 : w76 275 87 = t + 2 := (by rw [← hw76]; exact (e_up_ne _ _ (Or.inr (by omega))).trans (by rw [← hw72]; exact e_up_eq _ _ _ _))
              have et84 : w76 275 84 = 3 := (by rw [← hw76]; exact (e_up_ne _ _ (Or.inr (by omega))).trans (by rw [← hw72]; exact (e_up_ne _ _ (Or.inr (by omega))).trans (by rw [← hw3]; exact (e_up_ne _ _ (Or.inr (by omega))).trans (by rw [← hw1]; exact e_up_eq _ _ _ _))))
              have et85 : w76 275 85 = 108 := (by rw [← hw76]; exact e_up_eq _ _ _ _)
              exact ⟨rfl, f77, by unfold tkS tkV; rw [et86, et87, et84, et85]; omega, by omega⟩
          · replace h74 : (b : Int) = 33 := by have q : ¬ ((b : Int) ≠ 33) := h74; omega
            exfalso; omega
      · replace h70 : (b : Int) ≠ 60 := by have q : ¬ ((b : Int) = 60) := h70; omega
        refine e_Ok.run (t' := (46, [(2, (0, 1)), (0, (1, 275)), (1, (0, b))], [(0, 62), (0, b)], w3)) 2 rfl ?_
        refine e_Ok.if2 rfl (fun h78 => ?_) (fun h78 => ?_)
        · replace h78 : (b : Int) ≠ 62 := h78
          refine e_Ok.run (t' := (97, [(2, (0, 1)), (0, (1, 275)), (1, (0, b))], [(0, 43), (0, b)], w3)) 2 rfl ?_
          refine e_Ok.if2 rfl (fun h79 => ?_) (fun h79 => ?_)
          · replace h79 : (b : Int) = 43 := h79
            refine e_Ok.rets rfl rfl ?_
            have et86 : w3 275 86 = t := (by rw [← hw3]; exact (e_up_ne _ _ (Or.inr (by omega))).trans (by rw [← hw1]; exact (e_up_ne _ _ (Or.inr (by omega))).trans ht))
            have et87 : w3 275 87 = t + 1 := (by rw [← hw3]; exact (e_up_ne _ _ (Or.inr (by omega))).trans (by rw [← hw1]; exact (e_up_ne _ _ (Or.inr (by omega))).trans he))
            have et84 : w3 275 84 = 3 := (by rw [← hw3]; exact (e_up_ne _ _ (Or.inr (by omega))).trans (by rw [← hw1]; exact e_up_eq _ _ _ _))
            have et85 : w3 275 85 = b := (by rw [← hw3]; exact e_up_eq _ _ _ _)
            exact ⟨rfl, f4, by unfold tkS tkV; rw [et86, et87, et84, et85]; omega, by omega⟩
          · replace h79 : (b : Int) ≠ 43 := by have q : ¬ ((b : Int) = 43) := h79; omega
            refine e_Ok.run (t' := (103, [(2, (0, 1)), (0, (1, 275)), (1, (0, b))], [(0, 45), (0, b)], w3)) 2 rfl ?_
            refine e_Ok.if2 rfl (fun h80 => ?_) (fun h80 => ?_)
            · replace h80 : (b : Int) = 45 := h80
              refine e_Ok.rets rfl rfl ?_
              have et86 : w3 275 86 = t := (by rw [← hw3]; exact (e_up_ne _ _ (Or.inr (by omega))).trans (by rw [← hw1]; exact (e_up_ne _ _ (Or.inr (by omega))).trans ht))
              have et87 : w3 275 87 = t + 1 := (by rw [← hw3]; exact (e_up_ne _ _ (Or.inr (by omega))).trans (by rw [← hw1]; exact (e_up_ne _ _ (Or.inr (by omega))).trans he))
              have et84 : w3 275 84 = 3 := (by rw [← hw3]; exact (e_up_ne _ _ (Or.inr (by omega))).trans (by rw [← hw1]; exact e_up_eq _ _ _ _))
              have et85 : w3 275 85 = b := (by rw [← hw3]; exact e_up_eq _ _ _ _)
              exact ⟨rfl, f4, by unfold tkS tkV; rw [et86, et87, et84, et85]; omega, by omega⟩
            · replace h80 : (b : Int) ≠ 45 := by have q : ¬ ((b : Int) = 45) := h80; omega
              refine e_Ok.run (t' := (109, [(2, (0, 1)), (0, (1, 275)), (1, (0, b))], [(0, 42), (0, b)], w3)) 2 rfl ?_
              refine e_Ok.if2 rfl (fun h81 => ?_) (fun h81 => ?_)
              · replace h81 : (b : Int) = 42 := h81
                refine e_Ok.rets rfl rfl ?_
                have et86 : w3 275 86 = t := (by rw [← hw3]; exact (e_up_ne _ _ (Or.inr (by omega))).trans (by rw [← hw1]; exact (e_up_ne _ _ (Or.inr (by omega))).trans ht))
                have et87 : w3 275 87 = t + 1 := (by rw [← hw3]; exact (e_up_ne _ _ (Or.inr (by omega))).trans (by rw [← hw1]; exact (e_up_ne _ _ (Or.inr (by omega))).trans he))
                have et84 : w3 275 84 = 3 := (by rw [← hw3]; exact (e_up_ne _ _ (Or.inr (by omega))).trans (by rw [← hw1]; exact e_up_eq _ _ _ _))
                have et85 : w3 275 85 = b := (by rw [← hw3]; exact e_up_eq _ _ _ _)
                exact ⟨rfl, f4, by unfold tkS tkV; rw [et86, et87, et84, et85]; omega, by omega⟩
              · replace h81 : (b : Int) ≠ 42 := by have q : ¬ ((b : Int) = 42) := h81; omega
                refine e_Ok.run (t' := (115, [(2, (0, 1)), (0, (1, 275)), (1, (0, b))], [(0, 47), (0, b)], w3)) 2 rfl ?_
                refine e_Ok.if2 rfl (fun h82 => ?_) (fun h82 => ?_)
                · replace h82 : (b : Int) = 47 := h82
                  refine e_Ok.rets rfl rfl ?_
                  have et86 : w3 275 86 = t := (by rw [← hw3]; exact (e_up_ne _ _ (Or.inr (by omega))).trans (by rw [← hw1]; exact (e_up_ne _ _ (Or.inr (by omega))).trans ht))
                  have et87 : w3 275 87 = t + 1 := (by rw [← hw3]; exact (e_up_ne _ _ (Or.inr (by omega))).trans (by rw [← hw1]; exact (e_up_ne _ _ (Or.inr (by omega))).trans he))
                  have et84 : w3 275 84 = 3 := (by rw [← hw3]; exact (e_up_ne _ _ (Or.inr (by omega))).trans (by rw [← hw1]; exact e_up_eq _ _ _ _))
                  have et85 : w3 275 85 = b := (by rw [← hw3]; exact e_up_eq _ _ _ _)
                  exact ⟨rfl, f4, by unfold tkS tkV; rw [et86, et87, et84, et85]; omega, by omega⟩
                · replace h82 : (b : Int) ≠ 47 := by have q : ¬ ((b : Int) = 47) := h82; omega
                  refine e_Ok.run (t' := (121, [(2, (0, 1)), (0, (1, 275)), (1, (0, b))], [(0, 37), (0, b)], w3)) 2 rfl ?_
                  refine e_Ok.if2 rfl (fun h83 => ?_) (fun h83 => ?_)
                  · replace h83 : (b : Int) = 37 := h83
                    refine e_Ok.rets rfl rfl ?_
                    have et86 : w3 275 86 = t := (by rw [← hw3]; exact (e_up_ne _ _ (Or.inr (by omega))).trans (by rw [← hw1]; exact (e_up_ne _ _ (Or.inr (by omega))).trans ht))
                    have et87 : w3 275 87 = t + 1 := (by rw [← hw3]; exact (e_up_ne _ _ (Or.inr (by omega))).trans (by rw [← hw1]; exact (e_up_ne _ _ (Or.inr (by omega))).trans he))
                    have et84 : w3 275 84 = 3 := (by rw [← hw3]; exact (e_up_ne _ _ (Or.inr (by omega))).trans (by rw [← hw1]; exact e_up_eq _ _ _ _))
                    have et85 : w3 275 85 = b := (by rw [← hw3]; exact e_up_eq _ _ _ _)
                    exact ⟨rfl, f4, by unfold tkS tkV; rw [et86, et87, et84, et85]; omega, by omega⟩
                  · replace h83 : (b : Int) ≠ 37 := by have q : ¬ ((b : Int) = 37) := h83; omega
                    refine e_Ok.run (t' := (127, [(2, (0, 1)), (0, (1, 275)), (1, (0, b))], [(0, 61), (0, b)], w3)) 2 rfl ?_
                    refine e_Ok.if2 rfl (fun h84 => ?_) (fun h84 => ?_)
                    · replace h84 : (b : Int) = 61 := h84
                      refine e_Ok.rets rfl rfl ?_
                      have et86 : w3 275 86 = t := (by rw [← hw3]; exact (e_up_ne _ _ (Or.inr (by omega))).trans (by rw [← hw1]; exact (e_up_ne _ _ (Or.inr (by omega))).trans ht))
                      have et87 : w3 275 87 = t + 1 := (by rw [← hw3]; exact (e_up_ne _ _ (Or.inr (by omega))).trans (by rw [← hw1]; exact (e_up_ne _ _ (Or.inr (by omega))).trans he))
                      have et84 : w3 275 84 = 3 := (by rw [← hw3]; exact (e_up_ne _ _ (Or.inr (by omega))).trans (by rw [← hw1]; exact e_up_eq _ _ _ _))
                      have et85 : w3 275 85 = b := (by rw [← hw3]; exact e_up_eq _ _ _ _)
                      exact ⟨rfl, f4, by unfold tkS tkV; rw [et86, et87, et84, et85]; omega, by omega⟩
                    · replace h84 : (b : Int) ≠ 61 := by have q : ¬ ((b : Int) = 61) := h84; omega
                      refine e_Ok.run (t' := (133, [(2, (0, 1)), (0, (1, 275)), (1, (0, b))], [(0, 60), (0, b)], w3)) 2 rfl ?_
                      refine e_Ok.if2 rfl (fun h85 => ?_) (fun h85 => ?_)
                      · replace h85 : (b : Int) = 60 := h85
                        refine e_Ok.rets rfl rfl ?_
                        have et86 : w3 275 86 = t := (by rw [← hw3]; exact (e_up_ne _ _ (Or.inr (by omega))).trans (by rw [← hw1]; exact (e_up_ne _ _ (Or.inr (by omega))).trans ht))
                        have et87 : w3 275 87 = t + 1 := (by rw [← hw3]; exact (e_up_ne _ _ (Or.inr (by omega))).trans (by rw [← hw1]; exact (e_up_ne _ _ (Or.inr (by omega))).trans he))
                        have et84 : w3 275 84 = 3 := (by rw [← hw3]; exact (e_up_ne _ _ (Or.inr (by omega))).trans (by rw [← hw1]; exact e_up_eq _ _ _ _))
                        have et85 : w3 275 85 = b := (by rw [← hw3]; exact e_up_eq _ _ _ _)
                        exact ⟨rfl, f4, by unfold tkS tkV; rw [et86, et87, et84, et85]; omega, by omega⟩
                      · replace h85 : (b : Int) ≠ 60 := by have q : ¬ ((b : Int) = 60) := h85; omega
                        refine e_Ok.run (t' := (139, [(2, (0, 1)), (0, (1, 275)), (1, (0, b))], [(0, 62), (0, b)], w3)) 2 rfl ?_
                        refine e_Ok.if2 rfl (fun h86 => ?_) (fun h86 => ?_)
                        · replace h86 : (b : Int) = 62 := h86
                          refine e_Ok.rets rfl rfl ?_
                          have et86 : w3 275 86 = t := (by rw [← hw3]; exact (e_up_ne _ _ (Or.inr (by omega))).trans (by rw [← hw1]; exact (e_up_ne _ _ (Or.inr (by omega))).trans ht))
                          have et87 : w3 275 87 = t + 1 := (by rw [← hw3]; exact (e_up_ne _ _ (Or.inr (by omega))).trans (by rw [← hw1]; exact (e_up_ne _ _ (Or.inr (by omega))).trans he))
                          have et84 : w3 275 84 = 3 := (by rw [← hw3]; exact (e_up_ne _ _ (Or.inr (by omega))).trans (by rw [← hw1]; exact e_up_eq _ _ _ _))
                          have et85 : w3 275 85 = b := (by rw [← hw3]; exact e_up_eq _ _ _ _)
                          exact ⟨rfl, f4, by unfold tkS tkV; rw [et86, et87, et84, et85]; omega, by omega⟩
                        · replace h86 : (b : Int) ≠ 62 := by have q : ¬ ((b : Int) = 62) := h86; omega
                          refine e_Ok.run (t' := (145, [(2, (0, 1)), (0, (1, 275)), (1, (0, b))], [(0, 40), (0, b)], w3)) 2 rfl ?_
                          refine e_Ok.if2 rfl (fun h87 => ?_) (fun h87 => ?_)
                          · replace h87 : (b : Int) = 40 := h87
                            refine e_Ok.rets rfl rfl ?_
                            have et86 : w3 275 86 = t := (by rw [← hw3]; exact (e_up_ne _ _ (Or.inr (by omega))).trans (by rw [← hw1]; exact (e_up_ne _ _ (Or.inr (by omega))).trans ht))
                            have et87 : w3 275 87 = t + 1 := (by rw [← hw3]; exact (e_up_ne _ _ (Or.inr (by omega))).trans (by rw [← hw1]; exact (e_up_ne _ _ (Or.inr (by omega))).trans he))
                            have et84 : w3 275 84 = 3 := (by rw [← hw3]; exact (e_up_ne _ _ (Or.inr (by omega))).trans (by rw [← hw1]; exact e_up_eq _ _ _ _))
                            have et85 : w3 275 85 = b := (by rw [← hw3]; exact e_up_eq _ _ _ _)
                            exact ⟨rfl, f4, by unfold tkS tkV; rw [et86, et87, et84, et85]; omega, by omega⟩
                          · replace h87 : (b : Int) ≠ 40 := by have q : ¬ ((b : Int) = 40) := h87; omega
                            refine e_Ok.run (t' := (151, [(2, (0, 1)), (0, (1, 275)), (1, (0, b))], [(0, 41), (0, b)], w3)) 2 rfl ?_
                            refine e_Ok.if2 rfl (fun h88 => ?_) (fun h88 => ?_)
                            · replace h88 : (b : Int) = 41 := h88
                              refine e_Ok.rets rfl rfl ?_
                              have et86 : w3 275 86 = t := (by rw [← hw3]; exact (e_up_ne _ _ (Or.inr (by omega))).trans (by rw [← hw1]; exact (e_up_ne _ _ (Or.inr (by omega))).trans ht))
                              have et87 : w3 275 87 = t + 1 := (by rw [← hw3]; exact (e_up_ne _ _ (Or.inr (by omega))).trans (by rw [← hw1]; exact (e_up_ne _ _ (Or.inr (by omega))).trans he))
                              have et84 : w3 275 84 = 3 := (by rw [← hw3]; exact (e_up_ne _ _ (Or.inr (by omega))).trans (by rw [← hw1]; exact e_up_eq _ _ _ _))
                              have et85 : w3 275 85 = b := (by rw [← hw3]; exact e_up_eq _ _ _ _)
                              exact ⟨rfl, f4, by unfold tkS tkV; rw [et86, et87, et84, et85]; omega, by omega⟩
                            · replace h88 : (b : Int) ≠ 41 := by have q : ¬ ((b : Int) = 41) := h88; omega
                              refine e_Ok.run (t' := (157, [(2, (0, 1)), (0, (1, 275)), (1, (0, b))], [(0, 44), (0, b)], w3)) 2 rfl ?_
                              refine e_Ok.if2 rfl (fun h89 => ?_) (fun h89 => ?_)
                              · replace h89 : (b : Int) = 44 := h89
                                refine e_Ok.rets rfl rfl ?_
                                have et86 : w3 275 86 = t := (by rw [← hw3]; exact (e_up_ne _ _ (Or.inr (by omega))).trans (by rw [← hw1]; exact (e_up_ne _ _ (Or.inr (by omega))).trans ht))
                                have et87 : w3 275 87 = t + 1 := (by rw [← hw3]; exact (e_up_ne _ _ (Or.inr (by omega))).trans (by rw [← hw1]; exact (e_up_ne _ _ (Or.inr (by omega))).trans he))
                                have et84 : w3 275 84 = 3 := (by rw [← hw3]; exact (e_up_ne _ _ (Or.inr (by omega))).trans (by rw [← hw1]; exact e_up_eq _ _ _ _))
                                have et85 : w3 275 85 = b := (by rw [← hw3]; exact e_up_eq _ _ _ _)
                                exact ⟨rfl, f4, by unfold tkS tkV; rw [et86, et87, et84, et85]; omega, by omega⟩
                              · replace h89 : (b : Int) ≠ 44 := by have q : ¬ ((b : Int) = 44) := h89; omega
                                refine e_Ok.run (t' := (163, [(2, (0, 1)), (0, (1, 275)), (1, (0, b))], [(0, 59), (0, b)], w3)) 2 rfl ?_
                                refine e_Ok.if2 rfl (fun h90 => ?_) (fun h90 => ?_)
                                · replace h90 : (b : Int) = 59 := h90
                                  refine e_Ok.rets rfl rfl ?_
                                  have et86 : w3 275 86 = t := (by rw [← hw3]; exact (e_up_ne _ _ (Or.inr (by omega))).trans (by rw [← hw1]; exact (e_up_ne _ _ (Or.inr (by omega))).trans ht))
                                  have et87 : w3 275 87 = t + 1 := (by rw [← hw3]; exact (e_up_ne _ _ (Or.inr (by omega))).trans (by rw [← hw1]; exact (e_up_ne _ _ (Or.inr (by omega))).trans he))
                                  have et84 : w3 275 84 = 3 := (by rw [← hw3]; exact (e_up_ne _ _ (Or.inr (by omega))).trans (by rw [← hw1]; exact e_up_eq _ _ _ _))
                                  have et85 : w3 275 85 = b := (by rw [← hw3]; exact e_up_eq _ _ _ _)
                                  exact ⟨rfl, f4, by unfold tkS tkV; rw [et86, et87, et84, et85]; omega, by omega⟩
                                · replace h90 : (b : Int) ≠ 59 := by have q : ¬ ((b : Int) = 59) := h90; omega
                                  refine e_Ok.run (t' := (169, [(2, (0, 1)), (0, (1, 275)), (1, (0, b))], [(0, 58), (0, b)], w3)) 2 rfl ?_
                                  refine e_Ok.if2 rfl (fun h91 => ?_) (fun h91 => ?_)
                                  · replace h91 : (b : Int) = 58 := h91
                                    refine e_Ok.rets rfl rfl ?_
                                    have et86 : w3 275 86 = t := (by rw [← hw3]; exact (e_up_ne _ _ (Or.inr (by omega))).trans (by rw [← hw1]; exact (e_up_ne _ _ (Or.inr (by omega))).trans ht))
                                    have et87 : w3 275 87 = t + 1 := (by rw [← hw3]; exact (e_up_ne _ _ (Or.inr (by omega))).trans (by rw [← hw1]; exact (e_up_ne _ _ (Or.inr (by omega))).trans he))
                                    have et84 : w3 275 84 = 3 := (by rw [← hw3]; exact (e_up_ne _ _ (Or.inr (by omega))).trans (by rw [← hw1]; exact e_up_eq _ _ _ _))
                                    have et85 : w3 275 85 = b := (by rw [← hw3]; exact e_up_eq _ _ _ _)
                                    exact ⟨rfl, f4, by unfold tkS tkV; rw [et86, et87, et84, et85]; omega, by omega⟩
                                  · replace h91 : (b : Int) ≠ 58 := by have q : ¬ ((b : Int) = 58) := h91; omega
                                    refine e_Ok.run (t' := (174, [(2, (0, 1)), (0, (1, 275)), (1, (0, b))], [(0, 5), (1, 275)], w3)) 2 rfl ?_
                                    refine e_Ok.putf rfl rfl rfl rfl ?_
                                    generalize hw92 : e_up w3 275 84 5 = w92
                                    have f93 : e_fr mTq w w92 := e_fr.up f4 hw92 (by unfold mTq; omega)
                                    refine e_Ok.rets rfl rfl ?_
                                    have et86 : w92 275 86 = t := (by rw [← hw92]; exact (e_up_ne _ _ (Or.inr (by omega))).trans (by rw [← hw3]; exact (e_up_ne _ _ (Or.inr (by omega))).trans (by rw [← hw1]; exact (e_up_ne _ _ (Or.inr (by omega))).trans ht)))
                                    have et87 : w92 275 87 = t + 1 := (by rw [← hw92]; exact (e_up_ne _ _ (Or.inr (by omega))).trans (by rw [← hw3]; exact (e_up_ne _ _ (Or.inr (by omega))).trans (by rw [← hw1]; exact (e_up_ne _ _ (Or.inr (by omega))).trans he)))
                                    have et84 : w92 275 84 = 5 := (by rw [← hw92]; exact e_up_eq _ _ _ _)
                                    have et85 : w92 275 85 = b := (by rw [← hw92]; exact (e_up_ne _ _ (Or.inr (by omega))).trans (by rw [← hw3]; exact e_up_eq _ _ _ _))
                                    exact ⟨rfl, f93, by unfold tkS tkV; rw [et86, et87, et84, et85]; omega, by omega⟩
        · replace h78 : (b : Int) = 62 := by have q : ¬ ((b : Int) ≠ 62) := h78; omega
          refine e_Ok.run (t' := (50, [(2, (0, 1)), (0, (1, 275)), (1, (0, b))], [(0, 1)], w3)) 1 rfl ?_
          refine e_Ok.if1 rfl (fun h94 => ?_) (fun h94 => ?_)
          · replace h94 : (1 : Int) = 0 := h94
            exfalso; omega
          · replace h94 : (1 : Int) ≠ 0 := by have q : ¬ ((1 : Int) = 0) := h94; omega
            refine e_Ok.run (t' := (55, [(2, (0, 1)), (0, (1, 275)), (1, (0, b))], [(1, 275), (1, 275)], w3)) 2 rfl ?_
            refine e_Ok.getf (z := t + 1) rfl rfl rfl rfl (by rw [← hw3]; exact (e_up_ne _ _ (Or.inr (by omega))).trans (by rw [← hw1]; exact (e_up_ne _ _ (Or.inr (by omega))).trans he)) (by omega) ?_
            refine e_Ok.run (t' := (59, [(2, (0, 1)), (0, (1, 275)), (1, (0, b))], [(0, 1), (0, t + 1), (1, 275)], w3)) 1 rfl ?_
            refine e_Ok.add (z := t + 2) rfl (by omega) (by omega) ?_
            refine e_Ok.putf rfl rfl rfl rfl ?_
            generalize hw95 : e_up w3 275 87 (t + 2) = w95
            have f101 : e_fr mTq w w95 := e_fr.up f4 hw95 (by unfold mTq; omega)
            refine e_Ok.run (t' := (67, [(2, (0, 1)), (0, (1, 275)), (1, (0, b))], [(0, 33), (0, b), (1, 275)], w95)) 3 rfl ?_
            refine e_Ok.if2 rfl (fun h103 => ?_) (fun h103 => ?_)
            · replace h103 : (b : Int) ≠ 33 := h103
              refine e_Ok.run (t' := (78, [(2, (0, 1)), (0, (1, 275)), (1, (0, b))], [(0, 60), (0, b), (1, 275)], w95)) 2 rfl ?_
              refine e_Ok.if2 rfl (fun h104 => ?_) (fun h104 => ?_)
              · replace h104 : (b : Int) ≠ 60 := h104
                refine e_Ok.run (t' := (88, [(2, (0, 1)), (0, (1, 275)), (1, (0, b))], [(0, 103), (1, 275)], w95)) 1 rfl ?_
                refine e_Ok.putf rfl rfl rfl rfl ?_
                generalize hw105 : e_up w95 275 85 103 = w105
                have f106 : e_fr mTq w w105 := e_fr.up f101 hw105 (by unfold mTq; omega)
                refine e_Ok.run (t' := (177, [(2, (0, 1)), (0, (1, 275)), (1, (0, b))], [], w105)) 1 rfl ?_
                refine e_Ok.rets rfl rfl ?_
                have et86 : w105 275 86 = t := (by rw [← hw105]; exact (e_up_ne _ _ (Or.inr (by omega))).trans (by rw [← hw95]; exact (e_up_ne _ _ (Or.inr (by omega))).trans (by rw [← hw3]; exact (e_up_ne _ _ (Or.inr (by omega))).trans (by rw [← hw1]; exact (e_up_ne _ _ (Or.inr (by omega))).trans ht))))
                have et87 : w105 275 87 = t + 2 := (by rw [← hw105]; exact (e_up_ne _ _ (Or.inr (by omega))).trans (by rw [← hw95]; exact e_up_eq _ _ _ _))
                have et84 : w105 275 84 = 3 := (by rw [← hw105]; exact (e_up_ne _ _ (Or.inr (by omega))).trans (by rw [← hw95]; exact (e_up_ne _ _ (Or.inr (by omega))).trans (by rw [← hw3]; exact (e_up_ne _ _ (Or.inr (by omega))).trans (by rw [← hw1]; exact e_up_eq _ _ _ _))))
                have et85 : w105 275 85 = 103 := (by rw [← hw105]; exact e_up_eq _ _ _ _)
                exact ⟨rfl, f106, by unfold tkS tkV; rw [et86, et87, et84, et85]; omega, by omega⟩
              · replace h104 : (b : Int) = 60 := by have q : ¬ ((b : Int) ≠ 60) := h104; omega
                exfalso; omega
            · replace h103 : (b : Int) = 33 := by have q : ¬ ((b : Int) ≠ 33) := h103; omega
              exfalso; omega
set_option maxHeartbeats 4000000 in
end
