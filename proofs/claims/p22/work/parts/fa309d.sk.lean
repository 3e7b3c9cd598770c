noncomputable section
theorem l_328 {d : Nat} (hd : 23 ≤ d) {w : eW} (hT : e_Has mLq w) (hH : e_Has mLr w) {N : Int} (hN : w 275 9 = N) (hNr : 0 ≤ N ∧ N ≤ 4000) {t : Int} (ht : w 275 86 = t) (htr : 0 ≤ t ∧ t < N) (hb : (97 ≤ w 281 t ∧ w 281 t ≤ 122) ∨ (65 ≤ w 281 t ∧ w 281 t ≤ 90)) (hwh : -2147483648 ≤ w 275 85 ∧ w 275 85 ≤ 2147483647) : e_Ok 20 elay ecode eI d 328 (0, [(0, (1, 275))], [], w) (fun r w' => r = [] ∧ e_fr mTq w w' ∧ tkS w' N ∧ t ≤ w' 275 86) := by
  obtain ⟨d, rfl⟩ : ∃ e, d = e + 1 := ⟨d - 1, by omega⟩
  refine e_Ok.run (t' := (1, [(0, (1, 275))], [(1, 275)], w)) 1 rfl ?_
  refine e_Ok.getf (z := t) rfl rfl rfl rfl ht (by omega) ?_
  refine e_Ok.run (t' := (5, [(1, (0, t)), (0, (1, 275))], [], w)) 1 rfl ?_
  have hL1 : ∀ (nn : Nat) (y1 : Int), (t ≤ y1 ∧ y1 ≤ N) ∧ ((t < y1 ∨ (y1 = t ∧ w 281 y1 = w 281 t))) → 4001 - y1 < nn → e_Ok 20 elay ecode eI (d + 1) 328 (5, [(0, (1, 275)), (1, (0, y1))], [], w) (fun r w' => r = [] ∧ e_fr mTq w w' ∧ tkS w' N ∧ t ≤ w' 275 86) := by
    intro nn
    induction nn with
    | zero => intro y1 hj hm; obtain ⟨j3, j4⟩ := hj; exfalso; omega
    | succ nn ih2 =>
      intro y1 hj hm
      obtain ⟨j3, j4⟩ := hj
      refine e_Ok.run (t' := (7, [(0, (1, 275)), (1, (0, y1))], [(0, y1), (1, 275)], w)) 2 rfl ?_
      refine e_Ok.callV rfl (by omega) rfl rfl rfl rfl (l_326 hT hH hN hNr (by omega)) (fun r5 w6 h7 => ?_)
      obtain ⟨z8, rfl, rfl, q9⟩ := h7
      show e_Ok 20 elay ecode eI (d + 1) 328 (10, [(0, (1, 275)), (1, (0, y1))], [(0, z8)], w) _
      refine e_Ok.callS rfl (by omega) rfl rfl (c_324_x (by omega)) (fun r10 w11 h12 => ?_)
      obtain ⟨z13, rfl, rfl, q14⟩ := h12
      obtain ⟨rfl, q14⟩ | ⟨rfl, q14⟩ := q14
      · show e_Ok 20 elay ecode eI (d + 1) 328 (13, [(0, (1, 275)), (1, (0, y1))], [(0, 1)], w) _
        refine e_Ok.if1 rfl (fun h15 => ?_) (fun h15 => ?_)
        · replace h15 : (1 : Int) ≠ 0 := h15
          refine e_Ok.inc (z := y1 + 1) rfl rfl (by omega) (by omega) ?_
          show e_Ok 20 elay ecode eI (d + 1) 328 (30, [(1, (0, y1 + 1)), (0, (1, 275))], [], w) _
          refine e_Ok.run (t' := (5, [(1, (0, y1 + 1)), (0, (1, 275))], [], w)) 1 rfl ?_
          refine e_Ok.sub eAlk (e_sub_of rfl ?_) (ih2 (y1 + 1) ⟨by omega, (Or.inl (by omega))⟩ (by omega))
          exact ⟨rfl, rfl, trivial⟩
        · replace h15 : (1 : Int) = 0 := by have q : ¬ ((1 : Int) ≠ 0) := h15; omega
          exfalso; omega
      · show e_Ok 20 elay ecode eI (d + 1) 328 (13, [(0, (1, 275)), (1, (0, y1))], [(0, 0)], w) _
        refine e_Ok.if1 rfl (fun h16 => ?_) (fun h16 => ?_)
        · replace h16 : (0 : Int) ≠ 0 := h16
          exfalso; omega
        · replace h16 : (0 : Int) = 0 := by have q : ¬ ((0 : Int) ≠ 0) := h16; omega
          refine e_Ok.run (t' := (18, [(0, (1, 275)), (1, (0, y1))], [(0, y1), (1, 275)], w)) 2 rfl ?_
          refine e_Ok.callV rfl (by omega) rfl rfl rfl rfl (l_326 hT hH hN hNr (by omega)) (fun r17 w18 h19 => ?_)
          obtain ⟨z20, rfl, rfl, q21⟩ := h19
          show e_Ok 20 elay ecode eI (d + 1) 328 (21, [(0, (1, 275)), (1, (0, y1))], [(0, z20)], w) _
          refine e_Ok.callS rfl (by omega) rfl rfl (c_325_x (by omega)) (fun r22 w23 h24 => ?_)
          obtain ⟨z25, rfl, rfl, q26⟩ := h24
          obtain ⟨rfl, q26⟩ | ⟨rfl, q26⟩ := q26
          · show e_Ok 20 elay ecode eI (d + 1) 328 (24, [(0, (1, 275)), (1, (0, y1))], [(0, 1)], w) _
            refine e_Ok.if1 rfl (fun h27 => ?_) (fun h27 => ?_)
            · replace h27 : (1 : Int) = 0 := h27
              exfalso; omega
            · replace h27 : (1 : Int) ≠ 0 := by have q : ¬ ((1 : Int) = 0) := h27; omega
              refine e_Ok.inc (z := y1 + 1) rfl rfl (by omega) (by omega) ?_
              show e_Ok 20 elay ecode eI (d + 1) 328 (30, [(1, (0, y1 + 1)), (0, (1, 275))], [], w) _
              refine e_Ok.run (t' := (5, [(1, (0, y1 + 1)), (0, (1, 275))], [], w)) 1 rfl ?_
              refine e_Ok.sub eAlk (e_sub_of rfl ?_) (ih2 (y1 + 1) ⟨by omega, (Or.inl (by omega))⟩ (by omega))
              exact ⟨rfl, rfl, trivial⟩
          · show e_Ok 20 elay ecode eI (d + 1) 328 (24, [(0, (1, 275)), (1, (0, y1))], [(0, 0)], w) _
            refine e_Ok.if1 rfl (fun h28 => ?_) (fun h28 => ?_)
            · replace h28 : (0 : Int) = 0 := h28
              refine e_Ok.run (t' := (35, [(0, (1, 275)), (1, (0, y1))], [(0, y1), (1, 275)], w)) 2 rfl ?_
              refine e_Ok.putf rfl rfl rfl rfl ?_
              generalize hw29 : e_up w 275 87 y1 = w29
              have f30 : e_fr mTq w w29 := e_fr.up (e_fr.refl w) hw29 (by unfold mTq; omega)
              refine e_Ok.run (t' := (41, [(0, (1, 275)), (1, (0, y1))], [(1, 275), (0, y1), (1, 275)], w29)) 3 rfl ?_
              refine e_Ok.getf (z := t) rfl rfl rfl rfl (by rw [← hw29]; exact (e_up_ne _ _ (Or.inr (by omega))).trans ht) (by omega) ?_
              refine e_Ok.sub' (z := y1 - t) rfl (by omega) (by omega) ?_
              refine e_Ok.run (t' := (47, [(0, (1, 275)), (1, (0, y1))], [(0, 24), (0, y1 - t), (1, 275)], w29)) 1 rfl ?_
              refine e_Ok.if2 rfl (fun h31 => ?_) (fun h31 => ?_)
              · replace h31 : (y1 - t : Int) ≤ 24 := h31
                refine e_Ok.run (t' := (55, [(0, (1, 275)), (1, (0, y1))], [(0, 1), (1, 275)], w29)) 1 rfl ?_
                refine e_Ok.putf rfl rfl rfl rfl ?_
                generalize hw32 : e_up w29 275 84 1 = w32
                have f33 : e_fr mTq w w32 := e_fr.up f30 hw32 (by unfold mTq; omega)
                refine e_Ok.run (t' := (62, [(3, (0, 0)), (2, (0, 0)), (0, (1, 275)), (1, (0, y1))], [], w32)) 4 rfl ?_
                have hL35 : ∀ (nn : Nat) (y2 : Int) (y3 : Int) (v1 : eW), e_fr mTq w v1 ∧ (y2 = 171 ∨ ∃ e, (y2, e, y3) ∈ e_wst) ∧ ((0 ≤ y2 ∧ y2 ≤ 171 ∧ 0 ≤ y3 ∧ y3 ≤ 33)) ∧ v1 275 86 = t ∧ v1 275 87 = y1 ∧ ((1 ≤ v1 275 84 ∧ v1 275 84 ≤ 5)) ∧ ((v1 275 84 = 4 → t + 2 ≤ y1 ∧ 0 ≤ v1 275 85 ∧ v1 275 85 ≤ 32)) ∧ ((-2147483648 ≤ v1 275 85 ∧ v1 275 85 ≤ 2147483647)) → 172 - y2 < nn → e_Ok 20 elay ecode eI (d + 1) 328 (62, [(0, (1, 275)), (2, (0, y2)), (3, (0, y3))], [], v1) (fun r w' => r = [] ∧ e_fr mTq w w' ∧ tkS w' N ∧ t ≤ w' 275 86) := by
                  intro nn
                  induction nn with
                  | zero => intro y2 y3 v1 hj hm; obtain ⟨j37, j38, j40, j41, j42, j43, j44, j45⟩ := hj; exfalso; omega
                  | succ nn ih36 =>
                    intro y2 y3 v1 hj hm
                    obtain ⟨j37, j38, j40, j41, j42, j43, j44, j45⟩ := hj
                    refine e_Ok.run (t' := (63, [(0, (1, 275)), (2, (0, y2)), (3, (0, y3))], [(0, y2)], v1)) 1 rfl ?_
                    refine e_Ok.run (t' := (66, [(0, (1, 275)), (2, (0, y2)), (3, (0, y3))], [(1, 357), (0, y2)], v1)) 1 rfl ?_
                    refine e_Ok.run (t' := (69, [(0, (1, 275)), (2, (0, y2)), (3, (0, y3))], [(0, 171), (0, y2)], v1)) 1 rfl ?_
                    refine e_Ok.if2 rfl (fun h46 => ?_) (fun h46 => ?_)
                    · replace h46 : (y2 : Int) ≥ 171 := h46
                      refine e_Ok.rets rfl rfl ?_
                      have et86 : v1 275 86 = t := j41
                      have et87 : v1 275 87 = y1 := j42
                      have et84 : v1 275 84 = v1 275 84 := rfl
                      have et85 : v1 275 85 = v1 275 85 := rfl
                      exact ⟨rfl, j37, by unfold tkS tkV; rw [et86, et87, et84, et85]; omega, by omega⟩
                    · replace h46 : (y2 : Int) < 171 := by have q : ¬ ((y2 : Int) ≥ 171) := h46; omega
                      obtain ⟨e2, he2⟩ : ∃ e, (y2, e, y3) ∈ e_wst := by rcases j38 with g | g; exact absurd g (by omega); exact g
                      obtain ⟨hw1, hw2, hw3⟩ := ws_f he2
                      refine e_Ok.run (t' := (75, [(4, (0, 0)), (0, (1, 275)), (2, (0, y2)), (3, (0, y3))], [], v1)) 2 rfl ?_
                      have hL47 : ∀ (nn : Nat) (y4 : Int), 0 ≤ y4 ∧ y2 + y4 ≤ e2 → 171 - y4 < nn → e_Ok 20 elay ecode eI (d + 1) 328 (75, [(0, (1, 275)), (2, (0, y2)), (3, (0, y3)), (4, (0, y4))], [], v1) (fun r w' => r = [] ∧ e_fr mTq w w' ∧ tkS w' N ∧ t ≤ w' 275 86) := by
                        intro nn
                        induction nn with
                        | zero => intro y4 hj hm; obtain j49 := hj; exfalso; omega
                        | succ nn ih48 =>
                          intro y4 hj hm
                          obtain j49 := hj
                          refine e_Ok.run (t' := (78, [(0, (1, 275)), (2, (0, y2)), (3, (0, y3)), (4, (0, y4))], [(1, 357)], v1)) 1 rfl ?_
                          refine e_Ok.run (t' := (81, [(0, (1, 275)), (2, (0, y2)), (3, (0, y3)), (4, (0, y4))], [(0, y4), (0, y2), (1, 357)], v1)) 2 rfl ?_
                          refine e_Ok.add (z := y2 + y4) rfl (by omega) (by omega) ?_
                          refine e_Ok.sc (by omega) rfl rfl ?_
                          have z50b := kyc_in (y2 + y4)
                          generalize hz50 : kyc (y2 + y4) = z50
                          rw [hz50] at z50b
                          refine e_Ok.run (t' := (87, [(0, (1, 275)), (2, (0, y2)), (3, (0, y3)), (4, (0, y4))], [(0, 32), (0, z50)], v1)) 1 rfl ?_
                          refine e_Ok.if2 rfl (fun h51 => ?_) (fun h51 => ?_)
                          · replace h51 : (z50 : Int) = 32 := h51
                            refine e_Ok.run (t' := (123, [(0, (1, 275)), (2, (0, y2)), (3, (0, y3)), (4, (0, y4))], [(1, 357)], v1)) 1 rfl ?_
                            refine e_Ok.run (t' := (126, [(0, (1, 275)), (2, (0, y2)), (3, (0, y3)), (4, (0, y4))], [(0, y4), (0, y2), (1, 357)], v1)) 2 rfl ?_
                            refine e_Ok.add (z := y2 + y4) rfl (by omega) (by omega) ?_
                            refine e_Ok.sc (by omega) rfl rfl ?_
                            have z52b := kyc_in (y2 + y4)
                            generalize hz52 : kyc (y2 + y4) = z52
                            rw [hz52] at z52b
                            refine e_Ok.run (t' := (132, [(0, (1, 275)), (2, (0, y2)), (3, (0, y3)), (4, (0, y4))], [(0, 32), (0, z52)], v1)) 1 rfl ?_
                            refine e_Ok.if2 rfl (fun h53 => ?_) (fun h53 => ?_)
                            · replace h53 : (z52 : Int) ≠ 32 := h53
                              have hL54 : ∀ (nn : Nat) (z2 : Int), y2 ≤ z2 ∧ z2 ≤ e2 → 171 - z2 < nn → e_Ok 20 elay ecode eI (d + 1) 328 (159, [(0, (1, 275)), (2, (0, z2)), (3, (0, y3))], [], v1) (fun r w' => r = [] ∧ e_fr mTq w w' ∧ tkS w' N ∧ t ≤ w' 275 86) := by
                                intro nn
                                induction nn with
                                | zero => intro z2 hj hm; obtain j56 := hj; exfalso; omega
                                | succ nn ih55 =>
                                  intro z2 hj hm
                                  obtain j56 := hj
                                  refine e_Ok.run (t' := (162, [(0, (1, 275)), (2, (0, z2)), (3, (0, y3))], [(1, 357)], v1)) 1 rfl ?_
                                  refine e_Ok.run (t' := (163, [(0, (1, 275)), (2, (0, z2)), (3, (0, y3))], [(0, z2), (1, 357)], v1)) 1 rfl ?_
                                  refine e_Ok.sc (by omega) rfl rfl ?_
                                  have z57b := kyc_in (z2)
                                  generalize hz57 : kyc (z2) = z57
                                  rw [hz57] at z57b
                                  refine e_Ok.run (t' := (168, [(0, (1, 275)), (2, (0, z2)), (3, (0, y3))], [(0, 32), (0, z57)], v1)) 1 rfl ?_
                                  refine e_Ok.if2 rfl (fun h58 => ?_) (fun h58 => ?_)
                                  · replace h58 : (z57 : Int) = 32 := h58
                                    have hz2 : z2 = e2 := Decidable.byCases (p := z2 < e2) (fun e => absurd (show kyc z2 = 32 by rw [hz57]; omega) (hw3 _ (by omega) e)) (fun e => by omega)
                                    refine e_Ok.inc (z := z2 + 1) rfl rfl (by omega) (by omega) ?_
                                    show e_Ok 20 elay ecode eI (d + 1) 328 (180, [(2, (0, z2 + 1)), (0, (1, 275)), (3, (0, y3))], [], v1) _
                                    refine e_Ok.inc (z := y3 + 1) rfl rfl (by omega) (by omega) ?_
                                    show e_Ok 20 elay ecode eI (d + 1) 328 (183, [(3, (0, y3 + 1)), (2, (0, z2 + 1)), (0, (1, 275))], [], v1) _
                                    refine e_Ok.run (t' := (62, [(3, (0, y3 + 1)), (2, (0, z2 + 1)), (0, (1, 275))], [], v1)) 1 rfl ?_
                                    refine e_Ok.sub eAlk (e_sub_of rfl ?_) (ih36 (z2 + 1) (y3 + 1) v1 ⟨j37, (by rcases hw2 with g | ⟨g1, g2⟩; exact Or.inl (by omega); exact Or.inr (by rw [show z2 + 1 = e2 + 1 by omega]; exact g2)), by omega, j41, j42, (by have u59 : v1 275 84 = v1 275 84 := rfl; omega), (by have u1 : v1 275 84 = v1 275 84 := rfl; have u2 : v1 275 85 = v1 275 85 := rfl; omega), (by have u1 : v1 275 84 = v1 275 84 := rfl; have u2 : v1 275 85 = v1 275 85 := rfl; omega)⟩ (by omega))
                                    exact ⟨rfl, rfl, rfl, trivial⟩
                                  · replace h58 : (z57 : Int) ≠ 32 := by have q : ¬ ((z57 : Int) = 32) := h58; omega
                                    have hlz : z2 ≠ e2 := fun e => by rw [e, hw1.2.2.2.2.2] at hz57; omega
                                    refine e_Ok.inc (z := z2 + 1) rfl rfl (by omega) (by omega) ?_
                                    show e_Ok 20 elay ecode eI (d + 1) 328 (174, [(2, (0, z2 + 1)), (0, (1, 275)), (3, (0, y3))], [], v1) _
                                    refine e_Ok.run (t' := (159, [(2, (0, z2 + 1)), (0, (1, 275)), (3, (0, y3))], [], v1)) 1 rfl ?_
                                    refine e_Ok.sub eAlk (e_sub_of rfl ?_) (ih55 (z2 + 1) (by omega) (by omega))
                                    exact ⟨rfl, rfl, rfl, trivial⟩
                              refine e_Ok.sub eAlk (e_sub_of rfl ?_) (hL54 (171 + 1 : Int).toNat y2 (by omega) (by omega))
                              exact ⟨rfl, rfl, rfl, trivial⟩
                            · replace h53 : (z52 : Int) = 32 := by have q : ¬ ((z52 : Int) ≠ 32) := h53; omega
                              have hk2 : 2 ≤ y4 := Decidable.byCases (p := y2 + y4 < e2) (fun e => absurd (show kyc (y2 + y4) = 32 by rw [hz52]; omega) (hw3 _ (by omega) e)) (fun e => by omega)
                              refine e_Ok.run (t' := (138, [(0, (1, 275)), (2, (0, y2)), (3, (0, y3)), (4, (0, y4))], [(1, 275), (0, y4)], v1)) 2 rfl ?_
                              refine e_Ok.getf (z := y1) rfl rfl rfl rfl j42 (by omega) ?_
                              refine e_Ok.run (t' := (142, [(0, (1, 275)), (2, (0, y2)), (3, (0, y3)), (4, (0, y4))], [(1, 275), (0, y1), (0, y4)], v1)) 1 rfl ?_
                              refine e_Ok.getf (z := t) rfl rfl rfl rfl j41 (by omega) ?_
                              refine e_Ok.sub' (z := y1 - t) rfl (by omega) (by omega) ?_
                              refine e_Ok.if2 rfl (fun h60 => ?_) (fun h60 => ?_)
                              · replace h60 : (y4 : Int) ≠ y1 - t := h60
                                have hL61 : ∀ (nn : Nat) (z2 : Int), y2 ≤ z2 ∧ z2 ≤ e2 → 171 - z2 < nn → e_Ok 20 elay ecode eI (d + 1) 328 (159, [(0, (1, 275)), (2, (0, z2)), (3, (0, y3))], [], v1) (fun r w' => r = [] ∧ e_fr mTq w w' ∧ tkS w' N ∧ t ≤ w' 275 86) := by
                                  intro nn
                                  induction nn with
                                  | zero => intro z2 hj hm; obtain j63 := hj; exfalso; omega
                                  | succ nn ih62 =>
                                    intro z2 hj hm
                                    obtain j63 := hj
                                    refine e_Ok.run (t' := (162, [(0, (1, 275)), (2, (0, z2)), (3, (0, y3))], [(1, 357)], v1)) 1 rfl ?_
                                    refine e_Ok.run (t' := (163, [(0, (1, 275)), (2, (0, z2)), (3, (0, y3))], [(0, z2), (1, 357)], v1)) 1 rfl ?_
                                    refine e_Ok.sc (by omega) rfl rfl ?_
                                    have z64b := kyc_in (z2)
                                    generalize hz64 : kyc (z2) = z64
                                    rw [hz64] at z64b
                                    refine e_Ok.run (t' := (168, [(0, (1, 275)), (2, (0, z2)), (3, (0, y3))], [(0, 32), (0, z64)], v1)) 1 rfl ?_
                                    refine e_Ok.if2 rfl (fun h65 => ?_) (fun h65 => ?_)
                                    · replace h65 : (z64 : Int) = 32 := h65
                                      have hz2 : z2 = e2 := Decidable.byCases (p := z2 < e2) (fun e => absurd (show kyc z2 = 32 by rw [hz64]; omega) (hw3 _ (by omega) e)) (fun e => by omega)
                                      refine e_Ok.inc (z := z2 + 1) rfl rfl (by omega) (by omega) ?_
                                      show e_Ok 20 elay ecode eI (d + 1) 328 (180, [(2, (0, z2 + 1)), (0, (1, 275)), (3, (0, y3))], [], v1) _
                                      refine e_Ok.inc (z := y3 + 1) rfl rfl (by omega) (by omega) ?_
                                      show e_Ok 20 elay ecode eI (d + 1) 328 (183, [(3, (0, y3 + 1)), (2, (0, z2 + 1)), (0, (1, 275))], [], v1) _
                                      refine e_Ok.run (t' := (62, [(3, (0, y3 + 1)), (2, (0, z2 + 1)), (0, (1, 275))], [], v1)) 1 rfl ?_
                                      refine e_Ok.sub eAlk (e_sub_of rfl ?_) (ih36 (z2 + 1) (y3 + 1) v1 ⟨j37, (by rcases hw2 with g | ⟨g1, g2⟩; exact Or.inl (by omega); exact Or.inr (by rw [show z2 + 1 = e2 + 1 by omega]; exact g2)), by omega, j41, j42, (by have u66 : v1 275 84 = v1 275 84 := rfl; omega), (by have u1 : v1 275 84 = v1 275 84 := rfl; have u2 : v1 275 85 = v1 275 85 := rfl; omega), (by have u1 : v1 275 84 = v1 275 84 := rfl; have u2 : v1 275 85 = v1 275 85 := rfl; omega)⟩ (by omega))
                                      exact ⟨rfl, rfl, rfl, trivial⟩
                                    · replace h65 : (z64 : Int) ≠ 32 := by have q : ¬ ((z64 : Int) = 32) := h65; omega
                                      have hlz : z2 ≠ e2 := fun e => by rw [e, hw1.2.2.2.2.2] at hz64; omega
                                      refine e_Ok.inc (z := z2 + 1) rfl rfl (by omega) (by omega) ?_
                                      show e_Ok 20 elay ecode eI (d + 1) 328 (174, [(2, (0, z2 + 1)), (0, (1, 275)), (3, (0, y3))], [], v1) _
                                      refine e_Ok.run (t' := (159, [(2, (0, z2 + 1)), (0, (1, 275)), (3, (0, y3))], [], v1)) 1 rfl ?_
                                      refine e_Ok.sub eAlk (e_sub_of rfl ?_) (ih62 (z2 + 1) (by omega) (by omega))
                                      exact ⟨rfl, rfl, rfl, trivial⟩
                                refine e_Ok.sub eAlk (e_sub_of rfl ?_) (hL61 (171 + 1 : Int).toNat y2 (by omega) (by omega))
                                exact ⟨rfl, rfl, rfl, trivial⟩
                              · replace h60 : (y4 : Int) = y1 - t := by have q : ¬ ((y4 : Int) ≠ y1 - t) := h60; omega
                                refine e_Ok.run (t' := (151, [(0, (1, 275)), (2, (0, y2)), (3, (0, y3)), (4, (0, y4))], [(0, 4), (1, 275)], v1)) 2 rfl ?_
                                refine e_Ok.putf rfl rfl rfl rfl ?_
                                generalize hw67 : e_up v1 275 84 4 = w67
                                have f68 : e_fr mTq w w67 := e_fr.up j37 hw67 (by unfold mTq; omega)
                                refine e_Ok.run (t' := (156, [(0, (1, 275)), (2, (0, y2)), (3, (0, y3)), (4, (0, y4))], [(0, y3), (1, 275)], w67)) 2 rfl ?_
                                refine e_Ok.putf rfl rfl rfl rfl ?_
                                generalize hw69 : e_up w67 275 85 y3 = w69
                                have f70 : e_fr mTq w w69 := e_fr.up f68 hw69 (by unfold mTq; omega)
                                have hL71 : ∀ (nn : Nat) (z2 : Int), y2 ≤ z2 ∧ z2 ≤ e2 → 171 - z2 < nn → e_Ok 20 elay ecode eI (d + 1) 328 (159, [(0, (1, 275)), (2, (0, z2)), (3, (0, y3))], [], w69) (fun r w' => r = [] ∧ e_fr mTq w w' ∧ tkS w' N ∧ t ≤ w' 275 86) := by
                                  intro nn
                                  induction nn with
                                  | zero => intro z2 hj hm; obtain j73 := hj; exfalso; omega
                                  | succ nn ih72 =>
                                    intro z2 hj hm
                                    obtain j73 := hj
                                    refine e_Ok.run (t' := (162, [(0, (1, 275)), (2, (0, z2)), (3, (0, y3))], [(1, 357)], w69)) 1 rfl ?_
                                    refine e_Ok.run (t' := (163, [(0, (1, 275)), (2, (0, z2)), (3, (0, y3))], [(0, z2), (1, 357)], w69)) 1 rfl ?_
                                    refine e_Ok.sc (by omega) rfl rfl ?_
                                    have z74b := kyc_in (z2)
                                    generalize hz74 : kyc (z2) = z74
                                    rw [hz74] at z74b
                                    refine e_Ok.run (t' := (168, [(0, (1, 275)), (2, (0, z2)), (3, (0, y3))], [(0, 32), (0, z74)], w69)) 1 rfl ?_
                                    refine e_Ok.if2 rfl (fun h75 => ?_) (fun h75 => ?_)
                                    · replace h75 : (z74 : Int) = 32 := h75
                                      have hz2 : z2 = e2 := Decidable.byCases (p := z2 < e2) (fun e => absurd (show kyc z2 = 32 by rw [hz74]; omega) (hw3 _ (by omega) e)) (fun e => by omega)
                                      refine e_Ok.inc (z := z2 + 1) rfl rfl (by omega) (by omega) ?_
                                      show e_Ok 20 elay ecode eI (d + 1) 328 (180, [(2, (0, z2 + 1)), (0, (1, 275)), (3, (0, y3))], [], w69) _
                                      refine e_Ok.inc (z := y3 + 1) rfl rfl (by omega) (by omega) ?_
                                      show e_Ok 20 elay ecode eI (d + 1) 328 (183, [(3, (0, y3 + 1)), (2, (0, z2 + 1)), (0, (1, 275))], [], w69) _
                                      refine e_Ok.run (t' := (62, [(3, (0, y3 + 1)), (2, (0, z2 + 1)), (0, (1, 275))], [], w69)) 1 rfl ?_
                                      refine e_Ok.sub eAlk (e_sub_of rfl ?_) (ih36 (z2 + 1) (y3 + 1) w69 ⟨f70, (by rcases hw2 with g | ⟨g1, g2⟩; exact Or.inl (by omega); exact Or.inr (by rw [show z2 + 1 = e2 + 1 by omega]; exact g2)), by omega, (by rw [← hw69]; exact (e_up_ne _ _ (Or.inr (by omega))).trans (by rw [← hw67]; exact (e_up_ne _ _ (Or.inr (by omega))).trans j41)), (by rw [← hw69]; exact (e_up_ne _ _ (Or.inr (by omega))).trans (by rw [← hw67]; exact (e_up_ne _ _ (Or.inr (by omega))).trans j42)), (by have u76 : w69 275 84 = 4 := (by rw [← hw69]; exact (e_up_ne _ _ (Or.inr (by omega))).trans (by rw [← hw67]; exact e_up_eq _ _ _ _)); omega), (by have u1 : w69 275 84 = 4 := (by rw [← hw69]; exact (e_up_ne _ _ (Or.inr (by omega))).trans (by rw [← hw67]; exact e_up_eq _ _ _ _)); have u2 : w69 275 85 = y3 := (by rw [← hw69]; exact e_up_eq _ _ _ _); omega), (by have u1 : w69 275 84 = 4 := (by rw [← hw69]; exact (e_up_ne _ _ (Or.inr (by omega))).trans (by rw [← hw67]; exact e_up_eq _ _ _ _)); have u2 : w69 275 85 = y3 := (by rw [← hw69]; exact e_up_eq _ _ _ _); omega)⟩ (by omega))
                                      exact ⟨rfl, rfl, rfl, trivial⟩
                                    · replace h75 : (z74 : Int) ≠ 32 := by have q : ¬ ((z74 : Int) = 32) := h75; omega
                                      have hlz : z2 ≠ e2 := fun e => by rw [e, hw1.2.2.2.2.2] at hz74; omega
                                      refine e_Ok.inc (z := z2 + 1) rfl rfl (by omega) (by omega) ?_
                                      show e_Ok 20 elay ecode eI (d + 1) 328 (174, [(2, (0, z2 + 1)), (0, (1, 275)), (3, (0, y3))], [], w69) _
                                      refine e_Ok.run (t' := (159, [(2, (0, z2 + 1)), (0, (1, 275)), (3, (0, y3))], [], w69)) 1 rfl ?_
                                      refine e_Ok.sub eAlk (e_sub_of rfl ?_) (ih72 (z2 + 1) (by omega) (by omega))
                                      exact ⟨rfl, rfl, rfl, trivial⟩
                                refine e_Ok.sub eAlk (e_sub_of rfl ?_) (hL71 (171 + 1 : Int).toNat y2 (by omega) (by omega))
                                exact ⟨rfl, rfl, rfl, trivial⟩
                          · replace h51 : (z50 : Int) ≠ 32 := by have q : ¬ ((z50 : Int) = 32) := h51; omega
                            have hlt : y2 + y4 ≠ e2 := fun e => by rw [e, hw1.2.2.2.2.2] at hz50; omega
                            refine e_Ok.run (t' := (93, [(0, (1, 275)), (2, (0, y2)), (3, (0, y3)), (4, (0, y4))], [(1, 357)], v1)) 1 rfl ?_
                            refine e_Ok.run (t' := (96, [(0, (1, 275)), (2, (0, y2)), (3, (0, y3)), (4, (0, y4))], [(0, y4), (0, y2), (1, 357)], v1)) 2 rfl ?_
                            refine e_Ok.add (z := y2 + y4) rfl (by omega) (by omega) ?_
                            refine e_Ok.sc (by omega) rfl rfl ?_
                            have z77b := kyc_in (y2 + y4)
                            generalize hz77 : kyc (y2 + y4) = z77
                            rw [hz77] at z77b
                            refine e_Ok.run (t' := (102, [(0, (1, 275)), (2, (0, y2)), (3, (0, y3)), (4, (0, y4))], [(1, 275), (1, 275), (0, z77)], v1)) 2 rfl ?_
                            refine e_Ok.getf (z := t) rfl rfl rfl rfl j41 (by omega) ?_
                            refine e_Ok.run (t' := (107, [(0, (1, 275)), (2, (0, y2)), (3, (0, y3)), (4, (0, y4))], [(0, y4), (0, t), (1, 275), (0, z77)], v1)) 1 rfl ?_
                            refine e_Ok.add (z := t + y4) rfl (by omega) (by omega) ?_
                            refine e_Ok.callV rfl (by omega) rfl rfl rfl rfl (l_326 (mLT_Tq j37 hT) (mLH_Tq j37 hH) (((j37 275 9 (by unfold mTq; omega)).trans hN)) hNr (by omega)) (fun r78 w79 h80 => ?_)
                            obtain ⟨z81, rfl, rfl, q82⟩ := h80
                            show e_Ok 20 elay ecode eI (d + 1) 328 (111, [(0, (1, 275)), (2, (0, y2)), (3, (0, y3)), (4, (0, y4))], [(0, z81), (0, z77)], v1) _
                            refine e_Ok.if2 rfl (fun h83 => ?_) (fun h83 => ?_)
                            · replace h83 : (z77 : Int) ≠ z81 := h83
                              refine e_Ok.run (t' := (123, [(0, (1, 275)), (2, (0, y2)), (3, (0, y3)), (4, (0, y4))], [(1, 357)], v1)) 1 rfl ?_
                              refine e_Ok.run (t' := (126, [(0, (1, 275)), (2, (0, y2)), (3, (0, y3)), (4, (0, y4))], [(0, y4), (0, y2), (1, 357)], v1)) 2 rfl ?_
                              refine e_Ok.add (z := y2 + y4) rfl (by omega) (by omega) ?_
                              refine e_Ok.sc (by omega) rfl rfl ?_
                              have z84b := kyc_in (y2 + y4)
                              generalize hz84 : kyc (y2 + y4) = z84
                              rw [hz84] at z84b
                              refine e_Ok.run (t' := (132, [(0, (1, 275)), (2, (0, y2)), (3, (0, y3)), (4, (0, y4))], [(0, 32), (0, z84)], v1)) 1 rfl ?_
                              refine e_Ok.if2 rfl (fun h85 => ?_) (fun h85 => ?_)
                              · replace h85 : (z84 : Int) ≠ 32 := h85
                                have hL86 : ∀ (nn : Nat) (z2 : Int), y2 ≤ z2 ∧ z2 ≤ e2 → 171 - z2 < nn → e_Ok 20 elay ecode eI (d + 1) 328 (159, [(0, (1, 275)), (2, (0, z2)), (3, (0, y3))], [], v1) (fun r w' => r = [] ∧ e_fr mTq w w' ∧ tkS w' N ∧ t ≤ w' 275 86) := by
                                  intro nn
                                  induction nn with
                                  | zero => intro z2 hj hm; obtain j88 := hj; exfalso; omega
                                  | succ nn ih87 =>
                                    intro z2 hj hm
                                    obtain j88 := hj
                                    refine e_Ok.run (t' := (162, [(0, (1, 275)), (2, (0, z2)), (3, (0, y3))], [(1, 357)], v1)) 1 rfl ?_
                                    refine e_Ok.run (t' := (163, [(0, (1, 275)), (2, (0, z2)), (3, (0, y3))], [(0, z2), (1, 357)], v1)) 1 rfl ?_
                                    refine e_Ok.sc (by omega) rfl rfl ?_
                                    have z89b := kyc_in (z2)
                                    generalize hz89 : kyc (z2) = z89
                                    rw [hz89] at z89b
                                    refine e_Ok.run (t' := (168, [(0, (1, 275)), (2, (0, z2)), (3, (0, y3))], [(0, 32), (0, z89)], v1)) 1 rfl ?_
                                    refine e_Ok.if2 rfl (fun h90 => ?_) (fun h90 => ?_)
                                    · replace h90 : (z89 : Int) = 32 := h90
                                      have hz2 : z2 = e2 := Decidable.byCases (p := z2 < e2) (fun e => absurd (show kyc z2 = 32 by rw [hz89]; omega) (hw3 _ (by omega) e)) (fun e => by omega)
                                      refine e_Ok.inc (z := z2 + 1) rfl rfl (by omega) (by omega) ?_
                                      show e_Ok 20 elay ecode eI (d + 1) 328 (180, [(2, (0, z2 + 1)), (0, (1, 275)), (3, (0, y3))], [], v1) _
                                      refine e_Ok.inc (z := y3 + 1) rfl rfl (by omega) (by omega) ?_
                                      show e_Ok 20 elay ecode eI (d + 1) 328 (183, [(3, (0, y3 + 1)), (2, (0, z2 + 1)), (0, (1, 275))], [], v1) _
                                      refine e_Ok.run (t' := (62, [(3, (0, y3 + 1)), (2, (0, z2 + 1)), (0, (1, 275))], [], v1)) 1 rfl ?_
                                      refine e_Ok.sub eAlk (e_sub_of rfl ?_) (ih36 (z2 + 1) (y3 + 1) v1 ⟨j37, (by rcases hw2 with g | ⟨g1, g2⟩; exact Or.inl (by omega); exact Or.inr (by rw [show z2 + 1 = e2 + 1 by omega]; exact g2)), by omega, j41, j42, (by have u91 : v1 275 84 = v1 275 84 := rfl; omega), (by have u1 : v1 275 84 = v1 275 84 := rfl; have u2 : v1 275 85 = v1 275 85 := rfl; omega), (by have u1 : v1 275 84 = v1 275 84 := rfl; have u2 : v1 275 85 = v1 275 85 := rfl; omega)⟩ (by omega))
                                      exact ⟨rfl, rfl, rfl, trivial⟩
                                    · replace h90 : (z89 : Int) ≠ 32 := by have q : ¬ ((z89 : Int) = 32) := h90; omega
                                      have hlz : z2 ≠ e2 := fun e => by rw [e, hw1.2.2.2.2.2] at hz89; omega
                                      refine e_Ok.inc (z := z2 + 1) rfl rfl (by omega) (by omega) ?_
                                      show e_Ok 20 elay ecode eI (d + 1) 328 (174, [(2, (0, z2 + 1)), (0, (1, 275)), (3, (0, y3))], [], v1) _
                                      refine e_Ok.run (t' := (159, [(2, (0, z2 + 1)), (0, (1, 275)), (3, (0, y3))], [], v1)) 1 rfl ?_
                                      refine e_Ok.sub eAlk (e_sub_of rfl ?_) (ih87 (z2 + 1) (by omega) (by omega))
                                      exact ⟨rfl, rfl, rfl, trivial⟩
                                refine e_Ok.sub eAlk (e_sub_of rfl ?_) (hL86 (171 + 1 : Int).toNat y2 (by omega) (by omega))
                                exact ⟨rfl, rfl, rfl, trivial⟩
                              · replace h85 : (z84 : Int) = 32 := by have q : ¬ ((z84 : Int) ≠ 32) := h85; omega
                                have hk2 : 2 ≤ y4 := Decidable.byCases (p := y2 + y4 < e2) (fun e => absurd (show kyc (y2 + y4) = 32 by rw [hz84]; omega) (hw3 _ (by omega) e)) (fun e => by omega)
                                refine e_Ok.run (t' := (138, [(0, (1, 275)), (2, (0, y2)), (3, (0, y3)), (4, (0, y4))], [(1, 275), (0, y4)], v1)) 2 rfl ?_
                                refine e_Ok.getf (z := y1) rfl rfl rfl rfl j42 (by omega) ?_
                                refine e_Ok.run (t' := (142, [(0, (1, 275)), (2, (0, y2)), (3, (0, y3)), (4, (0, y4))], [(1, 275), (0, y1), (0, y4)], v1)) 1 rfl ?_
                                refine e_Ok.getf (z := t) rfl rfl rfl rfl j41 (by omega) ?_
                                refine e_Ok.sub' (z := y1 - t) rfl (by omega) (by omega) ?_
                                refine e_Ok.if2 rfl (fun h92 => ?_) (fun h92 => ?_)
                                · replace h92 : (y4 : Int) ≠ y1 - t := h92
                                  have hL93 : ∀ (nn : Nat) (z2 : Int), y2 ≤ z2 ∧ z2 ≤ e2 → 171 - z2 < nn → e_Ok 20 elay ecode eI (d + 1) 328 (159, [(0, (1, 275)), (2, (0, z2)), (3, (0, y3))], [], v1) (fun r w' => r = [] ∧ e_fr mTq w w' ∧ tkS w' N ∧ t ≤ w' 275 86) := by
                                    intro nn
                                    induction nn with
                                    | zero => intro z2 hj hm; obtain j95 := hj; exfalso; omega
                                    | succ nn ih94 =>
                                      intro z2 hj hm
                                      obtain j95 := hj
                                      refine e_Ok.run (t' := (162, [(0, (1, 275)), (2, (0, z2)), (3, (0, y3))], [(1, 357)], v1)) 1 rfl ?_
                                      refine e_Ok.run (t' := (163, [(0, (1, 275)), (2, (0, z2)), (3, (0, y3))], [(0, z2), (1, 357)], v1)) 1 rfl ?_
                                      refine e_Ok.sc (by omega) rfl rfl ?_
                                      have z101b := kyc_in (z2)
                                      generalize hz101 : kyc (z2) = z101
                                      rw [hz101] at z101b
                                      refine e_Ok.run (t' := (168, [(0, (1, 275)), (2, (0, z2)), (3, (0, y3))], [(0, 32), (0, z101)], v1)) 1 rfl ?_
                                      refine e_Ok.if2 rfl (fun h103 => ?_) (fun h103 => ?_)
                                      · replace h103 : (z101 : Int) = 32 := h103
                                        have hz2 : z2 = e2 := Decidable.byCases (p := z2 < e2) (fun e => absurd (show kyc z2 = 32 by rw [hz101]; omega) (hw3 _ (by omega) e)) (fun e => by omega)
                                        refine e_Ok.inc (z := z2 + 1) rfl rfl (by omega) (by omega) ?_
                                        show e_Ok 20 elay ecode eI (d + 1) 328 (180, [(2, (0, z2 + 1)), (0, (1, 275)), (3, (0, y3))], [], v1) _
                                        refine e_Ok.inc (z := y3 + 1) rfl rfl (by omega) (by omega) ?_
                                        show e_Ok 20 elay ecode eI (d + 1) 328 (183, [(3, (0, y3 + 1)), (2, (0, z2 + 1)), (0, (1, 275))], [], v1) _
                                        refine e_Ok.run (t' := (62, [(3, (0, y3 + 1)), (2, (0, z2 + 1)), (0, (1, 275))], [], v1)) 1 rfl ?_
                                        refine e_Ok.sub eAlk (e_sub_of rfl ?_) (ih36 (z2 + 1) (y3 + 1) v1 ⟨j37, (by rcases hw2 with g | ⟨g1, g2⟩; exact Or.inl (by omega); exact Or.inr (by rw [show z2 + 1 = e2 + 1 by omega]; exact g2)), by omega, j41, j42, (by have u104 : v1 275 84 = v1 275 84 := rfl; omega), (by have u1 : v1 275 84 = v1 275 84 := rfl; have u2 : v1 275 85 = v1 275 85 := rfl; omega), (by have u1 : v1 275 84 = v1 275 84 := rfl; have u2 : v1 275 85 = v1 275 85 := rfl; omega)⟩ (by omega))
                                        exact ⟨rfl, rfl, rfl, trivial⟩
                                      · replace h103 : (z101 : Int) ≠ 32 := by have q : ¬ ((z101 : Int) = 32) := h103; omega
                                        have hlz : z2 ≠ e2 := fun e => by rw [e, hw1.2.2.2.2.2] at hz101; omega
                                        refine e_Ok.inc (z := z2 + 1) rfl rfl (by omega) (by omega) ?_
                                        show e_Ok 20 elay ecode eI (d + 1) 328 (174, [(2, (0, z2 + 1)), (0, (1, 275)), (3, (0, y3))], [], v1) _
                                        refine e_Ok.run (t' := (159, [(2, (0, z2 + 1)), (0, (1, 275)), (3, (0, y3))], [], v1)) 1 rfl ?_
                                        refine e_Ok.sub eAlk (e_sub_of rfl ?_) (ih94 (z2 + 1) (by omega) (by omega))
                                        exact ⟨rfl, rfl, rfl, trivial⟩
                                  refine e_Ok.sub eAlk (e_sub_of rfl ?_) (hL93 (171 + 1 : Int).toNat y2 (by omega) (by omega))
                                  exact ⟨rfl, rfl, rfl, trivial⟩
                                · replace h92 : (y4 : Int) = y1 - t := by have q : ¬ ((y4 : Int) ≠ y1 - t) := h92; omega
                                  refine e_Ok.run (t' := (151, [(0, (1, 275)), (2, (0, y2)), (3, (0, y3)), (4, (0, y4))], [(0, 4), (1, 275)], v1)) 2 rfl ?_
                                  refine e_Ok.putf rfl rfl rfl rfl ?_
                                  generalize hw105 : e_up v1 275 84 4 = w105
                                  have f106 : e_fr mTq w w105 := e_fr.up j37 hw105 (by unfold mTq; omega)
                                  refine e_Ok.run (t' := (156, [(0, (1, 275)), (2, (0, y2)), (3, (0, y3)), (4, (0, y4))], [(0, y3), (1, 275)], w105)) 2 rfl ?_
                                  refine e_Ok.putf rfl rfl rfl rfl ?_
                                  generalize hw107 : e_up w105 275 85 y3 = w107
                                  have f108 : e_fr mTq w w107 := e_fr.up f106 hw107 (by unfold mTq; omega)
                                  have hL109 : ∀ (nn : Nat) (z2 : Int), y2 ≤ z2 ∧ z2 ≤ e2 → 171 - z2 < nn → e_Ok 20 elay ecode eI (d + 1) 328 (159, [(0, (1, 275)), (2, (0, z2)), (3, (0, y3))], [], w107) (fun r w' => r = [] ∧ e_fr mTq w w' ∧ tkS w' N ∧ t ≤ w' 275 86) := by
                                    intro nn
                                    induction nn with
                                    | zero => intro z2 hj hm; obtain j111 := hj; exfalso; omega
                                    | succ nn ih110 =>
                                      intro z2 hj hm
                                      obtain j111 := hj
                                      refine e_Ok.run (t' := (162, [(0, (1, 275)), (2, (0, z2)), (3, (0, y3))], [(1, 357)], w107)) 1 rfl ?_
                                      refine e_Ok.run (t' := (163, [(0, (1, 275)), (2, (0, z2)), (3, (0, y3))], [(0, z2), (1, 357)], w107)) 1 rfl ?_
                                      refine e_Ok.sc (by omega) rfl rfl ?_
                                      have z112b := kyc_in (z2)
                                      generalize hz112 : kyc (z2) = z112
                                      rw [hz112] at z112b
                                      refine e_Ok.run (t' := (168, [(0, (1, 275)), (2, (0, z2)), (3, (0, y3))], [(0, 32), (0, z112)], w107)) 1 rfl ?_
                                      refine e_Ok.if2 rfl (fun h113 => ?_) (fun h113 => ?_)
                                      · replace h113 : (z112 : Int) = 32 := h113
                                        have hz2 : z2 = e2 := Decidable.byCases (p := z2 < e2) (fun e => absurd (show kyc z2 = 32 by rw [hz112]; omega) (hw3 _ (by omega) e)) (fun e => by omega)
                                        refine e_Ok.inc (z := z2 + 1) rfl rfl (by omega) (by omega) ?_
                                        show e_Ok 20 elay ecode eI (d + 1) 328 (180, [(2, (0, z2 + 1)), (0, (1, 275)), (3, (0, y3))], [], w107) _
                                        refine e_Ok.inc (z := y3 + 1) rfl rfl (by omega) (by omega) ?_
                                        show e_Ok 20 elay ecode eI (d + 1) 328 (183, [(3, (0, y3 + 1)), (2, (0, z2 + 1)), (0, (1, 275))], [], w107) _
                                        refine e_Ok.run (t' := (62, [(3, (0, y3 + 1)), (2, (0, z2 + 1)), (0, (1, 275))], [], w107)) 1 rfl ?_
                                        refine e_Ok.sub eAlk (e_sub_of rfl ?_) (ih36 (z2 + 1) (y3 + 1) w107 ⟨f108, (by rcases hw2 with g | ⟨g1, g2⟩; exact Or.inl (by omega); exact Or.inr (by rw [show z2 + 1 = e2 + 1 by omega]; exact g2)), by omega, (by rw [← hw107]; exact (e_up_ne _ _ (Or.inr (by omega))).trans (by rw [← hw105]; exact (e_up_ne _ _ (Or.inr (by omega))).trans j41)), (by rw [← hw107]; exact (e_up_ne _ _ (Or.inr (by omega))).trans (by rw [← hw105]; exact (e_up_ne _ _ (Or.inr (by omega))).trans j42)), (by have u114 : w107 275 84 = 4 := (by rw [← hw107]; exact (e_up_ne _ _ (Or.inr (by omega))).trans (by rw [← hw105]; exact e_up_eq _ _ _ _)); omega), (by have u1 : w107 275 84 = 4 := (by rw [← hw107]; exact (e_up_ne _ _ (Or.inr (by omega))).trans (by rw [← hw105]; exact e_up_eq _ _ _ _)); have u2 : w107 275 85 = y3 := (by rw [← hw107]; exact e_up_eq _ _ _ _); omega), (by have u1 : w107 275 84 = 4 := (by rw [← hw107]; exact (e_up_ne _ _ (Or.inr (by omega))).trans (by rw [← hw105]; exact e_up_eq _ _ _ _)); have u2 : w107 275 85 = y3 := (by rw [← hw107]; exact e_up_eq _ _ _ _); omega)⟩ (by omega))
                                        exact ⟨rfl, rfl, rfl, trivial⟩
                                      · replace h113 : (z112 : Int) ≠ 32 := by have q : ¬ ((z112 : Int) = 32) := h113; omega
                                        have hlz : z2 ≠ e2 := fun e => by rw [e, hw1.2.2.2.2.2] at hz112; omega
                                        refine e_Ok.inc (z := z2 + 1) rfl rfl (by omega) (by omega) ?_
                                        show e_Ok 20 elay ecode eI (d + 1) 328 (174, [(2, (0, z2 + 1)), (0, (1, 275)), (3, (0, y3))], [], w107) _
                                        refine e_Ok.run (t' := (159, [(2, (0, z2 + 1)), (0, (1, 275)), (3, (0, y3))], [], w107)) 1 rfl ?_
                                        refine e_Ok.sub eAlk (e_sub_of rfl ?_) (ih110 (z2 + 1) (by omega) (by omega))
                                        exact ⟨rfl, rfl, rfl, trivial⟩
                                  refine e_Ok.sub eAlk (e_sub_of rfl ?_) (hL109 (171 + 1 : Int).toNat y2 (by omega) (by omega))
                                  exact ⟨rfl, rfl, rfl, trivial⟩
                            · replace h83 : (z77 : Int) = z81 := by have q : ¬ ((z77 : Int) ≠ z81) := h83; omega
                              refine e_Ok.inc (z := y4 + 1) rfl rfl (by omega) (by omega) ?_
                              show e_Ok 20 elay ecode eI (d + 1) 328 (117, [(4, (0, y4 + 1)), (0, (1, 275)), (2, (0, y2)), (3, (0, y3))], [], v1) _
                              refine e_Ok.run (t' := (75, [(4, (0, y4 + 1)), (0, (1, 275)), (2, (0, y2)), (3, (0, y3))], [], v1)) 1 rfl ?_
                              refine e_Ok.sub eAlk (e_sub_of rfl ?_) (ih48 (y4 + 1) (by omega) (by omega))
                              exact ⟨rfl, rfl, rfl, rfl, trivial⟩
                      refine e_Ok.sub eAlk (e_sub_of rfl ?_) (hL47 (171 + 1 : Int).toNat 0 (by omega) (by omega))
                      exact ⟨rfl, rfl, rfl, rfl, trivial⟩
                refine e_Ok.sub eAlk (e_sub_of rfl ?_) (hL35 (172 + 1 : Int).toNat 0 0 w32 ⟨f33, (Or.inr ⟨3, by decide⟩), by omega, (by rw [← hw32]; exact (e_up_ne _ _ (Or.inr (by omega))).trans (by rw [← hw29]; exact (e_up_ne _ _ (Or.inr (by omega))).trans ht)), (by rw [← hw32]; exact (e_up_ne _ _ (Or.inr (by omega))).trans (by rw [← hw29]; exact e_up_eq _ _ _ _)), (by have u34 : w32 275 84 = 1 := (by rw [← hw32]; exact e_up_eq _ _ _ _); omega), (by have u1 : w32 275 84 = 1 := (by rw [← hw32]; exact e_up_eq _ _ _ _); have u2 : w32 275 85 = w 275 85 := (by rw [← hw32]; exact (e_up_ne _ _ (Or.inr (by omega))).trans (by rw [← hw29]; exact (e_up_ne _ _ (Or.inr (by omega))).trans rfl)); omega), (by have u1 : w32 275 84 = 1 := (by rw [← hw32]; exact e_up_eq _ _ _ _); have u2 : w32 275 85 = w 275 85 := (by rw [← hw32]; exact (e_up_ne _ _ (Or.inr (by omega))).trans (by rw [← hw29]; exact (e_up_ne _ _ (Or.inr (by omega))).trans rfl)); omega)⟩ (by omega))
                exact ⟨rfl, rfl, rfl, trivial⟩
              · replace h31 : (y1 - t : Int) > 24 := by have q : ¬ ((y1 - t : Int) ≤ 24) := h31; omega
                refine e_Ok.run (t' := (55, [(0, (1, 275)), (1, (0, y1))], [(0, 5), (1, 275)], w29)) 2 rfl ?_
                refine e_Ok.putf rfl rfl rfl rfl ?_
                generalize hw115 : e_up w29 275 84 5 = w115
                have f116 : e_fr mTq w w115 := e_fr.up f30 hw115 (by unfold mTq; omega)
                refine e_Ok.run (t' := (62, [(3, (0, 0)), (2, (0, 0)), (0, (1, 275)), (1, (0, y1))], [], w115)) 4 rfl ?_
                have hL118 : ∀ (nn : Nat) (y2 : Int) (y3 : Int) (v1 : eW), e_fr mTq w v1 ∧ (y2 = 171 ∨ ∃ e, (y2, e, y3) ∈ e_wst) ∧ ((0 ≤ y2 ∧ y2 ≤ 171 ∧ 0 ≤ y3 ∧ y3 ≤ 33)) ∧ v1 275 86 = t ∧ v1 275 87 = y1 ∧ ((1 ≤ v1 275 84 ∧ v1 275 84 ≤ 5)) ∧ ((v1 275 84 = 4 → t + 2 ≤ y1 ∧ 0 ≤ v1 275 85 ∧ v1 275 85 ≤ 32)) ∧ ((-2147483648 ≤ v1 275 85 ∧ v1 275 85 ≤ 2147483647)) → 172 - y2 < nn → e_Ok 20 elay ecode eI (d + 1) 328 (62, [(0, (1, 275)), (2, (0, y2)), (3, (0, y3))], [], v1) (fun r w' => r = [] ∧ e_fr mTq w w' ∧ tkS w' N ∧ t ≤ w' 275 86) := by
                  intro nn
                  induction nn with
                  | zero => intro y2 y3 v1 hj hm; obtain ⟨j120, j121, j122, j123, j124, j125, j126, j127⟩ := hj; exfalso; omega
                  | succ nn ih119 =>
                    intro y2 y3 v1 hj hm
                    obtain ⟨j120, j121, j122, j123, j124, j125, j126, j127⟩ := hj
                    refine e_Ok.run (t' := (63, [(0, (1, 275)), (2, (0, y2)), (3, (0, y3))], [(0, y2)], v1)) 1 rfl ?_
                    refine e_Ok.run (t' := (66, [(0, (1, 275)), (2, (0, y2)), (3, (0, y3))], [(1, 357), (0, y2)], v1)) 1 rfl ?_
                    refine e_Ok.run (t' := (69, [(0, (1, 275)), (2, (0, y2)), (3, (0, y3))], [(0, 171), (0, y2)], v1)) 1 rfl ?_
                    refine e_Ok.if2 rfl (fun h128 => ?_) (fun h128 => ?_)
                    · replace h128 : (y2 : Int) ≥ 171 := h128
                      refine e_Ok.rets rfl rfl ?_
                      have et86 : v1 275 86 = t := j123
                      have et87 : v1 275 87 = y1 := j124
                      have et84 : v1 275 84 = v1 275 84 := rfl
                      have et85 : v1 275 85 = v1 275 85 := rfl
                      exact ⟨rfl, j120, by unfold tkS tkV; rw [et86, et87, et84, et85]; omega, by omega⟩
                    · replace h128 : (y2 : Int) < 171 := by have q : ¬ ((y2 : Int) ≥ 171) := h128; omega
                      obtain ⟨e2, he2⟩ : ∃ e, (y2, e, y3) ∈ e_wst := by rcases j121 with g | g; exact absurd g (by omega); exact g
                      obtain ⟨hw1, hw2, hw3⟩ := ws_f he2
                      refine e_Ok.run (t' := (75, [(4, (0, 0)), (0, (1, 275)), (2, (0, y2)), (3, (0, y3))], [], v1)) 2 rfl ?_
                      have hL129 : ∀ (nn : Nat) (y4 : Int), 0 ≤ y4 ∧ y2 + y4 ≤ e2 → 171 - y4 < nn → e_Ok 20 elay ecode eI (d + 1) 328 (75, [(0, (1, 275)), (2, (0, y2)), (3, (0, y3)), (4, (0, y4))], [], v1) (fun r w' => r = [] ∧ e_fr mTq w w' ∧ tkS w' N ∧ t ≤ w' 275 86) := by
                        intro nn
                        induction nn with
                        | zero => intro y4 hj hm; obtain j131 := hj; exfalso; omega
                        | succ nn ih130 =>
                          intro y4 hj hm
                          obtain j131 := hj
                          refine e_Ok.run (t' := (78, [(0, (1, 275)), (2, (0, y2)), (3, (0, y3)), (4, (0, y4))], [(1, 357)], v1)) 1 rfl ?_
                          refine e_Ok.run (t' := (81, [(0, (1, 275)), (2, (0, y2)), (3, (0, y3)), (4, (0, y4))], [(0, y4), (0, y2), (1, 357)], v1)) 2 rfl ?_
                          refine e_Ok.add (z := y2 + y4) rfl (by omega) (by omega) ?_
                          refine e_Ok.sc (by omega) rfl rfl ?_
                          have z132b := kyc_in (y2 + y4)
                          generalize hz132 : kyc (y2 + y4) = z132
                          rw [hz132] at z132b
                          refine e_Ok.run (t' := (87, [(0, (1, 275)), (2, (0, y2)), (3, (0, y3)), (4, (0, y4))], [(0, 32), (0, z132)], v1)) 1 rfl ?_
                          refine e_Ok.if2 rfl (fun h133 => ?_) (fun h133 => ?_)
                          · replace h133 : (z132 : Int) = 32 := h133
                            refine e_Ok.run (t' := (123, [(0, (1, 275)), (2, (0, y2)), (3, (0, y3)), (4, (0, y4))], [(1, 357)], v1)) 1 rfl ?_
                            refine e_Ok.run (t' := (126, [(0, (1, 275)), (2, (0, y2)), (3, (0, y3)), (4, (0, y4))], [(0, y4), (0, y2), (1, 357)], v1)) 2 rfl ?_
                            refine e_Ok.add (z := y2 + y4) rfl (by omega) (by omega) ?_
                            refine e_Ok.sc (by omega) rfl rfl ?_
                            have z134b := kyc_in (y2 + y4)
                            generalize hz134 : kyc (y2 + y4) = z134
                            rw [hz134] at z134b
                            refine e_Ok.run (t' := (132, [(0, (1, 275)), (2, (0, y2)), (3, (0, y3)), (4, (0, y4))], [(0, 32), (0, z134)], v1)) 1 rfl ?_
                            refine e_Ok.if2 rfl (fun h135 => ?_) (fun h135 => ?_)
                            · replace h135 : (z134 : Int) ≠ 32 := h135
                              have hL136 : ∀ (nn : Nat) (z2 : Int), y2 ≤ z2 ∧ z2 ≤ e2 → 171 - z2 < nn → e_Ok 20 elay ecode eI (d + 1) 328 (159, [(0, (1, 275)), (2, (0, z2)), (3, (0, y3))], [], v1) (fun r w' => r = [] ∧ e_fr mTq w w' ∧ tkS w' N ∧ t ≤ w' 275 86) := by
                                intro nn
                                induction nn with
                                | zero => intro z2 hj hm; obtain j138 := hj; exfalso; omega
                                | succ nn ih137 =>
                                  intro z2 hj hm
                                  obtain j138 := hj
                                  refine e_Ok.run (t' := (162, [(0, (1, 275)), (2, (0, z2)), (3, (0, y3))], [(1, 357)], v1)) 1 rfl ?_
                                  refine e_Ok.run (t' := (163, [(0, (1, 275)), (2, (0, z2)), (3, (0, y3))], [(0, z2), (1, 357)], v1)) 1 rfl ?_
                                  refine e_Ok.sc (by omega) rfl rfl ?_
                                  have z139b := kyc_in (z2)
                                  generalize hz139 : kyc (z2) = z139
                                  rw [hz139] at z139b
                                  refine e_Ok.run (t' := (168, [(0, (1, 275)), (2, (0, z2)), (3, (0, y3))], [(0, 32), (0, z139)], v1)) 1 rfl ?_
                                  refine e_Ok.if2 rfl (fun h140 => ?_) (fun h140 => ?_)
                                  · replace h140 : (z139 : Int) = 32 := h140
                                    have hz2 : z2 = e2 := Decidable.byCases (p := z2 < e2) (fun e => absurd (show kyc z2 = 32 by rw [hz139]; omega) (hw3 _ (by omega) e)) (fun e => by omega)
                                    refine e_Ok.inc (z := z2 + 1) rfl rfl (by omega) (by omega) ?_
                                    show e_Ok 20 elay ecode eI (d + 1) 328 (180, [(2, (0, z2 + 1)), (0, (1, 275)), (3, (0, y3))], [], v1) _
                                    refine e_Ok.inc (z := y3 + 1) rfl rfl (by omega) (by omega) ?_
                                    show e_Ok 20 elay ecode eI (d + 1) 328 (183, [(3, (0, y3 + 1)), (2, (0, z2 + 1)), (0, (1, 275))], [], v1) _
                                    refine e_Ok.run (t' := (62, [(3, (0, y3 + 1)), (2, (0, z2 + 1)), (0, (1, 275))], [], v1)) 1 rfl ?_
                                    refine e_Ok.sub eAlk (e_sub_of rfl ?_) (ih119 (z2 + 1) (y3 + 1) v1 ⟨j120, (by rcases hw2 with g | ⟨g1, g2⟩; exact Or.inl (by omega); exact Or.inr (by rw [show z2 + 1 = e2 + 1 by omega]; exact g2)), by omega, j123, j124, (by have u141 : v1 275 84 = v1 275 84 := rfl; omega), (by have u1 : v1 275 84 = v1 275 84 := rfl; have u2 : v1 275 85 = v1 275 85 := rfl; omega), (by have u1 : v1 275 84 = v1 275 84 := rfl; have u2 : v1 275 85 = v1 275 85 := rfl; omega)⟩ (by omega))
                                    exact ⟨rfl, rfl, rfl, trivial⟩
                                  · replace h140 : (z139 : Int) ≠ 32 := by have q : ¬ ((z139 : Int) = 32) := h140; omega
                                    have hlz : z2 ≠ e2 := fun e => by rw [e, hw1.2.2.2.2.2] at hz139; omega
                                    refine e_Ok.inc (z := z2 + 1) rfl rfl (by omega) (by omega) ?_
                                    show e_Ok 20 elay ecode eI (d + 1) 328 (174, [(2, (0, z2 + 1)), (0, (1, 275)), (3, (0, y3))], [], v1) _
                                    refine e_Ok.run (t' := (159, [(2, (0, z2 + 1)), (0, (1, 275)), (3, (0, y3))], [], v1)) 1 rfl ?_
                                    refine e_Ok.sub eAlk (e_sub_of rfl ?_) (ih137 (z2 + 1) (by omega) (by omega))
                                    exact ⟨rfl, rfl, rfl, trivial⟩
                              refine e_Ok.sub eAlk (e_sub_of rfl ?_) (hL136 (171 + 1 : Int).toNat y2 (by omega) (by omega))
                              exact ⟨rfl, rfl, rfl, trivial⟩
                            · replace h135 : (z134 : Int) = 32 := by have q : ¬ ((z134 : Int) ≠ 32) := h135; omega
                              have hk2 : 2 ≤ y4 := Decidable.byCases (p := y2 + y4 < e2) (fun e => absurd (show kyc (y2 + y4) = 32 by rw [hz134]; omega) (hw3 _ (by omega) e)) (fun e => by omega)
                              refine e_Ok.run (t' := (138, [(0, (1, 275)), (2, (0, y2)), (3, (0, y3)), (4, (0, y4))], [(1, 275), (0, y4)], v1)) 2 rfl ?_
                              refine e_Ok.getf (z := y1) rfl rfl rfl rfl j124 (by omega) ?_
                              refine e_Ok.run (t' := (142, [(0, (1, 275)), (2, (0, y2)), (3, (0, y3)), (4, (0, y4))], [(1, 275), (0, y1), (0, y4)], v1)) 1 rfl ?_
                              refine e_Ok.getf (z := t) rfl rfl rfl rfl j123 (by omega) ?_
                              refine e_Ok.sub' (z := y1 - t) rfl (by omega) (by omega) ?_
                              refine e_Ok.if2 rfl (fun h142 => ?_) (fun h142 => ?_)
                              · replace h142 : (y4 : Int) ≠ y1 - t := h142
                                have hL143 : ∀ (nn : Nat) (z2 : Int), y2 ≤ z2 ∧ z2 ≤ e2 → 171 - z2 < nn → e_Ok 20 elay ecode eI (d + 1) 328 (159, [(0, (1, 275)), (2, (0, z2)), (3, (0, y3))], [], v1) (fun r w' => r = [] ∧ e_fr mTq w w' ∧ tkS w' N ∧ t ≤ w' 275 86) := by
                                  intro nn
                                  induction nn with
                                  | zero => intro z2 hj hm; obtain j145 := hj; exfalso; omega
                                  | succ nn ih144 =>
                                    intro z2 hj hm
                                    obtain j145 := hj
                                    refine e_Ok.run (t' := (162, [(0, (1, 275)), (2, (0, z2)), (3, (0, y3))], [(1, 357)], v1)) 1 rfl ?_
                                    refine e_Ok.run (t' := (163, [(0, (1, 275)), (2, (0, z2)), (3, (0, y3))], [(0, z2), (1, 357)], v1)) 1 rfl ?_
                                    refine e_Ok.sc (by omega) rfl rfl ?_
                                    have z146b := kyc_in (z2)
                                    generalize hz146 : kyc (z2) = z146
                                    rw [hz146] at z146b
                                    refine e_Ok.run (t' := (168, [(0, (1, 275)), (2, (0, z2)), (3, (0, y3))], [(0, 32), (0, z146)], v1)) 1 rfl ?_
                                    refine e_Ok.if2 rfl (fun h147 => ?_) (fun h147 => ?_)
                                    · replace h147 : (z146 : Int) = 32 := h147
                                      have hz2 : z2 = e2 := Decidable.byCases (p := z2 < e2) (fun e => absurd (show kyc z2 = 32 by rw [hz146]; omega) (hw3 _ (by omega) e)) (fun e => by omega)
                                      refine e_Ok.inc (z := z2 + 1) rfl rfl (by omega) (by omega) ?_
                                      show e_Ok 20 elay ecode eI (d + 1) 328 (180, [(2, (0, z2 + 1)), (0, (1, 275)), (3, (0, y3))], [], v1) _
                                      refine e_Ok.inc (z := y3 + 1) rfl rfl (by omega) (by omega) ?_
                                      show e_Ok 20 elay ecode eI (d + 1) 328 (183, [(3, (0, y3 + 1)), (2, (0, z2 + 1)), (0, (1, 275))], [], v1) _
                                      refine e_Ok.run (t' := (62, [(3, (0, y3 + 1)), (2, (0, z2 + 1)), (0, (1, 275))], [], v1)) 1 rfl ?_
                                      refine e_Ok.sub eAlk (e_sub_of rfl ?_) (ih119 (z2 + 1) (y3 + 1) v1 ⟨j120, (by rcases hw2 with g | ⟨g1, g2⟩; exact Or.inl (by omega); exact Or.inr (by rw [show z2 + 1 = e2 + 1 by omega]; exact g2)), by omega, j123, j124, (by have u148 : v1 275 84 = v1 275 84 := rfl; omega), (by have u1 : v1 275 84 = v1 275 84 := rfl; have u2 : v1 275 85 = v1 275 85 := rfl; omega), (by have u1 : v1 275 84 = v1 275 84 := rfl; have u2 : v1 275 85 = v1 275 85 := rfl; omega)⟩ (by omega))
                                      exact ⟨rfl, rfl, rfl, trivial⟩
                                    · replace h147 : (z146 : Int) ≠ 32 := by have q : ¬ ((z146 : Int) = 32) := h147; omega
                                      have hlz : z2 ≠ e2 := fun e => by rw [e, hw1.2.2.2.2.2] at hz146; omega
                                      refine e_Ok.inc (z := z2 + 1) rfl rfl (by omega) (by omega) ?_
                                      show e_Ok 20 elay ecode eI (d + 1) 328 (174, [(2, (0, z2 + 1)), (0, (1, 275)), (3, (0, y3))], [], v1) _
                                      refine e_Ok.run (t' := (159, [(2, (0, z2 + 1)), (0, (1, 275)), (3, (0, y3))], [], v1)) 1 rfl ?_
                                      refine e_Ok.sub eAlk (e_sub_of rfl ?_) (ih144 (z2 + 1) (by omega) (by omega))
                                      exact ⟨rfl, rfl, rfl, trivial⟩
                                refine e_Ok.sub eAlk (e_sub_of rfl ?_) (hL143 (171 + 1 : Int).toNat y2 (by omega) (by omega))
                                exact ⟨rfl, rfl, rfl, trivial⟩
                              · replace h142 : (y4 : Int) = y1 - t := by have q : ¬ ((y4 : Int) ≠ y1 - t) := h142; omega
                                refine e_Ok.run (t' := (151, [(0, (1, 275)), (2, (0, y2)), (3, (0, y3)), (4, (0, y4))], [(0, 4), (1, 275)], v1)) 2 rfl ?_
                                refine e_Ok.putf rfl rfl rfl rfl ?_
                                generalize hw149 : e_up v1 275 84 4 = w149
                                have f150 : e_fr mTq w w149 := e_fr.up j120 hw149 (by unfold mTq; omega)
                                refine e_Ok.run (t' := (156, [(0, (1, 275)), (2, (0, y2)), (3, (0, y3)), (4, (0, y4))], [(0, y3), (1, 275)], w149)) 2 rfl ?_
                                refine e_Ok.putf rfl rfl rfl rfl ?_
                                generalize hw151 : e_up w149 275 85 y3 = w151
                                have f152 : e_fr mTq w w151 := e_fr.up f150 hw151 (by unfold mTq; omega)
                                have hL153 : ∀ (nn : Nat) (z2 : Int), y2 ≤ z2 ∧ z2 ≤ e2 → 171 - z2 < nn → e_Ok 20 elay ecode eI (d + 1) 328 (159, [(0, (1, 275)), (2, (0, z2)), (3, (0, y3))], [], w151) (fun r w' => r = [] ∧ e_fr mTq w w' ∧ tkS w' N ∧ t ≤ w' 275 86) := by
                                  intro nn
                                  induction nn with
                                  | zero => intro z2 hj hm; obtain j155 := hj; exfalso; omega
                                  | succ nn ih154 =>
                                    intro z2 hj hm
                                    obtain j155 := hj
                                    refine e_Ok.run (t' := (162, [(0, (1, 275)), (2, (0, z2)), (3, (0, y3))], [(1, 357)], w151)) 1 rfl ?_
                                    refine e_Ok.run (t' := (163, [(0, (1, 275)), (2, (0, z2)), (3, (0, y3))], [(0, z2), (1, 357)], w151)) 1 rfl ?_
                                    refine e_Ok.sc (by omega) rfl rfl ?_
                                    have z156b := kyc_in (z2)
                                    generalize hz156 : kyc (z2) = z156
                                    rw [hz156] at z156b
                                    refine e_Ok.run (t' := (168, [(0, (1, 275)), (2, (0, z2)), (3, (0, y3))], [(0, 32), (0, z156)], w151)) 1 rfl ?_
                                    refine e_Ok.if2 rfl (fun h157 => ?_) (fun h157 => ?_)
                                    · replace h157 : (z156 : Int) = 32 := h157
                                      have hz2 : z2 = e2 := Decidable.byCases (p := z2 < e2) (fun e => absurd (show kyc z2 = 32 by rw [hz156]; omega) (hw3 _ (by omega) e)) (fun e => by omega)
                                      refine e_Ok.inc (z := z2 + 1) rfl rfl (by omega) (by omega) ?_
                                      show e_Ok 20 elay ecode eI (d + 1) 328 (180, [(2, (0, z2 + 1)), (0, (1, 275)), (3, (0, y3))], [], w151) _
                                      refine e_Ok.inc (z := y3 + 1) rfl rfl (by omega) (by omega) ?_
                                      show e_Ok 20 elay ecode eI (d + 1) 328 (183, [(3, (0, y3 + 1)), (2, (0, z2 + 1)), (0, (1, 275))], [], w151) _
                                      refine e_Ok.run (t' := (62, [(3, (0, y3 + 1)), (2, (0, z2 + 1)), (0, (1, 275))], [], w151)) 1 rfl ?_
                                      refine e_Ok.sub eAlk (e_sub_of rfl ?_) (ih119 (z2 + 1) (y3 + 1) w151 ⟨f152, (by rcases hw2 with g | ⟨g1, g2⟩; exact Or.inl (by omega); exact Or.inr (by rw [show z2 + 1 = e2 + 1 by omega]; exact g2)), by omega, (by rw [← hw151]; exact (e_up_ne _ _ (Or.inr (by omega))).trans (by rw [← hw149]; exact (e_up_ne _ _ (Or.inr (by omega))).trans j123)), (by rw [← hw151]; exact (e_up_ne _ _ (Or.inr (by omega))).trans (by rw [← hw149]; exact (e_up_ne _ _ (Or.inr (by omega))).trans j124)), (by have u158 : w151 275 84 = 4 := (by rw [← hw151]; exact (e_up_ne _ _ (Or.inr (by omega))).trans (by rw [← hw149]; exact e_up_eq _ _ _ _)); omega), (by have u1 : w151 275 84 = 4 := (by rw [← hw151]; exact (e_up_ne _ _ (Or.inr (by omega))).trans (by rw [← hw149]; exact e_up_eq _ _ _ _)); have u2 : w151 275 85 = y3 := (by rw [← hw151]; exact e_up_eq _ _ _ _); omega), (by have u1 : w151 275 84 = 4 := (by rw [← hw151]; exact (e_up_ne _ _ (Or.inr (by omega))).trans (by rw [← hw149]; exact e_up_eq _ _ _ _)); have u2 : w151 275 85 = y3 := (by rw [← hw151]; exact e_up_eq _ _ _ _); omega)⟩ (by omega))
                                      exact ⟨rfl, rfl, rfl, trivial⟩
                                    · replace h157 : (z156 : Int) ≠ 32 := by have q : ¬ ((z156 : Int) = 32) := h157; omega
                                      have hlz : z2 ≠ e2 := fun e => by rw [e, hw1.2.2.2.2.2] at hz156; omega
                                      refine e_Ok.inc (z := z2 + 1) rfl rfl (by omega) (by omega) ?_
                                      show e_Ok 20 elay ecode eI (d + 1) 328 (174, [(2, (0, z2 + 1)), (0, (1, 275)), (3, (0, y3))], [], w151) _
                                      refine e_Ok.run (t' := (159, [(2, (0, z2 + 1)), (0, (1, 275)), (3, (0, y3))], [], w151)) 1 rfl ?_
                                      refine e_Ok.sub eAlk (e_sub_of rfl ?_) (ih154 (z2 + 1) (by omega) (by omega))
                                      exact ⟨rfl, rfl, rfl, trivial⟩
                                refine e_Ok.sub eAlk (e_sub_of rfl ?_) (hL153 (171 + 1 : Int).toNat y2 (by omega) (by omega))
                                exact ⟨rfl, rfl, rfl, trivial⟩
                          · replace h133 : (z132 : Int) ≠ 32 := by have q : ¬ ((z132 : Int) = 32) := h133; omega
                            have hlt : y2 + y4 ≠ e2 := fun e => by rw [e, hw1.2.2.2.2.2] at hz132; omega
                            refine e_Ok.run (t' := (93, [(0, (1, 275)), (2, (0, y2)), (3, (0, y3)), (4, (0, y4))], [(1, 357)], v1)) 1 rfl ?_
                            refine e_Ok.run (t' := (96, [(0, (1, 275)), (2, (0, y2)), (3, (0, y3)), (4, (0, y4))], [(0, y4), (0, y2), (1, 357)], v1)) 2 rfl ?_
                            refine e_Ok.add (z := y2 + y4) rfl (by omega) (by omega) ?_
                            refine e_Ok.sc (by omega) rfl rfl ?_
                            have z159b := kyc_in (y2 + y4)
                            generalize hz159 : kyc (y2 + y4) = z159
                            rw [hz159] at z159b
                            refine e_Ok.run (t' := (102, [(0, (1, 275)), (2, (0, y2)), (3, (0, y3)), (4, (0, y4))], [(1, 275), (1, 275), (0, z159)], v1)) 2 rfl ?_
                            refine e_Ok.getf (z := t) rfl rfl rfl rfl j123 (by omega) ?_
                            refine e_Ok.run (t' := (107, [(0, (1, 275)), (2, (0, y2)), (3, (0, y3)), (4, (0, y4))], [(0, y4), (0, t), (1, 275), (0, z159)], v1)) 1 rfl ?_
                            refine e_Ok.add (z := t + y4) rfl (by omega) (by omega) ?_
                            refine e_Ok.callV rfl (by omega) rfl rfl rfl rfl (l_326 (mLT_Tq j120 hT) (mLH_Tq j120 hH) (((j120 275 9 (by unfold mTq; omega)).trans hN)) hNr (by omega)) (fun r160 w161 h162 => ?_)
                            obtain ⟨z163, rfl, rfl, q164⟩ := h162
                            show e_Ok 20 elay ecode eI (d + 1) 328 (111, [(0, (1, 275)), (2, (0, y2)), (3, (0, y3)), (4, (0, y4))], [(0, z163), (0, z159)], v1) _
                            refine e_Ok.if2 rfl (fun h165 => ?_) (fun h165 => ?_)
                            · replace h165 : (z159 : Int) ≠ z163 := h165
                              refine e_Ok.run (t' := (123, [(0, (1, 275)), (2, (0, y2)), (3, (0, y3)), (4, (0, y4))], [(1, 357)], v1)) 1 rfl ?_
                              refine e_Ok.run (t' := (126, [(0, (1, 275)), (2, (0, y2)), (3, (0, y3)), (4, (0, y4))], [(0, y4), (0, y2), (1, 357)], v1)) 2 rfl ?_
                              refine e_Ok.add (z := y2 + y4) rfl (by omega) (by omega) ?_
                              refine e_Ok.sc (by omega) rfl rfl ?_
                              have z166b := kyc_in (y2 + y4)
                              generalize hz166 : kyc (y2 + y4) = z166
                              rw [hz166] at z166b
                              refine e_Ok.run (t' := (132, [(0, (1, 275)), (2, (0, y2)), (3, (0, y3)), (4, (0, y4))], [(0, 32), (0, z166)], v1)) 1 rfl ?_
                              refine e_Ok.if2 rfl (fun h167 => ?_) (fun h167 => ?_)
                              · replace h167 : (z166 : Int) ≠ 32 := h167
                                have hL168 : ∀ (nn : Nat) (z2 : Int), y2 ≤ z2 ∧ z2 ≤ e2 → 171 - z2 < nn → e_Ok 20 elay ecode eI (d + 1) 328 (159, [(0, (1, 275)), (2, (0, z2)), (3, (0, y3))], [], v1) (fun r w' => r = [] ∧ e_fr mTq w w' ∧ tkS w' N ∧ t ≤ w' 275 86) := by
                                  intro nn
                                  induction nn with
                                  | zero => intro z2 hj hm; obtain j170 := hj; exfalso; omega
                                  | succ nn ih169 =>
                                    intro z2 hj hm
                                    obtain j170 := hj
                                    refine e_Ok.run (t' := (162, [(0, (1, 275)), (2, (0, z2)), (3, (0, y3))], [(1, 357)], v1)) 1 rfl ?_
                                    refine e_Ok.run (t' := (163, [(0, (1, 275)), (2, (0, z2)), (3, (0, y3))], [(0, z2), (1, 357)], v1)) 1 rfl ?_
                                    refine e_Ok.sc (by omega) rfl rfl ?_
                                    have z171b := kyc_in (z2)
                                    generalize hz171 : kyc (z2) = z171
                                    rw [hz171] at z171b
                                    refine e_Ok.run (t' := (168, [(0, (1, 275)), (2, (0, z2)), (3, (0, y3))], [(0, 32), (0, z171)], v1)) 1 rfl ?_
                                    refine e_Ok.if2 rfl (fun h172 => ?_) (fun h172 => ?_)
                                    · replace h172 : (z171 : Int) = 32 := h172
                                      have hz2 : z2 = e2 := Decidable.byCases (p := z2 < e2) (fun e => absurd (show kyc z2 = 32 by rw [hz171]; omega) (hw3 _ (by omega) e)) (fun e => by omega)
                                      refine e_Ok.inc (z := z2 + 1) rfl rfl (by omega) (by omega) ?_
                                      show e_Ok 20 elay ecode eI (d + 1) 328 (180, [(2, (0, z2 + 1)), (0, (1, 275)), (3, (0, y3))], [], v1) _
                                      refine e_Ok.inc (z := y3 + 1) rfl rfl (by omega) (by omega) ?_
                                      show e_Ok 20 elay ecode eI (d + 1) 328 (183, [(3, (0, y3 + 1)), (2, (0, z2 + 1)), (0, (1, 275))], [], v1) _
                                      refine e_Ok.run (t' := (62, [(3, (0, y3 + 1)), (2, (0, z2 + 1)), (0, (1, 275))], [], v1)) 1 rfl ?_
                                      refine e_Ok.sub eAlk (e_sub_of rfl ?_) (ih119 (z2 + 1) (y3 + 1) v1 ⟨j120, (by rcases hw2 with g | ⟨g1, g2⟩; exact Or.inl (by omega); exact Or.inr (by rw [show z2 + 1 = e2 + 1 by omega]; exact g2)), by omega, j123, j124, (by have u173 : v1 275 84 = v1 275 84 := rfl; omega), (by have u1 : v1 275 84 = v1 275 84 := rfl; have u2 : v1 275 85 = v1 275 85 := rfl; omega), (by have u1 : v1 275 84 = v1 275 84 := rfl; have u2 : v1 275 85 = v1 275 85 := rfl; omega)⟩ (by omega))
                                      exact ⟨rfl, rfl, rfl, trivial⟩
                                    · replace h172 : (z171 : Int) ≠ 32 := by have q : ¬ ((z171 : Int) = 32) := h172; omega
                                      have hlz : z2 ≠ e2 := fun e => by rw [e, hw1.2.2.2.2.2] at hz171; omega
                                      refine e_Ok.inc (z := z2 + 1) rfl rfl (by omega) (by omega) ?_
                                      show e_Ok 20 elay ecode eI (d + 1) 328 (174, [(2, (0, z2 + 1)), (0, (1, 275)), (3, (0, y3))], [], v1) _
                                      refine e_Ok.run (t' := (159, [(2, (0, z2 + 1)), (0, (1, 275)), (3, (0, y3))], [], v1)) 1 rfl ?_
                                      refine e_Ok.sub eAlk (e_sub_of rfl ?_) (ih169 (z2 + 1) (by omega) (by omega))
                                      exact ⟨rfl, rfl, rfl, trivial⟩
                                refine e_Ok.sub eAlk (e_sub_of rfl ?_) (hL168 (171 + 1 : Int).toNat y2 (by omega) (by omega))
                                exact ⟨rfl, rfl, rfl, trivial⟩
                              · replace h167 : (z166 : Int) = 32 := by have q : ¬ ((z166 : Int) ≠ 32) := h167; omega
                                have hk2 : 2 ≤ y4 := Decidable.byCases (p := y2 + y4 < e2) (fun e => absurd (show kyc (y2 + y4) = 32 by rw [hz166]; omega) (hw3 _ (by omega) e)) (fun e => by omega)
                                refine e_Ok.run (t' := (138, [(0, (1, 275)), (2, (0, y2)), (3, (0, y3)), (4, (0, y4))], [(1, 275), (0, y4)], v1)) 2 rfl ?_
                                refine e_Ok.getf (z := y1) rfl rfl rfl rfl j124 (by omega) ?_
                                refine e_Ok.run (t' := (142, [(0, (1, 275)), (2, (0, y2)), (3, (0, y3)), (4, (0, y4))], [(1, 275), (0, y1), (0, y4)], v1)) 1 rfl ?_
                                refine e_Ok.getf (z := t) rfl rfl rfl rfl j123 (by omega) ?_
                                refine e_Ok.sub' (z := y1 - t) rfl (by omega) (by omega) ?_
                                refine e_Ok.if2 rfl (fun h174 => ?_) (fun h174 => ?_)
                                · replace h174 : (y4 : Int) ≠ y1 - t := h174
                                  have hL175 : ∀ (nn : Nat) (z2 : Int), y2 ≤ z2 ∧ z2 ≤ e2 → 171 - z2 < nn → e_Ok 20 elay ecode eI (d + 1) 328 (159, [(0, (1, 275)), (2, (0, z2)), (3, (0, y3))], [], v1) (fun r w' => r = [] ∧ e_fr mTq w w' ∧ tkS w' N ∧ t ≤ w' 275 86) := by
                                    intro nn
                                    induction nn with
                                    | zero => intro z2 hj hm; obtain j177 := hj; exfalso; omega
                                    | succ nn ih176 =>
                                      intro z2 hj hm
                                      obtain j177 := hj
                                      refine e_Ok.run (t' := (162, [(0, (1, 275)), (2, (0, z2)), (3, (0, y3))], [(1, 357)], v1)) 1 rfl ?_
                                      refine e_Ok.run (t' := (163, [(0, (1, 275)), (2, (0, z2)), (3, (0, y3))], [(0, z2), (1, 357)], v1)) 1 rfl ?_
                                      refine e_Ok.sc (by omega) rfl rfl ?_
                                      have z178b := kyc_in (z2)
                                      generalize hz178 : kyc (z2) = z178
                                      rw [hz178] at z178b
                                      refine e_Ok.run (t' := (168, [(0, (1, 275)), (2, (0, z2)), (3, (0, y3))], [(0, 32), (0, z178)], v1)) 1 rfl ?_
                                      refine e_Ok.if2 rfl (fun h179 => ?_) (fun h179 => ?_)
                                      · replace h179 : (z178 : Int) = 32 := h179
                                        have hz2 : z2 = e2 := Decidable.byCases (p := z2 < e2) (fun e => absurd (show kyc z2 = 32 by rw [hz178]; omega) (hw3 _ (by omega) e)) (fun e => by omega)
                                        refine e_Ok.inc (z := z2 + 1) rfl rfl (by omega) (by omega) ?_
                                        show e_Ok 20 elay ecode eI (d + 1) 328 (180, [(2, (0, z2 + 1)), (0, (1, 275)), (3, (0, y3))], [], v1) _
                                        refine e_Ok.inc (z := y3 + 1) rfl rfl (by omega) (by omega) ?_
                                        show e_Ok 20 elay ecode eI (d + 1) 328 (183, [(3, (0, y3 + 1)), (2, (0, z2 + 1)), (0, (1, 275))], [], v1) _
                                        refine e_Ok.run (t' := (62, [(3, (0, y3 + 1)), (2, (0, z2 + 1)), (0, (1, 275))], [], v1)) 1 rfl ?_
                                        refine e_Ok.sub eAlk (e_sub_of rfl ?_) (ih119 (z2 + 1) (y3 + 1) v1 ⟨j120, (by rcases hw2 with g | ⟨g1, g2⟩; exact Or.inl (by omega); exact Or.inr (by rw [show z2 + 1 = e2 + 1 by omega]; exact g2)), by omega, j123, j124, (by have u180 : v1 275 84 = v1 275 84 := rfl; omega), (by have u1 : v1 275 84 = v1 275 84 := rfl; have u2 : v1 275 85 = v1 275 85 := rfl; omega), (by have u1 : v1 275 84 = v1 275 84 := rfl; have u2 : v1 275 85 = v1 275 85 := rfl; omega)⟩ (by omega))
                                        exact ⟨rfl, rfl, rfl, trivial⟩
                                      · replace h179 : (z178 : Int) ≠ 32 := by have q : ¬ ((z178 : Int) = 32) := h179; omega
                                        have hlz : z2 ≠ e2 := fun e => by rw [e, hw1.2.2.2.2.2] at hz178; omega
                                        refine e_Ok.inc (z := z2 + 1) rfl rfl (by omega) (by omega) ?_
                                        show e_Ok 20 elay ecode eI (d + 1) 328 (174, [(2, (0, z2 + 1)), (0, (1, 275)), (3, (0, y3))], [], v1) _
                                        refine e_Ok.run (t' := (159, [(2, (0, z2 + 1)), (0, (1, 275)), (3, (0, y3))], [], v1)) 1 rfl ?_
                                        refine e_Ok.sub eAlk (e_sub_of rfl ?_) (ih176 (z2 + 1) (by omega) (by omega))
                                        exact ⟨rfl, rfl, rfl, trivial⟩
                                  refine e_Ok.sub eAlk (e_sub_of rfl ?_) (hL175 (171 + 1 : Int).toNat y2 (by omega) (by omega))
                                  exact ⟨rfl, rfl, rfl, trivial⟩
                                · replace h174 : (y4 : Int) = y1 - t := by have q : ¬ ((y4 : Int) ≠ y1 - t) := h174; omega
                                  refine e_Ok.run (t' := (151, [(0, (1, 275)), (2, (0, y2)), (3, (0, y3)), (4, (0, y4))], [(0, 4), (1, 275)], v1)) 2 rfl ?_
                                  refine e_Ok.putf rfl rfl rfl rfl ?_
                                  generalize hw181 : e_up v1 275 84 4 = w181
                                  have f182 : e_fr mTq w w181 := e_fr.up j120 hw181 (by unfold mTq; omega)
                                  refine e_Ok.run (t' := (156, [(0, (1, 275)), (2, (0, y2)), (3, (0, y3)), (4, (0, y4))], [(0, y3), (1, 275)], w181)) 2 rfl ?_
                                  refine e_Ok.putf rfl rfl rfl rfl ?_
                                  generalize hw183 : e_up w181 275 85 y3 = w183
                                  have f184 : e_fr mTq w w183 := e_fr.up f182 hw183 (by unfold mTq; omega)
                                  have hL185 : ∀ (nn : Nat) (z2 : Int), y2 ≤ z2 ∧ z2 ≤ e2 → 171 - z2 < nn → e_Ok 20 elay ecode eI (d + 1) 328 (159, [(0, (1, 275)), (2, (0, z2)), (3, (0, y3))], [], w183) (fun r w' => r = [] ∧ e_fr mTq w w' ∧ tkS w' N ∧ t ≤ w' 275 86) := by
                                    intro nn
                                    induction nn with
                                    | zero => intro z2 hj hm; obtain j187 := hj; exfalso; omega
                                    | succ nn ih186 =>
                                      intro z2 hj hm
                                      obtain j187 := hj
                                      refine e_Ok.run (t' := (162, [(0, (1, 275)), (2, (0, z2)), (3, (0, y3))], [(1, 357)], w183)) 1 rfl ?_
                                      refine e_Ok.run (t' := (163, [(0, (1, 275)), (2, (0, z2)), (3, (0, y3))], [(0, z2), (1, 357)], w183)) 1 rfl ?_
                                      refine e_Ok.sc (by omega) rfl rfl ?_
                                      have z188b := kyc_in (z2)
                                      generalize hz188 : kyc (z2) = z188
                                      rw [hz188] at z188b
                                      refine e_Ok.run (t' := (168, [(0, (1, 275)), (2, (0, z2)), (3, (0, y3))], [(0, 32), (0, z188)], w183)) 1 rfl ?_
                                      refine e_Ok.if2 rfl (fun h189 => ?_) (fun h189 => ?_)
                                      · replace h189 : (z188 : Int) = 32 := h189
                                        have hz2 : z2 = e2 := Decidable.byCases (p := z2 < e2) (fun e => absurd (show kyc z2 = 32 by rw [hz188]; omega) (hw3 _ (by omega) e)) (fun e => by omega)
                                        refine e_Ok.inc (z := z2 + 1) rfl rfl (by omega) (by omega) ?_
                                        show e_Ok 20 elay ecode eI (d + 1) 328 (180, [(2, (0, z2 + 1)), (0, (1, 275)), (3, (0, y3))], [], w183) _
                                        refine e_Ok.inc (z := y3 + 1) rfl rfl (by omega) (by omega) ?_
                                        show e_Ok 20 elay ecode eI (d + 1) 328 (183, [(3, (0, y3 + 1)), (2, (0, z2 + 1)), (0, (1, 275))], [], w183) _
                                        refine e_Ok.run (t' := (62, [(3, (0, y3 + 1)), (2, (0, z2 + 1)), (0, (1, 275))], [], w183)) 1 rfl ?_
                                        refine e_Ok.sub eAlk (e_sub_of rfl ?_) (ih119 (z2 + 1) (y3 + 1) w183 ⟨f184, (by rcases hw2 with g | ⟨g1, g2⟩; exact Or.inl (by omega); exact Or.inr (by rw [show z2 + 1 = e2 + 1 by omega]; exact g2)), by omega, (by rw [← hw183]; exact (e_up_ne _ _ (Or.inr (by omega))).trans (by rw [← hw181]; exact (e_up_ne _ _ (Or.inr (by omega))).trans j123)), (by rw [← hw183]; exact (e_up_ne _ _ (Or.inr (by omega))).trans (by rw [← hw181]; exact (e_up_ne _ _ (Or.inr (by omega))).trans j124)), (by have u190 : w183 275 84 = 4 := (by rw [← hw183]; exact (e_up_ne _ _ (Or.inr (by omega))).trans (by rw [← hw181]; exact e_up_eq _ _ _ _)); omega), (by have u1 : w183 275 84 = 4 := (by rw [← hw183]; exact (e_up_ne _ _ (Or.inr (by omega))).trans (by rw [← hw181]; exact e_up_eq _ _ _ _)); have u2 : w183 275 85 = y3 := (by rw [← hw183]; exact e_up_eq _ _ _ _); omega), (by have u1 : w183 275 84 = 4 := (by rw [← hw183]; exact (e_up_ne _ _ (Or.inr (by omega))).trans (by rw [← hw181]; exact e_up_eq _ _ _ _)); have u2 : w183 275 85 = y3 := (by rw [← hw183]; exact e_up_eq _ _ _ _); omega)⟩ (by omega))
                                        exact ⟨rfl, rfl, rfl, trivial⟩
                                      · replace h189 : (z188 : Int) ≠ 32 := by have q : ¬ ((z188 : Int) = 32) := h189; omega
                                        have hlz : z2 ≠ e2 := fun e => by rw [e, hw1.2.2.2.2.2] at hz188; omega
                                        refine e_Ok.inc (z := z2 + 1) rfl rfl (by omega) (by omega) ?_
                                        show e_Ok 20 elay ecode eI (d + 1) 328 (174, [(2, (0, z2 + 1)), (0, (1, 275)), (3, (0, y3))], [], w183) _
                                        refine e_Ok.run (t' := (159, [(2, (0, z2 + 1)), (0, (1, 275)), (3, (0, y3))], [], w183)) 1 rfl ?_
                                        refine e_Ok.sub eAlk (e_sub_of rfl ?_) (ih186 (z2 + 1) (by omega) (by omega))
                                        exact ⟨rfl, rfl, rfl, trivial⟩
                                  refine e_Ok.sub eAlk (e_sub_of rfl ?_) (hL185 (171 + 1 : Int).toNat y2 (by omega) (by omega))
                                  exact ⟨rfl, rfl, rfl, trivial⟩
                            · replace h165 : (z159 : Int) = z163 := by have q : ¬ ((z159 : Int) ≠ z163) := h165; omega
                              refine e_Ok.inc (z := y4 + 1) rfl rfl (by omega) (by omega) ?_
                              show e_Ok 20 elay ecode eI (d + 1) 328 (117, [(4, (0, y4 + 1)), (0, (1, 275)), (2, (0, y2)), (3, (0, y3))], [], v1) _
                              refine e_Ok.run (t' := (75, [(4, (0, y4 + 1)), (0, (1, 275)), (2, (0, y2)), (3, (0, y3))], [], v1)) 1 rfl ?_
                              refine e_Ok.sub eAlk (e_sub_of rfl ?_) (ih130 (y4 + 1) (by omega) (by omega))
                              exact ⟨rfl, rfl, rfl, rfl, trivial⟩
                      refine e_Ok.sub eAlk (e_sub_of rfl ?_) (hL129 (171 + 1 : Int).toNat 0 (by omega) (by omega))
                      exact ⟨rfl, rfl, rfl, rfl, trivial⟩
                refine e_Ok.sub eAlk (e_sub_of rfl ?_) (hL118 (172 + 1 : Int).toNat 0 0 w115 ⟨f116, (Or.inr ⟨3, by decide⟩), by omega, (by rw [← hw115]; exact (e_up_ne _ _ (Or.inr (by omega))).trans (by rw [← hw29]; exact (e_up_ne _ _ (Or.inr (by omega))).trans ht)), (by rw [← hw115]; exact (e_up_ne _ _ (Or.inr (by omega))).trans (by rw [← hw29]; exact e_up_eq _ _ _ _)), (by have u117 : w115 275 84 = 5 := (by rw [← hw115]; exact e_up_eq _ _ _ _); omega), (by have u1 : w115 275 84 = 5 := (by rw [← hw115]; exact e_up_eq _ _ _ _); have u2 : w115 275 85 = w 275 85 := (by rw [← hw115]; exact (e_up_ne _ _ (Or.inr (by omega))).trans (by rw [← hw29]; exact (e_up_ne _ _ (Or.inr (by omega))).trans rfl)); omega), (by have u1 : w115 275 84 = 5 := (by rw [← hw115]; exact e_up_eq _ _ _ _); have u2 : w115 275 85 = w 275 85 := (by rw [← hw115]; exact (e_up_ne _ _ (Or.inr (by omega))).trans (by rw [← hw29]; exact (e_up_ne _ _ (Or.inr (by omega))).trans rfl)); omega)⟩ (by omega))
                exact ⟨rfl, rfl, rfl, trivial⟩
            · replace h28 : (0 : Int) ≠ 0 := by have q : ¬ ((0 : Int) = 0) := h28; omega
              exfalso; omega
  refine e_Ok.sub eAlk (e_sub_of rfl ?_) (hL1 (4001 + 1 : Int).toNat t ⟨by omega, (Or.inr ⟨rfl, rfl⟩)⟩ (by omega))
  exact ⟨rfl, rfl, trivial⟩
set_option maxHeartbeats 4000000 in
theorem l_327 {d : Nat} (hd : 25 ≤ d) {w : eW} (hT : e_Has mLq w) (hH : e_Has mLr w) {N : Int} (hN : w 275 9 = N) (hNr : 0 ≤ N ∧ N ≤ 4000) {t : Int} (he : w 275 87 = t) (her : 0 ≤ t ∧ t ≤ N) : e_Ok 20 elay ecode eI d 327 (0, [(0, (1, 275))], [], w) (fun r w' => r = [] ∧ e_fr mTq w w' ∧ tkS w' N ∧ t ≤ w' 275 86) := by
  obtain ⟨d, rfl⟩ : ∃ e, d = e + 1 := ⟨d - 1, by omega⟩
  refine e_Ok.run (t' := (1, [(0, (1, 275))], [(1, 275)], w)) 1 rfl ?_
  refine e_Ok.getf (z := t) rfl rfl rfl rfl he (by omega) ?_
  refine e_Ok.run (t' := (7, [(2, (0, 1)), (1, (0, t)), (0, (1, 275))], [], w)) 3 rfl ?_
  have hL1 : ∀ (nn : Nat) (y1 : Int) (y2 : Int), (t ≤ y1 ∧ y1 ≤ N) ∧ (0 ≤ y2 ∧ y2 ≤ 1) → 2 * (4001 - y1) + y2 < nn → e_Ok 20 elay ecode eI (d + 1) 327 (7, [(0, (1, 275)), (1, (0, y1)), (2, (0, y2))], [], w) (fun r w' => r = [] ∧ e_fr mTq w w' ∧ tkS w' N ∧ t ≤ w' 275 86) := by
    intro nn
    induction nn with
    | zero => intro y1 y2 hj hm; obtain ⟨j3, j4⟩ := hj; exfalso; omega
    | succ nn ih2 =>
      intro y1 y2 hj hm
      obtain ⟨j3, j4⟩ := hj
      refine e_Ok.run (t' := (8, [(0, (1, 275)), (1, (0, y1)), (2, (0, y2))], [(0, y2)], w)) 1 rfl ?_
      refine e_Ok.if1 rfl (fun h5 => ?_) (fun h5 => ?_)
      · replace h5 : (y2 : Int) = 0 := h5
        refine e_Ok.run (t' := (87, [(0, (1, 275)), (1, (0, y1)), (2, (0, y2))], [(0, y1), (1, 275)], w)) 2 rfl ?_
        refine e_Ok.putf rfl rfl rfl rfl ?_
        generalize hw6 : e_up w 275 86 y1 = w6
        have f7 : e_fr mTq w w6 := e_fr.up (e_fr.refl w) hw6 (by unfold mTq; omega)
        refine e_Ok.run (t' := (93, [(0, (1, 275)), (1, (0, y1)), (2, (0, y2))], [(0, 1), (0, y1), (1, 275)], w6)) 3 rfl ?_
        refine e_Ok.add (z := y1 + 1) rfl (by omega) (by omega) ?_
        refine e_Ok.putf rfl rfl rfl rfl ?_
        generalize hw8 : e_up w6 275 87 (y1 + 1) = w8
        have f9 : e_fr mTq w w8 := e_fr.up f7 hw8 (by unfold mTq; omega)
        refine e_Ok.run (t' := (99, [(0, (1, 275)), (1, (0, y1)), (2, (0, y2))], [(0, 0), (1, 275)], w8)) 2 rfl ?_
        refine e_Ok.putf rfl rfl rfl rfl ?_
        generalize hw10 : e_up w8 275 85 0 = w10
        have f11 : e_fr mTq w w10 := e_fr.up f9 hw10 (by unfold mTq; omega)
        refine e_Ok.run (t' := (104, [(0, (1, 275)), (1, (0, y1)), (2, (0, y2))], [(0, y1), (1, 275)], w10)) 2 rfl ?_
        refine e_Ok.callV rfl (by omega) rfl rfl rfl rfl (l_326 (mLT_Tq f11 hT) (mLH_Tq f11 hH) ((by rw [← hw10]; exact (e_up_ne _ _ (Or.inr (by omega))).trans (by rw [← hw8]; exact (e_up_ne _ _ (Or.inr (by omega))).trans (by rw [← hw6]; exact (e_up_ne _ _ (Or.inr (by omega))).trans hN)))) hNr (by omega)) (fun r12 w13 h14 => ?_)
        obtain ⟨z15, rfl, rfl, q16⟩ := h14
        show e_Ok 20 elay ecode eI (d + 1) 327 (107, [(0, (1, 275)), (1, (0, y1)), (2, (0, y2))], [(0, z15)], w10) _
        refine e_Ok.run (t' := (108, [(3, (0, z15)), (0, (1, 275)), (1, (0, y1)), (2, (0, y2))], [], w10)) 1 rfl ?_
        refine e_Ok.run (t' := (110, [(3, (0, z15)), (0, (1, 275)), (1, (0, y1)), (2, (0, y2))], [(1, 275), (0, y1)], w10)) 2 rfl ?_
        refine e_Ok.getf (z := N) rfl rfl rfl rfl (by rw [← hw10]; exact (e_up_ne _ _ (Or.inr (by omega))).trans (by rw [← hw8]; exact (e_up_ne _ _ (Or.inr (by omega))).trans (by rw [← hw6]; exact (e_up_ne _ _ (Or.inr (by omega))).trans hN))) (by omega) ?_
        refine e_Ok.if2 rfl (fun h17 => ?_) (fun h17 => ?_)
        · replace h17 : (y1 : Int) ≠ N := h17
          refine e_Ok.run (t' := (130, [(3, (0, z15)), (0, (1, 275)), (1, (0, y1)), (2, (0, y2))], [(0, z15)], w10)) 1 rfl ?_
          refine e_Ok.callS rfl (by omega) rfl rfl (c_324_x (by omega)) (fun r18 w19 h20 => ?_)
          obtain ⟨z21, rfl, rfl, q22⟩ := h20
          obtain ⟨rfl, q22⟩ | ⟨rfl, q22⟩ := q22
          · show e_Ok 20 elay ecode eI (d + 1) 327 (133, [(3, (0, z15)), (0, (1, 275)), (1, (0, y1)), (2, (0, y2))], [(0, 1)], w10) _
            refine e_Ok.if1 rfl (fun h23 => ?_) (fun h23 => ?_)
            · replace h23 : (1 : Int) = 0 := h23
              exfalso; omega
            · replace h23 : (1 : Int) ≠ 0 := by have q : ¬ ((1 : Int) = 0) := h23; omega
              refine e_Ok.run (t' := (137, [(3, (0, z15)), (0, (1, 275)), (1, (0, y1)), (2, (0, y2))], [(1, 275)], w10)) 1 rfl ?_
              refine e_Ok.callV rfl (by omega) rfl rfl rfl rfl (l_328 (by omega) (mLT_Tq f11 hT) (mLH_Tq f11 hH) ((by rw [← hw10]; exact (e_up_ne _ _ (Or.inr (by omega))).trans (by rw [← hw8]; exact (e_up_ne _ _ (Or.inr (by omega))).trans (by rw [← hw6]; exact (e_up_ne _ _ (Or.inr (by omega))).trans hN)))) hNr (t := y1) (by rw [← hw10]; exact (e_up_ne _ _ (Or.inr (by omega))).trans (by rw [← hw8]; exact (e_up_ne _ _ (Or.inr (by omega))).trans (by rw [← hw6]; exact e_up_eq _ _ _ _))) (by omega) (by omega) (by rw [show w10 275 85 = 0 from (by rw [← hw10]; exact e_up_eq _ _ _ _)]; decide)) (fun r24 w25 h26 => ?_)
              obtain ⟨rfl, q27, q27s, q27t⟩ := h26
              have f28 : e_fr mTq w w25 := e_fr.trans f11 (e_fr.mono q27 (fun c k q => by exact q))
              show e_Ok 20 elay ecode eI (d + 1) 327 (140, [(3, (0, z15)), (0, (1, 275)), (1, (0, y1)), (2, (0, y2))], [], w25) _
              refine e_Ok.run (t' := (162, [(3, (0, z15)), (0, (1, 275)), (1, (0, y1)), (2, (0, y2))], [], w25)) 1 rfl ?_
              refine e_Ok.rets rfl rfl ?_
              exact ⟨rfl, f28, q27s, by omega⟩
          · show e_Ok 20 elay ecode eI (d + 1) 327 (133, [(3, (0, z15)), (0, (1, 275)), (1, (0, y1)), (2, (0, y2))], [(0, 0)], w10) _
            refine e_Ok.if1 rfl (fun h29 => ?_) (fun h29 => ?_)
            · replace h29 : (0 : Int) = 0 := h29
              refine e_Ok.run (t' := (144, [(3, (0, z15)), (0, (1, 275)), (1, (0, y1)), (2, (0, y2))], [(0, z15)], w10)) 1 rfl ?_
              refine e_Ok.callS rfl (by omega) rfl rfl (c_325_x (by omega)) (fun r30 w31 h32 => ?_)
              obtain ⟨z33, rfl, rfl, q34⟩ := h32
              obtain ⟨rfl, q34⟩ | ⟨rfl, q34⟩ := q34
              · show e_Ok 20 elay ecode eI (d + 1) 327 (147, [(3, (0, z15)), (0, (1, 275)), (1, (0, y1)), (2, (0, y2))], [(0, 1)], w10) _
                refine e_Ok.if1 rfl (fun h35 => ?_) (fun h35 => ?_)
                · replace h35 : (1 : Int) = 0 := h35
                  exfalso; omega
                · replace h35 : (1 : Int) ≠ 0 := by have q : ¬ ((1 : Int) = 0) := h35; omega
                  refine e_Ok.run (t' := (151, [(3, (0, z15)), (0, (1, 275)), (1, (0, y1)), (2, (0, y2))], [(1, 275)], w10)) 1 rfl ?_
                  refine e_Ok.callV rfl (by omega) rfl rfl rfl rfl (l_329 (by omega) (mLT_Tq f11 hT) (mLH_Tq f11 hH) ((by rw [← hw10]; exact (e_up_ne _ _ (Or.inr (by omega))).trans (by rw [← hw8]; exact (e_up_ne _ _ (Or.inr (by omega))).trans (by rw [← hw6]; exact (e_up_ne _ _ (Or.inr (by omega))).trans hN)))) hNr (t := y1) (by rw [← hw10]; exact (e_up_ne _ _ (Or.inr (by omega))).trans (by rw [← hw8]; exact (e_up_ne _ _ (Or.inr (by omega))).trans (by rw [← hw6]; exact e_up_eq _ _ _ _))) (by omega) (by omega)) (fun r36 w37 h38 => ?_)
                  obtain ⟨rfl, q40, q40s, q40t⟩ := h38
                  have f41 : e_fr mTq w w37 := e_fr.trans f11 (e_fr.mono q40 (fun c k q => by exact q))
                  show e_Ok 20 elay ecode eI (d + 1) 327 (154, [(3, (0, z15)), (0, (1, 275)), (1, (0, y1)), (2, (0, y2))], [], w37) _
                  refine e_Ok.run (t' := (162, [(3, (0, z15)), (0, (1, 275)), (1, (0, y1)), (2, (0, y2))], [], w37)) 1 rfl ?_
                  refine e_Ok.rets rfl rfl ?_
                  exact ⟨rfl, f41, q40s, by omega⟩
              · show e_Ok 20 elay ecode eI (d + 1) 327 (147, [(3, (0, z15)), (0, (1, 275)), (1, (0, y1)), (2, (0, y2))], [(0, 0)], w10) _
                refine e_Ok.if1 rfl (fun h42 => ?_) (fun h42 => ?_)
                · replace h42 : (0 : Int) = 0 := h42
                  refine e_Ok.run (t' := (159, [(3, (0, z15)), (0, (1, 275)), (1, (0, y1)), (2, (0, y2))], [(0, z15), (1, 275)], w10)) 2 rfl ?_
                  refine e_Ok.callV rfl (by omega) rfl rfl rfl rfl (l_330 (by omega) (mLT_Tq f11 hT) (mLH_Tq f11 hH) ((by rw [← hw10]; exact (e_up_ne _ _ (Or.inr (by omega))).trans (by rw [← hw8]; exact (e_up_ne _ _ (Or.inr (by omega))).trans (by rw [← hw6]; exact (e_up_ne _ _ (Or.inr (by omega))).trans hN)))) hNr (t := y1) (by rw [← hw10]; exact (e_up_ne _ _ (Or.inr (by omega))).trans (by rw [← hw8]; exact (e_up_ne _ _ (Or.inr (by omega))).trans (by rw [← hw6]; exact e_up_eq _ _ _ _))) (by rw [← hw10]; exact (e_up_ne _ _ (Or.inr (by omega))).trans (by rw [← hw8]; exact e_up_eq _ _ _ _)) (by omega) (by omega)) (fun r43 w44 h45 => ?_)
                  obtain ⟨rfl, q46, q46s, q46t⟩ := h45
                  have f47 : e_fr mTq w w44 := e_fr.trans f11 (e_fr.mono q46 (fun c k q => by exact q))
                  show e_Ok 20 elay ecode eI (d + 1) 327 (162, [(3, (0, z15)), (0, (1, 275)), (1, (0, y1)), (2, (0, y2))], [], w44) _
                  refine e_Ok.rets rfl rfl ?_
                  exact ⟨rfl, f47, q46s, by omega⟩
                · replace h42 : (0 : Int) ≠ 0 := by have q : ¬ ((0 : Int) = 0) := h42; omega
                  exfalso; omega
            · replace h29 : (0 : Int) ≠ 0 := by have q : ¬ ((0 : Int) = 0) := h29; omega
              exfalso; omega
        · replace h17 : (y1 : Int) = N := by have q : ¬ ((y1 : Int) ≠ N) := h17; omega
          refine e_Ok.run (t' := (118, [(3, (0, z15)), (0, (1, 275)), (1, (0, y1)), (2, (0, y2))], [(0, 0), (1, 275)], w10)) 2 rfl ?_
          refine e_Ok.putf rfl rfl rfl rfl ?_
          generalize hw48 : e_up w10 275 84 0 = w48
          have f49 : e_fr mTq w w48 := e_fr.up f11 hw48 (by unfold mTq; omega)
          refine e_Ok.run (t' := (123, [(3, (0, z15)), (0, (1, 275)), (1, (0, y1)), (2, (0, y2))], [(0, y1), (1, 275)], w48)) 2 rfl ?_
          refine e_Ok.putf rfl rfl rfl rfl ?_
          generalize hw50 : e_up w48 275 87 y1 = w50
          have f51 : e_fr mTq w w50 := e_fr.up f49 hw50 (by unfold mTq; omega)
          refine e_Ok.run (t' := (162, [(3, (0, z15)), (0, (1, 275)), (1, (0, y1)), (2, (0, y2))], [], w50)) 1 rfl ?_
          refine e_Ok.rets rfl rfl ?_
          have et86 : w50 275 86 = y1 := (by rw [← hw50]; exact (e_up_ne _ _ (Or.inr (by omega))).trans (by rw [← hw48]; exact (e_up_ne _ _ (Or.inr (by omega))).trans (by rw [← hw10]; exact (e_up_ne _ _ (Or.inr (by omega))).trans (by rw [← hw8]; exact (e_up_ne _ _ (Or.inr (by omega))).trans (by rw [← hw6]; exact e_up_eq _ _ _ _)))))
          have et87 : w50 275 87 = y1 := (by rw [← hw50]; exact e_up_eq _ _ _ _)
          have et84 : w50 275 84 = 0 := (by rw [← hw50]; exact (e_up_ne _ _ (Or.inr (by omega))).trans (by rw [← hw48]; exact e_up_eq _ _ _ _))
          have et85 : w50 275 85 = 0 := (by rw [← hw50]; exact (e_up_ne _ _ (Or.inr (by omega))).trans (by rw [← hw48]; exact (e_up_ne _ _ (Or.inr (by omega))).trans (by rw [← hw10]; exact e_up_eq _ _ _ _)))
          exact ⟨rfl, f51, by unfold tkS tkV; rw [et86, et87, et84, et85]; omega, by omega⟩
      · replace h5 : (y2 : Int) ≠ 0 := by have q : ¬ ((y2 : Int) = 0) := h5; omega
        refine e_Ok.run (t' := (13, [(0, (1, 275)), (1, (0, y1)), (2, (0, y2))], [(1, 275), (0, y1)], w)) 2 rfl ?_
        refine e_Ok.getf (z := N) rfl rfl rfl rfl hN (by omega) ?_
        refine e_Ok.if2 rfl (fun h52 => ?_) (fun h52 => ?_)
        · replace h52 : (y1 : Int) ≥ N := h52
          refine e_Ok.run (t' := (47, [(0, (1, 275)), (1, (0, y1)), (2, (0, y2))], [(0, y1), (1, 275)], w)) 2 rfl ?_
          refine e_Ok.callV rfl (by omega) rfl rfl rfl rfl (l_326 hT hH hN hNr (by omega)) (fun r53 w54 h55 => ?_)
          obtain ⟨z56, rfl, rfl, q57⟩ := h55
          show e_Ok 20 elay ecode eI (d + 1) 327 (50, [(0, (1, 275)), (1, (0, y1)), (2, (0, y2))], [(0, z56)], w) _
          refine e_Ok.run (t' := (52, [(0, (1, 275)), (1, (0, y1)), (2, (0, y2))], [(0, 35), (0, z56)], w)) 1 rfl ?_
          refine e_Ok.if2 rfl (fun h58 => ?_) (fun h58 => ?_)
          · replace h58 : (z56 : Int) ≠ 35 := h58
            refine e_Ok.run (t' := (7, [(2, (0, 0)), (0, (1, 275)), (1, (0, y1))], [], w)) 3 rfl ?_
            refine e_Ok.sub eAlk (e_sub_of rfl ?_) (ih2 y1 0 ⟨by omega, by omega⟩ (by omega))
            exact ⟨rfl, rfl, rfl, trivial⟩
          · replace h58 : (z56 : Int) = 35 := by have q : ¬ ((z56 : Int) ≠ 35) := h58; omega
            have hL59 : ∀ (nn : Nat) (z1 : Int), (y1 ≤ z1 ∧ z1 ≤ N) ∧ ((y1 < z1 ∨ (z1 = y1 ∧ w 281 z1 = 35))) → 4001 - z1 < nn → e_Ok 20 elay ecode eI (d + 1) 327 (55, [(0, (1, 275)), (1, (0, z1)), (2, (0, y2))], [], w) (fun r w' => r = [] ∧ e_fr mTq w w' ∧ tkS w' N ∧ t ≤ w' 275 86) := by
              intro nn
              induction nn with
              | zero => intro z1 hj hm; obtain ⟨j61, j62⟩ := hj; exfalso; omega
              | succ nn ih60 =>
                intro z1 hj hm
                obtain ⟨j61, j62⟩ := hj
                refine e_Ok.run (t' := (57, [(0, (1, 275)), (1, (0, z1)), (2, (0, y2))], [(1, 275), (0, z1)], w)) 2 rfl ?_
                refine e_Ok.getf (z := N) rfl rfl rfl rfl hN (by omega) ?_
                refine e_Ok.if2 rfl (fun h63 => ?_) (fun h63 => ?_)
                · replace h63 : (z1 : Int) ≥ N := h63
                  refine e_Ok.sub eAlk (e_sub_of rfl ?_) (ih2 z1 y2 ⟨by omega, by omega⟩ (by omega))
                  exact ⟨rfl, rfl, rfl, trivial⟩
                · replace h63 : (z1 : Int) < N := by have q : ¬ ((z1 : Int) ≥ N) := h63; omega
                  refine e_Ok.run (t' := (64, [(0, (1, 275)), (1, (0, z1)), (2, (0, y2))], [(1, 275)], w)) 1 rfl ?_
                  refine e_Ok.getr (z := 281) rfl rfl rfl rfl (e_Has.eq hT rfl) (by omega) ?_
                  refine e_Ok.run (t' := (68, [(0, (1, 275)), (1, (0, z1)), (2, (0, y2))], [(0, z1), (1, 281)], w)) 1 rfl ?_
                  have h64 := (e_Has.get hH (c := 281) (k := z1) (lo := (-128)) (hi := 127) rfl (by decide))
                  refine e_Ok.ald (z := w 281 z1) rfl rfl rfl (by omega) rfl (by omega) ?_
                  refine e_Ok.run (t' := (71, [(0, (1, 275)), (1, (0, z1)), (2, (0, y2))], [(0, 10), (0, w 281 z1)], w)) 1 rfl ?_
                  refine e_Ok.if2 rfl (fun h65 => ?_) (fun h65 => ?_)
                  · replace h65 : (w 281 z1 : Int) = 10 := h65
                    refine e_Ok.sub eAlk (e_sub_of rfl ?_) (ih2 z1 y2 ⟨by omega, by omega⟩ (by omega))
                    exact ⟨rfl, rfl, rfl, trivial⟩
                  · replace h65 : (w 281 z1 : Int) ≠ 10 := by have q : ¬ ((w 281 z1 : Int) = 10) := h65; omega
                    refine e_Ok.inc (z := z1 + 1) rfl rfl (by omega) (by omega) ?_
                    show e_Ok 20 elay ecode eI (d + 1) 327 (77, [(1, (0, z1 + 1)), (0, (1, 275)), (2, (0, y2))], [], w) _
                    refine e_Ok.run (t' := (55, [(1, (0, z1 + 1)), (0, (1, 275)), (2, (0, y2))], [], w)) 1 rfl ?_
                    refine e_Ok.sub eAlk (e_sub_of rfl ?_) (ih60 (z1 + 1) ⟨by omega, (Or.inl (by omega))⟩ (by omega))
                    exact ⟨rfl, rfl, rfl, trivial⟩
            refine e_Ok.sub eAlk (e_sub_of rfl ?_) (hL59 (4001 + 1 : Int).toNat y1 ⟨by omega, (Or.inr ⟨rfl, by omega⟩)⟩ (by omega))
            exact ⟨rfl, rfl, rfl, trivial⟩
        · replace h52 : (y1 : Int) < N := by have q : ¬ ((y1 : Int) ≥ N) := h52; omega
          refine e_Ok.run (t' := (20, [(0, (1, 275)), (1, (0, y1)), (2, (0, y2))], [(1, 275)], w)) 1 rfl ?_
          refine e_Ok.getr (z := 281) rfl rfl rfl rfl (e_Has.eq hT rfl) (by omega) ?_
          refine e_Ok.run (t' := (24, [(0, (1, 275)), (1, (0, y1)), (2, (0, y2))], [(0, y1), (1, 281)], w)) 1 rfl ?_
          have h66 := (e_Has.get hH (c := 281) (k := y1) (lo := (-128)) (hi := 127) rfl (by decide))
          refine e_Ok.ald (z := w 281 y1) rfl rfl rfl (by omega) rfl (by omega) ?_
          refine e_Ok.if1 rfl (fun h67 => ?_) (fun h67 => ?_)
          · replace h67 : (w 281 y1 : Int) < 0 := h67
            refine e_Ok.run (t' := (47, [(0, (1, 275)), (1, (0, y1)), (2, (0, y2))], [(0, y1), (1, 275)], w)) 2 rfl ?_
            refine e_Ok.callV rfl (by omega) rfl rfl rfl rfl (l_326 hT hH hN hNr (by omega)) (fun r68 w69 h70 => ?_)
            obtain ⟨z71, rfl, rfl, q72⟩ := h70
            show e_Ok 20 elay ecode eI (d + 1) 327 (50, [(0, (1, 275)), (1, (0, y1)), (2, (0, y2))], [(0, z71)], w) _
            refine e_Ok.run (t' := (52, [(0, (1, 275)), (1, (0, y1)), (2, (0, y2))], [(0, 35), (0, z71)], w)) 1 rfl ?_
            refine e_Ok.if2 rfl (fun h73 => ?_) (fun h73 => ?_)
            · replace h73 : (z71 : Int) ≠ 35 := h73
              refine e_Ok.run (t' := (7, [(2, (0, 0)), (0, (1, 275)), (1, (0, y1))], [], w)) 3 rfl ?_
              refine e_Ok.sub eAlk (e_sub_of rfl ?_) (ih2 y1 0 ⟨by omega, by omega⟩ (by omega))
              exact ⟨rfl, rfl, rfl, trivial⟩
            · replace h73 : (z71 : Int) = 35 := by have q : ¬ ((z71 : Int) ≠ 35) := h73; omega
              have hL74 : ∀ (nn : Nat) (z1 : Int), (y1 ≤ z1 ∧ z1 ≤ N) ∧ ((y1 < z1 ∨ (z1 = y1 ∧ w 281 z1 = 35))) → 4001 - z1 < nn → e_Ok 20 elay ecode eI (d + 1) 327 (55, [(0, (1, 275)), (1, (0, z1)), (2, (0, y2))], [], w) (fun r w' => r = [] ∧ e_fr mTq w w' ∧ tkS w' N ∧ t ≤ w' 275 86) := by
                intro nn
                induction nn with
                | zero => intro z1 hj hm; obtain ⟨j76, j77⟩ := hj; exfalso; omega
                | succ nn ih75 =>
                  intro z1 hj hm
                  obtain ⟨j76, j77⟩ := hj
                  refine e_Ok.run (t' := (57, [(0, (1, 275)), (1, (0, z1)), (2, (0, y2))], [(1, 275), (0, z1)], w)) 2 rfl ?_
                  refine e_Ok.getf (z := N) rfl rfl rfl rfl hN (by omega) ?_
                  refine e_Ok.if2 rfl (fun h78 => ?_) (fun h78 => ?_)
                  · replace h78 : (z1 : Int) ≥ N := h78
                    refine e_Ok.sub eAlk (e_sub_of rfl ?_) (ih2 z1 y2 ⟨by omega, by omega⟩ (by omega))
                    exact ⟨rfl, rfl, rfl, trivial⟩
                  · replace h78 : (z1 : Int) < N := by have q : ¬ ((z1 : Int) ≥ N) := h78; omega
                    refine e_Ok.run (t' := (64, [(0, (1, 275)), (1, (0, z1)), (2, (0, y2))], [(1, 275)], w)) 1 rfl ?_
                    refine e_Ok.getr (z := 281) rfl rfl rfl rfl (e_Has.eq hT rfl) (by omega) ?_
                    refine e_Ok.run (t' := (68, [(0, (1, 275)), (1, (0, z1)), (2, (0, y2))], [(0, z1), (1, 281)], w)) 1 rfl ?_
                    have h79 := (e_Has.get hH (c := 281) (k := z1) (lo := (-128)) (hi := 127) rfl (by decide))
                    refine e_Ok.ald (z := w 281 z1) rfl rfl rfl (by omega) rfl (by omega) ?_
                    refine e_Ok.run (t' := (71, [(0, (1, 275)), (1, (0, z1)), (2, (0, y2))], [(0, 10), (0, w 281 z1)], w)) 1 rfl ?_
                    refine e_Ok.if2 rfl (fun h80 => ?_) (fun h80 => ?_)
                    · replace h80 : (w 281 z1 : Int) = 10 := h80
                      refine e_Ok.sub eAlk (e_sub_of rfl ?_) (ih2 z1 y2 ⟨by omega, by omega⟩ (by omega))
                      exact ⟨rfl, rfl, rfl, trivial⟩
                    · replace h80 : (w 281 z1 : Int) ≠ 10 := by have q : ¬ ((w 281 z1 : Int) = 10) := h80; omega
                      refine e_Ok.inc (z := z1 + 1) rfl rfl (by omega) (by omega) ?_
                      show e_Ok 20 elay ecode eI (d + 1) 327 (77, [(1, (0, z1 + 1)), (0, (1, 275)), (2, (0, y2))], [], w) _
                      refine e_Ok.run (t' := (55, [(1, (0, z1 + 1)), (0, (1, 275)), (2, (0, y2))], [], w)) 1 rfl ?_
                      refine e_Ok.sub eAlk (e_sub_of rfl ?_) (ih75 (z1 + 1) ⟨by omega, (Or.inl (by omega))⟩ (by omega))
                      exact ⟨rfl, rfl, rfl, trivial⟩
              refine e_Ok.sub eAlk (e_sub_of rfl ?_) (hL74 (4001 + 1 : Int).toNat y1 ⟨by omega, (Or.inr ⟨rfl, by omega⟩)⟩ (by omega))
              exact ⟨rfl, rfl, rfl, trivial⟩
          · replace h67 : (w 281 y1 : Int) ≥ 0 := by have q : ¬ ((w 281 y1 : Int) < 0) := h67; omega
            refine e_Ok.run (t' := (29, [(0, (1, 275)), (1, (0, y1)), (2, (0, y2))], [(1, 275)], w)) 1 rfl ?_
            refine e_Ok.getr (z := 281) rfl rfl rfl rfl (e_Has.eq hT rfl) (by omega) ?_
            refine e_Ok.run (t' := (33, [(0, (1, 275)), (1, (0, y1)), (2, (0, y2))], [(0, y1), (1, 281)], w)) 1 rfl ?_
            refine e_Ok.ald (z := w 281 y1) rfl rfl rfl (by omega) rfl (by omega) ?_
            refine e_Ok.run (t' := (36, [(0, (1, 275)), (1, (0, y1)), (2, (0, y2))], [(0, 32), (0, w 281 y1)], w)) 1 rfl ?_
            refine e_Ok.if2 rfl (fun h81 => ?_) (fun h81 => ?_)
            · replace h81 : (w 281 y1 : Int) > 32 := h81
              refine e_Ok.run (t' := (47, [(0, (1, 275)), (1, (0, y1)), (2, (0, y2))], [(0, y1), (1, 275)], w)) 2 rfl ?_
              refine e_Ok.callV rfl (by omega) rfl rfl rfl rfl (l_326 hT hH hN hNr (by omega)) (fun r82 w83 h84 => ?_)
              obtain ⟨z85, rfl, rfl, q86⟩ := h84
              show e_Ok 20 elay ecode eI (d + 1) 327 (50, [(0, (1, 275)), (1, (0, y1)), (2, (0, y2))], [(0, z85)], w) _
              refine e_Ok.run (t' := (52, [(0, (1, 275)), (1, (0, y1)), (2, (0, y2))], [(0, 35), (0, z85)], w)) 1 rfl ?_
              refine e_Ok.if2 rfl (fun h87 => ?_) (fun h87 => ?_)
              · replace h87 : (z85 : Int) ≠ 35 := h87
                refine e_Ok.run (t' := (7, [(2, (0, 0)), (0, (1, 275)), (1, (0, y1))], [], w)) 3 rfl ?_
                refine e_Ok.sub eAlk (e_sub_of rfl ?_) (ih2 y1 0 ⟨by omega, by omega⟩ (by omega))
                exact ⟨rfl, rfl, rfl, trivial⟩
              · replace h87 : (z85 : Int) = 35 := by have q : ¬ ((z85 : Int) ≠ 35) := h87; omega
                have hL88 : ∀ (nn : Nat) (z1 : Int), (y1 ≤ z1 ∧ z1 ≤ N) ∧ ((y1 < z1 ∨ (z1 = y1 ∧ w 281 z1 = 35))) → 4001 - z1 < nn → e_Ok 20 elay ecode eI (d + 1) 327 (55, [(0, (1, 275)), (1, (0, z1)), (2, (0, y2))], [], w) (fun r w' => r = [] ∧ e_fr mTq w w' ∧ tkS w' N ∧ t ≤ w' 275 86) := by
                  intro nn
                  induction nn with
                  | zero => intro z1 hj hm; obtain ⟨j90, j91⟩ := hj; exfalso; omega
                  | succ nn ih89 =>
                    intro z1 hj hm
                    obtain ⟨j90, j91⟩ := hj
                    refine e_Ok.run (t' := (57, [(0, (1, 275)), (1, (0, z1)), (2, (0, y2))], [(1, 275), (0, z1)], w)) 2 rfl ?_
                    refine e_Ok.getf (z := N) rfl rfl rfl rfl hN (by omega) ?_
                    refine e_Ok.if2 rfl (fun h92 => ?_) (fun h92 => ?_)
                    · replace h92 : (z1 : Int) ≥ N := h92
                      refine e_Ok.sub eAlk (e_sub_of rfl ?_) (ih2 z1 y2 ⟨by omega, by omega⟩ (by omega))
                      exact ⟨rfl, rfl, rfl, trivial⟩
                    · replace h92 : (z1 : Int) < N := by have q : ¬ ((z1 : Int) ≥ N) := h92; omega
                      refine e_Ok.run (t' := (64, [(0, (1, 275)), (1, (0, z1)), (2, (0, y2))], [(1, 275)], w)) 1 rfl ?_
                      refine e_Ok.getr (z := 281) rfl rfl rfl rfl (e_Has.eq hT rfl) (by omega) ?_
                      refine e_Ok.run (t' := (68, [(0, (1, 275)), (1, (0, z1)), (2, (0, y2))], [(0, z1), (1, 281)], w)) 1 rfl ?_
                      have h93 := (e_Has.get hH (c := 281) (k := z1) (lo := (-128)) (hi := 127) rfl (by decide))
                      refine e_Ok.ald (z := w 281 z1) rfl rfl rfl (by omega) rfl (by omega) ?_
                      refine e_Ok.run (t' := (71, [(0, (1, 275)), (1, (0, z1)), (2, (0, y2))], [(0, 10), (0, w 281 z1)], w)) 1 rfl ?_
                      refine e_Ok.if2 rfl (fun h94 => ?_) (fun h94 => ?_)
                      · replace h94 : (w 281 z1 : Int) = 10 := h94
                        refine e_Ok.sub eAlk (e_sub_of rfl ?_) (ih2 z1 y2 ⟨by omega, by omega⟩ (by omega))
                        exact ⟨rfl, rfl, rfl, trivial⟩
                      · replace h94 : (w 281 z1 : Int) ≠ 10 := by have q : ¬ ((w 281 z1 : Int) = 10) := h94; omega
                        refine e_Ok.inc (z := z1 + 1) rfl rfl (by omega) (by omega) ?_
                        show e_Ok 20 elay ecode eI (d + 1) 327 (77, [(1, (0, z1 + 1)), (0, (1, 275)), (2, (0, y2))], [], w) _
                        refine e_Ok.run (t' := (55, [(1, (0, z1 + 1)), (0, (1, 275)), (2, (0, y2))], [], w)) 1 rfl ?_
                        refine e_Ok.sub eAlk (e_sub_of rfl ?_) (ih89 (z1 + 1) ⟨by omega, (Or.inl (by omega))⟩ (by omega))
                        exact ⟨rfl, rfl, rfl, trivial⟩
                refine e_Ok.sub eAlk (e_sub_of rfl ?_) (hL88 (4001 + 1 : Int).toNat y1 ⟨by omega, (Or.inr ⟨rfl, by omega⟩)⟩ (by omega))
                exact ⟨rfl, rfl, rfl, trivial⟩
            · replace h81 : (w 281 y1 : Int) ≤ 32 := by have q : ¬ ((w 281 y1 : Int) > 32) := h81; omega
              refine e_Ok.inc (z := y1 + 1) rfl rfl (by omega) (by omega) ?_
              show e_Ok 20 elay ecode eI (d + 1) 327 (42, [(1, (0, y1 + 1)), (0, (1, 275)), (2, (0, y2))], [], w) _
              refine e_Ok.run (t' := (7, [(1, (0, y1 + 1)), (0, (1, 275)), (2, (0, y2))], [], w)) 1 rfl ?_
              refine e_Ok.sub eAlk (e_sub_of rfl ?_) (ih2 (y1 + 1) y2 ⟨by omega, by omega⟩ (by omega))
              exact ⟨rfl, rfl, rfl, trivial⟩
  refine e_Ok.sub eAlk (e_sub_of rfl ?_) (hL1 (8003 + 1 : Int).toNat t 1 ⟨by omega, by omega⟩ (by omega))
  exact ⟨rfl, rfl, rfl, trivial⟩
theorem l_329_x {d : Nat} (hd : 22 ≤ d) {w : eW} (hT : e_Has mLq w) (hH : e_Has mLr w) {N : Int} (hN : w 275 9 = N) (hNr : 0 ≤ N ∧ N ≤ 4000) {t : Int} (ht : w 275 86 = t) (htr : 0 ≤ t ∧ t < N) (hb : 48 ≤ w 281 t ∧ w 281 t ≤ 57) : e_Ok 20 elay ecode eI d 329 (0, [(0, (1, 275))], [], w) (fun r w' => r = [] ∧ w' 275 86 = t ∧ w' 275 87 = (dgF (w 281) N t 0).1 ∧ ((2147483647 < (dgF (w 281) N t 0).2 ∧ w' 275 84 = 5) ∨ ((dgF (w 281) N t 0).2 ≤ 2147483647 ∧ w' 275 84 = 2 ∧ w' 275 85 = (dgF (w 281) N t 0).2))) := by
  obtain ⟨d, rfl⟩ : ∃ e, d = e + 1 := ⟨d - 1, by omega⟩
  refine e_Ok.run (t' := (3, [(1, (4, 0)), (0, (1, 275))], [(1, 275)], w)) 3 rfl ?_
  refine e_Ok.getf (z := t) rfl rfl rfl rfl ht (by omega) ?_
  refine e_Ok.run (t' := (7, [(3, (0, t)), (1, (4, 0)), (0, (1, 275))], [], w)) 1 rfl ?_
  have hL1 : ∀ (nn : Nat) (y1 : Int) (y3 : Int), (t ≤ y3 ∧ y3 ≤ N) ∧ ((t < y3 ∨ (y3 = t ∧ w 281 y3 = w 281 t))) ∧ (0 ≤ y1 ∧ y1 ≤ 21474836479) ∧ dgF (w 281) N y3 y1 = dgF (w 281) N t 0 → 4001 - y3 < nn → e_Ok 20 elay ecode eI (d + 1) 329 (7, [(0, (1, 275)), (1, (4, y1)), (3, (0, y3))], [], w) (fun r w' => r = [] ∧ w' 275 86 = t ∧ w' 275 87 = (dgF (w 281) N t 0).1 ∧ ((2147483647 < (dgF (w 281) N t 0).2 ∧ w' 275 84 = 5) ∨ ((dgF (w 281) N t 0).2 ≤ 2147483647 ∧ w' 275 84 = 2 ∧ w' 275 85 = (dgF (w 281) N t 0).2))) := by
    intro nn
    induction nn with
    | zero => intro y1 y3 hj hm; obtain ⟨j3, j4, j5, j6⟩ := hj; exfalso; omega
    | succ nn ih2 =>
      intro y1 y3 hj hm
      obtain ⟨j3, j4, j5, j6⟩ := hj
      refine e_Ok.run (t' := (9, [(0, (1, 275)), (1, (4, y1)), (3, (0, y3))], [(0, y3), (1, 275)], w)) 2 rfl ?_
      refine e_Ok.callV rfl (by omega) rfl rfl rfl rfl (l_326 hT hH hN hNr (by omega)) (fun r7 w8 h9 => ?_)
      obtain ⟨z10, rfl, rfl, q11⟩ := h9
      show e_Ok 20 elay ecode eI (d + 1) 329 (12, [(0, (1, 275)), (1, (4, y1)), (3, (0, y3))], [(0, z10)], w) _
      refine e_Ok.callS rfl (by omega) rfl rfl (c_325_x (by omega)) (fun r12 w13 h14 => ?_)
      obtain ⟨z15, rfl, rfl, q16⟩ := h14
      obtain ⟨rfl, q16⟩ | ⟨rfl, q16⟩ := q16
      · show e_Ok 20 elay ecode eI (d + 1) 329 (15, [(0, (1, 275)), (1, (4, y1)), (3, (0, y3))], [(0, 1)], w) _
        refine e_Ok.if1 rfl (fun h17 => ?_) (fun h17 => ?_)
        · replace h17 : (1 : Int) = 0 := h17
          exfalso; omega
        · replace h17 : (1 : Int) ≠ 0 := by have q : ¬ ((1 : Int) = 0) := h17; omega
          refine e_Ok.run (t' := (22, [(0, (1, 275)), (1, (4, y1)), (3, (0, y3))], [(4, 2147483647), (4, y1)], w)) 2 rfl ?_
          refine e_Ok.lcmp rfl (fun z18 z18a z18b z18c => ?_)
          refine e_Ok.if1 rfl (fun h19 => ?_) (fun h19 => ?_)
          · replace h19 : (z18 : Int) ≤ 0 := h19
            refine e_Ok.run (t' := (34, [(0, (1, 275)), (1, (4, y1)), (3, (0, y3))], [(4, y1), (4, 10)], w)) 2 rfl ?_
            refine e_Ok.mulL (z := 10 * y1) rfl (by omega) (by omega) ?_
            refine e_Ok.run (t' := (37, [(0, (1, 275)), (1, (4, y1)), (3, (0, y3))], [(0, y3), (1, 275), (4, 10 * y1)], w)) 2 rfl ?_
            refine e_Ok.callV rfl (by omega) rfl rfl rfl rfl (l_326 hT hH hN hNr (by omega)) (fun r21 w22 h23 => ?_)
            obtain ⟨z24, rfl, rfl, q25⟩ := h23
            show e_Ok 20 elay ecode eI (d + 1) 329 (40, [(0, (1, 275)), (1, (4, y1)), (3, (0, y3))], [(0, z24), (4, 10 * y1)], w) _
            refine e_Ok.run (t' := (41, [(0, (1, 275)), (1, (4, y1)), (3, (0, y3))], [(4, z24), (4, 10 * y1)], w)) 1 rfl ?_
            refine e_Ok.addL (z := 10 * y1 + z24) rfl (by omega) (by omega) ?_
            refine e_Ok.run (t' := (45, [(0, (1, 275)), (1, (4, y1)), (3, (0, y3))], [(4, 48), (4, 10 * y1 + z24)], w)) 1 rfl ?_
            refine e_Ok.subL (z := 10 * y1 + z24 - 48) rfl (by omega) (by omega) ?_
            refine e_Ok.run (t' := (47, [(1, (4, 10 * y1 + z24 - 48)), (0, (1, 275)), (3, (0, y3))], [], w)) 1 rfl ?_
            refine e_Ok.inc (z := y3 + 1) rfl rfl (by omega) (by omega) ?_
            show e_Ok 20 elay ecode eI (d + 1) 329 (50, [(3, (0, y3 + 1)), (1, (4, 10 * y1 + z24 - 48)), (0, (1, 275))], [], w) _
            refine e_Ok.run (t' := (7, [(3, (0, y3 + 1)), (1, (4, 10 * y1 + z24 - 48)), (0, (1, 275))], [], w)) 1 rfl ?_
            refine e_Ok.sub eAlk (e_sub_of rfl ?_) (ih2 (10 * y1 + z24 - 48) (y3 + 1) ⟨by omega, (Or.inl (by omega)), by omega, (by have g := dgF_go (T := w 281) (N := N) (i := y3) (v := y1) (by omega) (by omega); exact Eq.trans (congrArg (dgF (w 281) N (y3 + 1)) (by split <;> omega)) (g.symm.trans j6))⟩ (by omega))
            exact ⟨rfl, rfl, rfl, trivial⟩
          · replace h19 : (z18 : Int) > 0 := by have q : ¬ ((z18 : Int) ≤ 0) := h19; omega
            refine e_Ok.run (t' := (46, [(0, (1, 275)), (1, (4, y1)), (3, (0, y3))], [(4, y1)], w)) 2 rfl ?_
            refine e_Ok.run (t' := (47, [(1, (4, y1)), (0, (1, 275)), (3, (0, y3))], [], w)) 1 rfl ?_
            refine e_Ok.inc (z := y3 + 1) rfl rfl (by omega) (by omega) ?_
            show e_Ok 20 elay ecode eI (d + 1) 329 (50, [(3, (0, y3 + 1)), (1, (4, y1)), (0, (1, 275))], [], w) _
            refine e_Ok.run (t' := (7, [(3, (0, y3 + 1)), (1, (4, y1)), (0, (1, 275))], [], w)) 1 rfl ?_
            refine e_Ok.sub eAlk (e_sub_of rfl ?_) (ih2 y1 (y3 + 1) ⟨by omega, (Or.inl (by omega)), by omega, (by have g := dgF_go (T := w 281) (N := N) (i := y3) (v := y1) (by omega) (by omega); exact Eq.trans (congrArg (dgF (w 281) N (y3 + 1)) (by split <;> omega)) (g.symm.trans j6))⟩ (by omega))
            exact ⟨rfl, rfl, rfl, trivial⟩
      · show e_Ok 20 elay ecode eI (d + 1) 329 (15, [(0, (1, 275)), (1, (4, y1)), (3, (0, y3))], [(0, 0)], w) _
        refine e_Ok.if1 rfl (fun h28 => ?_) (fun h28 => ?_)
        · replace h28 : (0 : Int) = 0 := h28
          refine e_Ok.run (t' := (55, [(0, (1, 275)), (1, (4, y1)), (3, (0, y3))], [(0, y3), (1, 275)], w)) 2 rfl ?_
          refine e_Ok.putf rfl rfl rfl rfl ?_
          generalize hw29 : e_up w 275 87 y3 = w29
          have f30 : e_fr mTq w w29 := e_fr.up (e_fr.refl w) hw29 (by unfold mTq; omega)
          refine e_Ok.run (t' := (63, [(0, (1, 275)), (1, (4, y1)), (3, (0, y3))], [(4, 2147483647), (4, y1), (1, 275)], w29)) 3 rfl ?_
          refine e_Ok.lcmp rfl (fun z31 z31a z31b z31c => ?_)
          refine e_Ok.if1 rfl (fun h32 => ?_) (fun h32 => ?_)
          · replace h32 : (z31 : Int) ≤ 0 := h32
            refine e_Ok.run (t' := (72, [(0, (1, 275)), (1, (4, y1)), (3, (0, y3))], [(0, 2), (1, 275)], w29)) 1 rfl ?_
            refine e_Ok.putf rfl rfl rfl rfl ?_
            generalize hw33 : e_up w29 275 84 2 = w33
            have f34 : e_fr mTq w w33 := e_fr.up f30 hw33 (by unfold mTq; omega)
            refine e_Ok.run (t' := (77, [(0, (1, 275)), (1, (4, y1)), (3, (0, y3))], [(4, y1), (1, 275)], w33)) 2 rfl ?_
            refine e_Ok.l2iz rfl (fun z35 z35a z35b => ?_)
            replace z35b : -2147483648 ≤ y1 → y1 ≤ 2147483647 → z35 = y1 := z35b
            refine e_Ok.putf rfl rfl rfl rfl ?_
            generalize hw36 : e_up w33 275 85 z35 = w36
            have f37 : e_fr mTq w w36 := e_fr.up f34 hw36 (by unfold mTq; omega)
            refine e_Ok.rets rfl rfl ?_
            have et86 : w36 275 86 = t := (by rw [← hw36]; exact (e_up_ne _ _ (Or.inr (by omega))).trans (by rw [← hw33]; exact (e_up_ne _ _ (Or.inr (by omega))).trans (by rw [← hw29]; exact (e_up_ne _ _ (Or.inr (by omega))).trans ht)))
            have et87 : w36 275 87 = y3 := (by rw [← hw36]; exact (e_up_ne _ _ (Or.inr (by omega))).trans (by rw [← hw33]; exact (e_up_ne _ _ (Or.inr (by omega))).trans (by rw [← hw29]; exact e_up_eq _ _ _ _)))
            have et84 : w36 275 84 = 2 := (by rw [← hw36]; exact (e_up_ne _ _ (Or.inr (by omega))).trans (by rw [← hw33]; exact e_up_eq _ _ _ _))
            have et85 : w36 275 85 = z35 := (by rw [← hw36]; exact e_up_eq _ _ _ _)
            have ge := (dgF_end (T := w 281) (N := N) (i := y3) (v := y1) (by omega)).symm.trans j6
            exact ⟨rfl, et86, by rw [← ge, et87], by rw [← ge, et84, et85]; show (2147483647 < y1 ∧ _) ∨ (y1 ≤ 2147483647 ∧ _ ∧ _); omega⟩
          · replace h32 : (z31 : Int) > 0 := by have q : ¬ ((z31 : Int) ≤ 0) := h32; omega
            refine e_Ok.run (t' := (72, [(0, (1, 275)), (1, (4, y1)), (3, (0, y3))], [(0, 5), (1, 275)], w29)) 2 rfl ?_
            refine e_Ok.putf rfl rfl rfl rfl ?_
            generalize hw38 : e_up w29 275 84 5 = w38
            have f40 : e_fr mTq w w38 := e_fr.up f30 hw38 (by unfold mTq; omega)
            refine e_Ok.run (t' := (77, [(0, (1, 275)), (1, (4, y1)), (3, (0, y3))], [(4, y1), (1, 275)], w38)) 2 rfl ?_
            refine e_Ok.l2iz rfl (fun z41 z41a z41b => ?_)
            replace z41b : -2147483648 ≤ y1 → y1 ≤ 2147483647 → z41 = y1 := z41b
            refine e_Ok.putf rfl rfl rfl rfl ?_
            generalize hw42 : e_up w38 275 85 z41 = w42
            have f43 : e_fr mTq w w42 := e_fr.up f40 hw42 (by unfold mTq; omega)
            refine e_Ok.rets rfl rfl ?_
            have et86 : w42 275 86 = t := (by rw [← hw42]; exact (e_up_ne _ _ (Or.inr (by omega))).trans (by rw [← hw38]; exact (e_up_ne _ _ (Or.inr (by omega))).trans (by rw [← hw29]; exact (e_up_ne _ _ (Or.inr (by omega))).trans ht)))
            have et87 : w42 275 87 = y3 := (by rw [← hw42]; exact (e_up_ne _ _ (Or.inr (by omega))).trans (by rw [← hw38]; exact (e_up_ne _ _ (Or.inr (by omega))).trans (by rw [← hw29]; exact e_up_eq _ _ _ _)))
            have et84 : w42 275 84 = 5 := (by rw [← hw42]; exact (e_up_ne _ _ (Or.inr (by omega))).trans (by rw [← hw38]; exact e_up_eq _ _ _ _))
            have et85 : w42 275 85 = z41 := (by rw [← hw42]; exact e_up_eq _ _ _ _)
            have ge := (dgF_end (T := w 281) (N := N) (i := y3) (v := y1) (by omega)).symm.trans j6
            exact ⟨rfl, et86, by rw [← ge, et87], by rw [← ge, et84, et85]; show (2147483647 < y1 ∧ _) ∨ (y1 ≤ 2147483647 ∧ _ ∧ _); omega⟩
        · replace h28 : (0 : Int) ≠ 0 := by have q : ¬ ((0 : Int) = 0) := h28; omega
          exfalso; omega
  refine e_Ok.sub eAlk (e_sub_of rfl ?_) (hL1 (4001 + 1 : Int).toNat 0 t ⟨by omega, (Or.inr ⟨rfl, rfl⟩), by omega, rfl⟩ (by omega))
  exact ⟨rfl, rfl, rfl, trivial⟩
set_option maxHeartbeats 4000000 in
end
