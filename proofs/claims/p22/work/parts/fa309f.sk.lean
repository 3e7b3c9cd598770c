noncomputable section
theorem l_328_x {d : Nat} (hd : 23 ≤ d) {w : eW} (hT : e_Has mLq w) (hH : e_Has mLr w) {N : Int} (hN : w 275 9 = N) (hNr : 0 ≤ N ∧ N ≤ 4000) {t : Int} (ht : w 275 86 = t) (htr : 0 ≤ t ∧ t < N) (hb : (97 ≤ w 281 t ∧ w 281 t ≤ 122) ∨ (65 ≤ w 281 t ∧ w 281 t ≤ 90)) (hwh : -2147483648 ≤ w 275 85 ∧ w 275 85 ≤ 2147483647) : e_Ok 20 elay ecode eI d 328 (0, [(0, (1, 275))], [], w) (fun r w' => r = [] ∧ w' 275 86 = t ∧ w' 275 87 = wdF (w 281) N t ∧ ((24 < w' 275 87 - t ∧ w' 275 84 = 5) ∨ (w' 275 87 - t ≤ 24 ∧ ((w' 275 84 = 1 ∧ ∀ k, 0 ≤ k → k ≤ 32 → ¬ kwd (w 281) t (w' 275 87) k) ∨ ∃ k, kwd (w 281) t (w' 275 87) k ∧ w' 275 84 = 4 ∧ w' 275 85 = k)))) := by
  obtain ⟨d, rfl⟩ : ∃ e, d = e + 1 := ⟨d - 1, by omega⟩
  refine e_Ok.run (t' := (1, [(0, (1, 275))], [(1, 275)], w)) 1 rfl ?_
  refine e_Ok.getf (z := t) rfl rfl rfl rfl ht (by omega) ?_
  refine e_Ok.run (t' := (5, [(1, (0, t)), (0, (1, 275))], [], w)) 1 rfl ?_
  have hL1 : ∀ (nn : Nat) (y1 : Int), (t ≤ y1 ∧ y1 ≤ N) ∧ ((t < y1 ∨ (y1 = t ∧ w 281 y1 = w 281 t))) ∧ wdF (w 281) N y1 = wdF (w 281) N t → 4001 - y1 < nn → e_Ok 20 elay ecode eI (d + 1) 328 (5, [(0, (1, 275)), (1, (0, y1))], [], w) (fun r w' => r = [] ∧ w' 275 86 = t ∧ w' 275 87 = wdF (w 281) N t ∧ ((24 < w' 275 87 - t ∧ w' 275 84 = 5) ∨ (w' 275 87 - t ≤ 24 ∧ ((w' 275 84 = 1 ∧ ∀ k, 0 ≤ k → k ≤ 32 → ¬ kwd (w 281) t (w' 275 87) k) ∨ ∃ k, kwd (w 281) t (w' 275 87) k ∧ w' 275 84 = 4 ∧ w' 275 85 = k)))) := by
    intro nn
    induction nn with
    | zero => intro y1 hj hm; obtain ⟨j3, j4, j5⟩ := hj; exfalso; omega
    | succ nn ih2 =>
      intro y1 hj hm
      obtain ⟨j3, j4, j5⟩ := hj
      refine e_Ok.run (t' := (7, [(0, (1, 275)), (1, (0, y1))], [(0, y1), (1, 275)], w)) 2 rfl ?_
      refine e_Ok.callV rfl (by omega) rfl rfl rfl rfl (l_326 hT hH hN hNr (by omega)) (fun r6 w7 h8 => ?_)
      obtain ⟨z9, rfl, rfl, q10⟩ := h8
      show e_Ok 20 elay ecode eI (d + 1) 328 (10, [(0, (1, 275)), (1, (0, y1))], [(0, z9)], w) _
      refine e_Ok.callS rfl (by omega) rfl rfl (c_324_x (by omega)) (fun r11 w12 h13 => ?_)
      obtain ⟨z14, rfl, rfl, q15⟩ := h13
      obtain ⟨rfl, q15⟩ | ⟨rfl, q15⟩ := q15
      · show e_Ok 20 elay ecode eI (d + 1) 328 (13, [(0, (1, 275)), (1, (0, y1))], [(0, 1)], w) _
        refine e_Ok.if1 rfl (fun h16 => ?_) (fun h16 => ?_)
        · replace h16 : (1 : Int) ≠ 0 := h16
          refine e_Ok.inc (z := y1 + 1) rfl rfl (by omega) (by omega) ?_
          show e_Ok 20 elay ecode eI (d + 1) 328 (30, [(1, (0, y1 + 1)), (0, (1, 275))], [], w) _
          refine e_Ok.run (t' := (5, [(1, (0, y1 + 1)), (0, (1, 275))], [], w)) 1 rfl ?_
          refine e_Ok.sub eAlk (e_sub_of rfl ?_) (ih2 (y1 + 1) ⟨by omega, (Or.inl (by omega)), ((wdF_go (by omega) (by omega)).symm.trans j5)⟩ (by omega))
          exact ⟨rfl, rfl, trivial⟩
        · replace h16 : (1 : Int) = 0 := by have q : ¬ ((1 : Int) ≠ 0) := h16; omega
          exfalso; omega
      · show e_Ok 20 elay ecode eI (d + 1) 328 (13, [(0, (1, 275)), (1, (0, y1))], [(0, 0)], w) _
        refine e_Ok.if1 rfl (fun h17 => ?_) (fun h17 => ?_)
        · replace h17 : (0 : Int) ≠ 0 := h17
          exfalso; omega
        · replace h17 : (0 : Int) = 0 := by have q : ¬ ((0 : Int) ≠ 0) := h17; omega
          refine e_Ok.run (t' := (18, [(0, (1, 275)), (1, (0, y1))], [(0, y1), (1, 275)], w)) 2 rfl ?_
          refine e_Ok.callV rfl (by omega) rfl rfl rfl rfl (l_326 hT hH hN hNr (by omega)) (fun r18 w19 h20 => ?_)
          obtain ⟨z21, rfl, rfl, q22⟩ := h20
          show e_Ok 20 elay ecode eI (d + 1) 328 (21, [(0, (1, 275)), (1, (0, y1))], [(0, z21)], w) _
          refine e_Ok.callS rfl (by omega) rfl rfl (c_325_x (by omega)) (fun r23 w24 h25 => ?_)
          obtain ⟨z26, rfl, rfl, q27⟩ := h25
          obtain ⟨rfl, q27⟩ | ⟨rfl, q27⟩ := q27
          · show e_Ok 20 elay ecode eI (d + 1) 328 (24, [(0, (1, 275)), (1, (0, y1))], [(0, 1)], w) _
            refine e_Ok.if1 rfl (fun h28 => ?_) (fun h28 => ?_)
            · replace h28 : (1 : Int) = 0 := h28
              exfalso; omega
            · replace h28 : (1 : Int) ≠ 0 := by have q : ¬ ((1 : Int) = 0) := h28; omega
              refine e_Ok.inc (z := y1 + 1) rfl rfl (by omega) (by omega) ?_
              show e_Ok 20 elay ecode eI (d + 1) 328 (30, [(1, (0, y1 + 1)), (0, (1, 275))], [], w) _
              refine e_Ok.run (t' := (5, [(1, (0, y1 + 1)), (0, (1, 275))], [], w)) 1 rfl ?_
              refine e_Ok.sub eAlk (e_sub_of rfl ?_) (ih2 (y1 + 1) ⟨by omega, (Or.inl (by omega)), ((wdF_go (by omega) (by omega)).symm.trans j5)⟩ (by omega))
              exact ⟨rfl, rfl, trivial⟩
          · show e_Ok 20 elay ecode eI (d + 1) 328 (24, [(0, (1, 275)), (1, (0, y1))], [(0, 0)], w) _
            refine e_Ok.if1 rfl (fun h29 => ?_) (fun h29 => ?_)
            · replace h29 : (0 : Int) = 0 := h29
              refine e_Ok.run (t' := (35, [(0, (1, 275)), (1, (0, y1))], [(0, y1), (1, 275)], w)) 2 rfl ?_
              refine e_Ok.putf rfl rfl rfl rfl ?_
              generalize hw30 : e_up w 275 87 y1 = w30
              have f31 : e_fr mTq w w30 := e_fr.up (e_fr.refl w) hw30 (by unfold mTq; omega)
              refine e_Ok.run (t' := (41, [(0, (1, 275)), (1, (0, y1))], [(1, 275), (0, y1), (1, 275)], w30)) 3 rfl ?_
              refine e_Ok.getf (z := t) rfl rfl rfl rfl (by rw [← hw30]; exact (e_up_ne _ _ (Or.inr (by omega))).trans ht) (by omega) ?_
              refine e_Ok.sub' (z := y1 - t) rfl (by omega) (by omega) ?_
              refine e_Ok.run (t' := (47, [(0, (1, 275)), (1, (0, y1))], [(0, 24), (0, y1 - t), (1, 275)], w30)) 1 rfl ?_
              refine e_Ok.if2 rfl (fun h32 => ?_) (fun h32 => ?_)
              · replace h32 : (y1 - t : Int) ≤ 24 := h32
                refine e_Ok.run (t' := (55, [(0, (1, 275)), (1, (0, y1))], [(0, 1), (1, 275)], w30)) 1 rfl ?_
                refine e_Ok.putf rfl rfl rfl rfl ?_
                generalize hw33 : e_up w30 275 84 1 = w33
                have f34 : e_fr mTq w w33 := e_fr.up f31 hw33 (by unfold mTq; omega)
                have ge := (wdF_end (T := w 281) (N := N) (i := y1) (by omega)).symm.trans j5
                obtain ⟨e, hee⟩ : ∃ e : Int, e = y1 := ⟨_, rfl⟩
                have her : t < e ∧ e ≤ N := by omega
                have hk0 : w33 275 84 = 1 := (by rw [← hw33]; exact e_up_eq _ _ _ _)
                refine e_Ok.run (t' := (62, [(3, (0, 0)), (2, (0, 0)), (0, (1, 275)), (1, (0, y1))], [], w33)) 4 rfl ?_
                have hL36 : ∀ (nn : Nat) (y2 : Int) (y3 : Int) (v1 : eW), e_fr mTq w v1 ∧ (((y2 = 171 ∧ y3 = 33) ∨ ∃ e, (y2, e, y3) ∈ e_wst)) ∧ ((0 ≤ y2 ∧ y2 ≤ 171 ∧ 0 ≤ y3 ∧ y3 ≤ 33)) ∧ v1 275 86 = t ∧ v1 275 87 = e ∧ ((1 ≤ v1 275 84 ∧ v1 275 84 ≤ 5)) ∧ ((-2147483648 ≤ v1 275 85 ∧ v1 275 85 ≤ 2147483647)) ∧ (((v1 275 84 = 4 ∧ ∃ k, k < y3 ∧ kwd (w 281) t e k ∧ v1 275 85 = k) ∨ ((∀ k, 0 ≤ k → k < y3 → ¬ kwd (w 281) t e k) ∧ ((24 < e - t ∧ v1 275 84 = 5) ∨ (e - t ≤ 24 ∧ v1 275 84 = 1))))) → 172 - y2 < nn → e_Ok 20 elay ecode eI (d + 1) 328 (62, [(0, (1, 275)), (2, (0, y2)), (3, (0, y3))], [], v1) (fun r w' => r = [] ∧ w' 275 86 = t ∧ w' 275 87 = wdF (w 281) N t ∧ ((24 < w' 275 87 - t ∧ w' 275 84 = 5) ∨ (w' 275 87 - t ≤ 24 ∧ ((w' 275 84 = 1 ∧ ∀ k, 0 ≤ k → k ≤ 32 → ¬ kwd (w 281) t (w' 275 87) k) ∨ ∃ k, kwd (w 281) t (w' 275 87) k ∧ w' 275 84 = 4 ∧ w' 275 85 = k)))) := by
                  intro nn
                  induction nn with
                  | zero => intro y2 y3 v1 hj hm; obtain ⟨j38, j40, j41, j42, j43, j44, j45, j46⟩ := hj; exfalso; omega
                  | succ nn ih37 =>
                    intro y2 y3 v1 hj hm
                    obtain ⟨j38, j40, j41, j42, j43, j44, j45, j46⟩ := hj
                    refine e_Ok.run (t' := (63, [(0, (1, 275)), (2, (0, y2)), (3, (0, y3))], [(0, y2)], v1)) 1 rfl ?_
                    refine e_Ok.run (t' := (66, [(0, (1, 275)), (2, (0, y2)), (3, (0, y3))], [(1, 357), (0, y2)], v1)) 1 rfl ?_
                    refine e_Ok.run (t' := (69, [(0, (1, 275)), (2, (0, y2)), (3, (0, y3))], [(0, 171), (0, y2)], v1)) 1 rfl ?_
                    refine e_Ok.if2 rfl (fun h47 => ?_) (fun h47 => ?_)
                    · replace h47 : (y2 : Int) ≥ 171 := h47
                      refine e_Ok.rets rfl rfl ?_
                      have hy3 : y3 = 33 := by rcases j40 with g | ⟨e9, g⟩; (exact g.2); (have g9 := (ws_f g).1; omega)
                      exact ⟨rfl, j42, by rw [j43, hee]; exact ge, by rw [j43]; rcases j46 with ⟨g1, k, g2, g3, g4⟩ | ⟨g1, g2⟩; (have kr := kwd_k g3; exact Or.inr ⟨by omega, Or.inr ⟨k, g3, g1, g4⟩⟩); (rcases g2 with ⟨g2, g3⟩ | ⟨g2, g3⟩; (exact Or.inl ⟨g2, g3⟩); (exact Or.inr ⟨g2, Or.inl ⟨g3, fun k k0 k1 => g1 k k0 (by omega)⟩⟩))⟩
                    · replace h47 : (y2 : Int) < 171 := by have q : ¬ ((y2 : Int) ≥ 171) := h47; omega
                      obtain ⟨e2, he2⟩ : ∃ e, (y2, e, y3) ∈ e_wst := by rcases j40 with g | g; exact absurd g.1 (by omega); exact g
                      obtain ⟨hw1, hw2, hw3⟩ := ws_f he2
                      refine e_Ok.run (t' := (75, [(4, (0, 0)), (0, (1, 275)), (2, (0, y2)), (3, (0, y3))], [], v1)) 2 rfl ?_
                      have hL48 : ∀ (nn : Nat) (y4 : Int), (0 ≤ y4 ∧ y2 + y4 ≤ e2) ∧ (∀ j, 0 ≤ j → j < y4 → w 281 (t + j) = kyc (y2 + j)) → 171 - y4 < nn → e_Ok 20 elay ecode eI (d + 1) 328 (75, [(0, (1, 275)), (2, (0, y2)), (3, (0, y3)), (4, (0, y4))], [], v1) (fun r w' => r = [] ∧ w' 275 86 = t ∧ w' 275 87 = wdF (w 281) N t ∧ ((24 < w' 275 87 - t ∧ w' 275 84 = 5) ∨ (w' 275 87 - t ≤ 24 ∧ ((w' 275 84 = 1 ∧ ∀ k, 0 ≤ k → k ≤ 32 → ¬ kwd (w 281) t (w' 275 87) k) ∨ ∃ k, kwd (w 281) t (w' 275 87) k ∧ w' 275 84 = 4 ∧ w' 275 85 = k)))) := by
                        intro nn
                        induction nn with
                        | zero => intro y4 hj hm; obtain ⟨j50, j51⟩ := hj; exfalso; omega
                        | succ nn ih49 =>
                          intro y4 hj hm
                          obtain ⟨j50, j51⟩ := hj
                          refine e_Ok.run (t' := (78, [(0, (1, 275)), (2, (0, y2)), (3, (0, y3)), (4, (0, y4))], [(1, 357)], v1)) 1 rfl ?_
                          refine e_Ok.run (t' := (81, [(0, (1, 275)), (2, (0, y2)), (3, (0, y3)), (4, (0, y4))], [(0, y4), (0, y2), (1, 357)], v1)) 2 rfl ?_
                          refine e_Ok.add (z := y2 + y4) rfl (by omega) (by omega) ?_
                          refine e_Ok.sc (by omega) rfl rfl ?_
                          have z52b := kyc_in (y2 + y4)
                          generalize hz52 : kyc (y2 + y4) = z52
                          rw [hz52] at z52b
                          refine e_Ok.run (t' := (87, [(0, (1, 275)), (2, (0, y2)), (3, (0, y3)), (4, (0, y4))], [(0, 32), (0, z52)], v1)) 1 rfl ?_
                          refine e_Ok.if2 rfl (fun h53 => ?_) (fun h53 => ?_)
                          · replace h53 : (z52 : Int) = 32 := h53
                            refine e_Ok.run (t' := (123, [(0, (1, 275)), (2, (0, y2)), (3, (0, y3)), (4, (0, y4))], [(1, 357)], v1)) 1 rfl ?_
                            refine e_Ok.run (t' := (126, [(0, (1, 275)), (2, (0, y2)), (3, (0, y3)), (4, (0, y4))], [(0, y4), (0, y2), (1, 357)], v1)) 2 rfl ?_
                            refine e_Ok.add (z := y2 + y4) rfl (by omega) (by omega) ?_
                            refine e_Ok.sc (by omega) rfl rfl ?_
                            have z54b := kyc_in (y2 + y4)
                            generalize hz54 : kyc (y2 + y4) = z54
                            rw [hz54] at z54b
                            refine e_Ok.run (t' := (132, [(0, (1, 275)), (2, (0, y2)), (3, (0, y3)), (4, (0, y4))], [(0, 32), (0, z54)], v1)) 1 rfl ?_
                            refine e_Ok.if2 rfl (fun h55 => ?_) (fun h55 => ?_)
                            · replace h55 : (z54 : Int) ≠ 32 := h55
                              have hL56 : ∀ (nn : Nat) (z2 : Int), y2 ≤ z2 ∧ z2 ≤ e2 → 171 - z2 < nn → e_Ok 20 elay ecode eI (d + 1) 328 (159, [(0, (1, 275)), (2, (0, z2)), (3, (0, y3))], [], v1) (fun r w' => r = [] ∧ w' 275 86 = t ∧ w' 275 87 = wdF (w 281) N t ∧ ((24 < w' 275 87 - t ∧ w' 275 84 = 5) ∨ (w' 275 87 - t ≤ 24 ∧ ((w' 275 84 = 1 ∧ ∀ k, 0 ≤ k → k ≤ 32 → ¬ kwd (w 281) t (w' 275 87) k) ∨ ∃ k, kwd (w 281) t (w' 275 87) k ∧ w' 275 84 = 4 ∧ w' 275 85 = k)))) := by
                                intro nn
                                induction nn with
                                | zero => intro z2 hj hm; obtain j58 := hj; exfalso; omega
                                | succ nn ih57 =>
                                  intro z2 hj hm
                                  obtain j58 := hj
                                  have hnk : ¬ kwd (w 281) t e y3 := fun q => by obtain ⟨q1, q2⟩ := kwd_to he2 q; first | omega | (have q3 := q2 y4 (by omega) (by omega); omega)
                                  refine e_Ok.run (t' := (162, [(0, (1, 275)), (2, (0, z2)), (3, (0, y3))], [(1, 357)], v1)) 1 rfl ?_
                                  refine e_Ok.run (t' := (163, [(0, (1, 275)), (2, (0, z2)), (3, (0, y3))], [(0, z2), (1, 357)], v1)) 1 rfl ?_
                                  refine e_Ok.sc (by omega) rfl rfl ?_
                                  have z59b := kyc_in (z2)
                                  generalize hz59 : kyc (z2) = z59
                                  rw [hz59] at z59b
                                  refine e_Ok.run (t' := (168, [(0, (1, 275)), (2, (0, z2)), (3, (0, y3))], [(0, 32), (0, z59)], v1)) 1 rfl ?_
                                  refine e_Ok.if2 rfl (fun h60 => ?_) (fun h60 => ?_)
                                  · replace h60 : (z59 : Int) = 32 := h60
                                    have hz2 : z2 = e2 := Decidable.byCases (p := z2 < e2) (fun e => absurd (show kyc z2 = 32 by rw [hz59]; omega) (hw3 _ (by omega) e)) (fun e => by omega)
                                    refine e_Ok.inc (z := z2 + 1) rfl rfl (by omega) (by omega) ?_
                                    show e_Ok 20 elay ecode eI (d + 1) 328 (180, [(2, (0, z2 + 1)), (0, (1, 275)), (3, (0, y3))], [], v1) _
                                    refine e_Ok.inc (z := y3 + 1) rfl rfl (by omega) (by omega) ?_
                                    show e_Ok 20 elay ecode eI (d + 1) 328 (183, [(3, (0, y3 + 1)), (2, (0, z2 + 1)), (0, (1, 275))], [], v1) _
                                    refine e_Ok.run (t' := (62, [(3, (0, y3 + 1)), (2, (0, z2 + 1)), (0, (1, 275))], [], v1)) 1 rfl ?_
                                    refine e_Ok.sub eAlk (e_sub_of rfl ?_) (ih37 (z2 + 1) (y3 + 1) v1 ⟨j38, (by rcases hw2 with g | ⟨g1, g2⟩; (exact Or.inl ⟨by omega, by have g9 := wst_l he2 g; omega⟩); (exact Or.inr (by rw [show z2 + 1 = e2 + 1 by omega]; exact g2))), by omega, j42, (by have g : v1 275 87 = e := j43; omega), (by have u61 : v1 275 84 = v1 275 84 := rfl; omega), (by have u2 : v1 275 85 = v1 275 85 := rfl; omega), (by have u1 : v1 275 84 = v1 275 84 := rfl; have u2 : v1 275 85 = v1 275 85 := rfl; rw [u1, u2]; rcases j46 with ⟨g1, k, g2, g3, g4⟩ | ⟨g1, g2⟩; (exact Or.inl ⟨g1, k, by omega, g3, g4⟩); (exact Or.inr ⟨fun k k0 k1 => (by by_cases gk : k < y3; (exact g1 k k0 gk); (have ek : k = y3 := (by omega); rw [ek]; exact hnk)), g2⟩))⟩ (by omega))
                                    exact ⟨rfl, rfl, rfl, trivial⟩
                                  · replace h60 : (z59 : Int) ≠ 32 := by have q : ¬ ((z59 : Int) = 32) := h60; omega
                                    have hlz : z2 ≠ e2 := fun e => by rw [e, hw1.2.2.2.2.2] at hz59; omega
                                    refine e_Ok.inc (z := z2 + 1) rfl rfl (by omega) (by omega) ?_
                                    show e_Ok 20 elay ecode eI (d + 1) 328 (174, [(2, (0, z2 + 1)), (0, (1, 275)), (3, (0, y3))], [], v1) _
                                    refine e_Ok.run (t' := (159, [(2, (0, z2 + 1)), (0, (1, 275)), (3, (0, y3))], [], v1)) 1 rfl ?_
                                    refine e_Ok.sub eAlk (e_sub_of rfl ?_) (ih57 (z2 + 1) (by omega) (by omega))
                                    exact ⟨rfl, rfl, rfl, trivial⟩
                              refine e_Ok.sub eAlk (e_sub_of rfl ?_) (hL56 (171 + 1 : Int).toNat y2 (by omega) (by omega))
                              exact ⟨rfl, rfl, rfl, trivial⟩
                            · replace h55 : (z54 : Int) = 32 := by have q : ¬ ((z54 : Int) ≠ 32) := h55; omega
                              have hk2 : 2 ≤ y4 := Decidable.byCases (p := y2 + y4 < e2) (fun e => absurd (show kyc (y2 + y4) = 32 by rw [hz54]; omega) (hw3 _ (by omega) e)) (fun e => by omega)
                              have hy4 : y2 + y4 = e2 := Decidable.byCases (p := y2 + y4 < e2) (fun e => absurd (show kyc (y2 + y4) = 32 by rw [hz54]; omega) (hw3 _ (by omega) e)) (fun e => by omega)
                              have hkw : y4 = e - t → kwd (w 281) t e y3 := fun g => kwd_of he2 (by omega) (fun j g1 g2 => j51 j g1 (by omega))
                              refine e_Ok.run (t' := (138, [(0, (1, 275)), (2, (0, y2)), (3, (0, y3)), (4, (0, y4))], [(1, 275), (0, y4)], v1)) 2 rfl ?_
                              refine e_Ok.getf (z := e) rfl rfl rfl rfl j43 (by omega) ?_
                              refine e_Ok.run (t' := (142, [(0, (1, 275)), (2, (0, y2)), (3, (0, y3)), (4, (0, y4))], [(1, 275), (0, e), (0, y4)], v1)) 1 rfl ?_
                              refine e_Ok.getf (z := t) rfl rfl rfl rfl j42 (by omega) ?_
                              refine e_Ok.sub' (z := e - t) rfl (by omega) (by omega) ?_
                              refine e_Ok.if2 rfl (fun h62 => ?_) (fun h62 => ?_)
                              · replace h62 : (y4 : Int) ≠ e - t := h62
                                have hL63 : ∀ (nn : Nat) (z2 : Int), y2 ≤ z2 ∧ z2 ≤ e2 → 171 - z2 < nn → e_Ok 20 elay ecode eI (d + 1) 328 (159, [(0, (1, 275)), (2, (0, z2)), (3, (0, y3))], [], v1) (fun r w' => r = [] ∧ w' 275 86 = t ∧ w' 275 87 = wdF (w 281) N t ∧ ((24 < w' 275 87 - t ∧ w' 275 84 = 5) ∨ (w' 275 87 - t ≤ 24 ∧ ((w' 275 84 = 1 ∧ ∀ k, 0 ≤ k → k ≤ 32 → ¬ kwd (w 281) t (w' 275 87) k) ∨ ∃ k, kwd (w 281) t (w' 275 87) k ∧ w' 275 84 = 4 ∧ w' 275 85 = k)))) := by
                                  intro nn
                                  induction nn with
                                  | zero => intro z2 hj hm; obtain j65 := hj; exfalso; omega
                                  | succ nn ih64 =>
                                    intro z2 hj hm
                                    obtain j65 := hj
                                    have hnk : ¬ kwd (w 281) t e y3 := fun q => by obtain ⟨q1, q2⟩ := kwd_to he2 q; first | omega | (have q3 := q2 y4 (by omega) (by omega); omega)
                                    refine e_Ok.run (t' := (162, [(0, (1, 275)), (2, (0, z2)), (3, (0, y3))], [(1, 357)], v1)) 1 rfl ?_
                                    refine e_Ok.run (t' := (163, [(0, (1, 275)), (2, (0, z2)), (3, (0, y3))], [(0, z2), (1, 357)], v1)) 1 rfl ?_
                                    refine e_Ok.sc (by omega) rfl rfl ?_
                                    have z66b := kyc_in (z2)
                                    generalize hz66 : kyc (z2) = z66
                                    rw [hz66] at z66b
                                    refine e_Ok.run (t' := (168, [(0, (1, 275)), (2, (0, z2)), (3, (0, y3))], [(0, 32), (0, z66)], v1)) 1 rfl ?_
                                    refine e_Ok.if2 rfl (fun h67 => ?_) (fun h67 => ?_)
                                    · replace h67 : (z66 : Int) = 32 := h67
                                      have hz2 : z2 = e2 := Decidable.byCases (p := z2 < e2) (fun e => absurd (show kyc z2 = 32 by rw [hz66]; omega) (hw3 _ (by omega) e)) (fun e => by omega)
                                      refine e_Ok.inc (z := z2 + 1) rfl rfl (by omega) (by omega) ?_
                                      show e_Ok 20 elay ecode eI (d + 1) 328 (180, [(2, (0, z2 + 1)), (0, (1, 275)), (3, (0, y3))], [], v1) _
                                      refine e_Ok.inc (z := y3 + 1) rfl rfl (by omega) (by omega) ?_
                                      show e_Ok 20 elay ecode eI (d + 1) 328 (183, [(3, (0, y3 + 1)), (2, (0, z2 + 1)), (0, (1, 275))], [], v1) _
                                      refine e_Ok.run (t' := (62, [(3, (0, y3 + 1)), (2, (0, z2 + 1)), (0, (1, 275))], [], v1)) 1 rfl ?_
                                      refine e_Ok.sub eAlk (e_sub_of rfl ?_) (ih37 (z2 + 1) (y3 + 1) v1 ⟨j38, (by rcases hw2 with g | ⟨g1, g2⟩; (exact Or.inl ⟨by omega, by have g9 := wst_l he2 g; omega⟩); (exact Or.inr (by rw [show z2 + 1 = e2 + 1 by omega]; exact g2))), by omega, j42, (by have g : v1 275 87 = e := j43; omega), (by have u68 : v1 275 84 = v1 275 84 := rfl; omega), (by have u2 : v1 275 85 = v1 275 85 := rfl; omega), (by have u1 : v1 275 84 = v1 275 84 := rfl; have u2 : v1 275 85 = v1 275 85 := rfl; rw [u1, u2]; rcases j46 with ⟨g1, k, g2, g3, g4⟩ | ⟨g1, g2⟩; (exact Or.inl ⟨g1, k, by omega, g3, g4⟩); (exact Or.inr ⟨fun k k0 k1 => (by by_cases gk : k < y3; (exact g1 k k0 gk); (have ek : k = y3 := (by omega); rw [ek]; exact hnk)), g2⟩))⟩ (by omega))
                                      exact ⟨rfl, rfl, rfl, trivial⟩
                                    · replace h67 : (z66 : Int) ≠ 32 := by have q : ¬ ((z66 : Int) = 32) := h67; omega
                                      have hlz : z2 ≠ e2 := fun e => by rw [e, hw1.2.2.2.2.2] at hz66; omega
                                      refine e_Ok.inc (z := z2 + 1) rfl rfl (by omega) (by omega) ?_
                                      show e_Ok 20 elay ecode eI (d + 1) 328 (174, [(2, (0, z2 + 1)), (0, (1, 275)), (3, (0, y3))], [], v1) _
                                      refine e_Ok.run (t' := (159, [(2, (0, z2 + 1)), (0, (1, 275)), (3, (0, y3))], [], v1)) 1 rfl ?_
                                      refine e_Ok.sub eAlk (e_sub_of rfl ?_) (ih64 (z2 + 1) (by omega) (by omega))
                                      exact ⟨rfl, rfl, rfl, trivial⟩
                                refine e_Ok.sub eAlk (e_sub_of rfl ?_) (hL63 (171 + 1 : Int).toNat y2 (by omega) (by omega))
                                exact ⟨rfl, rfl, rfl, trivial⟩
                              · replace h62 : (y4 : Int) = e - t := by have q : ¬ ((y4 : Int) ≠ e - t) := h62; omega
                                refine e_Ok.run (t' := (151, [(0, (1, 275)), (2, (0, y2)), (3, (0, y3)), (4, (0, y4))], [(0, 4), (1, 275)], v1)) 2 rfl ?_
                                refine e_Ok.putf rfl rfl rfl rfl ?_
                                generalize hw69 : e_up v1 275 84 4 = w69
                                have f70 : e_fr mTq w w69 := e_fr.up j38 hw69 (by unfold mTq; omega)
                                refine e_Ok.run (t' := (156, [(0, (1, 275)), (2, (0, y2)), (3, (0, y3)), (4, (0, y4))], [(0, y3), (1, 275)], w69)) 2 rfl ?_
                                refine e_Ok.putf rfl rfl rfl rfl ?_
                                generalize hw71 : e_up w69 275 85 y3 = w71
                                have f72 : e_fr mTq w w71 := e_fr.up f70 hw71 (by unfold mTq; omega)
                                have hL73 : ∀ (nn : Nat) (z2 : Int), y2 ≤ z2 ∧ z2 ≤ e2 → 171 - z2 < nn → e_Ok 20 elay ecode eI (d + 1) 328 (159, [(0, (1, 275)), (2, (0, z2)), (3, (0, y3))], [], w71) (fun r w' => r = [] ∧ w' 275 86 = t ∧ w' 275 87 = wdF (w 281) N t ∧ ((24 < w' 275 87 - t ∧ w' 275 84 = 5) ∨ (w' 275 87 - t ≤ 24 ∧ ((w' 275 84 = 1 ∧ ∀ k, 0 ≤ k → k ≤ 32 → ¬ kwd (w 281) t (w' 275 87) k) ∨ ∃ k, kwd (w 281) t (w' 275 87) k ∧ w' 275 84 = 4 ∧ w' 275 85 = k)))) := by
                                  intro nn
                                  induction nn with
                                  | zero => intro z2 hj hm; obtain j75 := hj; exfalso; omega
                                  | succ nn ih74 =>
                                    intro z2 hj hm
                                    obtain j75 := hj
                                    refine e_Ok.run (t' := (162, [(0, (1, 275)), (2, (0, z2)), (3, (0, y3))], [(1, 357)], w71)) 1 rfl ?_
                                    refine e_Ok.run (t' := (163, [(0, (1, 275)), (2, (0, z2)), (3, (0, y3))], [(0, z2), (1, 357)], w71)) 1 rfl ?_
                                    refine e_Ok.sc (by omega) rfl rfl ?_
                                    have z76b := kyc_in (z2)
                                    generalize hz76 : kyc (z2) = z76
                                    rw [hz76] at z76b
                                    refine e_Ok.run (t' := (168, [(0, (1, 275)), (2, (0, z2)), (3, (0, y3))], [(0, 32), (0, z76)], w71)) 1 rfl ?_
                                    refine e_Ok.if2 rfl (fun h77 => ?_) (fun h77 => ?_)
                                    · replace h77 : (z76 : Int) = 32 := h77
                                      have hz2 : z2 = e2 := Decidable.byCases (p := z2 < e2) (fun e => absurd (show kyc z2 = 32 by rw [hz76]; omega) (hw3 _ (by omega) e)) (fun e => by omega)
                                      refine e_Ok.inc (z := z2 + 1) rfl rfl (by omega) (by omega) ?_
                                      show e_Ok 20 elay ecode eI (d + 1) 328 (180, [(2, (0, z2 + 1)), (0, (1, 275)), (3, (0, y3))], [], w71) _
                                      refine e_Ok.inc (z := y3 + 1) rfl rfl (by omega) (by omega) ?_
                                      show e_Ok 20 elay ecode eI (d + 1) 328 (183, [(3, (0, y3 + 1)), (2, (0, z2 + 1)), (0, (1, 275))], [], w71) _
                                      refine e_Ok.run (t' := (62, [(3, (0, y3 + 1)), (2, (0, z2 + 1)), (0, (1, 275))], [], w71)) 1 rfl ?_
                                      refine e_Ok.sub eAlk (e_sub_of rfl ?_) (ih37 (z2 + 1) (y3 + 1) w71 ⟨f72, (by rcases hw2 with g | ⟨g1, g2⟩; (exact Or.inl ⟨by omega, by have g9 := wst_l he2 g; omega⟩); (exact Or.inr (by rw [show z2 + 1 = e2 + 1 by omega]; exact g2))), by omega, (by rw [← hw71]; exact (e_up_ne _ _ (Or.inr (by omega))).trans (by rw [← hw69]; exact (e_up_ne _ _ (Or.inr (by omega))).trans j42)), (by have g : w71 275 87 = e := (by rw [← hw71]; exact (e_up_ne _ _ (Or.inr (by omega))).trans (by rw [← hw69]; exact (e_up_ne _ _ (Or.inr (by omega))).trans j43)); omega), (by have u78 : w71 275 84 = 4 := (by rw [← hw71]; exact (e_up_ne _ _ (Or.inr (by omega))).trans (by rw [← hw69]; exact e_up_eq _ _ _ _)); omega), (by have u2 : w71 275 85 = y3 := (by rw [← hw71]; exact e_up_eq _ _ _ _); omega), (by have u1 : w71 275 84 = 4 := (by rw [← hw71]; exact (e_up_ne _ _ (Or.inr (by omega))).trans (by rw [← hw69]; exact e_up_eq _ _ _ _)); have u2 : w71 275 85 = y3 := (by rw [← hw71]; exact e_up_eq _ _ _ _); exact Or.inl ⟨u1, y3, by omega, hkw (by omega), u2⟩)⟩ (by omega))
                                      exact ⟨rfl, rfl, rfl, trivial⟩
                                    · replace h77 : (z76 : Int) ≠ 32 := by have q : ¬ ((z76 : Int) = 32) := h77; omega
                                      have hlz : z2 ≠ e2 := fun e => by rw [e, hw1.2.2.2.2.2] at hz76; omega
                                      refine e_Ok.inc (z := z2 + 1) rfl rfl (by omega) (by omega) ?_
                                      show e_Ok 20 elay ecode eI (d + 1) 328 (174, [(2, (0, z2 + 1)), (0, (1, 275)), (3, (0, y3))], [], w71) _
                                      refine e_Ok.run (t' := (159, [(2, (0, z2 + 1)), (0, (1, 275)), (3, (0, y3))], [], w71)) 1 rfl ?_
                                      refine e_Ok.sub eAlk (e_sub_of rfl ?_) (ih74 (z2 + 1) (by omega) (by omega))
                                      exact ⟨rfl, rfl, rfl, trivial⟩
                                refine e_Ok.sub eAlk (e_sub_of rfl ?_) (hL73 (171 + 1 : Int).toNat y2 (by omega) (by omega))
                                exact ⟨rfl, rfl, rfl, trivial⟩
                          · replace h53 : (z52 : Int) ≠ 32 := by have q : ¬ ((z52 : Int) = 32) := h53; omega
                            have hlt : y2 + y4 ≠ e2 := fun e => by rw [e, hw1.2.2.2.2.2] at hz52; omega
                            refine e_Ok.run (t' := (93, [(0, (1, 275)), (2, (0, y2)), (3, (0, y3)), (4, (0, y4))], [(1, 357)], v1)) 1 rfl ?_
                            refine e_Ok.run (t' := (96, [(0, (1, 275)), (2, (0, y2)), (3, (0, y3)), (4, (0, y4))], [(0, y4), (0, y2), (1, 357)], v1)) 2 rfl ?_
                            refine e_Ok.add (z := y2 + y4) rfl (by omega) (by omega) ?_
                            refine e_Ok.sc (by omega) rfl rfl ?_
                            have z79b := kyc_in (y2 + y4)
                            generalize hz79 : kyc (y2 + y4) = z79
                            rw [hz79] at z79b
                            refine e_Ok.run (t' := (102, [(0, (1, 275)), (2, (0, y2)), (3, (0, y3)), (4, (0, y4))], [(1, 275), (1, 275), (0, z79)], v1)) 2 rfl ?_
                            refine e_Ok.getf (z := t) rfl rfl rfl rfl j42 (by omega) ?_
                            refine e_Ok.run (t' := (107, [(0, (1, 275)), (2, (0, y2)), (3, (0, y3)), (4, (0, y4))], [(0, y4), (0, t), (1, 275), (0, z79)], v1)) 1 rfl ?_
                            refine e_Ok.add (z := t + y4) rfl (by omega) (by omega) ?_
                            refine e_Ok.callV rfl (by omega) rfl rfl rfl rfl (l_326 (mLT_Tq j38 hT) (mLH_Tq j38 hH) (((j38 275 9 (by unfold mTq; omega)).trans hN)) hNr (by omega)) (fun r80 w81 h82 => ?_)
                            obtain ⟨z83, rfl, rfl, q84⟩ := h82
                            rw [show v1 281 (t + y4) = w 281 (t + y4) from j38 281 _ (by unfold mTq; omega)] at q84
                            show e_Ok 20 elay ecode eI (d + 1) 328 (111, [(0, (1, 275)), (2, (0, y2)), (3, (0, y3)), (4, (0, y4))], [(0, z83), (0, z79)], v1) _
                            refine e_Ok.if2 rfl (fun h85 => ?_) (fun h85 => ?_)
                            · replace h85 : (z79 : Int) ≠ z83 := h85
                              refine e_Ok.run (t' := (123, [(0, (1, 275)), (2, (0, y2)), (3, (0, y3)), (4, (0, y4))], [(1, 357)], v1)) 1 rfl ?_
                              refine e_Ok.run (t' := (126, [(0, (1, 275)), (2, (0, y2)), (3, (0, y3)), (4, (0, y4))], [(0, y4), (0, y2), (1, 357)], v1)) 2 rfl ?_
                              refine e_Ok.add (z := y2 + y4) rfl (by omega) (by omega) ?_
                              refine e_Ok.sc (by omega) rfl rfl ?_
                              have z86b := kyc_in (y2 + y4)
                              generalize hz86 : kyc (y2 + y4) = z86
                              rw [hz86] at z86b
                              refine e_Ok.run (t' := (132, [(0, (1, 275)), (2, (0, y2)), (3, (0, y3)), (4, (0, y4))], [(0, 32), (0, z86)], v1)) 1 rfl ?_
                              refine e_Ok.if2 rfl (fun h87 => ?_) (fun h87 => ?_)
                              · replace h87 : (z86 : Int) ≠ 32 := h87
                                have hL88 : ∀ (nn : Nat) (z2 : Int), y2 ≤ z2 ∧ z2 ≤ e2 → 171 - z2 < nn → e_Ok 20 elay ecode eI (d + 1) 328 (159, [(0, (1, 275)), (2, (0, z2)), (3, (0, y3))], [], v1) (fun r w' => r = [] ∧ w' 275 86 = t ∧ w' 275 87 = wdF (w 281) N t ∧ ((24 < w' 275 87 - t ∧ w' 275 84 = 5) ∨ (w' 275 87 - t ≤ 24 ∧ ((w' 275 84 = 1 ∧ ∀ k, 0 ≤ k → k ≤ 32 → ¬ kwd (w 281) t (w' 275 87) k) ∨ ∃ k, kwd (w 281) t (w' 275 87) k ∧ w' 275 84 = 4 ∧ w' 275 85 = k)))) := by
                                  intro nn
                                  induction nn with
                                  | zero => intro z2 hj hm; obtain j90 := hj; exfalso; omega
                                  | succ nn ih89 =>
                                    intro z2 hj hm
                                    obtain j90 := hj
                                    have hnk : ¬ kwd (w 281) t e y3 := fun q => by obtain ⟨q1, q2⟩ := kwd_to he2 q; first | omega | (have q3 := q2 y4 (by omega) (by omega); omega)
                                    refine e_Ok.run (t' := (162, [(0, (1, 275)), (2, (0, z2)), (3, (0, y3))], [(1, 357)], v1)) 1 rfl ?_
                                    refine e_Ok.run (t' := (163, [(0, (1, 275)), (2, (0, z2)), (3, (0, y3))], [(0, z2), (1, 357)], v1)) 1 rfl ?_
                                    refine e_Ok.sc (by omega) rfl rfl ?_
                                    have z91b := kyc_in (z2)
                                    generalize hz91 : kyc (z2) = z91
                                    rw [hz91] at z91b
                                    refine e_Ok.run (t' := (168, [(0, (1, 275)), (2, (0, z2)), (3, (0, y3))], [(0, 32), (0, z91)], v1)) 1 rfl ?_
                                    refine e_Ok.if2 rfl (fun h92 => ?_) (fun h92 => ?_)
                                    · replace h92 : (z91 : Int) = 32 := h92
                                      have hz2 : z2 = e2 := Decidable.byCases (p := z2 < e2) (fun e => absurd (show kyc z2 = 32 by rw [hz91]; omega) (hw3 _ (by omega) e)) (fun e => by omega)
                                      refine e_Ok.inc (z := z2 + 1) rfl rfl (by omega) (by omega) ?_
                                      show e_Ok 20 elay ecode eI (d + 1) 328 (180, [(2, (0, z2 + 1)), (0, (1, 275)), (3, (0, y3))], [], v1) _
                                      refine e_Ok.inc (z := y3 + 1) rfl rfl (by omega) (by omega) ?_
                                      show e_Ok 20 elay ecode eI (d + 1) 328 (183, [(3, (0, y3 + 1)), (2, (0, z2 + 1)), (0, (1, 275))], [], v1) _
                                      refine e_Ok.run (t' := (62, [(3, (0, y3 + 1)), (2, (0, z2 + 1)), (0, (1, 275))], [], v1)) 1 rfl ?_
                                      refine e_Ok.sub eAlk (e_sub_of rfl ?_) (ih37 (z2 + 1) (y3 + 1) v1 ⟨j38, (by rcases hw2 with g | ⟨g1, g2⟩; (exact Or.inl ⟨by omega, by have g9 := wst_l he2 g; omega⟩); (exact Or.inr (by rw [show z2 + 1 = e2 + 1 by omega]; exact g2))), by omega, j42, (by have g : v1 275 87 = e := j43; omega), (by have u93 : v1 275 84 = v1 275 84 := rfl; omega), (by have u2 : v1 275 85 = v1 275 85 := rfl; omega), (by have u1 : v1 275 84 = v1 275 84 := rfl; have u2 : v1 275 85 = v1 275 85 := rfl; rw [u1, u2]; rcases j46 with ⟨g1, k, g2, g3, g4⟩ | ⟨g1, g2⟩; (exact Or.inl ⟨g1, k, by omega, g3, g4⟩); (exact Or.inr ⟨fun k k0 k1 => (by by_cases gk : k < y3; (exact g1 k k0 gk); (have ek : k = y3 := (by omega); rw [ek]; exact hnk)), g2⟩))⟩ (by omega))
                                      exact ⟨rfl, rfl, rfl, trivial⟩
                                    · replace h92 : (z91 : Int) ≠ 32 := by have q : ¬ ((z91 : Int) = 32) := h92; omega
                                      have hlz : z2 ≠ e2 := fun e => by rw [e, hw1.2.2.2.2.2] at hz91; omega
                                      refine e_Ok.inc (z := z2 + 1) rfl rfl (by omega) (by omega) ?_
                                      show e_Ok 20 elay ecode eI (d + 1) 328 (174, [(2, (0, z2 + 1)), (0, (1, 275)), (3, (0, y3))], [], v1) _
                                      refine e_Ok.run (t' := (159, [(2, (0, z2 + 1)), (0, (1, 275)), (3, (0, y3))], [], v1)) 1 rfl ?_
                                      refine e_Ok.sub eAlk (e_sub_of rfl ?_) (ih89 (z2 + 1) (by omega) (by omega))
                                      exact ⟨rfl, rfl, rfl, trivial⟩
                                refine e_Ok.sub eAlk (e_sub_of rfl ?_) (hL88 (171 + 1 : Int).toNat y2 (by omega) (by omega))
                                exact ⟨rfl, rfl, rfl, trivial⟩
                              · replace h87 : (z86 : Int) = 32 := by have q : ¬ ((z86 : Int) ≠ 32) := h87; omega
                                have hk2 : 2 ≤ y4 := Decidable.byCases (p := y2 + y4 < e2) (fun e => absurd (show kyc (y2 + y4) = 32 by rw [hz86]; omega) (hw3 _ (by omega) e)) (fun e => by omega)
                                have hy4 : y2 + y4 = e2 := Decidable.byCases (p := y2 + y4 < e2) (fun e => absurd (show kyc (y2 + y4) = 32 by rw [hz86]; omega) (hw3 _ (by omega) e)) (fun e => by omega)
                                have hkw : y4 = e - t → kwd (w 281) t e y3 := fun g => kwd_of he2 (by omega) (fun j g1 g2 => j51 j g1 (by omega))
                                refine e_Ok.run (t' := (138, [(0, (1, 275)), (2, (0, y2)), (3, (0, y3)), (4, (0, y4))], [(1, 275), (0, y4)], v1)) 2 rfl ?_
                                refine e_Ok.getf (z := e) rfl rfl rfl rfl j43 (by omega) ?_
                                refine e_Ok.run (t' := (142, [(0, (1, 275)), (2, (0, y2)), (3, (0, y3)), (4, (0, y4))], [(1, 275), (0, e), (0, y4)], v1)) 1 rfl ?_
                                refine e_Ok.getf (z := t) rfl rfl rfl rfl j42 (by omega) ?_
                                refine e_Ok.sub' (z := e - t) rfl (by omega) (by omega) ?_
                                refine e_Ok.if2 rfl (fun h94 => ?_) (fun h94 => ?_)
                                · replace h94 : (y4 : Int) ≠ e - t := h94
                                  have hL95 : ∀ (nn : Nat) (z2 : Int), y2 ≤ z2 ∧ z2 ≤ e2 → 171 - z2 < nn → e_Ok 20 elay ecode eI (d + 1) 328 (159, [(0, (1, 275)), (2, (0, z2)), (3, (0, y3))], [], v1) (fun r w' => r = [] ∧ w' 275 86 = t ∧ w' 275 87 = wdF (w 281) N t ∧ ((24 < w' 275 87 - t ∧ w' 275 84 = 5) ∨ (w' 275 87 - t ≤ 24 ∧ ((w' 275 84 = 1 ∧ ∀ k, 0 ≤ k → k ≤ 32 → ¬ kwd (w 281) t (w' 275 87) k) ∨ ∃ k, kwd (w 281) t (w' 275 87) k ∧ w' 275 84 = 4 ∧ w' 275 85 = k)))) := by
                                    intro nn
                                    induction nn with
                                    | zero => intro z2 hj hm; obtain j103 := hj; exfalso; omega
                                    | succ nn ih101 =>
                                      intro z2 hj hm
                                      obtain j103 := hj
                                      have hnk : ¬ kwd (w 281) t e y3 := fun q => by obtain ⟨q1, q2⟩ := kwd_to he2 q; first | omega | (have q3 := q2 y4 (by omega) (by omega); omega)
                                      refine e_Ok.run (t' := (162, [(0, (1, 275)), (2, (0, z2)), (3, (0, y3))], [(1, 357)], v1)) 1 rfl ?_
                                      refine e_Ok.run (t' := (163, [(0, (1, 275)), (2, (0, z2)), (3, (0, y3))], [(0, z2), (1, 357)], v1)) 1 rfl ?_
                                      refine e_Ok.sc (by omega) rfl rfl ?_
                                      have z104b := kyc_in (z2)
                                      generalize hz104 : kyc (z2) = z104
                                      rw [hz104] at z104b
                                      refine e_Ok.run (t' := (168, [(0, (1, 275)), (2, (0, z2)), (3, (0, y3))], [(0, 32), (0, z104)], v1)) 1 rfl ?_
                                      refine e_Ok.if2 rfl (fun h105 => ?_) (fun h105 => ?_)
                                      · replace h105 : (z104 : Int) = 32 := h105
                                        have hz2 : z2 = e2 := Decidable.byCases (p := z2 < e2) (fun e => absurd (show kyc z2 = 32 by rw [hz104]; omega) (hw3 _ (by omega) e)) (fun e => by omega)
                                        refine e_Ok.inc (z := z2 + 1) rfl rfl (by omega) (by omega) ?_
                                        show e_Ok 20 elay ecode eI (d + 1) 328 (180, [(2, (0, z2 + 1)), (0, (1, 275)), (3, (0, y3))], [], v1) _
                                        refine e_Ok.inc (z := y3 + 1) rfl rfl (by omega) (by omega) ?_
                                        show e_Ok 20 elay ecode eI (d + 1) 328 (183, [(3, (0, y3 + 1)), (2, (0, z2 + 1)), (0, (1, 275))], [], v1) _
                                        refine e_Ok.run (t' := (62, [(3, (0, y3 + 1)), (2, (0, z2 + 1)), (0, (1, 275))], [], v1)) 1 rfl ?_
                                        refine e_Ok.sub eAlk (e_sub_of rfl ?_) (ih37 (z2 + 1) (y3 + 1) v1 ⟨j38, (by rcases hw2 with g | ⟨g1, g2⟩; (exact Or.inl ⟨by omega, by have g9 := wst_l he2 g; omega⟩); (exact Or.inr (by rw [show z2 + 1 = e2 + 1 by omega]; exact g2))), by omega, j42, (by have g : v1 275 87 = e := j43; omega), (by have u106 : v1 275 84 = v1 275 84 := rfl; omega), (by have u2 : v1 275 85 = v1 275 85 := rfl; omega), (by have u1 : v1 275 84 = v1 275 84 := rfl; have u2 : v1 275 85 = v1 275 85 := rfl; rw [u1, u2]; rcases j46 with ⟨g1, k, g2, g3, g4⟩ | ⟨g1, g2⟩; (exact Or.inl ⟨g1, k, by omega, g3, g4⟩); (exact Or.inr ⟨fun k k0 k1 => (by by_cases gk : k < y3; (exact g1 k k0 gk); (have ek : k = y3 := (by omega); rw [ek]; exact hnk)), g2⟩))⟩ (by omega))
                                        exact ⟨rfl, rfl, rfl, trivial⟩
                                      · replace h105 : (z104 : Int) ≠ 32 := by have q : ¬ ((z104 : Int) = 32) := h105; omega
                                        have hlz : z2 ≠ e2 := fun e => by rw [e, hw1.2.2.2.2.2] at hz104; omega
                                        refine e_Ok.inc (z := z2 + 1) rfl rfl (by omega) (by omega) ?_
                                        show e_Ok 20 elay ecode eI (d + 1) 328 (174, [(2, (0, z2 + 1)), (0, (1, 275)), (3, (0, y3))], [], v1) _
                                        refine e_Ok.run (t' := (159, [(2, (0, z2 + 1)), (0, (1, 275)), (3, (0, y3))], [], v1)) 1 rfl ?_
                                        refine e_Ok.sub eAlk (e_sub_of rfl ?_) (ih101 (z2 + 1) (by omega) (by omega))
                                        exact ⟨rfl, rfl, rfl, trivial⟩
                                  refine e_Ok.sub eAlk (e_sub_of rfl ?_) (hL95 (171 + 1 : Int).toNat y2 (by omega) (by omega))
                                  exact ⟨rfl, rfl, rfl, trivial⟩
                                · replace h94 : (y4 : Int) = e - t := by have q : ¬ ((y4 : Int) ≠ e - t) := h94; omega
                                  refine e_Ok.run (t' := (151, [(0, (1, 275)), (2, (0, y2)), (3, (0, y3)), (4, (0, y4))], [(0, 4), (1, 275)], v1)) 2 rfl ?_
                                  refine e_Ok.putf rfl rfl rfl rfl ?_
                                  generalize hw107 : e_up v1 275 84 4 = w107
                                  have f108 : e_fr mTq w w107 := e_fr.up j38 hw107 (by unfold mTq; omega)
                                  refine e_Ok.run (t' := (156, [(0, (1, 275)), (2, (0, y2)), (3, (0, y3)), (4, (0, y4))], [(0, y3), (1, 275)], w107)) 2 rfl ?_
                                  refine e_Ok.putf rfl rfl rfl rfl ?_
                                  generalize hw109 : e_up w107 275 85 y3 = w109
                                  have f110 : e_fr mTq w w109 := e_fr.up f108 hw109 (by unfold mTq; omega)
                                  have hL111 : ∀ (nn : Nat) (z2 : Int), y2 ≤ z2 ∧ z2 ≤ e2 → 171 - z2 < nn → e_Ok 20 elay ecode eI (d + 1) 328 (159, [(0, (1, 275)), (2, (0, z2)), (3, (0, y3))], [], w109) (fun r w' => r = [] ∧ w' 275 86 = t ∧ w' 275 87 = wdF (w 281) N t ∧ ((24 < w' 275 87 - t ∧ w' 275 84 = 5) ∨ (w' 275 87 - t ≤ 24 ∧ ((w' 275 84 = 1 ∧ ∀ k, 0 ≤ k → k ≤ 32 → ¬ kwd (w 281) t (w' 275 87) k) ∨ ∃ k, kwd (w 281) t (w' 275 87) k ∧ w' 275 84 = 4 ∧ w' 275 85 = k)))) := by
                                    intro nn
                                    induction nn with
                                    | zero => intro z2 hj hm; obtain j113 := hj; exfalso; omega
                                    | succ nn ih112 =>
                                      intro z2 hj hm
                                      obtain j113 := hj
                                      refine e_Ok.run (t' := (162, [(0, (1, 275)), (2, (0, z2)), (3, (0, y3))], [(1, 357)], w109)) 1 rfl ?_
                                      refine e_Ok.run (t' := (163, [(0, (1, 275)), (2, (0, z2)), (3, (0, y3))], [(0, z2), (1, 357)], w109)) 1 rfl ?_
                                      refine e_Ok.sc (by omega) rfl rfl ?_
                                      have z114b := kyc_in (z2)
                                      generalize hz114 : kyc (z2) = z114
                                      rw [hz114] at z114b
                                      refine e_Ok.run (t' := (168, [(0, (1, 275)), (2, (0, z2)), (3, (0, y3))], [(0, 32), (0, z114)], w109)) 1 rfl ?_
                                      refine e_Ok.if2 rfl (fun h115 => ?_) (fun h115 => ?_)
                                      · replace h115 : (z114 : Int) = 32 := h115
                                        have hz2 : z2 = e2 := Decidable.byCases (p := z2 < e2) (fun e => absurd (show kyc z2 = 32 by rw [hz114]; omega) (hw3 _ (by omega) e)) (fun e => by omega)
                                        refine e_Ok.inc (z := z2 + 1) rfl rfl (by omega) (by omega) ?_
                                        show e_Ok 20 elay ecode eI (d + 1) 328 (180, [(2, (0, z2 + 1)), (0, (1, 275)), (3, (0, y3))], [], w109) _
                                        refine e_Ok.inc (z := y3 + 1) rfl rfl (by omega) (by omega) ?_
                                        show e_Ok 20 elay ecode eI (d + 1) 328 (183, [(3, (0, y3 + 1)), (2, (0, z2 + 1)), (0, (1, 275))], [], w109) _
                                        refine e_Ok.run (t' := (62, [(3, (0, y3 + 1)), (2, (0, z2 + 1)), (0, (1, 275))], [], w109)) 1 rfl ?_
                                        refine e_Ok.sub eAlk (e_sub_of rfl ?_) (ih37 (z2 + 1) (y3 + 1) w109 ⟨f110, (by rcases hw2 with g | ⟨g1, g2⟩; (exact Or.inl ⟨by omega, by have g9 := wst_l he2 g; omega⟩); (exact Or.inr (by rw [show z2 + 1 = e2 + 1 by omega]; exact g2))), by omega, (by rw [← hw109]; exact (e_up_ne _ _ (Or.inr (by omega))).trans (by rw [← hw107]; exact (e_up_ne _ _ (Or.inr (by omega))).trans j42)), (by have g : w109 275 87 = e := (by rw [← hw109]; exact (e_up_ne _ _ (Or.inr (by omega))).trans (by rw [← hw107]; exact (e_up_ne _ _ (Or.inr (by omega))).trans j43)); omega), (by have u116 : w109 275 84 = 4 := (by rw [← hw109]; exact (e_up_ne _ _ (Or.inr (by omega))).trans (by rw [← hw107]; exact e_up_eq _ _ _ _)); omega), (by have u2 : w109 275 85 = y3 := (by rw [← hw109]; exact e_up_eq _ _ _ _); omega), (by have u1 : w109 275 84 = 4 := (by rw [← hw109]; exact (e_up_ne _ _ (Or.inr (by omega))).trans (by rw [← hw107]; exact e_up_eq _ _ _ _)); have u2 : w109 275 85 = y3 := (by rw [← hw109]; exact e_up_eq _ _ _ _); exact Or.inl ⟨u1, y3, by omega, hkw (by omega), u2⟩)⟩ (by omega))
                                        exact ⟨rfl, rfl, rfl, trivial⟩
                                      · replace h115 : (z114 : Int) ≠ 32 := by have q : ¬ ((z114 : Int) = 32) := h115; omega
                                        have hlz : z2 ≠ e2 := fun e => by rw [e, hw1.2.2.2.2.2] at hz114; omega
                                        refine e_Ok.inc (z := z2 + 1) rfl rfl (by omega) (by omega) ?_
                                        show e_Ok 20 elay ecode eI (d + 1) 328 (174, [(2, (0, z2 + 1)), (0, (1, 275)), (3, (0, y3))], [], w109) _
                                        refine e_Ok.run (t' := (159, [(2, (0, z2 + 1)), (0, (1, 275)), (3, (0, y3))], [], w109)) 1 rfl ?_
                                        refine e_Ok.sub eAlk (e_sub_of rfl ?_) (ih112 (z2 + 1) (by omega) (by omega))
                                        exact ⟨rfl, rfl, rfl, trivial⟩
                                  refine e_Ok.sub eAlk (e_sub_of rfl ?_) (hL111 (171 + 1 : Int).toNat y2 (by omega) (by omega))
                                  exact ⟨rfl, rfl, rfl, trivial⟩
                            · replace h85 : (z79 : Int) = z83 := by have q : ¬ ((z79 : Int) ≠ z83) := h85; omega
                              refine e_Ok.inc (z := y4 + 1) rfl rfl (by omega) (by omega) ?_
                              show e_Ok 20 elay ecode eI (d + 1) 328 (117, [(4, (0, y4 + 1)), (0, (1, 275)), (2, (0, y2)), (3, (0, y3))], [], v1) _
                              refine e_Ok.run (t' := (75, [(4, (0, y4 + 1)), (0, (1, 275)), (2, (0, y2)), (3, (0, y3))], [], v1)) 1 rfl ?_
                              refine e_Ok.sub eAlk (e_sub_of rfl ?_) (ih49 (y4 + 1) ⟨by omega, (fun j g1 g2 => by by_cases gj : j < y4; (exact j51 j g1 gj); (have ej : j = y4 := (by omega); have pz := kyc_p (i := y2 + y4) (by omega); rw [ej]; omega))⟩ (by omega))
                              exact ⟨rfl, rfl, rfl, rfl, trivial⟩
                      refine e_Ok.sub eAlk (e_sub_of rfl ?_) (hL48 (171 + 1 : Int).toNat 0 ⟨by omega, (fun j g1 g2 => by omega)⟩ (by omega))
                      exact ⟨rfl, rfl, rfl, rfl, trivial⟩
                refine e_Ok.sub eAlk (e_sub_of rfl ?_) (hL36 (172 + 1 : Int).toNat 0 0 w33 ⟨f34, (Or.inr ⟨3, by decide⟩), by omega, (by rw [← hw33]; exact (e_up_ne _ _ (Or.inr (by omega))).trans (by rw [← hw30]; exact (e_up_ne _ _ (Or.inr (by omega))).trans ht)), (by have g : w33 275 87 = y1 := (by rw [← hw33]; exact (e_up_ne _ _ (Or.inr (by omega))).trans (by rw [← hw30]; exact e_up_eq _ _ _ _)); omega), (by have u35 : w33 275 84 = 1 := (by rw [← hw33]; exact e_up_eq _ _ _ _); omega), (by have u2 : w33 275 85 = w 275 85 := (by rw [← hw33]; exact (e_up_ne _ _ (Or.inr (by omega))).trans (by rw [← hw30]; exact (e_up_ne _ _ (Or.inr (by omega))).trans rfl)); omega), (Or.inr ⟨fun k k0 k1 => by omega, by omega⟩)⟩ (by omega))
                exact ⟨rfl, rfl, rfl, trivial⟩
              · replace h32 : (y1 - t : Int) > 24 := by have q : ¬ ((y1 - t : Int) ≤ 24) := h32; omega
                refine e_Ok.run (t' := (55, [(0, (1, 275)), (1, (0, y1))], [(0, 5), (1, 275)], w30)) 2 rfl ?_
                refine e_Ok.putf rfl rfl rfl rfl ?_
                generalize hw117 : e_up w30 275 84 5 = w117
                have f118 : e_fr mTq w w117 := e_fr.up f31 hw117 (by unfold mTq; omega)
                have ge := (wdF_end (T := w 281) (N := N) (i := y1) (by omega)).symm.trans j5
                obtain ⟨e, hee⟩ : ∃ e : Int, e = y1 := ⟨_, rfl⟩
                have her : t < e ∧ e ≤ N := by omega
                have hk0 : w117 275 84 = 5 := (by rw [← hw117]; exact e_up_eq _ _ _ _)
                refine e_Ok.run (t' := (62, [(3, (0, 0)), (2, (0, 0)), (0, (1, 275)), (1, (0, y1))], [], w117)) 4 rfl ?_
                have hL120 : ∀ (nn : Nat) (y2 : Int) (y3 : Int) (v1 : eW), e_fr mTq w v1 ∧ (((y2 = 171 ∧ y3 = 33) ∨ ∃ e, (y2, e, y3) ∈ e_wst)) ∧ ((0 ≤ y2 ∧ y2 ≤ 171 ∧ 0 ≤ y3 ∧ y3 ≤ 33)) ∧ v1 275 86 = t ∧ v1 275 87 = e ∧ ((1 ≤ v1 275 84 ∧ v1 275 84 ≤ 5)) ∧ ((-2147483648 ≤ v1 275 85 ∧ v1 275 85 ≤ 2147483647)) ∧ (((v1 275 84 = 4 ∧ ∃ k, k < y3 ∧ kwd (w 281) t e k ∧ v1 275 85 = k) ∨ ((∀ k, 0 ≤ k → k < y3 → ¬ kwd (w 281) t e k) ∧ ((24 < e - t ∧ v1 275 84 = 5) ∨ (e - t ≤ 24 ∧ v1 275 84 = 1))))) → 172 - y2 < nn → e_Ok 20 elay ecode eI (d + 1) 328 (62, [(0, (1, 275)), (2, (0, y2)), (3, (0, y3))], [], v1) (fun r w' => r = [] ∧ w' 275 86 = t ∧ w' 275 87 = wdF (w 281) N t ∧ ((24 < w' 275 87 - t ∧ w' 275 84 = 5) ∨ (w' 275 87 - t ≤ 24 ∧ ((w' 275 84 = 1 ∧ ∀ k, 0 ≤ k → k ≤ 32 → ¬ kwd (w 281) t (w' 275 87) k) ∨ ∃ k, kwd (w 281) t (w' 275 87) k ∧ w' 275 84 = 4 ∧ w' 275 85 = k)))) := by
                  intro nn
                  induction nn with
                  | zero => intro y2 y3 v1 hj hm; obtain ⟨j122, j123, j124, j125, j126, j127, j128, j129⟩ := hj; exfalso; omega
                  | succ nn ih121 =>
                    intro y2 y3 v1 hj hm
                    obtain ⟨j122, j123, j124, j125, j126, j127, j128, j129⟩ := hj
                    refine e_Ok.run (t' := (63, [(0, (1, 275)), (2, (0, y2)), (3, (0, y3))], [(0, y2)], v1)) 1 rfl ?_
                    refine e_Ok.run (t' := (66, [(0, (1, 275)), (2, (0, y2)), (3, (0, y3))], [(1, 357), (0, y2)], v1)) 1 rfl ?_
                    refine e_Ok.run (t' := (69, [(0, (1, 275)), (2, (0, y2)), (3, (0, y3))], [(0, 171), (0, y2)], v1)) 1 rfl ?_
                    refine e_Ok.if2 rfl (fun h130 => ?_) (fun h130 => ?_)
                    · replace h130 : (y2 : Int) ≥ 171 := h130
                      refine e_Ok.rets rfl rfl ?_
                      have hy3 : y3 = 33 := by rcases j123 with g | ⟨e9, g⟩; (exact g.2); (have g9 := (ws_f g).1; omega)
                      exact ⟨rfl, j125, by rw [j126, hee]; exact ge, by rw [j126]; rcases j129 with ⟨g1, k, g2, g3, g4⟩ | ⟨g1, g2⟩; (have kr := kwd_k g3; exact Or.inr ⟨by omega, Or.inr ⟨k, g3, g1, g4⟩⟩); (rcases g2 with ⟨g2, g3⟩ | ⟨g2, g3⟩; (exact Or.inl ⟨g2, g3⟩); (exact Or.inr ⟨g2, Or.inl ⟨g3, fun k k0 k1 => g1 k k0 (by omega)⟩⟩))⟩
                    · replace h130 : (y2 : Int) < 171 := by have q : ¬ ((y2 : Int) ≥ 171) := h130; omega
                      obtain ⟨e2, he2⟩ : ∃ e, (y2, e, y3) ∈ e_wst := by rcases j123 with g | g; exact absurd g.1 (by omega); exact g
                      obtain ⟨hw1, hw2, hw3⟩ := ws_f he2
                      refine e_Ok.run (t' := (75, [(4, (0, 0)), (0, (1, 275)), (2, (0, y2)), (3, (0, y3))], [], v1)) 2 rfl ?_
                      have hL131 : ∀ (nn : Nat) (y4 : Int), (0 ≤ y4 ∧ y2 + y4 ≤ e2) ∧ (∀ j, 0 ≤ j → j < y4 → w 281 (t + j) = kyc (y2 + j)) → 171 - y4 < nn → e_Ok 20 elay ecode eI (d + 1) 328 (75, [(0, (1, 275)), (2, (0, y2)), (3, (0, y3)), (4, (0, y4))], [], v1) (fun r w' => r = [] ∧ w' 275 86 = t ∧ w' 275 87 = wdF (w 281) N t ∧ ((24 < w' 275 87 - t ∧ w' 275 84 = 5) ∨ (w' 275 87 - t ≤ 24 ∧ ((w' 275 84 = 1 ∧ ∀ k, 0 ≤ k → k ≤ 32 → ¬ kwd (w 281) t (w' 275 87) k) ∨ ∃ k, kwd (w 281) t (w' 275 87) k ∧ w' 275 84 = 4 ∧ w' 275 85 = k)))) := by
                        intro nn
                        induction nn with
                        | zero => intro y4 hj hm; obtain ⟨j133, j134⟩ := hj; exfalso; omega
                        | succ nn ih132 =>
                          intro y4 hj hm
                          obtain ⟨j133, j134⟩ := hj
                          refine e_Ok.run (t' := (78, [(0, (1, 275)), (2, (0, y2)), (3, (0, y3)), (4, (0, y4))], [(1, 357)], v1)) 1 rfl ?_
                          refine e_Ok.run (t' := (81, [(0, (1, 275)), (2, (0, y2)), (3, (0, y3)), (4, (0, y4))], [(0, y4), (0, y2), (1, 357)], v1)) 2 rfl ?_
                          refine e_Ok.add (z := y2 + y4) rfl (by omega) (by omega) ?_
                          refine e_Ok.sc (by omega) rfl rfl ?_
                          have z135b := kyc_in (y2 + y4)
                          generalize hz135 : kyc (y2 + y4) = z135
                          rw [hz135] at z135b
                          refine e_Ok.run (t' := (87, [(0, (1, 275)), (2, (0, y2)), (3, (0, y3)), (4, (0, y4))], [(0, 32), (0, z135)], v1)) 1 rfl ?_
                          refine e_Ok.if2 rfl (fun h136 => ?_) (fun h136 => ?_)
                          · replace h136 : (z135 : Int) = 32 := h136
                            refine e_Ok.run (t' := (123, [(0, (1, 275)), (2, (0, y2)), (3, (0, y3)), (4, (0, y4))], [(1, 357)], v1)) 1 rfl ?_
                            refine e_Ok.run (t' := (126, [(0, (1, 275)), (2, (0, y2)), (3, (0, y3)), (4, (0, y4))], [(0, y4), (0, y2), (1, 357)], v1)) 2 rfl ?_
                            refine e_Ok.add (z := y2 + y4) rfl (by omega) (by omega) ?_
                            refine e_Ok.sc (by omega) rfl rfl ?_
                            have z137b := kyc_in (y2 + y4)
                            generalize hz137 : kyc (y2 + y4) = z137
                            rw [hz137] at z137b
                            refine e_Ok.run (t' := (132, [(0, (1, 275)), (2, (0, y2)), (3, (0, y3)), (4, (0, y4))], [(0, 32), (0, z137)], v1)) 1 rfl ?_
                            refine e_Ok.if2 rfl (fun h138 => ?_) (fun h138 => ?_)
                            · replace h138 : (z137 : Int) ≠ 32 := h138
                              have hL139 : ∀ (nn : Nat) (z2 : Int), y2 ≤ z2 ∧ z2 ≤ e2 → 171 - z2 < nn → e_Ok 20 elay ecode eI (d + 1) 328 (159, [(0, (1, 275)), (2, (0, z2)), (3, (0, y3))], [], v1) (fun r w' => r = [] ∧ w' 275 86 = t ∧ w' 275 87 = wdF (w 281) N t ∧ ((24 < w' 275 87 - t ∧ w' 275 84 = 5) ∨ (w' 275 87 - t ≤ 24 ∧ ((w' 275 84 = 1 ∧ ∀ k, 0 ≤ k → k ≤ 32 → ¬ kwd (w 281) t (w' 275 87) k) ∨ ∃ k, kwd (w 281) t (w' 275 87) k ∧ w' 275 84 = 4 ∧ w' 275 85 = k)))) := by
                                intro nn
                                induction nn with
                                | zero => intro z2 hj hm; obtain j141 := hj; exfalso; omega
                                | succ nn ih140 =>
                                  intro z2 hj hm
                                  obtain j141 := hj
                                  have hnk : ¬ kwd (w 281) t e y3 := fun q => by obtain ⟨q1, q2⟩ := kwd_to he2 q; first | omega | (have q3 := q2 y4 (by omega) (by omega); omega)
                                  refine e_Ok.run (t' := (162, [(0, (1, 275)), (2, (0, z2)), (3, (0, y3))], [(1, 357)], v1)) 1 rfl ?_
                                  refine e_Ok.run (t' := (163, [(0, (1, 275)), (2, (0, z2)), (3, (0, y3))], [(0, z2), (1, 357)], v1)) 1 rfl ?_
                                  refine e_Ok.sc (by omega) rfl rfl ?_
                                  have z142b := kyc_in (z2)
                                  generalize hz142 : kyc (z2) = z142
                                  rw [hz142] at z142b
                                  refine e_Ok.run (t' := (168, [(0, (1, 275)), (2, (0, z2)), (3, (0, y3))], [(0, 32), (0, z142)], v1)) 1 rfl ?_
                                  refine e_Ok.if2 rfl (fun h143 => ?_) (fun h143 => ?_)
                                  · replace h143 : (z142 : Int) = 32 := h143
                                    have hz2 : z2 = e2 := Decidable.byCases (p := z2 < e2) (fun e => absurd (show kyc z2 = 32 by rw [hz142]; omega) (hw3 _ (by omega) e)) (fun e => by omega)
                                    refine e_Ok.inc (z := z2 + 1) rfl rfl (by omega) (by omega) ?_
                                    show e_Ok 20 elay ecode eI (d + 1) 328 (180, [(2, (0, z2 + 1)), (0, (1, 275)), (3, (0, y3))], [], v1) _
                                    refine e_Ok.inc (z := y3 + 1) rfl rfl (by omega) (by omega) ?_
                                    show e_Ok 20 elay ecode eI (d + 1) 328 (183, [(3, (0, y3 + 1)), (2, (0, z2 + 1)), (0, (1, 275))], [], v1) _
                                    refine e_Ok.run (t' := (62, [(3, (0, y3 + 1)), (2, (0, z2 + 1)), (0, (1, 275))], [], v1)) 1 rfl ?_
                                    refine e_Ok.sub eAlk (e_sub_of rfl ?_) (ih121 (z2 + 1) (y3 + 1) v1 ⟨j122, (by rcases hw2 with g | ⟨g1, g2⟩; (exact Or.inl ⟨by omega, by have g9 := wst_l he2 g; omega⟩); (exact Or.inr (by rw [show z2 + 1 = e2 + 1 by omega]; exact g2))), by omega, j125, (by have g : v1 275 87 = e := j126; omega), (by have u144 : v1 275 84 = v1 275 84 := rfl; omega), (by have u2 : v1 275 85 = v1 275 85 := rfl; omega), (by have u1 : v1 275 84 = v1 275 84 := rfl; have u2 : v1 275 85 = v1 275 85 := rfl; rw [u1, u2]; rcases j129 with ⟨g1, k, g2, g3, g4⟩ | ⟨g1, g2⟩; (exact Or.inl ⟨g1, k, by omega, g3, g4⟩); (exact Or.inr ⟨fun k k0 k1 => (by by_cases gk : k < y3; (exact g1 k k0 gk); (have ek : k = y3 := (by omega); rw [ek]; exact hnk)), g2⟩))⟩ (by omega))
                                    exact ⟨rfl, rfl, rfl, trivial⟩
                                  · replace h143 : (z142 : Int) ≠ 32 := by have q : ¬ ((z142 : Int) = 32) := h143; omega
                                    have hlz : z2 ≠ e2 := fun e => by rw [e, hw1.2.2.2.2.2] at hz142; omega
                                    refine e_Ok.inc (z := z2 + 1) rfl rfl (by omega) (by omega) ?_
                                    show e_Ok 20 elay ecode eI (d + 1) 328 (174, [(2, (0, z2 + 1)), (0, (1, 275)), (3, (0, y3))], [], v1) _
                                    refine e_Ok.run (t' := (159, [(2, (0, z2 + 1)), (0, (1, 275)), (3, (0, y3))], [], v1)) 1 rfl ?_
                                    refine e_Ok.sub eAlk (e_sub_of rfl ?_) (ih140 (z2 + 1) (by omega) (by omega))
                                    exact ⟨rfl, rfl, rfl, trivial⟩
                              refine e_Ok.sub eAlk (e_sub_of rfl ?_) (hL139 (171 + 1 : Int).toNat y2 (by omega) (by omega))
                              exact ⟨rfl, rfl, rfl, trivial⟩
                            · replace h138 : (z137 : Int) = 32 := by have q : ¬ ((z137 : Int) ≠ 32) := h138; omega
                              have hk2 : 2 ≤ y4 := Decidable.byCases (p := y2 + y4 < e2) (fun e => absurd (show kyc (y2 + y4) = 32 by rw [hz137]; omega) (hw3 _ (by omega) e)) (fun e => by omega)
                              have hy4 : y2 + y4 = e2 := Decidable.byCases (p := y2 + y4 < e2) (fun e => absurd (show kyc (y2 + y4) = 32 by rw [hz137]; omega) (hw3 _ (by omega) e)) (fun e => by omega)
                              have hkw : y4 = e - t → kwd (w 281) t e y3 := fun g => kwd_of he2 (by omega) (fun j g1 g2 => j134 j g1 (by omega))
                              refine e_Ok.run (t' := (138, [(0, (1, 275)), (2, (0, y2)), (3, (0, y3)), (4, (0, y4))], [(1, 275), (0, y4)], v1)) 2 rfl ?_
                              refine e_Ok.getf (z := e) rfl rfl rfl rfl j126 (by omega) ?_
                              refine e_Ok.run (t' := (142, [(0, (1, 275)), (2, (0, y2)), (3, (0, y3)), (4, (0, y4))], [(1, 275), (0, e), (0, y4)], v1)) 1 rfl ?_
                              refine e_Ok.getf (z := t) rfl rfl rfl rfl j125 (by omega) ?_
                              refine e_Ok.sub' (z := e - t) rfl (by omega) (by omega) ?_
                              refine e_Ok.if2 rfl (fun h145 => ?_) (fun h145 => ?_)
                              · replace h145 : (y4 : Int) ≠ e - t := h145
                                have hL146 : ∀ (nn : Nat) (z2 : Int), y2 ≤ z2 ∧ z2 ≤ e2 → 171 - z2 < nn → e_Ok 20 elay ecode eI (d + 1) 328 (159, [(0, (1, 275)), (2, (0, z2)), (3, (0, y3))], [], v1) (fun r w' => r = [] ∧ w' 275 86 = t ∧ w' 275 87 = wdF (w 281) N t ∧ ((24 < w' 275 87 - t ∧ w' 275 84 = 5) ∨ (w' 275 87 - t ≤ 24 ∧ ((w' 275 84 = 1 ∧ ∀ k, 0 ≤ k → k ≤ 32 → ¬ kwd (w 281) t (w' 275 87) k) ∨ ∃ k, kwd (w 281) t (w' 275 87) k ∧ w' 275 84 = 4 ∧ w' 275 85 = k)))) := by
                                  intro nn
                                  induction nn with
                                  | zero => intro z2 hj hm; obtain j148 := hj; exfalso; omega
                                  | succ nn ih147 =>
                                    intro z2 hj hm
                                    obtain j148 := hj
                                    have hnk : ¬ kwd (w 281) t e y3 := fun q => by obtain ⟨q1, q2⟩ := kwd_to he2 q; first | omega | (have q3 := q2 y4 (by omega) (by omega); omega)
                                    refine e_Ok.run (t' := (162, [(0, (1, 275)), (2, (0, z2)), (3, (0, y3))], [(1, 357)], v1)) 1 rfl ?_
                                    refine e_Ok.run (t' := (163, [(0, (1, 275)), (2, (0, z2)), (3, (0, y3))], [(0, z2), (1, 357)], v1)) 1 rfl ?_
                                    refine e_Ok.sc (by omega) rfl rfl ?_
                                    have z149b := kyc_in (z2)
                                    generalize hz149 : kyc (z2) = z149
                                    rw [hz149] at z149b
                                    refine e_Ok.run (t' := (168, [(0, (1, 275)), (2, (0, z2)), (3, (0, y3))], [(0, 32), (0, z149)], v1)) 1 rfl ?_
                                    refine e_Ok.if2 rfl (fun h150 => ?_) (fun h150 => ?_)
                                    · replace h150 : (z149 : Int) = 32 := h150
                                      have hz2 : z2 = e2 := Decidable.byCases (p := z2 < e2) (fun e => absurd (show kyc z2 = 32 by rw [hz149]; omega) (hw3 _ (by omega) e)) (fun e => by omega)
                                      refine e_Ok.inc (z := z2 + 1) rfl rfl (by omega) (by omega) ?_
                                      show e_Ok 20 elay ecode eI (d + 1) 328 (180, [(2, (0, z2 + 1)), (0, (1, 275)), (3, (0, y3))], [], v1) _
                                      refine e_Ok.inc (z := y3 + 1) rfl rfl (by omega) (by omega) ?_
                                      show e_Ok 20 elay ecode eI (d + 1) 328 (183, [(3, (0, y3 + 1)), (2, (0, z2 + 1)), (0, (1, 275))], [], v1) _
                                      refine e_Ok.run (t' := (62, [(3, (0, y3 + 1)), (2, (0, z2 + 1)), (0, (1, 275))], [], v1)) 1 rfl ?_
                                      refine e_Ok.sub eAlk (e_sub_of rfl ?_) (ih121 (z2 + 1) (y3 + 1) v1 ⟨j122, (by rcases hw2 with g | ⟨g1, g2⟩; (exact Or.inl ⟨by omega, by have g9 := wst_l he2 g; omega⟩); (exact Or.inr (by rw [show z2 + 1 = e2 + 1 by omega]; exact g2))), by omega, j125, (by have g : v1 275 87 = e := j126; omega), (by have u151 : v1 275 84 = v1 275 84 := rfl; omega), (by have u2 : v1 275 85 = v1 275 85 := rfl; omega), (by have u1 : v1 275 84 = v1 275 84 := rfl; have u2 : v1 275 85 = v1 275 85 := rfl; rw [u1, u2]; rcases j129 with ⟨g1, k, g2, g3, g4⟩ | ⟨g1, g2⟩; (exact Or.inl ⟨g1, k, by omega, g3, g4⟩); (exact Or.inr ⟨fun k k0 k1 => (by by_cases gk : k < y3; (exact g1 k k0 gk); (have ek : k = y3 := (by omega); rw [ek]; exact hnk)), g2⟩))⟩ (by omega))
                                      exact ⟨rfl, rfl, rfl, trivial⟩
                                    · replace h150 : (z149 : Int) ≠ 32 := by have q : ¬ ((z149 : Int) = 32) := h150; omega
                                      have hlz : z2 ≠ e2 := fun e => by rw [e, hw1.2.2.2.2.2] at hz149; omega
                                      refine e_Ok.inc (z := z2 + 1) rfl rfl (by omega) (by omega) ?_
                                      show e_Ok 20 elay ecode eI (d + 1) 328 (174, [(2, (0, z2 + 1)), (0, (1, 275)), (3, (0, y3))], [], v1) _
                                      refine e_Ok.run (t' := (159, [(2, (0, z2 + 1)), (0, (1, 275)), (3, (0, y3))], [], v1)) 1 rfl ?_
                                      refine e_Ok.sub eAlk (e_sub_of rfl ?_) (ih147 (z2 + 1) (by omega) (by omega))
                                      exact ⟨rfl, rfl, rfl, trivial⟩
                                refine e_Ok.sub eAlk (e_sub_of rfl ?_) (hL146 (171 + 1 : Int).toNat y2 (by omega) (by omega))
                                exact ⟨rfl, rfl, rfl, trivial⟩
                              · replace h145 : (y4 : Int) = e - t := by have q : ¬ ((y4 : Int) ≠ e - t) := h145; omega
                                refine e_Ok.run (t' := (151, [(0, (1, 275)), (2, (0, y2)), (3, (0, y3)), (4, (0, y4))], [(0, 4), (1, 275)], v1)) 2 rfl ?_
                                refine e_Ok.putf rfl rfl rfl rfl ?_
                                generalize hw152 : e_up v1 275 84 4 = w152
                                have f153 : e_fr mTq w w152 := e_fr.up j122 hw152 (by unfold mTq; omega)
                                refine e_Ok.run (t' := (156, [(0, (1, 275)), (2, (0, y2)), (3, (0, y3)), (4, (0, y4))], [(0, y3), (1, 275)], w152)) 2 rfl ?_
                                refine e_Ok.putf rfl rfl rfl rfl ?_
                                generalize hw154 : e_up w152 275 85 y3 = w154
                                have f155 : e_fr mTq w w154 := e_fr.up f153 hw154 (by unfold mTq; omega)
                                have hL156 : ∀ (nn : Nat) (z2 : Int), y2 ≤ z2 ∧ z2 ≤ e2 → 171 - z2 < nn → e_Ok 20 elay ecode eI (d + 1) 328 (159, [(0, (1, 275)), (2, (0, z2)), (3, (0, y3))], [], w154) (fun r w' => r = [] ∧ w' 275 86 = t ∧ w' 275 87 = wdF (w 281) N t ∧ ((24 < w' 275 87 - t ∧ w' 275 84 = 5) ∨ (w' 275 87 - t ≤ 24 ∧ ((w' 275 84 = 1 ∧ ∀ k, 0 ≤ k → k ≤ 32 → ¬ kwd (w 281) t (w' 275 87) k) ∨ ∃ k, kwd (w 281) t (w' 275 87) k ∧ w' 275 84 = 4 ∧ w' 275 85 = k)))) := by
                                  intro nn
                                  induction nn with
                                  | zero => intro z2 hj hm; obtain j158 := hj; exfalso; omega
                                  | succ nn ih157 =>
                                    intro z2 hj hm
                                    obtain j158 := hj
                                    refine e_Ok.run (t' := (162, [(0, (1, 275)), (2, (0, z2)), (3, (0, y3))], [(1, 357)], w154)) 1 rfl ?_
                                    refine e_Ok.run (t' := (163, [(0, (1, 275)), (2, (0, z2)), (3, (0, y3))], [(0, z2), (1, 357)], w154)) 1 rfl ?_
                                    refine e_Ok.sc (by omega) rfl rfl ?_
                                    have z159b := kyc_in (z2)
                                    generalize hz159 : kyc (z2) = z159
                                    rw [hz159] at z159b
                                    refine e_Ok.run (t' := (168, [(0, (1, 275)), (2, (0, z2)), (3, (0, y3))], [(0, 32), (0, z159)], w154)) 1 rfl ?_
                                    refine e_Ok.if2 rfl (fun h160 => ?_) (fun h160 => ?_)
                                    · replace h160 : (z159 : Int) = 32 := h160
                                      have hz2 : z2 = e2 := Decidable.byCases (p := z2 < e2) (fun e => absurd (show kyc z2 = 32 by rw [hz159]; omega) (hw3 _ (by omega) e)) (fun e => by omega)
                                      refine e_Ok.inc (z := z2 + 1) rfl rfl (by omega) (by omega) ?_
                                      show e_Ok 20 elay ecode eI (d + 1) 328 (180, [(2, (0, z2 + 1)), (0, (1, 275)), (3, (0, y3))], [], w154) _
                                      refine e_Ok.inc (z := y3 + 1) rfl rfl (by omega) (by omega) ?_
                                      show e_Ok 20 elay ecode eI (d + 1) 328 (183, [(3, (0, y3 + 1)), (2, (0, z2 + 1)), (0, (1, 275))], [], w154) _
                                      refine e_Ok.run (t' := (62, [(3, (0, y3 + 1)), (2, (0, z2 + 1)), (0, (1, 275))], [], w154)) 1 rfl ?_
                                      refine e_Ok.sub eAlk (e_sub_of rfl ?_) (ih121 (z2 + 1) (y3 + 1) w154 ⟨f155, (by rcases hw2 with g | ⟨g1, g2⟩; (exact Or.inl ⟨by omega, by have g9 := wst_l he2 g; omega⟩); (exact Or.inr (by rw [show z2 + 1 = e2 + 1 by omega]; exact g2))), by omega, (by rw [← hw154]; exact (e_up_ne _ _ (Or.inr (by omega))).trans (by rw [← hw152]; exact (e_up_ne _ _ (Or.inr (by omega))).trans j125)), (by have g : w154 275 87 = e := (by rw [← hw154]; exact (e_up_ne _ _ (Or.inr (by omega))).trans (by rw [← hw152]; exact (e_up_ne _ _ (Or.inr (by omega))).trans j126)); omega), (by have u161 : w154 275 84 = 4 := (by rw [← hw154]; exact (e_up_ne _ _ (Or.inr (by omega))).trans (by rw [← hw152]; exact e_up_eq _ _ _ _)); omega), (by have u2 : w154 275 85 = y3 := (by rw [← hw154]; exact e_up_eq _ _ _ _); omega), (by have u1 : w154 275 84 = 4 := (by rw [← hw154]; exact (e_up_ne _ _ (Or.inr (by omega))).trans (by rw [← hw152]; exact e_up_eq _ _ _ _)); have u2 : w154 275 85 = y3 := (by rw [← hw154]; exact e_up_eq _ _ _ _); exact Or.inl ⟨u1, y3, by omega, hkw (by omega), u2⟩)⟩ (by omega))
                                      exact ⟨rfl, rfl, rfl, trivial⟩
                                    · replace h160 : (z159 : Int) ≠ 32 := by have q : ¬ ((z159 : Int) = 32) := h160; omega
                                      have hlz : z2 ≠ e2 := fun e => by rw [e, hw1.2.2.2.2.2] at hz159; omega
                                      refine e_Ok.inc (z := z2 + 1) rfl rfl (by omega) (by omega) ?_
                                      show e_Ok 20 elay ecode eI (d + 1) 328 (174, [(2, (0, z2 + 1)), (0, (1, 275)), (3, (0, y3))], [], w154) _
                                      refine e_Ok.run (t' := (159, [(2, (0, z2 + 1)), (0, (1, 275)), (3, (0, y3))], [], w154)) 1 rfl ?_
                                      refine e_Ok.sub eAlk (e_sub_of rfl ?_) (ih157 (z2 + 1) (by omega) (by omega))
                                      exact ⟨rfl, rfl, rfl, trivial⟩
                                refine e_Ok.sub eAlk (e_sub_of rfl ?_) (hL156 (171 + 1 : Int).toNat y2 (by omega) (by omega))
                                exact ⟨rfl, rfl, rfl, trivial⟩
                          · replace h136 : (z135 : Int) ≠ 32 := by have q : ¬ ((z135 : Int) = 32) := h136; omega
                            have hlt : y2 + y4 ≠ e2 := fun e => by rw [e, hw1.2.2.2.2.2] at hz135; omega
                            refine e_Ok.run (t' := (93, [(0, (1, 275)), (2, (0, y2)), (3, (0, y3)), (4, (0, y4))], [(1, 357)], v1)) 1 rfl ?_
                            refine e_Ok.run (t' := (96, [(0, (1, 275)), (2, (0, y2)), (3, (0, y3)), (4, (0, y4))], [(0, y4), (0, y2), (1, 357)], v1)) 2 rfl ?_
                            refine e_Ok.add (z := y2 + y4) rfl (by omega) (by omega) ?_
                            refine e_Ok.sc (by omega) rfl rfl ?_
                            have z162b := kyc_in (y2 + y4)
                            generalize hz162 : kyc (y2 + y4) = z162
                            rw [hz162] at z162b
                            refine e_Ok.run (t' := (102, [(0, (1, 275)), (2, (0, y2)), (3, (0, y3)), (4, (0, y4))], [(1, 275), (1, 275), (0, z162)], v1)) 2 rfl ?_
                            refine e_Ok.getf (z := t) rfl rfl rfl rfl j125 (by omega) ?_
                            refine e_Ok.run (t' := (107, [(0, (1, 275)), (2, (0, y2)), (3, (0, y3)), (4, (0, y4))], [(0, y4), (0, t), (1, 275), (0, z162)], v1)) 1 rfl ?_
                            refine e_Ok.add (z := t + y4) rfl (by omega) (by omega) ?_
                            refine e_Ok.callV rfl (by omega) rfl rfl rfl rfl (l_326 (mLT_Tq j122 hT) (mLH_Tq j122 hH) (((j122 275 9 (by unfold mTq; omega)).trans hN)) hNr (by omega)) (fun r163 w164 h165 => ?_)
                            obtain ⟨z166, rfl, rfl, q167⟩ := h165
                            rw [show v1 281 (t + y4) = w 281 (t + y4) from j122 281 _ (by unfold mTq; omega)] at q167
                            show e_Ok 20 elay ecode eI (d + 1) 328 (111, [(0, (1, 275)), (2, (0, y2)), (3, (0, y3)), (4, (0, y4))], [(0, z166), (0, z162)], v1) _
                            refine e_Ok.if2 rfl (fun h168 => ?_) (fun h168 => ?_)
                            · replace h168 : (z162 : Int) ≠ z166 := h168
                              refine e_Ok.run (t' := (123, [(0, (1, 275)), (2, (0, y2)), (3, (0, y3)), (4, (0, y4))], [(1, 357)], v1)) 1 rfl ?_
                              refine e_Ok.run (t' := (126, [(0, (1, 275)), (2, (0, y2)), (3, (0, y3)), (4, (0, y4))], [(0, y4), (0, y2), (1, 357)], v1)) 2 rfl ?_
                              refine e_Ok.add (z := y2 + y4) rfl (by omega) (by omega) ?_
                              refine e_Ok.sc (by omega) rfl rfl ?_
                              have z169b := kyc_in (y2 + y4)
                              generalize hz169 : kyc (y2 + y4) = z169
                              rw [hz169] at z169b
                              refine e_Ok.run (t' := (132, [(0, (1, 275)), (2, (0, y2)), (3, (0, y3)), (4, (0, y4))], [(0, 32), (0, z169)], v1)) 1 rfl ?_
                              refine e_Ok.if2 rfl (fun h170 => ?_) (fun h170 => ?_)
                              · replace h170 : (z169 : Int) ≠ 32 := h170
                                have hL171 : ∀ (nn : Nat) (z2 : Int), y2 ≤ z2 ∧ z2 ≤ e2 → 171 - z2 < nn → e_Ok 20 elay ecode eI (d + 1) 328 (159, [(0, (1, 275)), (2, (0, z2)), (3, (0, y3))], [], v1) (fun r w' => r = [] ∧ w' 275 86 = t ∧ w' 275 87 = wdF (w 281) N t ∧ ((24 < w' 275 87 - t ∧ w' 275 84 = 5) ∨ (w' 275 87 - t ≤ 24 ∧ ((w' 275 84 = 1 ∧ ∀ k, 0 ≤ k → k ≤ 32 → ¬ kwd (w 281) t (w' 275 87) k) ∨ ∃ k, kwd (w 281) t (w' 275 87) k ∧ w' 275 84 = 4 ∧ w' 275 85 = k)))) := by
                                  intro nn
                                  induction nn with
                                  | zero => intro z2 hj hm; obtain j173 := hj; exfalso; omega
                                  | succ nn ih172 =>
                                    intro z2 hj hm
                                    obtain j173 := hj
                                    have hnk : ¬ kwd (w 281) t e y3 := fun q => by obtain ⟨q1, q2⟩ := kwd_to he2 q; first | omega | (have q3 := q2 y4 (by omega) (by omega); omega)
                                    refine e_Ok.run (t' := (162, [(0, (1, 275)), (2, (0, z2)), (3, (0, y3))], [(1, 357)], v1)) 1 rfl ?_
                                    refine e_Ok.run (t' := (163, [(0, (1, 275)), (2, (0, z2)), (3, (0, y3))], [(0, z2), (1, 357)], v1)) 1 rfl ?_
                                    refine e_Ok.sc (by omega) rfl rfl ?_
                                    have z174b := kyc_in (z2)
                                    generalize hz174 : kyc (z2) = z174
                                    rw [hz174] at z174b
                                    refine e_Ok.run (t' := (168, [(0, (1, 275)), (2, (0, z2)), (3, (0, y3))], [(0, 32), (0, z174)], v1)) 1 rfl ?_
                                    refine e_Ok.if2 rfl (fun h175 => ?_) (fun h175 => ?_)
                                    · replace h175 : (z174 : Int) = 32 := h175
                                      have hz2 : z2 = e2 := Decidable.byCases (p := z2 < e2) (fun e => absurd (show kyc z2 = 32 by rw [hz174]; omega) (hw3 _ (by omega) e)) (fun e => by omega)
                                      refine e_Ok.inc (z := z2 + 1) rfl rfl (by omega) (by omega) ?_
                                      show e_Ok 20 elay ecode eI (d + 1) 328 (180, [(2, (0, z2 + 1)), (0, (1, 275)), (3, (0, y3))], [], v1) _
                                      refine e_Ok.inc (z := y3 + 1) rfl rfl (by omega) (by omega) ?_
                                      show e_Ok 20 elay ecode eI (d + 1) 328 (183, [(3, (0, y3 + 1)), (2, (0, z2 + 1)), (0, (1, 275))], [], v1) _
                                      refine e_Ok.run (t' := (62, [(3, (0, y3 + 1)), (2, (0, z2 + 1)), (0, (1, 275))], [], v1)) 1 rfl ?_
                                      refine e_Ok.sub eAlk (e_sub_of rfl ?_) (ih121 (z2 + 1) (y3 + 1) v1 ⟨j122, (by rcases hw2 with g | ⟨g1, g2⟩; (exact Or.inl ⟨by omega, by have g9 := wst_l he2 g; omega⟩); (exact Or.inr (by rw [show z2 + 1 = e2 + 1 by omega]; exact g2))), by omega, j125, (by have g : v1 275 87 = e := j126; omega), (by have u176 : v1 275 84 = v1 275 84 := rfl; omega), (by have u2 : v1 275 85 = v1 275 85 := rfl; omega), (by have u1 : v1 275 84 = v1 275 84 := rfl; have u2 : v1 275 85 = v1 275 85 := rfl; rw [u1, u2]; rcases j129 with ⟨g1, k, g2, g3, g4⟩ | ⟨g1, g2⟩; (exact Or.inl ⟨g1, k, by omega, g3, g4⟩); (exact Or.inr ⟨fun k k0 k1 => (by by_cases gk : k < y3; (exact g1 k k0 gk); (have ek : k = y3 := (by omega); rw [ek]; exact hnk)), g2⟩))⟩ (by omega))
                                      exact ⟨rfl, rfl, rfl, trivial⟩
                                    · replace h175 : (z174 : Int) ≠ 32 := by have q : ¬ ((z174 : Int) = 32) := h175; omega
                                      have hlz : z2 ≠ e2 := fun e => by rw [e, hw1.2.2.2.2.2] at hz174; omega
                                      refine e_Ok.inc (z := z2 + 1) rfl rfl (by omega) (by omega) ?_
                                      show e_Ok 20 elay ecode eI (d + 1) 328 (174, [(2, (0, z2 + 1)), (0, (1, 275)), (3, (0, y3))], [], v1) _
                                      refine e_Ok.run (t' := (159, [(2, (0, z2 + 1)), (0, (1, 275)), (3, (0, y3))], [], v1)) 1 rfl ?_
                                      refine e_Ok.sub eAlk (e_sub_of rfl ?_) (ih172 (z2 + 1) (by omega) (by omega))
                                      exact ⟨rfl, rfl, rfl, trivial⟩
                                refine e_Ok.sub eAlk (e_sub_of rfl ?_) (hL171 (171 + 1 : Int).toNat y2 (by omega) (by omega))
                                exact ⟨rfl, rfl, rfl, trivial⟩
                              · replace h170 : (z169 : Int) = 32 := by have q : ¬ ((z169 : Int) ≠ 32) := h170; omega
                                have hk2 : 2 ≤ y4 := Decidable.byCases (p := y2 + y4 < e2) (fun e => absurd (show kyc (y2 + y4) = 32 by rw [hz169]; omega) (hw3 _ (by omega) e)) (fun e => by omega)
                                have hy4 : y2 + y4 = e2 := Decidable.byCases (p := y2 + y4 < e2) (fun e => absurd (show kyc (y2 + y4) = 32 by rw [hz169]; omega) (hw3 _ (by omega) e)) (fun e => by omega)
                                have hkw : y4 = e - t → kwd (w 281) t e y3 := fun g => kwd_of he2 (by omega) (fun j g1 g2 => j134 j g1 (by omega))
                                refine e_Ok.run (t' := (138, [(0, (1, 275)), (2, (0, y2)), (3, (0, y3)), (4, (0, y4))], [(1, 275), (0, y4)], v1)) 2 rfl ?_
                                refine e_Ok.getf (z := e) rfl rfl rfl rfl j126 (by omega) ?_
                                refine e_Ok.run (t' := (142, [(0, (1, 275)), (2, (0, y2)), (3, (0, y3)), (4, (0, y4))], [(1, 275), (0, e), (0, y4)], v1)) 1 rfl ?_
                                refine e_Ok.getf (z := t) rfl rfl rfl rfl j125 (by omega) ?_
                                refine e_Ok.sub' (z := e - t) rfl (by omega) (by omega) ?_
                                refine e_Ok.if2 rfl (fun h177 => ?_) (fun h177 => ?_)
                                · replace h177 : (y4 : Int) ≠ e - t := h177
                                  have hL178 : ∀ (nn : Nat) (z2 : Int), y2 ≤ z2 ∧ z2 ≤ e2 → 171 - z2 < nn → e_Ok 20 elay ecode eI (d + 1) 328 (159, [(0, (1, 275)), (2, (0, z2)), (3, (0, y3))], [], v1) (fun r w' => r = [] ∧ w' 275 86 = t ∧ w' 275 87 = wdF (w 281) N t ∧ ((24 < w' 275 87 - t ∧ w' 275 84 = 5) ∨ (w' 275 87 - t ≤ 24 ∧ ((w' 275 84 = 1 ∧ ∀ k, 0 ≤ k → k ≤ 32 → ¬ kwd (w 281) t (w' 275 87) k) ∨ ∃ k, kwd (w 281) t (w' 275 87) k ∧ w' 275 84 = 4 ∧ w' 275 85 = k)))) := by
                                    intro nn
                                    induction nn with
                                    | zero => intro z2 hj hm; obtain j180 := hj; exfalso; omega
                                    | succ nn ih179 =>
                                      intro z2 hj hm
                                      obtain j180 := hj
                                      have hnk : ¬ kwd (w 281) t e y3 := fun q => by obtain ⟨q1, q2⟩ := kwd_to he2 q; first | omega | (have q3 := q2 y4 (by omega) (by omega); omega)
                                      refine e_Ok.run (t' := (162, [(0, (1, 275)), (2, (0, z2)), (3, (0, y3))], [(1, 357)], v1)) 1 rfl ?_
                                      refine e_Ok.run (t' := (163, [(0, (1, 275)), (2, (0, z2)), (3, (0, y3))], [(0, z2), (1, 357)], v1)) 1 rfl ?_
                                      refine e_Ok.sc (by omega) rfl rfl ?_
                                      have z181b := kyc_in (z2)
                                      generalize hz181 : kyc (z2) = z181
                                      rw [hz181] at z181b
                                      refine e_Ok.run (t' := (168, [(0, (1, 275)), (2, (0, z2)), (3, (0, y3))], [(0, 32), (0, z181)], v1)) 1 rfl ?_
                                      refine e_Ok.if2 rfl (fun h182 => ?_) (fun h182 => ?_)
                                      · replace h182 : (z181 : Int) = 32 := h182
                                        have hz2 : z2 = e2 := Decidable.byCases (p := z2 < e2) (fun e => absurd (show kyc z2 = 32 by rw [hz181]; omega) (hw3 _ (by omega) e)) (fun e => by omega)
                                        refine e_Ok.inc (z := z2 + 1) rfl rfl (by omega) (by omega) ?_
                                        show e_Ok 20 elay ecode eI (d + 1) 328 (180, [(2, (0, z2 + 1)), (0, (1, 275)), (3, (0, y3))], [], v1) _
                                        refine e_Ok.inc (z := y3 + 1) rfl rfl (by omega) (by omega) ?_
                                        show e_Ok 20 elay ecode eI (d + 1) 328 (183, [(3, (0, y3 + 1)), (2, (0, z2 + 1)), (0, (1, 275))], [], v1) _
                                        refine e_Ok.run (t' := (62, [(3, (0, y3 + 1)), (2, (0, z2 + 1)), (0, (1, 275))], [], v1)) 1 rfl ?_
                                        refine e_Ok.sub eAlk (e_sub_of rfl ?_) (ih121 (z2 + 1) (y3 + 1) v1 ⟨j122, (by rcases hw2 with g | ⟨g1, g2⟩; (exact Or.inl ⟨by omega, by have g9 := wst_l he2 g; omega⟩); (exact Or.inr (by rw [show z2 + 1 = e2 + 1 by omega]; exact g2))), by omega, j125, (by have g : v1 275 87 = e := j126; omega), (by have u183 : v1 275 84 = v1 275 84 := rfl; omega), (by have u2 : v1 275 85 = v1 275 85 := rfl; omega), (by have u1 : v1 275 84 = v1 275 84 := rfl; have u2 : v1 275 85 = v1 275 85 := rfl; rw [u1, u2]; rcases j129 with ⟨g1, k, g2, g3, g4⟩ | ⟨g1, g2⟩; (exact Or.inl ⟨g1, k, by omega, g3, g4⟩); (exact Or.inr ⟨fun k k0 k1 => (by by_cases gk : k < y3; (exact g1 k k0 gk); (have ek : k = y3 := (by omega); rw [ek]; exact hnk)), g2⟩))⟩ (by omega))
                                        exact ⟨rfl, rfl, rfl, trivial⟩
                                      · replace h182 : (z181 : Int) ≠ 32 := by have q : ¬ ((z181 : Int) = 32) := h182; omega
                                        have hlz : z2 ≠ e2 := fun e => by rw [e, hw1.2.2.2.2.2] at hz181; omega
                                        refine e_Ok.inc (z := z2 + 1) rfl rfl (by omega) (by omega) ?_
                                        show e_Ok 20 elay ecode eI (d + 1) 328 (174, [(2, (0, z2 + 1)), (0, (1, 275)), (3, (0, y3))], [], v1) _
                                        refine e_Ok.run (t' := (159, [(2, (0, z2 + 1)), (0, (1, 275)), (3, (0, y3))], [], v1)) 1 rfl ?_
                                        refine e_Ok.sub eAlk (e_sub_of rfl ?_) (ih179 (z2 + 1) (by omega) (by omega))
                                        exact ⟨rfl, rfl, rfl, trivial⟩
                                  refine e_Ok.sub eAlk (e_sub_of rfl ?_) (hL178 (171 + 1 : Int).toNat y2 (by omega) (by omega))
                                  exact ⟨rfl, rfl, rfl, trivial⟩
                                · replace h177 : (y4 : Int) = e - t := by have q : ¬ ((y4 : Int) ≠ e - t) := h177; omega
                                  refine e_Ok.run (t' := (151, [(0, (1, 275)), (2, (0, y2)), (3, (0, y3)), (4, (0, y4))], [(0, 4), (1, 275)], v1)) 2 rfl ?_
                                  refine e_Ok.putf rfl rfl rfl rfl ?_
                                  generalize hw184 : e_up v1 275 84 4 = w184
                                  have f185 : e_fr mTq w w184 := e_fr.up j122 hw184 (by unfold mTq; omega)
                                  refine e_Ok.run (t' := (156, [(0, (1, 275)), (2, (0, y2)), (3, (0, y3)), (4, (0, y4))], [(0, y3), (1, 275)], w184)) 2 rfl ?_
                                  refine e_Ok.putf rfl rfl rfl rfl ?_
                                  generalize hw186 : e_up w184 275 85 y3 = w186
                                  have f187 : e_fr mTq w w186 := e_fr.up f185 hw186 (by unfold mTq; omega)
                                  have hL188 : ∀ (nn : Nat) (z2 : Int), y2 ≤ z2 ∧ z2 ≤ e2 → 171 - z2 < nn → e_Ok 20 elay ecode eI (d + 1) 328 (159, [(0, (1, 275)), (2, (0, z2)), (3, (0, y3))], [], w186) (fun r w' => r = [] ∧ w' 275 86 = t ∧ w' 275 87 = wdF (w 281) N t ∧ ((24 < w' 275 87 - t ∧ w' 275 84 = 5) ∨ (w' 275 87 - t ≤ 24 ∧ ((w' 275 84 = 1 ∧ ∀ k, 0 ≤ k → k ≤ 32 → ¬ kwd (w 281) t (w' 275 87) k) ∨ ∃ k, kwd (w 281) t (w' 275 87) k ∧ w' 275 84 = 4 ∧ w' 275 85 = k)))) := by
                                    intro nn
                                    induction nn with
                                    | zero => intro z2 hj hm; obtain j190 := hj; exfalso; omega
                                    | succ nn ih189 =>
                                      intro z2 hj hm
                                      obtain j190 := hj
                                      refine e_Ok.run (t' := (162, [(0, (1, 275)), (2, (0, z2)), (3, (0, y3))], [(1, 357)], w186)) 1 rfl ?_
                                      refine e_Ok.run (t' := (163, [(0, (1, 275)), (2, (0, z2)), (3, (0, y3))], [(0, z2), (1, 357)], w186)) 1 rfl ?_
                                      refine e_Ok.sc (by omega) rfl rfl ?_
                                      have z191b := kyc_in (z2)
                                      generalize hz191 : kyc (z2) = z191
                                      rw [hz191] at z191b
                                      refine e_Ok.run (t' := (168, [(0, (1, 275)), (2, (0, z2)), (3, (0, y3))], [(0, 32), (0, z191)], w186)) 1 rfl ?_
                                      refine e_Ok.if2 rfl (fun h192 => ?_) (fun h192 => ?_)
                                      · replace h192 : (z191 : Int) = 32 := h192
                                        have hz2 : z2 = e2 := Decidable.byCases (p := z2 < e2) (fun e => absurd (show kyc z2 = 32 by rw [hz191]; omega) (hw3 _ (by omega) e)) (fun e => by omega)
                                        refine e_Ok.inc (z := z2 + 1) rfl rfl (by omega) (by omega) ?_
                                        show e_Ok 20 elay ecode eI (d + 1) 328 (180, [(2, (0, z2 + 1)), (0, (1, 275)), (3, (0, y3))], [], w186) _
                                        refine e_Ok.inc (z := y3 + 1) rfl rfl (by omega) (by omega) ?_
                                        show e_Ok 20 elay ecode eI (d + 1) 328 (183, [(3, (0, y3 + 1)), (2, (0, z2 + 1)), (0, (1, 275))], [], w186) _
                                        refine e_Ok.run (t' := (62, [(3, (0, y3 + 1)), (2, (0, z2 + 1)), (0, (1, 275))], [], w186)) 1 rfl ?_
                                        refine e_Ok.sub eAlk (e_sub_of rfl ?_) (ih121 (z2 + 1) (y3 + 1) w186 ⟨f187, (by rcases hw2 with g | ⟨g1, g2⟩; (exact Or.inl ⟨by omega, by have g9 := wst_l he2 g; omega⟩); (exact Or.inr (by rw [show z2 + 1 = e2 + 1 by omega]; exact g2))), by omega, (by rw [← hw186]; exact (e_up_ne _ _ (Or.inr (by omega))).trans (by rw [← hw184]; exact (e_up_ne _ _ (Or.inr (by omega))).trans j125)), (by have g : w186 275 87 = e := (by rw [← hw186]; exact (e_up_ne _ _ (Or.inr (by omega))).trans (by rw [← hw184]; exact (e_up_ne _ _ (Or.inr (by omega))).trans j126)); omega), (by have u193 : w186 275 84 = 4 := (by rw [← hw186]; exact (e_up_ne _ _ (Or.inr (by omega))).trans (by rw [← hw184]; exact e_up_eq _ _ _ _)); omega), (by have u2 : w186 275 85 = y3 := (by rw [← hw186]; exact e_up_eq _ _ _ _); omega), (by have u1 : w186 275 84 = 4 := (by rw [← hw186]; exact (e_up_ne _ _ (Or.inr (by omega))).trans (by rw [← hw184]; exact e_up_eq _ _ _ _)); have u2 : w186 275 85 = y3 := (by rw [← hw186]; exact e_up_eq _ _ _ _); exact Or.inl ⟨u1, y3, by omega, hkw (by omega), u2⟩)⟩ (by omega))
                                        exact ⟨rfl, rfl, rfl, trivial⟩
                                      · replace h192 : (z191 : Int) ≠ 32 := by have q : ¬ ((z191 : Int) = 32) := h192; omega
                                        have hlz : z2 ≠ e2 := fun e => by rw [e, hw1.2.2.2.2.2] at hz191; omega
                                        refine e_Ok.inc (z := z2 + 1) rfl rfl (by omega) (by omega) ?_
                                        show e_Ok 20 elay ecode eI (d + 1) 328 (174, [(2, (0, z2 + 1)), (0, (1, 275)), (3, (0, y3))], [], w186) _
                                        refine e_Ok.run (t' := (159, [(2, (0, z2 + 1)), (0, (1, 275)), (3, (0, y3))], [], w186)) 1 rfl ?_
                                        refine e_Ok.sub eAlk (e_sub_of rfl ?_) (ih189 (z2 + 1) (by omega) (by omega))
                                        exact ⟨rfl, rfl, rfl, trivial⟩
                                  refine e_Ok.sub eAlk (e_sub_of rfl ?_) (hL188 (171 + 1 : Int).toNat y2 (by omega) (by omega))
                                  exact ⟨rfl, rfl, rfl, trivial⟩
                            · replace h168 : (z162 : Int) = z166 := by have q : ¬ ((z162 : Int) ≠ z166) := h168; omega
                              refine e_Ok.inc (z := y4 + 1) rfl rfl (by omega) (by omega) ?_
                              show e_Ok 20 elay ecode eI (d + 1) 328 (117, [(4, (0, y4 + 1)), (0, (1, 275)), (2, (0, y2)), (3, (0, y3))], [], v1) _
                              refine e_Ok.run (t' := (75, [(4, (0, y4 + 1)), (0, (1, 275)), (2, (0, y2)), (3, (0, y3))], [], v1)) 1 rfl ?_
                              refine e_Ok.sub eAlk (e_sub_of rfl ?_) (ih132 (y4 + 1) ⟨by omega, (fun j g1 g2 => by by_cases gj : j < y4; (exact j134 j g1 gj); (have ej : j = y4 := (by omega); have pz := kyc_p (i := y2 + y4) (by omega); rw [ej]; omega))⟩ (by omega))
                              exact ⟨rfl, rfl, rfl, rfl, trivial⟩
                      refine e_Ok.sub eAlk (e_sub_of rfl ?_) (hL131 (171 + 1 : Int).toNat 0 ⟨by omega, (fun j g1 g2 => by omega)⟩ (by omega))
                      exact ⟨rfl, rfl, rfl, rfl, trivial⟩
                refine e_Ok.sub eAlk (e_sub_of rfl ?_) (hL120 (172 + 1 : Int).toNat 0 0 w117 ⟨f118, (Or.inr ⟨3, by decide⟩), by omega, (by rw [← hw117]; exact (e_up_ne _ _ (Or.inr (by omega))).trans (by rw [← hw30]; exact (e_up_ne _ _ (Or.inr (by omega))).trans ht)), (by have g : w117 275 87 = y1 := (by rw [← hw117]; exact (e_up_ne _ _ (Or.inr (by omega))).trans (by rw [← hw30]; exact e_up_eq _ _ _ _)); omega), (by have u119 : w117 275 84 = 5 := (by rw [← hw117]; exact e_up_eq _ _ _ _); omega), (by have u2 : w117 275 85 = w 275 85 := (by rw [← hw117]; exact (e_up_ne _ _ (Or.inr (by omega))).trans (by rw [← hw30]; exact (e_up_ne _ _ (Or.inr (by omega))).trans rfl)); omega), (Or.inr ⟨fun k k0 k1 => by omega, by omega⟩)⟩ (by omega))
                exact ⟨rfl, rfl, rfl, trivial⟩
            · replace h29 : (0 : Int) ≠ 0 := by have q : ¬ ((0 : Int) = 0) := h29; omega
              exfalso; omega
  refine e_Ok.sub eAlk (e_sub_of rfl ?_) (hL1 (4001 + 1 : Int).toNat t ⟨by omega, (Or.inr ⟨rfl, rfl⟩), rfl⟩ (by omega))
  exact ⟨rfl, rfl, trivial⟩
set_option maxHeartbeats 4000000 in
end
