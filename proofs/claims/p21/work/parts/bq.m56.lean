noncomputable section
def r9 (w v : eW) : Prop := v 275 6 = w 275 6 ∧ v 275 9 = w 275 9
theorem r9.up {w v v' : eW} {c k z : Int} (h : r9 w v) (hw : e_up v c k z = v') (hc : c ≠ 275) : r9 w v' := by
  have e : ∀ k', v' 275 k' = v 275 k' := fun k' => by rw [← hw]; exact e_up_ne _ _ (Or.inl (fun q => hc q.symm))
  unfold r9
  rw [e, e]
  exact h
set_option maxHeartbeats 4000000 in
theorem c_267_h {d : Nat} (hd : 21 ≤ d) {w : eW} (hT : e_Has mTy w) (hH : e_Has hTy w) : e_Ok 20 elay ecode eI d 267 (0, [(0, (1, 275))], [], w) (fun r w' => r = [] ∧ e_Has hTy w' ∧ r9 w w' ∧ e_Has mTy w' ∧ newOk w') := by
  obtain ⟨d, rfl⟩ : ∃ e, d = e + 1 := ⟨d - 1, by omega⟩
  refine e_Ok.run (t' := (2, [(0, (1, 275))], [(0, 0), (1, 275)], w)) 2 rfl ?_
  refine e_Ok.putb rfl (el_o rfl) rfl rfl (by omega) ?_
  generalize hw1 : e_up w 275 3 0 = w1
  have hH2 : e_Has hTy w1 := e_Has.ups hH hw1 rfl
  have hT3 : e_Has mTy w1 := e_Has.upr hT hw1 rfl (by omega)
  refine e_Ok.run (t' := (7, [(0, (1, 275))], [(0, 0), (1, 275)], w1)) 2 rfl ?_
  refine e_Ok.putf rfl (el_o rfl) rfl rfl ?_
  generalize hw4 : e_up w1 275 10 0 = w4
  have hH5 : e_Has hTy w4 := e_Has.ups hH2 hw4 rfl
  have hT6 : e_Has mTy w4 := e_Has.upr hT3 hw4 rfl (by omega)
  refine e_Ok.run (t' := (12, [(0, (1, 275))], [(0, 0), (1, 275)], w4)) 2 rfl ?_
  refine e_Ok.putf rfl (el_o rfl) rfl rfl ?_
  generalize hw7 : e_up w4 275 23 0 = w7
  have hH8 : e_Has hTy w7 := e_Has.ups hH5 hw7 rfl
  have hT9 : e_Has mTy w7 := e_Has.upr hT6 hw7 rfl (by omega)
  refine e_Ok.run (t' := (17, [(0, (1, 275))], [(0, 0), (1, 275)], w7)) 2 rfl ?_
  refine e_Ok.putf rfl (el_o rfl) rfl rfl ?_
  generalize hw10 : e_up w7 275 30 0 = w10
  have hH11 : e_Has hTy w10 := e_Has.ups hH8 hw10 rfl
  have hT12 : e_Has mTy w10 := e_Has.upr hT9 hw10 rfl (by omega)
  refine e_Ok.run (t' := (22, [(0, (1, 275))], [(0, 0), (1, 275)], w10)) 2 rfl ?_
  refine e_Ok.putf rfl (el_o rfl) rfl rfl ?_
  generalize hw13 : e_up w10 275 40 0 = w13
  have hH14 : e_Has hTy w13 := e_Has.ups hH11 hw13 rfl
  have hT15 : e_Has mTy w13 := e_Has.upr hT12 hw13 rfl (by omega)
  refine e_Ok.run (t' := (27, [(0, (1, 275))], [(0, 0), (1, 275)], w13)) 2 rfl ?_
  refine e_Ok.putf rfl (el_o rfl) rfl rfl ?_
  generalize hw16 : e_up w13 275 42 0 = w16
  have hH17 : e_Has hTy w16 := e_Has.ups hH14 hw16 rfl
  have hT18 : e_Has mTy w16 := e_Has.upr hT15 hw16 rfl (by omega)
  refine e_Ok.run (t' := (32, [(0, (1, 275))], [(0, 0), (1, 275)], w16)) 2 rfl ?_
  refine e_Ok.putf rfl (el_o rfl) rfl rfl ?_
  generalize hw19 : e_up w16 275 49 0 = w19
  have hH20 : e_Has hTy w19 := e_Has.ups hH17 hw19 rfl
  have hT21 : e_Has mTy w19 := e_Has.upr hT18 hw19 rfl (by omega)
  refine e_Ok.run (t' := (37, [(0, (1, 275))], [(0, 0), (1, 275)], w19)) 2 rfl ?_
  refine e_Ok.putf rfl (el_o rfl) rfl rfl ?_
  generalize hw22 : e_up w19 275 5 0 = w22
  have hH23 : e_Has hTy w22 := e_Has.upr hH20 hw22 rfl (by omega)
  have hT24 : e_Has mTy w22 := e_Has.ups hT21 hw22 rfl
  refine e_Ok.run (t' := (42, [(0, (1, 275))], [(0, 0), (1, 275)], w22)) 2 rfl ?_
  refine e_Ok.putf rfl (el_o rfl) rfl rfl ?_
  generalize hw25 : e_up w22 275 118 0 = w25
  have hH26 : e_Has hTy w25 := e_Has.upr hH23 hw25 rfl (by omega)
  have hT27 : e_Has mTy w25 := e_Has.ups hT24 hw25 rfl
  refine e_Ok.run (t' := (47, [(1, (0, 0)), (0, (1, 275))], [], w25)) 2 rfl ?_
  have hL28 : ∀ (nn : Nat) (y1 : Int) (v1 : eW), e_Has mTy v1 ∧ rF v1 ∧ (0 ≤ y1 ∧ y1 ≤ 33060) ∧ (∀ k, 0 ≤ k → k < y1 → v1 276 k = 0) ∧ e_Has hTy v1 ∧ r9 w v1 → 33061 - y1 < nn → e_Ok 20 elay ecode eI (d + 1) 267 (47, [(0, (1, 275)), (1, (0, y1))], [], v1) (fun r w' => r = [] ∧ e_Has hTy w' ∧ r9 w w' ∧ e_Has mTy w' ∧ newOk w') := by
    intro nn
    induction nn with
    | zero => intro y1 v1 hj hm; obtain ⟨j30, j31, j32, j33, j34, j35⟩ := hj; exfalso; omega
    | succ nn ih29 =>
      intro y1 v1 hj hm
      obtain ⟨j30, j31, j32, j33, j34, j35⟩ := hj
      refine e_Ok.run (t' := (50, [(0, (1, 275)), (1, (0, y1))], [(0, 33060), (0, y1)], v1)) 2 rfl ?_
      refine e_Ok.if2 rfl (fun h36 => ?_) (fun h36 => ?_)
      · replace h36 : (y1 : Int) ≥ 33060 := h36
        refine e_Ok.run (t' := (68, [(1, (0, 0)), (0, (1, 275))], [], v1)) 2 rfl ?_
        have hL37 : ∀ (nn : Nat) (y2 : Int) (v2 : eW), e_Has mTy v2 ∧ rF v2 ∧ (0 ≤ y2 ∧ y2 ≤ 4) ∧ e_fr mRa v1 v2 ∧ (∀ a, 0 ≤ a → a < y2 → v2 286 a = 0 ∧ v2 338 a = 0 ∧ v2 276 (36 * a + 17) = -1) ∧ e_Has hTy v2 ∧ r9 w v2 → 5 - y2 < nn → e_Ok 20 elay ecode eI (d + 1) 267 (68, [(0, (1, 275)), (1, (0, y2))], [], v2) (fun r w' => r = [] ∧ e_Has hTy w' ∧ r9 w w' ∧ e_Has mTy w' ∧ newOk w') := by
          intro nn
          induction nn with
          | zero => intro y2 v2 hj hm; obtain ⟨j40, j41, j42, j43, j44, j45, j46⟩ := hj; exfalso; omega
          | succ nn ih38 =>
            intro y2 v2 hj hm
            obtain ⟨j40, j41, j42, j43, j44, j45, j46⟩ := hj
            refine e_Ok.run (t' := (70, [(0, (1, 275)), (1, (0, y2))], [(0, 4), (0, y2)], v2)) 2 rfl ?_
            refine e_Ok.if2 rfl (fun h47 => ?_) (fun h47 => ?_)
            · replace h47 : (y2 : Int) ≥ 4 := h47
              refine e_Ok.run (t' := (172, [(1, (0, 0)), (0, (1, 275))], [], v2)) 2 rfl ?_
              have hL48 : ∀ (nn : Nat) (y3 : Int) (v3 : eW), e_Has mTy v3 ∧ rF v3 ∧ (0 ≤ y3 ∧ y3 ≤ 16) ∧ e_fr mRb v2 v3 ∧ e_Has hTy v3 ∧ r9 w v3 → 17 - y3 < nn → e_Ok 20 elay ecode eI (d + 1) 267 (172, [(0, (1, 275)), (1, (0, y3))], [], v3) (fun r w' => r = [] ∧ e_Has hTy w' ∧ r9 w w' ∧ e_Has mTy w' ∧ newOk w') := by
                intro nn
                induction nn with
                | zero => intro y3 v3 hj hm; obtain ⟨j50, j51, j52, j53, j54, j55⟩ := hj; exfalso; omega
                | succ nn ih49 =>
                  intro y3 v3 hj hm
                  obtain ⟨j50, j51, j52, j53, j54, j55⟩ := hj
                  refine e_Ok.run (t' := (175, [(0, (1, 275)), (1, (0, y3))], [(0, 16), (0, y3)], v3)) 2 rfl ?_
                  refine e_Ok.if2 rfl (fun h56 => ?_) (fun h56 => ?_)
                  · replace h56 : (y3 : Int) ≥ 16 := h56
                    refine e_Ok.run (t' := (198, [(1, (0, 0)), (0, (1, 275))], [], v3)) 2 rfl ?_
                    have hL57 : ∀ (nn : Nat) (y4 : Int) (v4 : eW), e_Has mTy v4 ∧ rF v4 ∧ (0 ≤ y4 ∧ y4 ≤ 8) ∧ e_fr mRc v3 v4 ∧ e_Has hTy v4 ∧ r9 w v4 → 9 - y4 < nn → e_Ok 20 elay ecode eI (d + 1) 267 (198, [(0, (1, 275)), (1, (0, y4))], [], v4) (fun r w' => r = [] ∧ e_Has hTy w' ∧ r9 w w' ∧ e_Has mTy w' ∧ newOk w') := by
                      intro nn
                      induction nn with
                      | zero => intro y4 v4 hj hm; obtain ⟨j59, j60, j61, j62, j63, j64⟩ := hj; exfalso; omega
                      | succ nn ih58 =>
                        intro y4 v4 hj hm
                        obtain ⟨j59, j60, j61, j62, j63, j64⟩ := hj
                        refine e_Ok.run (t' := (201, [(0, (1, 275)), (1, (0, y4))], [(0, 8), (0, y4)], v4)) 2 rfl ?_
                        refine e_Ok.if2 rfl (fun h65 => ?_) (fun h65 => ?_)
                        · replace h65 : (y4 : Int) ≥ 8 := h65
                          refine e_Ok.run (t' := (258, [(1, (0, 0)), (0, (1, 275))], [], v4)) 2 rfl ?_
                          have hL66 : ∀ (nn : Nat) (y5 : Int) (v5 : eW), e_Has mTy v5 ∧ rF v5 ∧ (0 ≤ y5 ∧ y5 ≤ 64) ∧ e_fr mRd v4 v5 ∧ (∀ p, 0 ≤ p → p < y5 → v5 318 p = -1) ∧ e_Has hTy v5 ∧ r9 w v5 → 65 - y5 < nn → e_Ok 20 elay ecode eI (d + 1) 267 (258, [(0, (1, 275)), (1, (0, y5))], [], v5) (fun r w' => r = [] ∧ e_Has hTy w' ∧ r9 w w' ∧ e_Has mTy w' ∧ newOk w') := by
                            intro nn
                            induction nn with
                            | zero => intro y5 v5 hj hm; obtain ⟨j68, j69, j70, j71, j72, j73, j74⟩ := hj; exfalso; omega
                            | succ nn ih67 =>
                              intro y5 v5 hj hm
                              obtain ⟨j68, j69, j70, j71, j72, j73, j74⟩ := hj
                              refine e_Ok.run (t' := (261, [(0, (1, 275)), (1, (0, y5))], [(0, 64), (0, y5)], v5)) 2 rfl ?_
                              refine e_Ok.if2 rfl (fun h75 => ?_) (fun h75 => ?_)
                              · replace h75 : (y5 : Int) ≥ 64 := h75
                                refine e_Ok.run (t' := (279, [(1, (0, 0)), (0, (1, 275))], [], v5)) 2 rfl ?_
                                have hL76 : ∀ (nn : Nat) (y6 : Int) (v6 : eW), e_Has mTy v6 ∧ rF v6 ∧ (0 ≤ y6 ∧ y6 ≤ 448) ∧ e_fr mRe v5 v6 ∧ e_Has hTy v6 ∧ r9 w v6 → 449 - y6 < nn → e_Ok 20 elay ecode eI (d + 1) 267 (279, [(0, (1, 275)), (1, (0, y6))], [], v6) (fun r w' => r = [] ∧ e_Has hTy w' ∧ r9 w w' ∧ e_Has mTy w' ∧ newOk w') := by
                                  intro nn
                                  induction nn with
                                  | zero => intro y6 v6 hj hm; obtain ⟨j78, j79, j80, j81, j82, j83⟩ := hj; exfalso; omega
                                  | succ nn ih77 =>
                                    intro y6 v6 hj hm
                                    obtain ⟨j78, j79, j80, j81, j82, j83⟩ := hj
                                    refine e_Ok.run (t' := (283, [(0, (1, 275)), (1, (0, y6))], [(0, 448), (0, y6)], v6)) 2 rfl ?_
                                    refine e_Ok.if2 rfl (fun h84 => ?_) (fun h84 => ?_)
                                    · replace h84 : (y6 : Int) ≥ 448 := h84
                                      refine e_Ok.rets rfl rfl ?_
                                      exact ⟨rfl, j82, j83, j78, j79, fun a g1 g2 => ⟨(j81 286 a (by unfold mRe; omega)).trans ((j71 286 a (by unfold mRd; omega)).trans ((j62 286 a (by unfold mRc; omega)).trans ((j53 286 a (by unfold mRb; omega)).trans ((j44 a g1 (by omega)).1)))), (j81 338 a (by unfold mRe; omega)).trans ((j71 338 a (by unfold mRd; omega)).trans ((j62 338 a (by unfold mRc; omega)).trans ((j53 338 a (by unfold mRb; omega)).trans ((j44 a g1 (by omega)).2.1)))), (j81 276 (36 * a + 17) (by unfold mRe; omega)).trans ((j71 276 (36 * a + 17) (by unfold mRd; omega)).trans ((j62 276 (36 * a + 17) (by unfold mRc; omega)).trans ((j53 276 (36 * a + 17) (by unfold mRb; omega)).trans ((j44 a g1 (by omega)).2.2))))⟩, fun p g1 g2 => (j81 318 p (by unfold mRe; omega)).trans (j72 p g1 (by omega)), fun k g1 g2 q1 q2 q3 => (j81 276 k (by unfold mRe; omega)).trans ((j71 276 k (by unfold mRd; omega)).trans ((j62 276 k q3).trans ((j53 276 k q2).trans ((j43 276 k q1).trans (j33 k g1 (by omega))))))⟩
                                    · replace h84 : (y6 : Int) < 448 := by have q : ¬ ((y6 : Int) ≥ 448) := h84; omega
                                      refine e_Ok.run (t' := (287, [(0, (1, 275)), (1, (0, y6))], [(1, 275)], v6)) 1 rfl ?_
                                      refine e_Ok.getr (z := 299) rfl (el_o rfl) rfl rfl (e_Has.eq j78 rfl) (by omega) ?_
                                      refine e_Ok.run (t' := (292, [(0, (1, 275)), (1, (0, y6))], [(0, 0), (0, y6), (1, 299)], v6)) 2 rfl ?_
                                      refine e_Ok.ast rfl (el_o rfl) rfl (e_nar_b (by omega)) (by omega) ?_
                                      generalize hw85 : e_up v6 299 y6 0 = w85
                                      have hH86 : e_Has hTy w85 := e_Has.ups j82 hw85 rfl
                                      have hT87 : e_Has mTy w85 := e_Has.upr j78 hw85 rfl (by omega)
                                      refine e_Ok.inc (z := y6 + 1) rfl rfl (by omega) (by omega) ?_
                                      show e_Ok 20 elay ecode eI (d + 1) 267 (296, [(1, (0, y6 + 1)), (0, (1, 275))], [], w85) _
                                      refine e_Ok.run (t' := (279, [(1, (0, y6 + 1)), (0, (1, 275))], [], w85)) 1 rfl ?_
                                      refine e_Ok.sub eAlk (e_sub_of rfl ?_) (ih77 (y6 + 1) w85 ⟨hT87, (rF.up j79 hw85 (by decide)), by omega, (e_fr.up j81 hw85 (by unfold mRe; omega)), hH86, (r9.up j83 hw85 (by decide))⟩ (by omega))
                                      exact ⟨rfl, rfl, trivial⟩
                                refine e_Ok.sub eAlk (e_sub_of rfl ?_) (hL76 (449 + 1 : Int).toNat 0 v5 ⟨j68, j69, by omega, (e_fr.refl v5), j73, j74⟩ (by omega))
                                exact ⟨rfl, rfl, trivial⟩
                              · replace h75 : (y5 : Int) < 64 := by have q : ¬ ((y5 : Int) ≥ 64) := h75; omega
                                refine e_Ok.run (t' := (265, [(0, (1, 275)), (1, (0, y5))], [(1, 275)], v5)) 1 rfl ?_
                                refine e_Ok.getr (z := 318) rfl (el_o rfl) rfl rfl (e_Has.eq j68 rfl) (by omega) ?_
                                refine e_Ok.run (t' := (270, [(0, (1, 275)), (1, (0, y5))], [(0, (-1)), (0, y5), (1, 318)], v5)) 2 rfl ?_
                                refine e_Ok.ast rfl (el_o rfl) rfl rfl (by omega) ?_
                                generalize hw88 : e_up v5 318 y5 (-1) = w88
                                have hH89 : e_Has hTy w88 := e_Has.ups j73 hw88 rfl
                                have hT90 : e_Has mTy w88 := e_Has.upr j68 hw88 rfl (by omega)
                                refine e_Ok.inc (z := y5 + 1) rfl rfl (by omega) (by omega) ?_
                                show e_Ok 20 elay ecode eI (d + 1) 267 (274, [(1, (0, y5 + 1)), (0, (1, 275))], [], w88) _
                                refine e_Ok.run (t' := (258, [(1, (0, y5 + 1)), (0, (1, 275))], [], w88)) 1 rfl ?_
                                refine e_Ok.sub eAlk (e_sub_of rfl ?_) (ih67 (y5 + 1) w88 ⟨hT90, (rF.up j69 hw88 (by decide)), by omega, (e_fr.up j71 hw88 (by unfold mRd; omega)), (fun p g1 g2 => Decidable.byCases (p := p = y5) (fun e => by rw [e, ← hw88]; exact e_up_eq _ _ _ _) (fun e => Eq.trans (show w88 318 p = v5 318 p from by rw [← hw88]; exact e_up_ne _ _ (Or.inr e)) (j72 p g1 (by omega)))), hH89, (r9.up j74 hw88 (by decide))⟩ (by omega))
                                exact ⟨rfl, rfl, trivial⟩
                          refine e_Ok.sub eAlk (e_sub_of rfl ?_) (hL66 (65 + 1 : Int).toNat 0 v4 ⟨j59, j60, by omega, (e_fr.refl v4), (fun p g1 g2 => by omega), j63, j64⟩ (by omega))
                          exact ⟨rfl, rfl, trivial⟩
                        · replace h65 : (y4 : Int) < 8 := by have q : ¬ ((y4 : Int) ≥ 8) := h65; omega
                          refine e_Ok.run (t' := (205, [(0, (1, 275)), (1, (0, y4))], [(1, 275)], v4)) 1 rfl ?_
                          refine e_Ok.getr (z := 276) rfl (el_o rfl) rfl rfl (e_Has.eq j59 rfl) (by omega) ?_
                          refine e_Ok.run (t' := (212, [(0, (1, 275)), (1, (0, y4))], [(0, y4), (0, 20868), (1, 276)], v4)) 2 rfl ?_
                          refine e_Ok.add (z := y4 + 20868) rfl (by omega) (by omega) ?_
                          refine e_Ok.run (t' := (214, [(0, (1, 275)), (1, (0, y4))], [(0, (-1)), (0, y4 + 20868), (1, 276)], v4)) 1 rfl ?_
                          refine e_Ok.ast rfl (el_o rfl) rfl rfl (by omega) ?_
                          generalize hw91 : e_up v4 276 (y4 + 20868) (-1) = w91
                          have hH92 : e_Has hTy w91 := e_Has.ups j63 hw91 rfl
                          have hT93 : e_Has mTy w91 := e_Has.upr j59 hw91 (nR_LOCK (l := y4) (by omega)) (by omega)
                          refine e_Ok.run (t' := (216, [(0, (1, 275)), (1, (0, y4))], [(1, 275)], w91)) 1 rfl ?_
                          refine e_Ok.getr (z := 276) rfl (el_o rfl) rfl rfl (by rw [← hw91]; exact (e_up_ne _ _ (Or.inl (by omega))).trans (e_Has.eq j59 rfl)) (by omega) ?_
                          refine e_Ok.run (t' := (224, [(0, (1, 275)), (1, (0, y4))], [(0, y4), (0, 4), (0, 20836), (1, 276)], w91)) 3 rfl ?_
                          refine e_Ok.mul (z := 4 * y4) rfl (by omega) (by omega) ?_
                          refine e_Ok.add (z := 4 * y4 + 20836) rfl (by omega) (by omega) ?_
                          refine e_Ok.run (t' := (227, [(0, (1, 275)), (1, (0, y4))], [(0, 1), (0, 4 * y4 + 20836), (1, 276)], w91)) 1 rfl ?_
                          refine e_Ok.ast rfl (el_o rfl) rfl rfl (by omega) ?_
                          generalize hw94 : e_up w91 276 (4 * y4 + 20836) 1 = w94
                          have hH95 : e_Has hTy w94 := e_Has.ups hH92 hw94 rfl
                          have hT101 : e_Has mTy w94 := e_Has.upr hT93 hw94 (nR_INPUT (i := y4) (f := 0) (by omega) (by decide)) (by omega)
                          refine e_Ok.run (t' := (229, [(0, (1, 275)), (1, (0, y4))], [(1, 275)], w94)) 1 rfl ?_
                          refine e_Ok.getr (z := 276) rfl (el_o rfl) rfl rfl (by rw [← hw94]; exact (e_up_ne _ _ (Or.inl (by omega))).trans (by rw [← hw91]; exact (e_up_ne _ _ (Or.inl (by omega))).trans (e_Has.eq j59 rfl))) (by omega) ?_
                          refine e_Ok.run (t' := (237, [(0, (1, 275)), (1, (0, y4))], [(0, y4), (0, 4), (0, 20836), (1, 276)], w94)) 3 rfl ?_
                          refine e_Ok.mul (z := 4 * y4) rfl (by omega) (by omega) ?_
                          refine e_Ok.add (z := 4 * y4 + 20836) rfl (by omega) (by omega) ?_
                          refine e_Ok.run (t' := (240, [(0, (1, 275)), (1, (0, y4))], [(0, 1), (0, 4 * y4 + 20836), (1, 276)], w94)) 1 rfl ?_
                          refine e_Ok.add (z := 4 * y4 + 20837) rfl (by omega) (by omega) ?_
                          refine e_Ok.run (t' := (242, [(0, (1, 275)), (1, (0, y4))], [(0, 1), (0, 4 * y4 + 20837), (1, 276)], w94)) 1 rfl ?_
                          refine e_Ok.ast rfl (el_o rfl) rfl rfl (by omega) ?_
                          generalize hw103 : e_up w94 276 (4 * y4 + 20837) 1 = w103
                          have hH104 : e_Has hTy w103 := e_Has.ups hH95 hw103 rfl
                          have hT105 : e_Has mTy w103 := e_Has.upr hT101 hw103 (nR_INPUT (i := y4) (f := 1) (by omega) (by decide)) (by omega)
                          refine e_Ok.run (t' := (244, [(0, (1, 275)), (1, (0, y4))], [(1, 275)], w103)) 1 rfl ?_
                          refine e_Ok.getr (z := 317) rfl (el_o rfl) rfl rfl (by rw [← hw103]; exact (e_up_ne _ _ (Or.inl (by omega))).trans (by rw [← hw94]; exact (e_up_ne _ _ (Or.inl (by omega))).trans (by rw [← hw91]; exact (e_up_ne _ _ (Or.inl (by omega))).trans (e_Has.eq j59 rfl)))) (by omega) ?_
                          refine e_Ok.run (t' := (249, [(0, (1, 275)), (1, (0, y4))], [(0, 0), (0, y4), (1, 317)], w103)) 2 rfl ?_
                          refine e_Ok.ast rfl (el_o rfl) rfl (e_nar_b (by omega)) (by omega) ?_
                          generalize hw106 : e_up w103 317 y4 0 = w106
                          have hH107 : e_Has hTy w106 := e_Has.ups hH104 hw106 rfl
                          have hT108 : e_Has mTy w106 := e_Has.upr hT105 hw106 rfl (by omega)
                          refine e_Ok.inc (z := y4 + 1) rfl rfl (by omega) (by omega) ?_
                          show e_Ok 20 elay ecode eI (d + 1) 267 (253, [(1, (0, y4 + 1)), (0, (1, 275))], [], w106) _
                          refine e_Ok.run (t' := (198, [(1, (0, y4 + 1)), (0, (1, 275))], [], w106)) 1 rfl ?_
                          refine e_Ok.sub eAlk (e_sub_of rfl ?_) (ih58 (y4 + 1) w106 ⟨hT108, (rF.up (rF.up (rF.up (rF.up j60 hw91 (by decide)) hw94 (by decide)) hw103 (by decide)) hw106 (by decide)), by omega, (e_fr.up (e_fr.up (e_fr.up (e_fr.up j62 hw91 (by unfold mRc; omega)) hw94 (by unfold mRc; omega)) hw103 (by unfold mRc; omega)) hw106 (by unfold mRc; omega)), hH107, (r9.up (r9.up (r9.up (r9.up j64 hw91 (by decide)) hw94 (by decide)) hw103 (by decide)) hw106 (by decide))⟩ (by omega))
                          exact ⟨rfl, rfl, trivial⟩
                    refine e_Ok.sub eAlk (e_sub_of rfl ?_) (hL57 (9 + 1 : Int).toNat 0 v3 ⟨j50, j51, by omega, (e_fr.refl v3), j54, j55⟩ (by omega))
                    exact ⟨rfl, rfl, trivial⟩
                  · replace h56 : (y3 : Int) < 16 := by have q : ¬ ((y3 : Int) ≥ 16) := h56; omega
                    refine e_Ok.run (t' := (179, [(0, (1, 275)), (1, (0, y3))], [(1, 275)], v3)) 1 rfl ?_
                    refine e_Ok.getr (z := 276) rfl (el_o rfl) rfl rfl (e_Has.eq j50 rfl) (by omega) ?_
                    refine e_Ok.run (t' := (183, [(0, (1, 275)), (1, (0, y3))], [(0, y3), (1, 276)], v3)) 1 rfl ?_
                    refine e_Ok.callS rfl (by omega) rfl rfl (c_269 (by omega)) (fun r109 w110 h111 => ?_)
                    obtain ⟨rfl, rfl⟩ := h111
                    show e_Ok 20 elay ecode eI (d + 1) 267 (186, [(0, (1, 275)), (1, (0, y3))], [(0, 1260 * y3 + 416), (1, 276)], v3) _
                    refine e_Ok.run (t' := (187, [(0, (1, 275)), (1, (0, y3))], [(0, 1), (0, 1260 * y3 + 416), (1, 276)], v3)) 1 rfl ?_
                    refine e_Ok.add (z := 1260 * y3 + 417) rfl (by omega) (by omega) ?_
                    refine e_Ok.run (t' := (189, [(0, (1, 275)), (1, (0, y3))], [(0, (-1)), (0, 1260 * y3 + 417), (1, 276)], v3)) 1 rfl ?_
                    refine e_Ok.ast rfl (el_o rfl) rfl rfl (by omega) ?_
                    generalize hw112 : e_up v3 276 (1260 * y3 + 417) (-1) = w112
                    have hH113 : e_Has hTy w112 := e_Has.ups j54 hw112 rfl
                    have hT114 : e_Has mTy w112 := e_Has.upr j50 hw112 (nR_TASK_ARM (t := y3) (by omega)) (by omega)
                    refine e_Ok.inc (z := y3 + 1) rfl rfl (by omega) (by omega) ?_
                    show e_Ok 20 elay ecode eI (d + 1) 267 (193, [(1, (0, y3 + 1)), (0, (1, 275))], [], w112) _
                    refine e_Ok.run (t' := (172, [(1, (0, y3 + 1)), (0, (1, 275))], [], w112)) 1 rfl ?_
                    refine e_Ok.sub eAlk (e_sub_of rfl ?_) (ih49 (y3 + 1) w112 ⟨hT114, (rF.up j51 hw112 (by decide)), by omega, (e_fr.up j53 hw112 (by unfold mRb; omega)), hH113, (r9.up j55 hw112 (by decide))⟩ (by omega))
                    exact ⟨rfl, rfl, trivial⟩
              refine e_Ok.sub eAlk (e_sub_of rfl ?_) (hL48 (17 + 1 : Int).toNat 0 v2 ⟨j40, j41, by omega, (e_fr.refl v2), j45, j46⟩ (by omega))
              exact ⟨rfl, rfl, trivial⟩
            · replace h47 : (y2 : Int) < 4 := by have q : ¬ ((y2 : Int) ≥ 4) := h47; omega
              refine e_Ok.run (t' := (74, [(0, (1, 275)), (1, (0, y2))], [(1, 275)], v2)) 1 rfl ?_
              refine e_Ok.getr (z := 286) rfl (el_o rfl) rfl rfl (e_Has.eq j40 rfl) (by omega) ?_
              refine e_Ok.run (t' := (79, [(0, (1, 275)), (1, (0, y2))], [(0, 0), (0, y2), (1, 286)], v2)) 2 rfl ?_
              refine e_Ok.ast rfl (el_o rfl) rfl rfl (by omega) ?_
              generalize hw115 : e_up v2 286 y2 0 = w115
              have hH116 : e_Has hTy w115 := e_Has.ups j45 hw115 rfl
              have hT117 : e_Has mTy w115 := e_Has.upr j40 hw115 rfl (by omega)
              refine e_Ok.run (t' := (81, [(0, (1, 275)), (1, (0, y2))], [(1, 275)], w115)) 1 rfl ?_
              refine e_Ok.getr (z := 276) rfl (el_o rfl) rfl rfl (by rw [← hw115]; exact (e_up_ne _ _ (Or.inl (by omega))).trans (e_Has.eq j40 rfl)) (by omega) ?_
              refine e_Ok.run (t' := (85, [(0, (1, 275)), (1, (0, y2))], [(0, y2), (1, 276)], w115)) 1 rfl ?_
              refine e_Ok.callS rfl (by omega) rfl rfl (c_268 (by omega)) (fun r118 w119 h120 => ?_)
              obtain ⟨rfl, rfl⟩ := h120
              show e_Ok 20 elay ecode eI (d + 1) 267 (88, [(0, (1, 275)), (1, (0, y2))], [(0, 36 * y2 + 16), (1, 276)], w115) _
              refine e_Ok.run (t' := (89, [(0, (1, 275)), (1, (0, y2))], [(0, 1), (0, 36 * y2 + 16), (1, 276)], w115)) 1 rfl ?_
              refine e_Ok.add (z := 36 * y2 + 17) rfl (by omega) (by omega) ?_
              refine e_Ok.run (t' := (91, [(0, (1, 275)), (1, (0, y2))], [(0, (-1)), (0, 36 * y2 + 17), (1, 276)], w115)) 1 rfl ?_
              refine e_Ok.ast rfl (el_o rfl) rfl rfl (by omega) ?_
              generalize hw121 : e_up w115 276 (36 * y2 + 17) (-1) = w121
              have hH122 : e_Has hTy w121 := e_Has.ups hH116 hw121 rfl
              have hT123 : e_Has mTy w121 := e_Has.upr hT117 hw121 (nR_HOLDS (a := y2) (by omega)) (by omega)
              refine e_Ok.run (t' := (93, [(0, (1, 275)), (1, (0, y2))], [(1, 275)], w121)) 1 rfl ?_
              refine e_Ok.getr (z := 276) rfl (el_o rfl) rfl rfl (by rw [← hw121]; exact (e_up_ne _ _ (Or.inl (by omega))).trans (by rw [← hw115]; exact (e_up_ne _ _ (Or.inl (by omega))).trans (e_Has.eq j40 rfl))) (by omega) ?_
              refine e_Ok.run (t' := (97, [(0, (1, 275)), (1, (0, y2))], [(0, y2), (1, 276)], w121)) 1 rfl ?_
              refine e_Ok.callS rfl (by omega) rfl rfl (c_268 (by omega)) (fun r124 w125 h126 => ?_)
              obtain ⟨rfl, rfl⟩ := h126
              show e_Ok 20 elay ecode eI (d + 1) 267 (100, [(0, (1, 275)), (1, (0, y2))], [(0, 36 * y2 + 16), (1, 276)], w121) _
              refine e_Ok.run (t' := (101, [(0, (1, 275)), (1, (0, y2))], [(0, 2), (0, 36 * y2 + 16), (1, 276)], w121)) 1 rfl ?_
              refine e_Ok.add (z := 36 * y2 + 18) rfl (by omega) (by omega) ?_
              refine e_Ok.run (t' := (103, [(0, (1, 275)), (1, (0, y2))], [(0, (-1)), (0, 36 * y2 + 18), (1, 276)], w121)) 1 rfl ?_
              refine e_Ok.ast rfl (el_o rfl) rfl rfl (by omega) ?_
              generalize hw127 : e_up w121 276 (36 * y2 + 18) (-1) = w127
              have hH128 : e_Has hTy w127 := e_Has.ups hH122 hw127 rfl
              have hT129 : e_Has mTy w127 := e_Has.upr hT123 hw127 (nR_STUCK (a := y2) (by omega)) (by omega)
              refine e_Ok.run (t' := (105, [(0, (1, 275)), (1, (0, y2))], [(1, 275)], w127)) 1 rfl ?_
              refine e_Ok.getr (z := 276) rfl (el_o rfl) rfl rfl (by rw [← hw127]; exact (e_up_ne _ _ (Or.inl (by omega))).trans (by rw [← hw121]; exact (e_up_ne _ _ (Or.inl (by omega))).trans (by rw [← hw115]; exact (e_up_ne _ _ (Or.inl (by omega))).trans (e_Has.eq j40 rfl)))) (by omega) ?_
              refine e_Ok.run (t' := (109, [(0, (1, 275)), (1, (0, y2))], [(0, y2), (1, 276)], w127)) 1 rfl ?_
              refine e_Ok.callS rfl (by omega) rfl rfl (c_268 (by omega)) (fun r130 w131 h132 => ?_)
              obtain ⟨rfl, rfl⟩ := h132
              show e_Ok 20 elay ecode eI (d + 1) 267 (112, [(0, (1, 275)), (1, (0, y2))], [(0, 36 * y2 + 16), (1, 276)], w127) _
              refine e_Ok.run (t' := (113, [(0, (1, 275)), (1, (0, y2))], [(0, 3), (0, 36 * y2 + 16), (1, 276)], w127)) 1 rfl ?_
              refine e_Ok.add (z := 36 * y2 + 19) rfl (by omega) (by omega) ?_
              refine e_Ok.run (t' := (115, [(0, (1, 275)), (1, (0, y2))], [(0, (-1)), (0, 36 * y2 + 19), (1, 276)], w127)) 1 rfl ?_
              refine e_Ok.ast rfl (el_o rfl) rfl rfl (by omega) ?_
              generalize hw133 : e_up w127 276 (36 * y2 + 19) (-1) = w133
              have hH134 : e_Has hTy w133 := e_Has.ups hH128 hw133 rfl
              have hT135 : e_Has mTy w133 := e_Has.upr hT129 hw133 (nR_WAY_SIZE (a := y2) (by omega)) (by omega)
              refine e_Ok.run (t' := (117, [(0, (1, 275)), (1, (0, y2))], [(1, 275)], w133)) 1 rfl ?_
              refine e_Ok.getr (z := 276) rfl (el_o rfl) rfl rfl (by rw [← hw133]; exact (e_up_ne _ _ (Or.inl (by omega))).trans (by rw [← hw127]; exact (e_up_ne _ _ (Or.inl (by omega))).trans (by rw [← hw121]; exact (e_up_ne _ _ (Or.inl (by omega))).trans (by rw [← hw115]; exact (e_up_ne _ _ (Or.inl (by omega))).trans (e_Has.eq j40 rfl))))) (by omega) ?_
              refine e_Ok.run (t' := (121, [(0, (1, 275)), (1, (0, y2))], [(0, y2), (1, 276)], w133)) 1 rfl ?_
              refine e_Ok.callS rfl (by omega) rfl rfl (c_268 (by omega)) (fun r136 w137 h138 => ?_)
              obtain ⟨rfl, rfl⟩ := h138
              show e_Ok 20 elay ecode eI (d + 1) 267 (124, [(0, (1, 275)), (1, (0, y2))], [(0, 36 * y2 + 16), (1, 276)], w133) _
              refine e_Ok.run (t' := (126, [(0, (1, 275)), (1, (0, y2))], [(0, 9), (0, 36 * y2 + 16), (1, 276)], w133)) 1 rfl ?_
              refine e_Ok.add (z := 36 * y2 + 25) rfl (by omega) (by omega) ?_
              refine e_Ok.run (t' := (128, [(0, (1, 275)), (1, (0, y2))], [(0, (-1)), (0, 36 * y2 + 25), (1, 276)], w133)) 1 rfl ?_
              refine e_Ok.ast rfl (el_o rfl) rfl rfl (by omega) ?_
              generalize hw139 : e_up w133 276 (36 * y2 + 25) (-1) = w139
              have hH140 : e_Has hTy w139 := e_Has.ups hH134 hw139 rfl
              have hT141 : e_Has mTy w139 := e_Has.upr hT135 hw139 (nR_MOVER (a := y2) (by omega)) (by omega)
              refine e_Ok.run (t' := (130, [(0, (1, 275)), (1, (0, y2))], [(1, 275)], w139)) 1 rfl ?_
              refine e_Ok.getr (z := 306) rfl (el_o rfl) rfl rfl (by rw [← hw139]; exact (e_up_ne _ _ (Or.inl (by omega))).trans (by rw [← hw133]; exact (e_up_ne _ _ (Or.inl (by omega))).trans (by rw [← hw127]; exact (e_up_ne _ _ (Or.inl (by omega))).trans (by rw [← hw121]; exact (e_up_ne _ _ (Or.inl (by omega))).trans (by rw [← hw115]; exact (e_up_ne _ _ (Or.inl (by omega))).trans (e_Has.eq j40 rfl)))))) (by omega) ?_
              refine e_Ok.run (t' := (135, [(0, (1, 275)), (1, (0, y2))], [(0, (-1)), (0, y2), (1, 306)], w139)) 2 rfl ?_
              refine e_Ok.ast rfl (el_o rfl) rfl rfl (by omega) ?_
              generalize hw142 : e_up w139 306 y2 (-1) = w142
              have hH143 : e_Has hTy w142 := e_Has.ups hH140 hw142 rfl
              have hT144 : e_Has mTy w142 := e_Has.upr hT141 hw142 rfl (by omega)
              refine e_Ok.run (t' := (137, [(0, (1, 275)), (1, (0, y2))], [(1, 275)], w142)) 1 rfl ?_
              refine e_Ok.getr (z := 280) rfl (el_o rfl) rfl rfl (by rw [← hw142]; exact (e_up_ne _ _ (Or.inl (by omega))).trans (by rw [← hw139]; exact (e_up_ne _ _ (Or.inl (by omega))).trans (by rw [← hw133]; exact (e_up_ne _ _ (Or.inl (by omega))).trans (by rw [← hw127]; exact (e_up_ne _ _ (Or.inl (by omega))).trans (by rw [← hw121]; exact (e_up_ne _ _ (Or.inl (by omega))).trans (by rw [← hw115]; exact (e_up_ne _ _ (Or.inl (by omega))).trans (e_Has.eq j40 rfl))))))) (by omega) ?_
              refine e_Ok.run (t' := (142, [(0, (1, 275)), (1, (0, y2))], [(0, 0), (0, y2), (1, 280)], w142)) 2 rfl ?_
              refine e_Ok.ast rfl (el_o rfl) rfl rfl (by omega) ?_
              generalize hw145 : e_up w142 280 y2 0 = w145
              have hH146 : e_Has hTy w145 := e_Has.upr hH143 hw145 rfl (by omega)
              have hT147 : e_Has mTy w145 := e_Has.ups hT144 hw145 rfl
              refine e_Ok.run (t' := (144, [(0, (1, 275)), (1, (0, y2))], [(1, 275)], w145)) 1 rfl ?_
              refine e_Ok.getr (z := 338) rfl (el_o rfl) rfl rfl (by rw [← hw145]; exact (e_up_ne _ _ (Or.inl (by omega))).trans (by rw [← hw142]; exact (e_up_ne _ _ (Or.inl (by omega))).trans (by rw [← hw139]; exact (e_up_ne _ _ (Or.inl (by omega))).trans (by rw [← hw133]; exact (e_up_ne _ _ (Or.inl (by omega))).trans (by rw [← hw127]; exact (e_up_ne _ _ (Or.inl (by omega))).trans (by rw [← hw121]; exact (e_up_ne _ _ (Or.inl (by omega))).trans (by rw [← hw115]; exact (e_up_ne _ _ (Or.inl (by omega))).trans (e_Has.eq j40 rfl)))))))) (by omega) ?_
              refine e_Ok.run (t' := (149, [(0, (1, 275)), (1, (0, y2))], [(0, 0), (0, y2), (1, 338)], w145)) 2 rfl ?_
              refine e_Ok.ast rfl (el_o rfl) rfl rfl (by omega) ?_
              generalize hw148 : e_up w145 338 y2 0 = w148
              have hH149 : e_Has hTy w148 := e_Has.ups hH146 hw148 rfl
              have hT150 : e_Has mTy w148 := e_Has.upr hT147 hw148 rfl (by omega)
              refine e_Ok.run (t' := (151, [(0, (1, 275)), (1, (0, y2))], [(1, 275)], w148)) 1 rfl ?_
              refine e_Ok.getr (z := 339) rfl (el_o rfl) rfl rfl (by rw [← hw148]; exact (e_up_ne _ _ (Or.inl (by omega))).trans (by rw [← hw145]; exact (e_up_ne _ _ (Or.inl (by omega))).trans (by rw [← hw142]; exact (e_up_ne _ _ (Or.inl (by omega))).trans (by rw [← hw139]; exact (e_up_ne _ _ (Or.inl (by omega))).trans (by rw [← hw133]; exact (e_up_ne _ _ (Or.inl (by omega))).trans (by rw [← hw127]; exact (e_up_ne _ _ (Or.inl (by omega))).trans (by rw [← hw121]; exact (e_up_ne _ _ (Or.inl (by omega))).trans (by rw [← hw115]; exact (e_up_ne _ _ (Or.inl (by omega))).trans (e_Has.eq j40 rfl))))))))) (by omega) ?_
              refine e_Ok.run (t' := (156, [(0, (1, 275)), (1, (0, y2))], [(0, 0), (0, y2), (1, 339)], w148)) 2 rfl ?_
              refine e_Ok.ast rfl (el_o rfl) rfl rfl (by omega) ?_
              generalize hw151 : e_up w148 339 y2 0 = w151
              have hH152 : e_Has hTy w151 := e_Has.ups hH149 hw151 rfl
              have hT153 : e_Has mTy w151 := e_Has.upr hT150 hw151 rfl (by omega)
              refine e_Ok.run (t' := (158, [(0, (1, 275)), (1, (0, y2))], [(1, 275)], w151)) 1 rfl ?_
              refine e_Ok.getr (z := 340) rfl (el_o rfl) rfl rfl (by rw [← hw151]; exact (e_up_ne _ _ (Or.inl (by omega))).trans (by rw [← hw148]; exact (e_up_ne _ _ (Or.inl (by omega))).trans (by rw [← hw145]; exact (e_up_ne _ _ (Or.inl (by omega))).trans (by rw [← hw142]; exact (e_up_ne _ _ (Or.inl (by omega))).trans (by rw [← hw139]; exact (e_up_ne _ _ (Or.inl (by omega))).trans (by rw [← hw133]; exact (e_up_ne _ _ (Or.inl (by omega))).trans (by rw [← hw127]; exact (e_up_ne _ _ (Or.inl (by omega))).trans (by rw [← hw121]; exact (e_up_ne _ _ (Or.inl (by omega))).trans (by rw [← hw115]; exact (e_up_ne _ _ (Or.inl (by omega))).trans (e_Has.eq j40 rfl)))))))))) (by omega) ?_
              refine e_Ok.run (t' := (163, [(0, (1, 275)), (1, (0, y2))], [(0, 0), (0, y2), (1, 340)], w151)) 2 rfl ?_
              refine e_Ok.ast rfl (el_o rfl) rfl (e_nar_b (by omega)) (by omega) ?_
              generalize hw154 : e_up w151 340 y2 0 = w154
              have hH155 : e_Has hTy w154 := e_Has.ups hH152 hw154 rfl
              have hT156 : e_Has mTy w154 := e_Has.upr hT153 hw154 rfl (by omega)
              refine e_Ok.inc (z := y2 + 1) rfl rfl (by omega) (by omega) ?_
              show e_Ok 20 elay ecode eI (d + 1) 267 (167, [(1, (0, y2 + 1)), (0, (1, 275))], [], w154) _
              refine e_Ok.run (t' := (68, [(1, (0, y2 + 1)), (0, (1, 275))], [], w154)) 1 rfl ?_
              refine e_Ok.sub eAlk (e_sub_of rfl ?_) (ih38 (y2 + 1) w154 ⟨hT156, (rF.up (rF.up (rF.up (rF.up (rF.up (rF.up (rF.up (rF.up (rF.up (rF.up j41 hw115 (by decide)) hw121 (by decide)) hw127 (by decide)) hw133 (by decide)) hw139 (by decide)) hw142 (by decide)) hw145 (by decide)) hw148 (by decide)) hw151 (by decide)) hw154 (by decide)), by omega, (e_fr.up (e_fr.up (e_fr.up (e_fr.up (e_fr.up (e_fr.up (e_fr.up (e_fr.up (e_fr.up (e_fr.up j43 hw115 (by unfold mRa; omega)) hw121 (by unfold mRa; omega)) hw127 (by unfold mRa; omega)) hw133 (by unfold mRa; omega)) hw139 (by unfold mRa; omega)) hw142 (by unfold mRa; omega)) hw145 (by unfold mRa; omega)) hw148 (by unfold mRa; omega)) hw151 (by unfold mRa; omega)) hw154 (by unfold mRa; omega)), (fun a g1 g2 => Decidable.byCases (p := a = y2) (fun e => by rw [e]; exact ⟨(by rw [← hw154]; exact (e_up_ne _ _ (Or.inl (by omega))).trans (by rw [← hw151]; exact (e_up_ne _ _ (Or.inl (by omega))).trans (by rw [← hw148]; exact (e_up_ne _ _ (Or.inl (by omega))).trans (by rw [← hw145]; exact (e_up_ne _ _ (Or.inl (by omega))).trans (by rw [← hw142]; exact (e_up_ne _ _ (Or.inl (by omega))).trans (by rw [← hw139]; exact (e_up_ne _ _ (Or.inl (by omega))).trans (by rw [← hw133]; exact (e_up_ne _ _ (Or.inl (by omega))).trans (by rw [← hw127]; exact (e_up_ne _ _ (Or.inl (by omega))).trans (by rw [← hw121]; exact (e_up_ne _ _ (Or.inl (by omega))).trans (by rw [← hw115]; exact e_up_eq _ _ _ _)))))))))), (by rw [← hw154]; exact (e_up_ne _ _ (Or.inl (by omega))).trans (by rw [← hw151]; exact (e_up_ne _ _ (Or.inl (by omega))).trans (by rw [← hw148]; exact e_up_eq _ _ _ _))), (by rw [← hw154]; exact (e_up_ne _ _ (Or.inl (by omega))).trans (by rw [← hw151]; exact (e_up_ne _ _ (Or.inl (by omega))).trans (by rw [← hw148]; exact (e_up_ne _ _ (Or.inl (by omega))).trans (by rw [← hw145]; exact (e_up_ne _ _ (Or.inl (by omega))).trans (by rw [← hw142]; exact (e_up_ne _ _ (Or.inl (by omega))).trans (by rw [← hw139]; exact (e_up_ne _ _ (Or.inr (by omega))).trans (by rw [← hw133]; exact (e_up_ne _ _ (Or.inr (by omega))).trans (by rw [← hw127]; exact (e_up_ne _ _ (Or.inr (by omega))).trans (by rw [← hw121]; exact e_up_eq _ _ _ _)))))))))⟩) (fun e => ⟨Eq.trans (show w154 286 a = v2 286 a from (by rw [← hw154]; exact (e_up_ne _ _ (Or.inl (by omega))).trans (by rw [← hw151]; exact (e_up_ne _ _ (Or.inl (by omega))).trans (by rw [← hw148]; exact (e_up_ne _ _ (Or.inl (by omega))).trans (by rw [← hw145]; exact (e_up_ne _ _ (Or.inl (by omega))).trans (by rw [← hw142]; exact (e_up_ne _ _ (Or.inl (by omega))).trans (by rw [← hw139]; exact (e_up_ne _ _ (Or.inl (by omega))).trans (by rw [← hw133]; exact (e_up_ne _ _ (Or.inl (by omega))).trans (by rw [← hw127]; exact (e_up_ne _ _ (Or.inl (by omega))).trans (by rw [← hw121]; exact (e_up_ne _ _ (Or.inl (by omega))).trans (by rw [← hw115]; exact (e_up_ne _ _ (Or.inr (by omega))).trans rfl))))))))))) (j44 a g1 (by omega)).1, Eq.trans (show w154 338 a = v2 338 a from (by rw [← hw154]; exact (e_up_ne _ _ (Or.inl (by omega))).trans (by rw [← hw151]; exact (e_up_ne _ _ (Or.inl (by omega))).trans (by rw [← hw148]; exact (e_up_ne _ _ (Or.inr (by omega))).trans (by rw [← hw145]; exact (e_up_ne _ _ (Or.inl (by omega))).trans (by rw [← hw142]; exact (e_up_ne _ _ (Or.inl (by omega))).trans (by rw [← hw139]; exact (e_up_ne _ _ (Or.inl (by omega))).trans (by rw [← hw133]; exact (e_up_ne _ _ (Or.inl (by omega))).trans (by rw [← hw127]; exact (e_up_ne _ _ (Or.inl (by omega))).trans (by rw [← hw121]; exact (e_up_ne _ _ (Or.inl (by omega))).trans (by rw [← hw115]; exact (e_up_ne _ _ (Or.inl (by omega))).trans rfl))))))))))) (j44 a g1 (by omega)).2.1, Eq.trans (show w154 276 (36 * a + 17) = v2 276 (36 * a + 17) from (by rw [← hw154]; exact (e_up_ne _ _ (Or.inl (by omega))).trans (by rw [← hw151]; exact (e_up_ne _ _ (Or.inl (by omega))).trans (by rw [← hw148]; exact (e_up_ne _ _ (Or.inl (by omega))).trans (by rw [← hw145]; exact (e_up_ne _ _ (Or.inl (by omega))).trans (by rw [← hw142]; exact (e_up_ne _ _ (Or.inl (by omega))).trans (by rw [← hw139]; exact (e_up_ne _ _ (Or.inr (by omega))).trans (by rw [← hw133]; exact (e_up_ne _ _ (Or.inr (by omega))).trans (by rw [← hw127]; exact (e_up_ne _ _ (Or.inr (by omega))).trans (by rw [← hw121]; exact (e_up_ne _ _ (Or.inr (by omega))).trans (by rw [← hw115]; exact (e_up_ne _ _ (Or.inl (by omega))).trans rfl))))))))))) (j44 a g1 (by omega)).2.2⟩)), hH155, (r9.up (r9.up (r9.up (r9.up (r9.up (r9.up (r9.up (r9.up (r9.up (r9.up j46 hw115 (by decide)) hw121 (by decide)) hw127 (by decide)) hw133 (by decide)) hw139 (by decide)) hw142 (by decide)) hw145 (by decide)) hw148 (by decide)) hw151 (by decide)) hw154 (by decide))⟩ (by omega))
              exact ⟨rfl, rfl, trivial⟩
        refine e_Ok.sub eAlk (e_sub_of rfl ?_) (hL37 (5 + 1 : Int).toNat 0 v1 ⟨j30, j31, by omega, (e_fr.refl v1), (fun a g1 g2 => by omega), j34, j35⟩ (by omega))
        exact ⟨rfl, rfl, trivial⟩
      · replace h36 : (y1 : Int) < 33060 := by have q : ¬ ((y1 : Int) ≥ 33060) := h36; omega
        refine e_Ok.run (t' := (54, [(0, (1, 275)), (1, (0, y1))], [(1, 275)], v1)) 1 rfl ?_
        refine e_Ok.getr (z := 276) rfl (el_o rfl) rfl rfl (e_Has.eq j30 rfl) (by omega) ?_
        refine e_Ok.run (t' := (59, [(0, (1, 275)), (1, (0, y1))], [(0, 0), (0, y1), (1, 276)], v1)) 2 rfl ?_
        refine e_Ok.ast rfl (el_o rfl) rfl rfl (by omega) ?_
        generalize hw157 : e_up v1 276 y1 0 = w157
        have hH158 : e_Has hTy w157 := e_Has.ups j34 hw157 rfl
        have hT159 : e_Has mTy w157 := e_Has.zero j30 hw157
        refine e_Ok.inc (z := y1 + 1) rfl rfl (by omega) (by omega) ?_
        show e_Ok 20 elay ecode eI (d + 1) 267 (63, [(1, (0, y1 + 1)), (0, (1, 275))], [], w157) _
        refine e_Ok.run (t' := (47, [(1, (0, y1 + 1)), (0, (1, 275))], [], w157)) 1 rfl ?_
        refine e_Ok.sub eAlk (e_sub_of rfl ?_) (ih29 (y1 + 1) w157 ⟨hT159, (rF.up j31 hw157 (by decide)), by omega, (fun k g1 g2 => Decidable.byCases (p := k = y1) (fun e => by rw [e, ← hw157]; exact e_up_eq _ _ _ _) (fun e => Eq.trans (show w157 276 k = v1 276 k from by rw [← hw157]; exact e_up_ne _ _ (Or.inr e)) (j33 k g1 (by omega)))), hH158, (r9.up j35 hw157 (by decide))⟩ (by omega))
        exact ⟨rfl, rfl, trivial⟩
  refine e_Ok.sub eAlk (e_sub_of rfl ?_) (hL28 (33061 + 1 : Int).toNat 0 w25 ⟨hT27, ⟨(by rw [← hw25]; exact (e_up_ne _ _ (Or.inr (by omega))).trans (by rw [← hw22]; exact (e_up_ne _ _ (Or.inr (by omega))).trans (by rw [← hw19]; exact (e_up_ne _ _ (Or.inr (by omega))).trans (by rw [← hw16]; exact (e_up_ne _ _ (Or.inr (by omega))).trans (by rw [← hw13]; exact (e_up_ne _ _ (Or.inr (by omega))).trans (by rw [← hw10]; exact (e_up_ne _ _ (Or.inr (by omega))).trans (by rw [← hw7]; exact (e_up_ne _ _ (Or.inr (by omega))).trans (by rw [← hw4]; exact (e_up_ne _ _ (Or.inr (by omega))).trans (by rw [← hw1]; exact e_up_eq _ _ _ _))))))))), (by rw [← hw25]; exact (e_up_ne _ _ (Or.inr (by omega))).trans (by rw [← hw22]; exact (e_up_ne _ _ (Or.inr (by omega))).trans (by rw [← hw19]; exact (e_up_ne _ _ (Or.inr (by omega))).trans (by rw [← hw16]; exact (e_up_ne _ _ (Or.inr (by omega))).trans (by rw [← hw13]; exact (e_up_ne _ _ (Or.inr (by omega))).trans (by rw [← hw10]; exact (e_up_ne _ _ (Or.inr (by omega))).trans (by rw [← hw7]; exact (e_up_ne _ _ (Or.inr (by omega))).trans (by rw [← hw4]; exact e_up_eq _ _ _ _)))))))), (by rw [← hw25]; exact (e_up_ne _ _ (Or.inr (by omega))).trans (by rw [← hw22]; exact (e_up_ne _ _ (Or.inr (by omega))).trans (by rw [← hw19]; exact (e_up_ne _ _ (Or.inr (by omega))).trans (by rw [← hw16]; exact (e_up_ne _ _ (Or.inr (by omega))).trans (by rw [← hw13]; exact (e_up_ne _ _ (Or.inr (by omega))).trans (by rw [← hw10]; exact (e_up_ne _ _ (Or.inr (by omega))).trans (by rw [← hw7]; exact e_up_eq _ _ _ _))))))), (by rw [← hw25]; exact (e_up_ne _ _ (Or.inr (by omega))).trans (by rw [← hw22]; exact (e_up_ne _ _ (Or.inr (by omega))).trans (by rw [← hw19]; exact (e_up_ne _ _ (Or.inr (by omega))).trans (by rw [← hw16]; exact (e_up_ne _ _ (Or.inr (by omega))).trans (by rw [← hw13]; exact (e_up_ne _ _ (Or.inr (by omega))).trans (by rw [← hw10]; exact e_up_eq _ _ _ _)))))), (by rw [← hw25]; exact (e_up_ne _ _ (Or.inr (by omega))).trans (by rw [← hw22]; exact (e_up_ne _ _ (Or.inr (by omega))).trans (by rw [← hw19]; exact (e_up_ne _ _ (Or.inr (by omega))).trans (by rw [← hw16]; exact (e_up_ne _ _ (Or.inr (by omega))).trans (by rw [← hw13]; exact e_up_eq _ _ _ _))))), (by rw [← hw25]; exact (e_up_ne _ _ (Or.inr (by omega))).trans (by rw [← hw22]; exact (e_up_ne _ _ (Or.inr (by omega))).trans (by rw [← hw19]; exact (e_up_ne _ _ (Or.inr (by omega))).trans (by rw [← hw16]; exact e_up_eq _ _ _ _)))), (by rw [← hw25]; exact (e_up_ne _ _ (Or.inr (by omega))).trans (by rw [← hw22]; exact (e_up_ne _ _ (Or.inr (by omega))).trans (by rw [← hw19]; exact e_up_eq _ _ _ _))), (by rw [← hw25]; exact (e_up_ne _ _ (Or.inr (by omega))).trans (by rw [← hw22]; exact e_up_eq _ _ _ _))⟩, by omega, (fun k g1 g2 => by omega), hH26, ⟨(by rw [← hw25]; exact (e_up_ne _ _ (Or.inr (by omega))).trans (by rw [← hw22]; exact (e_up_ne _ _ (Or.inr (by omega))).trans (by rw [← hw19]; exact (e_up_ne _ _ (Or.inr (by omega))).trans (by rw [← hw16]; exact (e_up_ne _ _ (Or.inr (by omega))).trans (by rw [← hw13]; exact (e_up_ne _ _ (Or.inr (by omega))).trans (by rw [← hw10]; exact (e_up_ne _ _ (Or.inr (by omega))).trans (by rw [← hw7]; exact (e_up_ne _ _ (Or.inr (by omega))).trans (by rw [← hw4]; exact (e_up_ne _ _ (Or.inr (by omega))).trans (by rw [← hw1]; exact (e_up_ne _ _ (Or.inr (by omega))).trans rfl))))))))), (by rw [← hw25]; exact (e_up_ne _ _ (Or.inr (by omega))).trans (by rw [← hw22]; exact (e_up_ne _ _ (Or.inr (by omega))).trans (by rw [← hw19]; exact (e_up_ne _ _ (Or.inr (by omega))).trans (by rw [← hw16]; exact (e_up_ne _ _ (Or.inr (by omega))).trans (by rw [← hw13]; exact (e_up_ne _ _ (Or.inr (by omega))).trans (by rw [← hw10]; exact (e_up_ne _ _ (Or.inr (by omega))).trans (by rw [← hw7]; exact (e_up_ne _ _ (Or.inr (by omega))).trans (by rw [← hw4]; exact (e_up_ne _ _ (Or.inr (by omega))).trans (by rw [← hw1]; exact (e_up_ne _ _ (Or.inr (by omega))).trans rfl)))))))))⟩⟩ (by omega))
  exact ⟨rfl, rfl, trivial⟩
theorem c_277_h {d : Nat} (hd : 23 ≤ d) {w : eW} (hT : e_Has mTy w) (hH : e_Has hTy w) : e_Ok 20 elay ecode eI d 277 (0, [(0, (1, 275))], [], w) (fun r w' => ∃ z : Int, r = [(0, z)] ∧ e_Has hTy w' ∧ r9 w w' ∧ e_Has mTy w' ∧ newOk w') := by
  obtain ⟨d, rfl⟩ : ∃ e, d = e + 1 := ⟨d - 1, by omega⟩
  refine e_Ok.run (t' := (1, [(0, (1, 275))], [(1, 275)], w)) 1 rfl ?_
  refine e_Ok.getr (z := 276) rfl (el_o rfl) rfl rfl (e_Has.eq hT rfl) (by omega) ?_
  refine e_Ok.run (t' := (5, [(0, (1, 275))], [(0, 0), (1, 276)], w)) 1 rfl ?_
  have h1 := (e_Has.get hT (c := 276) (k := 0) (lo := 0) (hi := 6000) rfl (by decide))
  refine e_Ok.ald (z := w 276 0) rfl (el_o rfl) rfl (by omega) rfl (by omega) ?_
  refine e_Ok.run (t' := (8, [(1, (0, w 276 0)), (0, (1, 275))], [(1, 275)], w)) 2 rfl ?_
  refine e_Ok.callV rfl (by omega) rfl rfl rfl rfl (c_267_h (by omega) hT hH) (fun r2 w3 h4 => ?_)
  obtain ⟨rfl, qh⟩ := h4
  show e_Ok 20 elay ecode eI (d + 1) 277 (11, [(1, (0, w 276 0)), (0, (1, 275))], [], w3) _
  refine e_Ok.run (t' := (12, [(1, (0, w 276 0)), (0, (1, 275))], [(0, w 276 0)], w3)) 1 rfl ?_
  refine e_Ok.rets rfl rfl ?_
  exact ⟨_, rfl, qh⟩
end
