-- part bq
section
noncomputable section
def r9 (w v : eW) : Prop := v 275 6 = w 275 6 ∧ v 275 9 = w 275 9
theorem r9.up {w v v' : eW} {c k z : Int} (h : r9 w v) (hw : e_up v c k z = v') (hc : c ≠ 275) : r9 w v' := by
  have e : ∀ k', v' 275 k' = v 275 k' := fun k' => by rw [← hw]; exact e_up_ne _ _ (Or.inl (fun q => hc q.symm))
  unfold r9
  rw [e, e]
  exact h
theorem no_bq_0 {k : Int} : ¬ mRe 286 k := by unfold mRe; omega
theorem no_bq_1 {k : Int} : ¬ mRd 286 k := by unfold mRd; omega
theorem no_bq_2 {k : Int} : ¬ mRc 286 k := by unfold mRc; omega
theorem no_bq_3 {k : Int} : ¬ mRb 286 k := by unfold mRb; omega
theorem no_bq_4 {k : Int} : ¬ mRe 338 k := by unfold mRe; omega
theorem no_bq_5 {k : Int} : ¬ mRd 338 k := by unfold mRd; omega
theorem no_bq_6 {k : Int} : ¬ mRc 338 k := by unfold mRc; omega
theorem no_bq_7 {k : Int} : ¬ mRb 338 k := by unfold mRb; omega
theorem no_bq_8 {k : Int} : ¬ mRe 276 k := by unfold mRe; omega
theorem no_bq_9 {k : Int} : ¬ mRd 276 k := by unfold mRd; omega
theorem no_bq_10 {a : Int} (ha : 0 ≤ a ∧ a ≤ 3) : ¬ mRc 276 (36 * a + 17) := by unfold mRc; omega
theorem no_bq_11 {a : Int} (ha : 0 ≤ a ∧ a ≤ 3) : ¬ mRb 276 (36 * a + 17) := by unfold mRb; omega
theorem no_bq_12 {k : Int} : ¬ mRe 318 k := by unfold mRe; omega
set_option maxHeartbeats 4000000 in
theorem c_267_h {d : Nat} (hd : 21 ≤ d) {w : eW} (hT : e_Has mTy w) (hH : e_Has hTy w) : e_Ok 20 elay ecode eI d 267 (0, [(0, (1, 275))], [], w) (fun r w' => r = [] ∧ e_Has hTy w' ∧ r9 w w' ∧ e_Has mTy w' ∧ newOk w') := by
  obtain ⟨d, rfl⟩ : ∃ e, d = e + 1 := ⟨d - 1, by omega⟩
  refine e_Ok.run (t' := (2, [(0, (1, 275))], [(0, 0), (1, 275)], w)) 2 rfl ?_
  refine e_Ok.putb rfl (el_o rfl) rfl rfl (by omega) ?_
  generalize hw1 : e_up w 275 3 0 = w1
  have hH2 : e_Has hTy w1 := e_Has.ups hH hw1 rfl
  have hT3 : e_Has mTy w1 := e_Has.upr hT hw1 rfl (by omega)
  refine e_Ok.run (t' := (7, [(0, (1, 275))], [(0, 0), (1, 275)], w1)) 2 rfl ?_
  refine e_Ok.putf rfl (el_o rfl) rfl rfl ?_
  generalize hw4 : e_up w1 275 10 0 = w4
  have hH5 : e_Has hTy w4 := e_Has.ups hH2 hw4 rfl
  have hT6 : e_Has mTy w4 := e_Has.upr hT3 hw4 rfl (by omega)
  refine e_Ok.run (t' := (12, [(0, (1, 275))], [(0, 0), (1, 275)], w4)) 2 rfl ?_
  refine e_Ok.putf rfl (el_o rfl) rfl rfl ?_
  generalize hw7 : e_up w4 275 23 0 = w7
  have hH8 : e_Has hTy w7 := e_Has.ups hH5 hw7 rfl
  have hT9 : e_Has mTy w7 := e_Has.upr hT6 hw7 rfl (by omega)
  refine e_Ok.run (t' := (17, [(0, (1, 275))], [(0, 0), (1, 275)], w7)) 2 rfl ?_
  refine e_Ok.putf rfl (el_o rfl) rfl rfl ?_
  generalize hw10 : e_up w7 275 30 0 = w10
  have hH11 : e_Has hTy w10 := e_Has.ups hH8 hw10 rfl
  have hT12 : e_Has mTy w10 := e_Has.upr hT9 hw10 rfl (by omega)
  refine e_Ok.run (t' := (22, [(0, (1, 275))], [(0, 0), (1, 275)], w10)) 2 rfl ?_
  refine e_Ok.putf rfl (el_o rfl) rfl rfl ?_
  generalize hw13 : e_up w10 275 40 0 = w13
  have hH14 : e_Has hTy w13 := e_Has.ups hH11 hw13 rfl
  have hT15 : e_Has mTy w13 := e_Has.upr hT12 hw13 rfl (by omega)
  refine e_Ok.run (t' := (27, [(0, (1, 275))], [(0, 0), (1, 275)], w13)) 2 rfl ?_
  refine e_Ok.putf rfl (el_o rfl) rfl rfl ?_
  generalize hw16 : e_up w13 275 42 0 = w16
  have hH17 : e_Has hTy w16 := e_Has.ups hH14 hw16 rfl
  have hT18 : e_Has mTy w16 := e_Has.upr hT15 hw16 rfl (by omega)
  refine e_Ok.run (t' := (32, [(0, (1, 275))], [(0, 0), (1, 275)], w16)) 2 rfl ?_
  refine e_Ok.putf rfl (el_o rfl) rfl rfl ?_
  generalize hw19 : e_up w16 275 49 0 = w19
  have hH20 : e_Has hTy w19 := e_Has.ups hH17 hw19 rfl
  have hT21 : e_Has mTy w19 := e_Has.upr hT18 hw19 rfl (by omega)
  refine e_Ok.run (t' := (37, [(0, (1, 275))], [(0, 0), (1, 275)], w19)) 2 rfl ?_
  refine e_Ok.putf rfl (el_o rfl) rfl rfl ?_
  generalize hw22 : e_up w19 275 5 0 = w22
  have hH23 : e_Has hTy w22 := e_Has.upr hH20 hw22 rfl (by omega)
  have hT24 : e_Has mTy w22 := e_Has.ups hT21 hw22 rfl
  refine e_Ok.run (t' := (42, [(0, (1, 275))], [(0, 0), (1, 275)], w22)) 2 rfl ?_
  refine e_Ok.putf rfl (el_o rfl) rfl rfl ?_
  generalize hw25 : e_up w22 275 118 0 = w25
  have hH26 : e_Has hTy w25 := e_Has.upr hH23 hw25 rfl (by omega)
  have hT27 : e_Has mTy w25 := e_Has.ups hT24 hw25 rfl
  refine e_Ok.run (t' := (47, [(1, (0, 0)), (0, (1, 275))], [], w25)) 2 rfl ?_
  have hL28 : ∀ (nn : Nat) (y1 : Int) (v1 : eW), e_Has mTy v1 ∧ rF v1 ∧ (0 ≤ y1 ∧ y1 ≤ 33060) ∧ (∀ k, 0 ≤ k → k < y1 → v1 276 k = 0) ∧ e_Has hTy v1 ∧ r9 w v1 → 33061 - y1 < nn → e_Ok 20 elay ecode eI (d + 1) 267 (47, [(0, (1, 275)), (1, (0, y1))], [], v1) (fun r w' => r = [] ∧ e_Has hTy w' ∧ r9 w w' ∧ e_Has mTy w' ∧ newOk w') := by
    intro nn
    induction nn with
    | zero => intro y1 v1 hj hm; obtain ⟨j30, j31, j32, j33, j34, j35⟩ := hj; exfalso; omega
    | succ nn ih29 =>
      intro y1 v1 hj hm
      obtain ⟨j30, j31, j32, j33, j34, j35⟩ := hj
      refine e_Ok.run (t' := (50, [(0, (1, 275)), (1, (0, y1))], [(0, 33060), (0, y1)], v1)) 2 rfl ?_
      refine e_Ok.if2 rfl (fun h36 => ?_) (fun h36 => ?_)
      · replace h36 : (y1 : Int) ≥ 33060 := h36
        refine e_Ok.run (t' := (68, [(1, (0, 0)), (0, (1, 275))], [], v1)) 2 rfl ?_
        have hL37 : ∀ (nn : Nat) (y2 : Int) (v2 : eW), e_Has mTy v2 ∧ rF v2 ∧ (0 ≤ y2 ∧ y2 ≤ 4) ∧ e_fr mRa v1 v2 ∧ (∀ a, 0 ≤ a → a < y2 → v2 286 a = 0 ∧ v2 338 a = 0 ∧ v2 276 (36 * a + 17) = -1) ∧ e_Has hTy v2 ∧ r9 w v2 → 5 - y2 < nn → e_Ok 20 elay ecode eI (d + 1) 267 (68, [(0, (1, 275)), (1, (0, y2))], [], v2) (fun r w' => r = [] ∧ e_Has hTy w' ∧ r9 w w' ∧ e_Has mTy w' ∧ newOk w') := by
          intro nn
          induction nn with
          | zero => intro y2 v2 hj hm; obtain ⟨j40, j41, j42, j43, j44, j45, j46⟩ := hj; exfalso; omega
          | succ nn ih38 =>
            intro y2 v2 hj hm
            obtain ⟨j40, j41, j42, j43, j44, j45, j46⟩ := hj
            refine e_Ok.run (t' := (70, [(0, (1, 275)), (1, (0, y2))], [(0, 4), (0, y2)], v2)) 2 rfl ?_
            refine e_Ok.if2 rfl (fun h47 => ?_) (fun h47 => ?_)
            · replace h47 : (y2 : Int) ≥ 4 := h47
              refine e_Ok.run (t' := (172, [(1, (0, 0)), (0, (1, 275))], [], v2)) 2 rfl ?_
              have hL48 : ∀ (nn : Nat) (y3 : Int) (v3 : eW), e_Has mTy v3 ∧ rF v3 ∧ (0 ≤ y3 ∧ y3 ≤ 16) ∧ e_fr mRb v2 v3 ∧ e_Has hTy v3 ∧ r9 w v3 → 17 - y3 < nn → e_Ok 20 elay ecode eI (d + 1) 267 (172, [(0, (1, 275)), (1, (0, y3))], [], v3) (fun r w' => r = [] ∧ e_Has hTy w' ∧ r9 w w' ∧ e_Has mTy w' ∧ newOk w') := by
                intro nn
                induction nn with
                | zero => intro y3 v3 hj hm; obtain ⟨j50, j51, j52, j53, j54, j55⟩ := hj; exfalso; omega
                | succ nn ih49 =>
                  intro y3 v3 hj hm
                  obtain ⟨j50, j51, j52, j53, j54, j55⟩ := hj
                  refine e_Ok.run (t' := (175, [(0, (1, 275)), (1, (0, y3))], [(0, 16), (0, y3)], v3)) 2 rfl ?_
                  refine e_Ok.if2 rfl (fun h56 => ?_) (fun h56 => ?_)
                  · replace h56 : (y3 : Int) ≥ 16 := h56
                    refine e_Ok.run (t' := (198, [(1, (0, 0)), (0, (1, 275))], [], v3)) 2 rfl ?_
                    have hL57 : ∀ (nn : Nat) (y4 : Int) (v4 : eW), e_Has mTy v4 ∧ rF v4 ∧ (0 ≤ y4 ∧ y4 ≤ 8) ∧ e_fr mRc v3 v4 ∧ e_Has hTy v4 ∧ r9 w v4 → 9 - y4 < nn → e_Ok 20 elay ecode eI (d + 1) 267 (198, [(0, (1, 275)), (1, (0, y4))], [], v4) (fun r w' => r = [] ∧ e_Has hTy w' ∧ r9 w w' ∧ e_Has mTy w' ∧ newOk w') := by
                      intro nn
                      induction nn with
                      | zero => intro y4 v4 hj hm; obtain ⟨j59, j60, j61, j62, j63, j64⟩ := hj; exfalso; omega
                      | succ nn ih58 =>
                        intro y4 v4 hj hm
                        obtain ⟨j59, j60, j61, j62, j63, j64⟩ := hj
                        refine e_Ok.run (t' := (201, [(0, (1, 275)), (1, (0, y4))], [(0, 8), (0, y4)], v4)) 2 rfl ?_
                        refine e_Ok.if2 rfl (fun h65 => ?_) (fun h65 => ?_)
                        · replace h65 : (y4 : Int) ≥ 8 := h65
                          refine e_Ok.run (t' := (258, [(1, (0, 0)), (0, (1, 275))], [], v4)) 2 rfl ?_
                          have hL66 : ∀ (nn : Nat) (y5 : Int) (v5 : eW), e_Has mTy v5 ∧ rF v5 ∧ (0 ≤ y5 ∧ y5 ≤ 64) ∧ e_fr mRd v4 v5 ∧ (∀ p, 0 ≤ p → p < y5 → v5 318 p = -1) ∧ e_Has hTy v5 ∧ r9 w v5 → 65 - y5 < nn → e_Ok 20 elay ecode eI (d + 1) 267 (258, [(0, (1, 275)), (1, (0, y5))], [], v5) (fun r w' => r = [] ∧ e_Has hTy w' ∧ r9 w w' ∧ e_Has mTy w' ∧ newOk w') := by
                            intro nn
                            induction nn with
                            | zero => intro y5 v5 hj hm; obtain ⟨j68, j69, j70, j71, j72, j73, j74⟩ := hj; exfalso; omega
                            | succ nn ih67 =>
                              intro y5 v5 hj hm
                              obtain ⟨j68, j69, j70, j71, j72, j73, j74⟩ := hj
                              refine e_Ok.run (t' := (261, [(0, (1, 275)), (1, (0, y5))], [(0, 64), (0, y5)], v5)) 2 rfl ?_
                              refine e_Ok.if2 rfl (fun h75 => ?_) (fun h75 => ?_)
                              · replace h75 : (y5 : Int) ≥ 64 := h75
                                refine e_Ok.run (t' := (279, [(1, (0, 0)), (0, (1, 275))], [], v5)) 2 rfl ?_
                                have hL76 : ∀ (nn : Nat) (y6 : Int) (v6 : eW), e_Has mTy v6 ∧ rF v6 ∧ (0 ≤ y6 ∧ y6 ≤ 448) ∧ e_fr mRe v5 v6 ∧ e_Has hTy v6 ∧ r9 w v6 → 449 - y6 < nn → e_Ok 20 elay ecode eI (d + 1) 267 (279, [(0, (1, 275)), (1, (0, y6))], [], v6) (fun r w' => r = [] ∧ e_Has hTy w' ∧ r9 w w' ∧ e_Has mTy w' ∧ newOk w') := by
                                  intro nn
                                  induction nn with
                                  | zero => intro y6 v6 hj hm; obtain ⟨j78, j79, j80, j81, j82, j83⟩ := hj; exfalso; omega
                                  | succ nn ih77 =>
                                    intro y6 v6 hj hm
                                    obtain ⟨j78, j79, j80, j81, j82, j83⟩ := hj
                                    refine e_Ok.run (t' := (283, [(0, (1, 275)), (1, (0, y6))], [(0, 448), (0, y6)], v6)) 2 rfl ?_
                                    refine e_Ok.if2 rfl (fun h84 => ?_) (fun h84 => ?_)
                                    · replace h84 : (y6 : Int) ≥ 448 := h84
                                      refine e_Ok.rets rfl rfl ?_
                                      exact ⟨rfl, j82, j83, j78, j79, fun a g1 g2 => ⟨(j81 286 a no_bq_0).trans ((j71 286 a no_bq_1).trans ((j62 286 a no_bq_2).trans ((j53 286 a no_bq_3).trans ((j44 a g1 (by omega)).1)))), (j81 338 a no_bq_4).trans ((j71 338 a no_bq_5).trans ((j62 338 a no_bq_6).trans ((j53 338 a no_bq_7).trans ((j44 a g1 (by omega)).2.1)))), (j81 276 (36 * a + 17) no_bq_8).trans ((j71 276 (36 * a + 17) no_bq_9).trans ((j62 276 (36 * a + 17) (by first | exact no_bq_10 (by omega) | (unfold mRc; omega))).trans ((j53 276 (36 * a + 17) (by first | exact no_bq_11 (by omega) | (unfold mRb; omega))).trans ((j44 a g1 (by omega)).2.2))))⟩, fun p g1 g2 => (j81 318 p no_bq_12).trans (j72 p g1 (by omega)), fun k g1 g2 q1 q2 q3 => (j81 276 k no_bq_8).trans ((j71 276 k no_bq_9).trans ((j62 276 k q3).trans ((j53 276 k q2).trans ((j43 276 k q1).trans (j33 k g1 (by omega))))))⟩
                                    · replace h84 : (y6 : Int) < 448 := by have q : ¬ ((y6 : Int) ≥ 448) := h84; omega
                                      refine e_Ok.run (t' := (287, [(0, (1, 275)), (1, (0, y6))], [(1, 275)], v6)) 1 rfl ?_
                                      refine e_Ok.getr (z := 299) rfl (el_o rfl) rfl rfl (e_Has.eq j78 rfl) (by omega) ?_
                                      refine e_Ok.run (t' := (292, [(0, (1, 275)), (1, (0, y6))], [(0, 0), (0, y6), (1, 299)], v6)) 2 rfl ?_
                                      refine e_Ok.ast rfl (el_o rfl) rfl (e_nar_b (by omega)) (by omega) ?_
                                      generalize hw85 : e_up v6 299 y6 0 = w85
                                      have hH86 : e_Has hTy w85 := e_Has.ups j82 hw85 rfl
                                      have hT87 : e_Has mTy w85 := e_Has.upr j78 hw85 rfl (by omega)
                                      refine e_Ok.inc (z := y6 + 1) rfl rfl (by omega) (by omega) ?_
                                      show e_Ok 20 elay ecode eI (d + 1) 267 (296, [(1, (0, y6 + 1)), (0, (1, 275))], [], w85) _
                                      refine e_Ok.run (t' := (279, [(1, (0, y6 + 1)), (0, (1, 275))], [], w85)) 1 rfl ?_
                                      refine e_Ok.sub eAlk (e_sub_of rfl ?_) (ih77 (y6 + 1) w85 ⟨hT87, (rF.up j79 hw85 (by decide)), by omega, (e_fr.up j81 hw85 (by unfold mRe; omega)), hH86, (r9.up j83 hw85 (by decide))⟩ (by omega))
                                      exact ⟨rfl, rfl, trivial⟩
                                refine e_Ok.sub eAlk (e_sub_of rfl ?_) (hL76 (449 + 1 : Int).toNat 0 v5 ⟨j68, j69, by omega, (e_fr.refl v5), j73, j74⟩ (by omega))
                                exact ⟨rfl, rfl, trivial⟩
                              · replace h75 : (y5 : Int) < 64 := by have q : ¬ ((y5 : Int) ≥ 64) := h75; omega
                                refine e_Ok.run (t' := (265, [(0, (1, 275)), (1, (0, y5))], [(1, 275)], v5)) 1 rfl ?_
                                refine e_Ok.getr (z := 318) rfl (el_o rfl) rfl rfl (e_Has.eq j68 rfl) (by omega) ?_
                                refine e_Ok.run (t' := (270, [(0, (1, 275)), (1, (0, y5))], [(0, (-1)), (0, y5), (1, 318)], v5)) 2 rfl ?_
                                refine e_Ok.ast rfl (el_o rfl) rfl rfl (by omega) ?_
                                generalize hw88 : e_up v5 318 y5 (-1) = w88
                                have hH89 : e_Has hTy w88 := e_Has.ups j73 hw88 rfl
                                have hT90 : e_Has mTy w88 := e_Has.upr j68 hw88 rfl (by omega)
                                refine e_Ok.inc (z := y5 + 1) rfl rfl (by omega) (by omega) ?_
                                show e_Ok 20 elay ecode eI (d + 1) 267 (274, [(1, (0, y5 + 1)), (0, (1, 275))], [], w88) _
                                refine e_Ok.run (t' := (258, [(1, (0, y5 + 1)), (0, (1, 275))], [], w88)) 1 rfl ?_
                                refine e_Ok.sub eAlk (e_sub_of rfl ?_) (ih67 (y5 + 1) w88 ⟨hT90, (rF.up j69 hw88 (by decide)), by omega, (e_fr.up j71 hw88 (by unfold mRd; omega)), (fun p g1 g2 => Decidable.byCases (p := p = y5) (fun e => by rw [e, ← hw88]; exact e_up_eq _ _ _ _) (fun e => Eq.trans (show w88 318 p = v5 318 p from by rw [← hw88]; exact e_up_ne _ _ (Or.inr e)) (j72 p g1 (by omega)))), hH89, (r9.up j74 hw88 (by decide))⟩ (by omega))
                                exact ⟨rfl, rfl, trivial⟩
                          refine e_Ok.sub eAlk (e_sub_of rfl ?_) (hL66 (65 + 1 : Int).toNat 0 v4 ⟨j59, j60, by omega, (e_fr.refl v4), (fun p g1 g2 => by omega), j63, j64⟩ (by omega))
                          exact ⟨rfl, rfl, trivial⟩
                        · replace h65 : (y4 : Int) < 8 := by have q : ¬ ((y4 : Int) ≥ 8) := h65; omega
                          refine e_Ok.run (t' := (205, [(0, (1, 275)), (1, (0, y4))], [(1, 275)], v4)) 1 rfl ?_
                          refine e_Ok.getr (z := 276) rfl (el_o rfl) rfl rfl (e_Has.eq j59 rfl) (by omega) ?_
                          refine e_Ok.run (t' := (212, [(0, (1, 275)), (1, (0, y4))], [(0, y4), (0, 20868), (1, 276)], v4)) 2 rfl ?_
                          refine e_Ok.add (z := y4 + 20868) rfl (by omega) (by omega) ?_
                          refine e_Ok.run (t' := (214, [(0, (1, 275)), (1, (0, y4))], [(0, (-1)), (0, y4 + 20868), (1, 276)], v4)) 1 rfl ?_
                          refine e_Ok.ast rfl (el_o rfl) rfl rfl (by omega) ?_
                          generalize hw91 : e_up v4 276 (y4 + 20868) (-1) = w91
                          have hH92 : e_Has hTy w91 := e_Has.ups j63 hw91 rfl
                          have hT93 : e_Has mTy w91 := e_Has.upr j59 hw91 (nR_LOCK (l := y4) (by omega)) (by omega)
                          refine e_Ok.run (t' := (216, [(0, (1, 275)), (1, (0, y4))], [(1, 275)], w91)) 1 rfl ?_
                          refine e_Ok.getr (z := 276) rfl (el_o rfl) rfl rfl (by rw [← hw91]; exact (e_up_ne _ _ (Or.inl (by omega))).trans (e_Has.eq j59 rfl)) (by omega) ?_
                          refine e_Ok.run (t' := (224, [(0, (1, 275)), (1, (0, y4))], [(0, y4), (0, 4), (0, 20836), (1, 276)], w91)) 3 rfl ?_
                          refine e_Ok.mul (z := 4 * y4) rfl (by omega) (by omega) ?_
                          refine e_Ok.add (z := 4 * y4 + 20836) rfl (by omega) (by omega) ?_
                          refine e_Ok.run (t' := (227, [(0, (1, 275)), (1, (0, y4))], [(0, 1), (0, 4 * y4 + 20836), (1, 276)], w91)) 1 rfl ?_
                          refine e_Ok.ast rfl (el_o rfl) rfl rfl (by omega) ?_
                          generalize hw94 : e_up w91 276 (4 * y4 + 20836) 1 = w94
                          have hH95 : e_Has hTy w94 := e_Has.ups hH92 hw94 rfl
                          have hT101 : e_Has mTy w94 := e_Has.upr hT93 hw94 (nR_INPUT (i := y4) (f := 0) (by omega) (by decide)) (by omega)
                          refine e_Ok.run (t' := (229, [(0, (1, 275)), (1, (0, y4))], [(1, 275)], w94)) 1 rfl ?_
                          refine e_Ok.getr (z := 276) rfl (el_o rfl) rfl rfl (by rw [← hw94]; exact (e_up_ne _ _ (Or.inl (by omega))).trans (by rw [← hw91]; exact (e_up_ne _ _ (Or.inl (by omega))).trans (e_Has.eq j59 rfl))) (by omega) ?_
                          refine e_Ok.run (t' := (237, [(0, (1, 275)), (1, (0, y4))], [(0, y4), (0, 4), (0, 20836), (1, 276)], w94)) 3 rfl ?_
                          refine e_Ok.mul (z := 4 * y4) rfl (by omega) (by omega) ?_
                          refine e_Ok.add (z := 4 * y4 + 20836) rfl (by omega) (by omega) ?_
                          refine e_Ok.run (t' := (240, [(0, (1, 275)), (1, (0, y4))], [(0, 1), (0, 4 * y4 + 20836), (1, 276)], w94)) 1 rfl ?_
                          refine e_Ok.add (z := 4 * y4 + 20837) rfl (by omega) (by omega) ?_
                          refine e_Ok.run (t' := (242, [(0, (1, 275)), (1, (0, y4))], [(0, 1), (0, 4 * y4 + 20837), (1, 276)], w94)) 1 rfl ?_
                          refine e_Ok.ast rfl (el_o rfl) rfl rfl (by omega) ?_
                          generalize hw103 : e_up w94 276 (4 * y4 + 20837) 1 = w103
                          have hH104 : e_Has hTy w103 := e_Has.ups hH95 hw103 rfl
                          have hT105 : e_Has mTy w103 := e_Has.upr hT101 hw103 (nR_INPUT (i := y4) (f := 1) (by omega) (by decide)) (by omega)
                          refine e_Ok.run (t' := (244, [(0, (1, 275)), (1, (0, y4))], [(1, 275)], w103)) 1 rfl ?_
                          refine e_Ok.getr (z := 317) rfl (el_o rfl) rfl rfl (by rw [← hw103]; exact (e_up_ne _ _ (Or.inl (by omega))).trans (by rw [← hw94]; exact (e_up_ne _ _ (Or.inl (by omega))).trans (by rw [← hw91]; exact (e_up_ne _ _ (Or.inl (by omega))).trans (e_Has.eq j59 rfl)))) (by omega) ?_
                          refine e_Ok.run (t' := (249, [(0, (1, 275)), (1, (0, y4))], [(0, 0), (0, y4), (1, 317)], w103)) 2 rfl ?_
                          refine e_Ok.ast rfl (el_o rfl) rfl (e_nar_b (by omega)) (by omega) ?_
                          generalize hw106 : e_up w103 317 y4 0 = w106
                          have hH107 : e_Has hTy w106 := e_Has.ups hH104 hw106 rfl
                          have hT108 : e_Has mTy w106 := e_Has.upr hT105 hw106 rfl (by omega)
                          refine e_Ok.inc (z := y4 + 1) rfl rfl (by omega) (by omega) ?_
                          show e_Ok 20 elay ecode eI (d + 1) 267 (253, [(1, (0, y4 + 1)), (0, (1, 275))], [], w106) _
                          refine e_Ok.run (t' := (198, [(1, (0, y4 + 1)), (0, (1, 275))], [], w106)) 1 rfl ?_
                          refine e_Ok.sub eAlk (e_sub_of rfl ?_) (ih58 (y4 + 1) w106 ⟨hT108, (rF.up (rF.up (rF.up (rF.up j60 hw91 (by decide)) hw94 (by decide)) hw103 (by decide)) hw106 (by decide)), by omega, (e_fr.up (e_fr.up (e_fr.up (e_fr.up j62 hw91 (by unfold mRc; omega)) hw94 (by unfold mRc; omega)) hw103 (by unfold mRc; omega)) hw106 (by unfold mRc; omega)), hH107, (r9.up (r9.up (r9.up (r9.up j64 hw91 (by decide)) hw94 (by decide)) hw103 (by decide)) hw106 (by decide))⟩ (by omega))
                          exact ⟨rfl, rfl, trivial⟩
                    refine e_Ok.sub eAlk (e_sub_of rfl ?_) (hL57 (9 + 1 : Int).toNat 0 v3 ⟨j50, j51, by omega, (e_fr.refl v3), j54, j55⟩ (by omega))
                    exact ⟨rfl, rfl, trivial⟩
                  · replace h56 : (y3 : Int) < 16 := by have q : ¬ ((y3 : Int) ≥ 16) := h56; omega
                    refine e_Ok.run (t' := (179, [(0, (1, 275)), (1, (0, y3))], [(1, 275)], v3)) 1 rfl ?_
                    refine e_Ok.getr (z := 276) rfl (el_o rfl) rfl rfl (e_Has.eq j50 rfl) (by omega) ?_
                    refine e_Ok.run (t' := (183, [(0, (1, 275)), (1, (0, y3))], [(0, y3), (1, 276)], v3)) 1 rfl ?_
                    refine e_Ok.callS rfl (by omega) rfl rfl (c_269 (by omega)) (fun r109 w110 h111 => ?_)
                    obtain ⟨rfl, rfl⟩ := h111
                    show e_Ok 20 elay ecode eI (d + 1) 267 (186, [(0, (1, 275)), (1, (0, y3))], [(0, 1260 * y3 + 416), (1, 276)], v3) _
                    refine e_Ok.run (t' := (187, [(0, (1, 275)), (1, (0, y3))], [(0, 1), (0, 1260 * y3 + 416), (1, 276)], v3)) 1 rfl ?_
                    refine e_Ok.add (z := 1260 * y3 + 417) rfl (by omega) (by omega) ?_
                    refine e_Ok.run (t' := (189, [(0, (1, 275)), (1, (0, y3))], [(0, (-1)), (0, 1260 * y3 + 417), (1, 276)], v3)) 1 rfl ?_
                    refine e_Ok.ast rfl (el_o rfl) rfl rfl (by omega) ?_
                    generalize hw112 : e_up v3 276 (1260 * y3 + 417) (-1) = w112
                    have hH113 : e_Has hTy w112 := e_Has.ups j54 hw112 rfl
                    have hT114 : e_Has mTy w112 := e_Has.upr j50 hw112 (nR_TASK_ARM (t := y3) (by omega)) (by omega)
                    refine e_Ok.inc (z := y3 + 1) rfl rfl (by omega) (by omega) ?_
                    show e_Ok 20 elay ecode eI (d + 1) 267 (193, [(1, (0, y3 + 1)), (0, (1, 275))], [], w112) _
                    refine e_Ok.run (t' := (172, [(1, (0, y3 + 1)), (0, (1, 275))], [], w112)) 1 rfl ?_
                    refine e_Ok.sub eAlk (e_sub_of rfl ?_) (ih49 (y3 + 1) w112 ⟨hT114, (rF.up j51 hw112 (by decide)), by omega, (e_fr.up j53 hw112 (by unfold mRb; omega)), hH113, (r9.up j55 hw112 (by decide))⟩ (by omega))
                    exact ⟨rfl, rfl, trivial⟩
              refine e_Ok.sub eAlk (e_sub_of rfl ?_) (hL48 (17 + 1 : Int).toNat 0 v2 ⟨j40, j41, by omega, (e_fr.refl v2), j45, j46⟩ (by omega))
              exact ⟨rfl, rfl, trivial⟩
            · replace h47 : (y2 : Int) < 4 := by have q : ¬ ((y2 : Int) ≥ 4) := h47; omega
              refine e_Ok.run (t' := (74, [(0, (1, 275)), (1, (0, y2))], [(1, 275)], v2)) 1 rfl ?_
              refine e_Ok.getr (z := 286) rfl (el_o rfl) rfl rfl (e_Has.eq j40 rfl) (by omega) ?_
              refine e_Ok.run (t' := (79, [(0, (1, 275)), (1, (0, y2))], [(0, 0), (0, y2), (1, 286)], v2)) 2 rfl ?_
              refine e_Ok.ast rfl (el_o rfl) rfl rfl (by omega) ?_
              generalize hw115 : e_up v2 286 y2 0 = w115
              have hH116 : e_Has hTy w115 := e_Has.ups j45 hw115 rfl
              have hT117 : e_Has mTy w115 := e_Has.upr j40 hw115 rfl (by omega)
              refine e_Ok.run (t' := (81, [(0, (1, 275)), (1, (0, y2))], [(1, 275)], w115)) 1 rfl ?_
              refine e_Ok.getr (z := 276) rfl (el_o rfl) rfl rfl (by rw [← hw115]; exact (e_up_ne _ _ (Or.inl (by omega))).trans (e_Has.eq j40 rfl)) (by omega) ?_
              refine e_Ok.run (t' := (85, [(0, (1, 275)), (1, (0, y2))], [(0, y2), (1, 276)], w115)) 1 rfl ?_
              refine e_Ok.callS rfl (by omega) rfl rfl (c_268 (by omega)) (fun r118 w119 h120 => ?_)
              obtain ⟨rfl, rfl⟩ := h120
              show e_Ok 20 elay ecode eI (d + 1) 267 (88, [(0, (1, 275)), (1, (0, y2))], [(0, 36 * y2 + 16), (1, 276)], w115) _
              refine e_Ok.run (t' := (89, [(0, (1, 275)), (1, (0, y2))], [(0, 1), (0, 36 * y2 + 16), (1, 276)], w115)) 1 rfl ?_
              refine e_Ok.add (z := 36 * y2 + 17) rfl (by omega) (by omega) ?_
              refine e_Ok.run (t' := (91, [(0, (1, 275)), (1, (0, y2))], [(0, (-1)), (0, 36 * y2 + 17), (1, 276)], w115)) 1 rfl ?_
              refine e_Ok.ast rfl (el_o rfl) rfl rfl (by omega) ?_
              generalize hw121 : e_up w115 276 (36 * y2 + 17) (-1) = w121
              have hH122 : e_Has hTy w121 := e_Has.ups hH116 hw121 rfl
              have hT123 : e_Has mTy w121 := e_Has.upr hT117 hw121 (nR_HOLDS (a := y2) (by omega)) (by omega)
              refine e_Ok.run (t' := (93, [(0, (1, 275)), (1, (0, y2))], [(1, 275)], w121)) 1 rfl ?_
              refine e_Ok.getr (z := 276) rfl (el_o rfl) rfl rfl (by rw [← hw121]; exact (e_up_ne _ _ (Or.inl (by omega))).trans (by rw [← hw115]; exact (e_up_ne _ _ (Or.inl (by omega))).trans (e_Has.eq j40 rfl))) (by omega) ?_
              refine e_Ok.run (t' := (97, [(0, (1, 275)), (1, (0, y2))], [(0, y2), (1, 276)], w121)) 1 rfl ?_
              refine e_Ok.callS rfl (by omega) rfl rfl (c_268 (by omega)) (fun r124 w125 h126 => ?_)
              obtain ⟨rfl, rfl⟩ := h126
              show e_Ok 20 elay ecode eI (d + 1) 267 (100, [(0, (1, 275)), (1, (0, y2))], [(0, 36 * y2 + 16), (1, 276)], w121) _
              refine e_Ok.run (t' := (101, [(0, (1, 275)), (1, (0, y2))], [(0, 2), (0, 36 * y2 + 16), (1, 276)], w121)) 1 rfl ?_
              refine e_Ok.add (z := 36 * y2 + 18) rfl (by omega) (by omega) ?_
              refine e_Ok.run (t' := (103, [(0, (1, 275)), (1, (0, y2))], [(0, (-1)), (0, 36 * y2 + 18), (1, 276)], w121)) 1 rfl ?_
              refine e_Ok.ast rfl (el_o rfl) rfl rfl (by omega) ?_
              generalize hw127 : e_up w121 276 (36 * y2 + 18) (-1) = w127
              have hH128 : e_Has hTy w127 := e_Has.ups hH122 hw127 rfl
              have hT129 : e_Has mTy w127 := e_Has.upr hT123 hw127 (nR_STUCK (a := y2) (by omega)) (by omega)
              refine e_Ok.run (t' := (105, [(0, (1, 275)), (1, (0, y2))], [(1, 275)], w127)) 1 rfl ?_
              refine e_Ok.getr (z := 276) rfl (el_o rfl) rfl rfl (by rw [← hw127]; exact (e_up_ne _ _ (Or.inl (by omega))).trans (by rw [← hw121]; exact (e_up_ne _ _ (Or.inl (by omega))).trans (by rw [← hw115]; exact (e_up_ne _ _ (Or.inl (by omega))).trans (e_Has.eq j40 rfl)))) (by omega) ?_
              refine e_Ok.run (t' := (109, [(0, (1, 275)), (1, (0, y2))], [(0, y2), (1, 276)], w127)) 1 rfl ?_
              refine e_Ok.callS rfl (by omega) rfl rfl (c_268 (by omega)) (fun r130 w131 h132 => ?_)
              obtain ⟨rfl, rfl⟩ := h132
              show e_Ok 20 elay ecode eI (d + 1) 267 (112, [(0, (1, 275)), (1, (0, y2))], [(0, 36 * y2 + 16), (1, 276)], w127) _
              refine e_Ok.run (t' := (113, [(0, (1, 275)), (1, (0, y2))], [(0, 3), (0, 36 * y2 + 16), (1, 276)], w127)) 1 rfl ?_
              refine e_Ok.add (z := 36 * y2 + 19) rfl (by omega) (by omega) ?_
              refine e_Ok.run (t' := (115, [(0, (1, 275)), (1, (0, y2))], [(0, (-1)), (0, 36 * y2 + 19), (1, 276)], w127)) 1 rfl ?_
              refine e_Ok.ast rfl (el_o rfl) rfl rfl (by omega) ?_
              generalize hw133 : e_up w127 276 (36 * y2 + 19) (-1) = w133
              have hH134 : e_Has hTy w133 := e_Has.ups hH128 hw133 rfl
              have hT135 : e_Has mTy w133 := e_Has.upr hT129 hw133 (nR_WAY_SIZE (a := y2) (by omega)) (by omega)
              refine e_Ok.run (t' := (117, [(0, (1, 275)), (1, (0, y2))], [(1, 275)], w133)) 1 rfl ?_
              refine e_Ok.getr (z := 276) rfl (el_o rfl) rfl rfl (by rw [← hw133]; exact (e_up_ne _ _ (Or.inl (by omega))).trans (by rw [← hw127]; exact (e_up_ne _ _ (Or.inl (by omega))).trans (by rw [← hw121]; exact (e_up_ne _ _ (Or.inl (by omega))).trans (by rw [← hw115]; exact (e_up_ne _ _ (Or.inl (by omega))).trans (e_Has.eq j40 rfl))))) (by omega) ?_
              refine e_Ok.run (t' := (121, [(0, (1, 275)), (1, (0, y2))], [(0, y2), (1, 276)], w133)) 1 rfl ?_
              refine e_Ok.callS rfl (by omega) rfl rfl (c_268 (by omega)) (fun r136 w137 h138 => ?_)
              obtain ⟨rfl, rfl⟩ := h138
              show e_Ok 20 elay ecode eI (d + 1) 267 (124, [(0, (1, 275)), (1, (0, y2))], [(0, 36 * y2 + 16), (1, 276)], w133) _
              refine e_Ok.run (t' := (126, [(0, (1, 275)), (1, (0, y2))], [(0, 9), (0, 36 * y2 + 16), (1, 276)], w133)) 1 rfl ?_
              refine e_Ok.add (z := 36 * y2 + 25) rfl (by omega) (by omega) ?_
              refine e_Ok.run (t' := (128, [(0, (1, 275)), (1, (0, y2))], [(0, (-1)), (0, 36 * y2 + 25), (1, 276)], w133)) 1 rfl ?_
              refine e_Ok.ast rfl (el_o rfl) rfl rfl (by omega) ?_
              generalize hw139 : e_up w133 276 (36 * y2 + 25) (-1) = w139
              have hH140 : e_Has hTy w139 := e_Has.ups hH134 hw139 rfl
              have hT141 : e_Has mTy w139 := e_Has.upr hT135 hw139 (nR_MOVER (a := y2) (by omega)) (by omega)
              refine e_Ok.run (t' := (130, [(0, (1, 275)), (1, (0, y2))], [(1, 275)], w139)) 1 rfl ?_
              refine e_Ok.getr (z := 306) rfl (el_o rfl) rfl rfl (by rw [← hw139]; exact (e_up_ne _ _ (Or.inl (by omega))).trans (by rw [← hw133]; exact (e_up_ne _ _ (Or.inl (by omega))).trans (by rw [← hw127]; exact (e_up_ne _ _ (Or.inl (by omega))).trans (by rw [← hw121]; exact (e_up_ne _ _ (Or.inl (by omega))).trans (by rw [← hw115]; exact (e_up_ne _ _ (Or.inl (by omega))).trans (e_Has.eq j40 rfl)))))) (by omega) ?_
              refine e_Ok.run (t' := (135, [(0, (1, 275)), (1, (0, y2))], [(0, (-1)), (0, y2), (1, 306)], w139)) 2 rfl ?_
              refine e_Ok.ast rfl (el_o rfl) rfl rfl (by omega) ?_
              generalize hw142 : e_up w139 306 y2 (-1) = w142
              have hH143 : e_Has hTy w142 := e_Has.ups hH140 hw142 rfl
              have hT144 : e_Has mTy w142 := e_Has.upr hT141 hw142 rfl (by omega)
              refine e_Ok.run (t' := (137, [(0, (1, 275)), (1, (0, y2))], [(1, 275)], w142)) 1 rfl ?_
              refine e_Ok.getr (z := 280) rfl (el_o rfl) rfl rfl (by rw [← hw142]; exact (e_up_ne _ _ (Or.inl (by omega))).trans (by rw [← hw139]; exact (e_up_ne _ _ (Or.inl (by omega))).trans (by rw [← hw133]; exact (e_up_ne _ _ (Or.inl (by omega))).trans (by rw [← hw127]; exact (e_up_ne _ _ (Or.inl (by omega))).trans (by rw [← hw121]; exact (e_up_ne _ _ (Or.inl (by omega))).trans (by rw [← hw115]; exact (e_up_ne _ _ (Or.inl (by omega))).trans (e_Has.eq j40 rfl))))))) (by omega) ?_
              refine e_Ok.run (t' := (142, [(0, (1, 275)), (1, (0, y2))], [(0, 0), (0, y2), (1, 280)], w142)) 2 rfl ?_
              refine e_Ok.ast rfl (el_o rfl) rfl rfl (by omega) ?_
              generalize hw145 : e_up w142 280 y2 0 = w145
              have hH146 : e_Has hTy w145 := e_Has.upr hH143 hw145 rfl (by omega)
              have hT147 : e_Has mTy w145 := e_Has.ups hT144 hw145 rfl
              refine e_Ok.run (t' := (144, [(0, (1, 275)), (1, (0, y2))], [(1, 275)], w145)) 1 rfl ?_
              refine e_Ok.getr (z := 338) rfl (el_o rfl) rfl rfl (by rw [← hw145]; exact (e_up_ne _ _ (Or.inl (by omega))).trans (by rw [← hw142]; exact (e_up_ne _ _ (Or.inl (by omega))).trans (by rw [← hw139]; exact (e_up_ne _ _ (Or.inl (by omega))).trans (by rw [← hw133]; exact (e_up_ne _ _ (Or.inl (by omega))).trans (by rw [← hw127]; exact (e_up_ne _ _ (Or.inl (by omega))).trans (by rw [← hw121]; exact (e_up_ne _ _ (Or.inl (by omega))).trans (by rw [← hw115]; exact (e_up_ne _ _ (Or.inl (by omega))).trans (e_Has.eq j40 rfl)))))))) (by omega) ?_
              refine e_Ok.run (t' := (149, [(0, (1, 275)), (1, (0, y2))], [(0, 0), (0, y2), (1, 338)], w145)) 2 rfl ?_
              refine e_Ok.ast rfl (el_o rfl) rfl rfl (by omega) ?_
              generalize hw148 : e_up w145 338 y2 0 = w148
              have hH149 : e_Has hTy w148 := e_Has.ups hH146 hw148 rfl
              have hT150 : e_Has mTy w148 := e_Has.upr hT147 hw148 rfl (by omega)
              refine e_Ok.run (t' := (151, [(0, (1, 275)), (1, (0, y2))], [(1, 275)], w148)) 1 rfl ?_
              refine e_Ok.getr (z := 339) rfl (el_o rfl) rfl rfl (by rw [← hw148]; exact (e_up_ne _ _ (Or.inl (by omega))).trans (by rw [← hw145]; exact (e_up_ne _ _ (Or.inl (by omega))).trans (by rw [← hw142]; exact (e_up_ne _ _ (Or.inl (by omega))).trans (by rw [← hw139]; exact (e_up_ne _ _ (Or.inl (by omega))).trans (by rw [← hw133]; exact (e_up_ne _ _ (Or.inl (by omega))).trans (by rw [← hw127]; exact (e_up_ne _ _ (Or.inl (by omega))).trans (by rw [← hw121]; exact (e_up_ne _ _ (Or.inl (by omega))).trans (by rw [← hw115]; exact (e_up_ne _ _ (Or.inl (by omega))).trans (e_Has.eq j40 rfl))))))))) (by omega) ?_
              refine e_Ok.run (t' := (156, [(0, (1, 275)), (1, (0, y2))], [(0, 0), (0, y2), (1, 339)], w148)) 2 rfl ?_
              refine e_Ok.ast rfl (el_o rfl) rfl rfl (by omega) ?_
              generalize hw151 : e_up w148 339 y2 0 = w151
              have hH152 : e_Has hTy w151 := e_Has.ups hH149 hw151 rfl
              have hT153 : e_Has mTy w151 := e_Has.upr hT150 hw151 rfl (by omega)
              refine e_Ok.run (t' := (158, [(0, (1, 275)), (1, (0, y2))], [(1, 275)], w151)) 1 rfl ?_
              refine e_Ok.getr (z := 340) rfl (el_o rfl) rfl rfl (by rw [← hw151]; exact (e_up_ne _ _ (Or.inl (by omega))).trans (by rw [← hw148]; exact (e_up_ne _ _ (Or.inl (by omega))).trans (by rw [← hw145]; exact (e_up_ne _ _ (Or.inl (by omega))).trans (by rw [← hw142]; exact (e_up_ne _ _ (Or.inl (by omega))).trans (by rw [← hw139]; exact (e_up_ne _ _ (Or.inl (by omega))).trans (by rw [← hw133]; exact (e_up_ne _ _ (Or.inl (by omega))).trans (by rw [← hw127]; exact (e_up_ne _ _ (Or.inl (by omega))).trans (by rw [← hw121]; exact (e_up_ne _ _ (Or.inl (by omega))).trans (by rw [← hw115]; exact (e_up_ne _ _ (Or.inl (by omega))).trans (e_Has.eq j40 rfl)))))))))) (by omega) ?_
              refine e_Ok.run (t' := (163, [(0, (1, 275)), (1, (0, y2))], [(0, 0), (0, y2), (1, 340)], w151)) 2 rfl ?_
              refine e_Ok.ast rfl (el_o rfl) rfl (e_nar_b (by omega)) (by omega) ?_
              generalize hw154 : e_up w151 340 y2 0 = w154
              have hH155 : e_Has hTy w154 := e_Has.ups hH152 hw154 rfl
              have hT156 : e_Has mTy w154 := e_Has.upr hT153 hw154 rfl (by omega)
              refine e_Ok.inc (z := y2 + 1) rfl rfl (by omega) (by omega) ?_
              show e_Ok 20 elay ecode eI (d + 1) 267 (167, [(1, (0, y2 + 1)), (0, (1, 275))], [], w154) _
              refine e_Ok.run (t' := (68, [(1, (0, y2 + 1)), (0, (1, 275))], [], w154)) 1 rfl ?_
              refine e_Ok.sub eAlk (e_sub_of rfl ?_) (ih38 (y2 + 1) w154 ⟨hT156, (rF.up (rF.up (rF.up (rF.up (rF.up (rF.up (rF.up (rF.up (rF.up (rF.up j41 hw115 (by decide)) hw121 (by decide)) hw127 (by decide)) hw133 (by decide)) hw139 (by decide)) hw142 (by decide)) hw145 (by decide)) hw148 (by decide)) hw151 (by decide)) hw154 (by decide)), by omega, (e_fr.up (e_fr.up (e_fr.up (e_fr.up (e_fr.up (e_fr.up (e_fr.up (e_fr.up (e_fr.up (e_fr.up j43 hw115 (by unfold mRa; omega)) hw121 (by unfold mRa; omega)) hw127 (by unfold mRa; omega)) hw133 (by unfold mRa; omega)) hw139 (by unfold mRa; omega)) hw142 (by unfold mRa; omega)) hw145 (by unfold mRa; omega)) hw148 (by unfold mRa; omega)) hw151 (by unfold mRa; omega)) hw154 (by unfold mRa; omega)), (fun a g1 g2 => Decidable.byCases (p := a = y2) (fun e => by rw [e]; exact ⟨(by rw [← hw154]; exact (e_up_ne _ _ (Or.inl (by omega))).trans (by rw [← hw151]; exact (e_up_ne _ _ (Or.inl (by omega))).trans (by rw [← hw148]; exact (e_up_ne _ _ (Or.inl (by omega))).trans (by rw [← hw145]; exact (e_up_ne _ _ (Or.inl (by omega))).trans (by rw [← hw142]; exact (e_up_ne _ _ (Or.inl (by omega))).trans (by rw [← hw139]; exact (e_up_ne _ _ (Or.inl (by omega))).trans (by rw [← hw133]; exact (e_up_ne _ _ (Or.inl (by omega))).trans (by rw [← hw127]; exact (e_up_ne _ _ (Or.inl (by omega))).trans (by rw [← hw121]; exact (e_up_ne _ _ (Or.inl (by omega))).trans (by rw [← hw115]; exact e_up_eq _ _ _ _)))))))))), (by rw [← hw154]; exact (e_up_ne _ _ (Or.inl (by omega))).trans (by rw [← hw151]; exact (e_up_ne _ _ (Or.inl (by omega))).trans (by rw [← hw148]; exact e_up_eq _ _ _ _))), (by rw [← hw154]; exact (e_up_ne _ _ (Or.inl (by omega))).trans (by rw [← hw151]; exact (e_up_ne _ _ (Or.inl (by omega))).trans (by rw [← hw148]; exact (e_up_ne _ _ (Or.inl (by omega))).trans (by rw [← hw145]; exact (e_up_ne _ _ (Or.inl (by omega))).trans (by rw [← hw142]; exact (e_up_ne _ _ (Or.inl (by omega))).trans (by rw [← hw139]; exact (e_up_ne _ _ (Or.inr (by omega))).trans (by rw [← hw133]; exact (e_up_ne _ _ (Or.inr (by omega))).trans (by rw [← hw127]; exact (e_up_ne _ _ (Or.inr (by omega))).trans (by rw [← hw121]; exact e_up_eq _ _ _ _)))))))))⟩) (fun e => ⟨Eq.trans (show w154 286 a = v2 286 a from (by rw [← hw154]; exact (e_up_ne _ _ (Or.inl (by omega))).trans (by rw [← hw151]; exact (e_up_ne _ _ (Or.inl (by omega))).trans (by rw [← hw148]; exact (e_up_ne _ _ (Or.inl (by omega))).trans (by rw [← hw145]; exact (e_up_ne _ _ (Or.inl (by omega))).trans (by rw [← hw142]; exact (e_up_ne _ _ (Or.inl (by omega))).trans (by rw [← hw139]; exact (e_up_ne _ _ (Or.inl (by omega))).trans (by rw [← hw133]; exact (e_up_ne _ _ (Or.inl (by omega))).trans (by rw [← hw127]; exact (e_up_ne _ _ (Or.inl (by omega))).trans (by rw [← hw121]; exact (e_up_ne _ _ (Or.inl (by omega))).trans (by rw [← hw115]; exact (e_up_ne _ _ (Or.inr (by omega))).trans rfl))))))))))) (j44 a g1 (by omega)).1, Eq.trans (show w154 338 a = v2 338 a from (by rw [← hw154]; exact (e_up_ne _ _ (Or.inl (by omega))).trans (by rw [← hw151]; exact (e_up_ne _ _ (Or.inl (by omega))).trans (by rw [← hw148]; exact (e_up_ne _ _ (Or.inr (by omega))).trans (by rw [← hw145]; exact (e_up_ne _ _ (Or.inl (by omega))).trans (by rw [← hw142]; exact (e_up_ne _ _ (Or.inl (by omega))).trans (by rw [← hw139]; exact (e_up_ne _ _ (Or.inl (by omega))).trans (by rw [← hw133]; exact (e_up_ne _ _ (Or.inl (by omega))).trans (by rw [← hw127]; exact (e_up_ne _ _ (Or.inl (by omega))).trans (by rw [← hw121]; exact (e_up_ne _ _ (Or.inl (by omega))).trans (by rw [← hw115]; exact (e_up_ne _ _ (Or.inl (by omega))).trans rfl))))))))))) (j44 a g1 (by omega)).2.1, Eq.trans (show w154 276 (36 * a + 17) = v2 276 (36 * a + 17) from (by rw [← hw154]; exact (e_up_ne _ _ (Or.inl (by omega))).trans (by rw [← hw151]; exact (e_up_ne _ _ (Or.inl (by omega))).trans (by rw [← hw148]; exact (e_up_ne _ _ (Or.inl (by omega))).trans (by rw [← hw145]; exact (e_up_ne _ _ (Or.inl (by omega))).trans (by rw [← hw142]; exact (e_up_ne _ _ (Or.inl (by omega))).trans (by rw [← hw139]; exact (e_up_ne _ _ (Or.inr (by omega))).trans (by rw [← hw133]; exact (e_up_ne _ _ (Or.inr (by omega))).trans (by rw [← hw127]; exact (e_up_ne _ _ (Or.inr (by omega))).trans (by rw [← hw121]; exact (e_up_ne _ _ (Or.inr (by omega))).trans (by rw [← hw115]; exact (e_up_ne _ _ (Or.inl (by omega))).trans rfl))))))))))) (j44 a g1 (by omega)).2.2⟩)), hH155, (r9.up (r9.up (r9.up (r9.up (r9.up (r9.up (r9.up (r9.up (r9.up (r9.up j46 hw115 (by decide)) hw121 (by decide)) hw127 (by decide)) hw133 (by decide)) hw139 (by decide)) hw142 (by decide)) hw145 (by decide)) hw148 (by decide)) hw151 (by decide)) hw154 (by decide))⟩ (by omega))
              exact ⟨rfl, rfl, trivial⟩
        refine e_Ok.sub eAlk (e_sub_of rfl ?_) (hL37 (5 + 1 : Int).toNat 0 v1 ⟨j30, j31, by omega, (e_fr.refl v1), (fun a g1 g2 => by omega), j34, j35⟩ (by omega))
        exact ⟨rfl, rfl, trivial⟩
      · replace h36 : (y1 : Int) < 33060 := by have q : ¬ ((y1 : Int) ≥ 33060) := h36; omega
        refine e_Ok.run (t' := (54, [(0, (1, 275)), (1, (0, y1))], [(1, 275)], v1)) 1 rfl ?_
        refine e_Ok.getr (z := 276) rfl (el_o rfl) rfl rfl (e_Has.eq j30 rfl) (by omega) ?_
        refine e_Ok.run (t' := (59, [(0, (1, 275)), (1, (0, y1))], [(0, 0), (0, y1), (1, 276)], v1)) 2 rfl ?_
        refine e_Ok.ast rfl (el_o rfl) rfl rfl (by omega) ?_
        generalize hw157 : e_up v1 276 y1 0 = w157
        have hH158 : e_Has hTy w157 := e_Has.ups j34 hw157 rfl
        have hT159 : e_Has mTy w157 := e_Has.zero j30 hw157
        refine e_Ok.inc (z := y1 + 1) rfl rfl (by omega) (by omega) ?_
        show e_Ok 20 elay ecode eI (d + 1) 267 (63, [(1, (0, y1 + 1)), (0, (1, 275))], [], w157) _
        refine e_Ok.run (t' := (47, [(1, (0, y1 + 1)), (0, (1, 275))], [], w157)) 1 rfl ?_
        refine e_Ok.sub eAlk (e_sub_of rfl ?_) (ih29 (y1 + 1) w157 ⟨hT159, (rF.up j31 hw157 (by decide)), by omega, (fun k g1 g2 => Decidable.byCases (p := k = y1) (fun e => by rw [e, ← hw157]; exact e_up_eq _ _ _ _) (fun e => Eq.trans (show w157 276 k = v1 276 k from by rw [← hw157]; exact e_up_ne _ _ (Or.inr e)) (j33 k g1 (by omega)))), hH158, (r9.up j35 hw157 (by decide))⟩ (by omega))
        exact ⟨rfl, rfl, trivial⟩
  refine e_Ok.sub eAlk (e_sub_of rfl ?_) (hL28 (33061 + 1 : Int).toNat 0 w25 ⟨hT27, ⟨(by rw [← hw25]; exact (e_up_ne _ _ (Or.inr (by omega))).trans (by rw [← hw22]; exact (e_up_ne _ _ (Or.inr (by omega))).trans (by rw [← hw19]; exact (e_up_ne _ _ (Or.inr (by omega))).trans (by rw [← hw16]; exact (e_up_ne _ _ (Or.inr (by omega))).trans (by rw [← hw13]; exact (e_up_ne _ _ (Or.inr (by omega))).trans (by rw [← hw10]; exact (e_up_ne _ _ (Or.inr (by omega))).trans (by rw [← hw7]; exact (e_up_ne _ _ (Or.inr (by omega))).trans (by rw [← hw4]; exact (e_up_ne _ _ (Or.inr (by omega))).trans (by rw [← hw1]; exact e_up_eq _ _ _ _))))))))), (by rw [← hw25]; exact (e_up_ne _ _ (Or.inr (by omega))).trans (by rw [← hw22]; exact (e_up_ne _ _ (Or.inr (by omega))).trans (by rw [← hw19]; exact (e_up_ne _ _ (Or.inr (by omega))).trans (by rw [← hw16]; exact (e_up_ne _ _ (Or.inr (by omega))).trans (by rw [← hw13]; exact (e_up_ne _ _ (Or.inr (by omega))).trans (by rw [← hw10]; exact (e_up_ne _ _ (Or.inr (by omega))).trans (by rw [← hw7]; exact (e_up_ne _ _ (Or.inr (by omega))).trans (by rw [← hw4]; exact e_up_eq _ _ _ _)))))))), (by rw [← hw25]; exact (e_up_ne _ _ (Or.inr (by omega))).trans (by rw [← hw22]; exact (e_up_ne _ _ (Or.inr (by omega))).trans (by rw [← hw19]; exact (e_up_ne _ _ (Or.inr (by omega))).trans (by rw [← hw16]; exact (e_up_ne _ _ (Or.inr (by omega))).trans (by rw [← hw13]; exact (e_up_ne _ _ (Or.inr (by omega))).trans (by rw [← hw10]; exact (e_up_ne _ _ (Or.inr (by omega))).trans (by rw [← hw7]; exact e_up_eq _ _ _ _))))))), (by rw [← hw25]; exact (e_up_ne _ _ (Or.inr (by omega))).trans (by rw [← hw22]; exact (e_up_ne _ _ (Or.inr (by omega))).trans (by rw [← hw19]; exact (e_up_ne _ _ (Or.inr (by omega))).trans (by rw [← hw16]; exact (e_up_ne _ _ (Or.inr (by omega))).trans (by rw [← hw13]; exact (e_up_ne _ _ (Or.inr (by omega))).trans (by rw [← hw10]; exact e_up_eq _ _ _ _)))))), (by rw [← hw25]; exact (e_up_ne _ _ (Or.inr (by omega))).trans (by rw [← hw22]; exact (e_up_ne _ _ (Or.inr (by omega))).trans (by rw [← hw19]; exact (e_up_ne _ _ (Or.inr (by omega))).trans (by rw [← hw16]; exact (e_up_ne _ _ (Or.inr (by omega))).trans (by rw [← hw13]; exact e_up_eq _ _ _ _))))), (by rw [← hw25]; exact (e_up_ne _ _ (Or.inr (by omega))).trans (by rw [← hw22]; exact (e_up_ne _ _ (Or.inr (by omega))).trans (by rw [← hw19]; exact (e_up_ne _ _ (Or.inr (by omega))).trans (by rw [← hw16]; exact e_up_eq _ _ _ _)))), (by rw [← hw25]; exact (e_up_ne _ _ (Or.inr (by omega))).trans (by rw [← hw22]; exact (e_up_ne _ _ (Or.inr (by omega))).trans (by rw [← hw19]; exact e_up_eq _ _ _ _))), (by rw [← hw25]; exact (e_up_ne _ _ (Or.inr (by omega))).trans (by rw [← hw22]; exact e_up_eq _ _ _ _))⟩, by omega, (fun k g1 g2 => by omega), hH26, ⟨(by rw [← hw25]; exact (e_up_ne _ _ (Or.inr (by omega))).trans (by rw [← hw22]; exact (e_up_ne _ _ (Or.inr (by omega))).trans (by rw [← hw19]; exact (e_up_ne _ _ (Or.inr (by omega))).trans (by rw [← hw16]; exact (e_up_ne _ _ (Or.inr (by omega))).trans (by rw [← hw13]; exact (e_up_ne _ _ (Or.inr (by omega))).trans (by rw [← hw10]; exact (e_up_ne _ _ (Or.inr (by omega))).trans (by rw [← hw7]; exact (e_up_ne _ _ (Or.inr (by omega))).trans (by rw [← hw4]; exact (e_up_ne _ _ (Or.inr (by omega))).trans (by rw [← hw1]; exact (e_up_ne _ _ (Or.inr (by omega))).trans rfl))))))))), (by rw [← hw25]; exact (e_up_ne _ _ (Or.inr (by omega))).trans (by rw [← hw22]; exact (e_up_ne _ _ (Or.inr (by omega))).trans (by rw [← hw19]; exact (e_up_ne _ _ (Or.inr (by omega))).trans (by rw [← hw16]; exact (e_up_ne _ _ (Or.inr (by omega))).trans (by rw [← hw13]; exact (e_up_ne _ _ (Or.inr (by omega))).trans (by rw [← hw10]; exact (e_up_ne _ _ (Or.inr (by omega))).trans (by rw [← hw7]; exact (e_up_ne _ _ (Or.inr (by omega))).trans (by rw [← hw4]; exact (e_up_ne _ _ (Or.inr (by omega))).trans (by rw [← hw1]; exact (e_up_ne _ _ (Or.inr (by omega))).trans rfl)))))))))⟩⟩ (by omega))
  exact ⟨rfl, rfl, trivial⟩
theorem c_277_h {d : Nat} (hd : 23 ≤ d) {w : eW} (hT : e_Has mTy w) (hH : e_Has hTy w) : e_Ok 20 elay ecode eI d 277 (0, [(0, (1, 275))], [], w) (fun r w' => ∃ z : Int, r = [(0, z)] ∧ e_Has hTy w' ∧ r9 w w' ∧ e_Has mTy w' ∧ newOk w') := by
  obtain ⟨d, rfl⟩ : ∃ e, d = e + 1 := ⟨d - 1, by omega⟩
  refine e_Ok.run (t' := (1, [(0, (1, 275))], [(1, 275)], w)) 1 rfl ?_
  refine e_Ok.getr (z := 276) rfl (el_o rfl) rfl rfl (e_Has.eq hT rfl) (by omega) ?_
  refine e_Ok.run (t' := (5, [(0, (1, 275))], [(0, 0), (1, 276)], w)) 1 rfl ?_
  have h1 := (e_Has.get hT (c := 276) (k := 0) (lo := 0) (hi := 6000) rfl (by decide))
  refine e_Ok.ald (z := w 276 0) rfl (el_o rfl) rfl (by omega) rfl (by omega) ?_
  refine e_Ok.run (t' := (8, [(1, (0, w 276 0)), (0, (1, 275))], [(1, 275)], w)) 2 rfl ?_
  refine e_Ok.callV rfl (by omega) rfl rfl rfl rfl (c_267_h (by omega) hT hH) (fun r2 w3 h4 => ?_)
  obtain ⟨rfl, qh⟩ := h4
  show e_Ok 20 elay ecode eI (d + 1) 277 (11, [(1, (0, w 276 0)), (0, (1, 275))], [], w3) _
  refine e_Ok.run (t' := (12, [(1, (0, w 276 0)), (0, (1, 275))], [(0, w 276 0)], w3)) 1 rfl ?_
  refine e_Ok.rets rfl rfl ?_
  exact ⟨_, rfl, qh⟩
end
end
-- part br
section
noncomputable section
/-! what the model keeps from call to call: the rest of building, and what only looks -/
theorem mS_hn (c k : Int) (h : mS c k) : hTy c k = (1, 0) := by
  unfold mS at h
  rcases h with h | h | ⟨rfl, h⟩
  · exact hTy_none (by omega)
  · exact hTy_none (by omega)
  · have h' : k = 58 ∨ k = 59 ∨ k = 60 ∨ k = 78 ∨ k = 79 ∨ k = 80 ∨ k = 81 ∨ k = 82 ∨ k = 83 ∨ k = 84 ∨ k = 85 ∨ k = 86 ∨ k = 87 ∨ k = 94 ∨ k = 96 ∨ k = 97 ∨ k = 98 ∨ k = 99 ∨ k = 100 ∨ k = 102 ∨ k = 110 ∨ k = 111 ∨ k = 112 := by omega
    rcases h' with rfl | rfl | rfl | rfl | rfl | rfl | rfl | rfl | rfl | rfl | rfl | rfl | rfl | rfl | rfl | rfl | rfl | rfl | rfl | rfl | rfl | rfl | rfl
    all_goals rfl
def scN (c k : Int) : Prop := (c ≠ 276 ∧ cfN c k) ∧ mTy c k = (1, 0) ∧ ¬ ((277 ≤ c ∧ c ≤ 279) ∨ (354 ≤ c ∧ c ≤ 356) ∨ (c = 275 ∧ (k = 3 ∨ k = 5 ∨ k = 6 ∨ k = 10 ∨ k = 118)))
theorem mRel.gen {S : Int → Int → Prop} {w w' : eW} (h : mRel w) (hF : e_fr S w w') (hS : ∀ c k, S c k → scN c k) (hT : e_Has mTy w') (hH : e_Has hTy w') : mRel w' ∧ w' 275 3 = w 275 3 ∧ w' 275 10 = w 275 10 := by
  obtain ⟨h1, h2, h3, h4⟩ := h
  have f : ∀ k, k = 3 ∨ k = 5 ∨ k = 6 ∨ k = 10 ∨ k = 118 → w' 275 k = w 275 k := fun k q => hF 275 k (fun y => (hS _ _ y).2.2 (Or.inr (Or.inr ⟨rfl, q⟩)))
  have e3 := f 3 (by omega)
  refine ⟨⟨hT, hH, ⟨(f 6 (by omega)).trans h3.1, fun g => (f 5 (by omega)).trans (h3.2 (e3.symm.trans g))⟩, ?_⟩, e3, f 10 (by omega)⟩
  rcases h4 with ⟨g1, G, g⟩ | ⟨g1, G, S', g⟩
  · exact Or.inl ⟨e3.trans g1, G, g.1.cfg hF hT (fun c k y => (hS c k y).1), g.2⟩
  · have h118 := e_Has.get hH (c := 275) (k := 118) (lo := 0) (hi := 60) rfl (by decide)
    have e118 := f 118 (by omega)
    refine Or.inr ⟨e3.trans g1, G, S', g.low (fun c k c6 q => hF c k (fun y => ?_)) (fun k => hF 276 k (fun y => (hS _ _ y).1.1 rfl)) (by omega) ((f 6 (by omega)).trans h3.1)⟩
    obtain ⟨y1, y2, y3⟩ := hS c k y
    rcases q with q | q | q | q
    · unfold K0 at q
      rw [y2] at q
      exact absurd q (by decide)
    · exact y3 (Or.inl q)
    · exact y3 (Or.inr (Or.inl q))
    · exact y3 (Or.inr (Or.inr ⟨q.1, by omega⟩))
theorem mRel.scr {S : Int → Int → Prop} {w w' : eW} (h : mRel w) (hF : e_fr S w w') (hS : ∀ c k, S c k → mS c k) : mRel w' ∧ sm3 w w' := by
  have hF' := hF.mono hS
  have e9 : w' 275 9 = w 275 9 := hF' 275 9 (by unfold mS; omega)
  obtain ⟨r1, r2, r3⟩ := h.gen hF' (fun c k y => ⟨⟨by unfold mS at y; omega, by unfold mS at y; unfold cfN; omega⟩, mS_none c k y, by unfold mS at y; omega⟩) (mT_S hF' h.1) (h.2.1.fr mS_hn hF')
  exact ⟨r1, r2, e9, r3⟩
theorem mRel.same {w : eW} (h : mRel w) : mRel w ∧ sm3 w w := ⟨h, rfl, rfl, rfl⟩
theorem mRel.ac {w : eW} (h : mRel w) : mAc w := by
  rcases h.2.2.2 with ⟨-, G, g⟩ | ⟨-, G, S, g⟩
  · exact g.1.2.1
  · exact g.inv.2.1
theorem mRel.or {w : eW} (h : mRel w) : mOr w (w 275 40) := by
  rcases h.2.2.2 with ⟨-, G, g⟩ | ⟨-, G, S, g⟩
  · exact g.1.2.2.2.2.2.1
  · exact g.inv.2.2.2.2.2.2.1
theorem m_437 {d : Nat} (hd : 23 ≤ d) {w : eW} (h : mRel w) : e_Ok 20 elay ecode eI d 437 (0, [(0, (1, 275))], [], w) (fun r w' => ∃ z : Int, r = [(0, z)] ∧ mRel w' ∧ sm3 w w') :=
  (c_437 hd h.1 h.2.1).imp (fun r w' q => by obtain ⟨z, hr, rfl⟩ := q; exact ⟨z, hr, h.same⟩)
theorem m_448 {d : Nat} (hd : 23 ≤ d) {w : eW} (h : mRel w) : e_Ok 20 elay ecode eI d 448 (0, [(0, (1, 275))], [], w) (fun r w' => ∃ z : Int, r = [(0, z)] ∧ mRel w' ∧ sm3 w w') :=
  (c_448 hd h.1 h.2.1).imp (fun r w' q => by obtain ⟨z, hr, rfl⟩ := q; exact ⟨z, hr, h.same⟩)
theorem m_445 {d : Nat} (hd : 23 ≤ d) {w : eW} (h : mRel w) {p1 : Int} (g1 : -2147483648 ≤ p1 ∧ p1 ≤ 2147483647) : e_Ok 20 elay ecode eI d 445 (0, [(0, (1, 275)), (1, (0, p1))], [], w) (fun r w' => ∃ z : Int, r = [(0, z)] ∧ mRel w' ∧ sm3 w w') :=
  (c_445 hd h.1 h.2.1 g1).imp (fun r w' q => by obtain ⟨z, hr, rfl⟩ := q; exact ⟨z, hr, h.same⟩)
theorem m_439 {d : Nat} (hd : 23 ≤ d) {w : eW} (h : mRel w) {p1 p2 : Int} (g1 : -2147483648 ≤ p1 ∧ p1 ≤ 2147483647) (g2 : -2147483648 ≤ p2 ∧ p2 ≤ 2147483647) : e_Ok 20 elay ecode eI d 439 (0, [(0, (1, 275)), (1, (0, p1)), (2, (0, p2))], [], w) (fun r w' => ∃ z : Int, r = [(0, z)] ∧ mRel w' ∧ sm3 w w') :=
  (c_439 hd h.1 h.2.1 g1 g2).imp (fun r w' q => by obtain ⟨z, hr, rfl⟩ := q; exact ⟨z, hr, h.same⟩)
theorem m_443 {d : Nat} (hd : 23 ≤ d) {w : eW} (h : mRel w) {p1 p2 : Int} (g1 : -2147483648 ≤ p1 ∧ p1 ≤ 2147483647) (g2 : -2147483648 ≤ p2 ∧ p2 ≤ 2147483647) : e_Ok 20 elay ecode eI d 443 (0, [(0, (1, 275)), (1, (0, p1)), (2, (0, p2))], [], w) (fun r w' => ∃ z : Int, r = [(0, z)] ∧ mRel w' ∧ sm3 w w') :=
  (c_443 hd h.1 h.2.1 g1 g2).imp (fun r w' q => by obtain ⟨z, hr, rfl⟩ := q; exact ⟨z, hr, h.same⟩)
theorem m_438 {d : Nat} (hd : 23 ≤ d) {w : eW} (h : mRel w) {p1 p2 : Int} (g1 : -2147483648 ≤ p1 ∧ p1 ≤ 2147483647) (g2 : -2147483648 ≤ p2 ∧ p2 ≤ 2147483647) : e_Ok 20 elay ecode eI d 438 (0, [(0, (1, 275)), (1, (0, p1)), (2, (0, p2))], [], w) (fun r w' => ∃ z : Int, r = [(0, z)] ∧ mRel w' ∧ sm3 w w') :=
  (c_438 hd h.1 h.2.1 g1 g2).imp (fun r w' q => by obtain ⟨z, hr, rfl⟩ := q; exact ⟨z, hr, h.same⟩)
theorem m_441 {d : Nat} (hd : 23 ≤ d) {w : eW} (h : mRel w) {p1 p2 : Int} (g1 : -2147483648 ≤ p1 ∧ p1 ≤ 2147483647) (g2 : -2147483648 ≤ p2 ∧ p2 ≤ 2147483647) : e_Ok 20 elay ecode eI d 441 (0, [(0, (1, 275)), (1, (0, p1)), (2, (0, p2))], [], w) (fun r w' => ∃ z : Int, r = [(0, z)] ∧ mRel w' ∧ sm3 w w') :=
  (c_441 hd h.1 h.2.1 g1 g2).imp (fun r w' q => by obtain ⟨z, hr, rfl⟩ := q; exact ⟨z, hr, h.same⟩)
theorem m_449 {d : Nat} (hd : 23 ≤ d) {w : eW} (h : mRel w) {p1 p2 : Int} (g1 : -2147483648 ≤ p1 ∧ p1 ≤ 2147483647) (g2 : -2147483648 ≤ p2 ∧ p2 ≤ 2147483647) : e_Ok 20 elay ecode eI d 449 (0, [(0, (1, 275)), (1, (0, p1)), (2, (0, p2))], [], w) (fun r w' => ∃ z : Int, r = [(0, z)] ∧ mRel w' ∧ sm3 w w') :=
  (c_449 hd h.1 h.2.1 g1 g2).imp (fun r w' q => by obtain ⟨z, hr, rfl⟩ := q; exact ⟨z, hr, h.same⟩)
theorem m_451 {d : Nat} (hd : 23 ≤ d) {w : eW} (h : mRel w) {p1 : Int} (g1 : -2147483648 ≤ p1 ∧ p1 ≤ 2147483647) : e_Ok 20 elay ecode eI d 451 (0, [(0, (1, 275)), (1, (0, p1))], [], w) (fun r w' => ∃ z : Int, r = [(0, z)] ∧ mRel w' ∧ sm3 w w') :=
  (c_451 hd h.1 h.2.1 g1).imp (fun r w' q => by obtain ⟨z, hr, rfl⟩ := q; exact ⟨z, hr, h.same⟩)
theorem m_442 {d : Nat} (hd : 23 ≤ d) {w : eW} (h : mRel w) {p1 p2 : Int} (g1 : -2147483648 ≤ p1 ∧ p1 ≤ 2147483647) (g2 : -2147483648 ≤ p2 ∧ p2 ≤ 2147483647) : e_Ok 20 elay ecode eI d 442 (0, [(0, (1, 275)), (1, (0, p1)), (2, (0, p2))], [], w) (fun r w' => ∃ z : Int, r = [(0, z)] ∧ mRel w' ∧ sm3 w w') :=
  (c_442 hd h.1 h.2.1 g1 g2).imp (fun r w' q => by obtain ⟨z, hr, rfl⟩ := q; exact ⟨z, hr, h.same⟩)
theorem m_447 {d : Nat} (hd : 23 ≤ d) {w : eW} (h : mRel w) {p1 : Int} (g1 : -2147483648 ≤ p1 ∧ p1 ≤ 2147483647) : e_Ok 20 elay ecode eI d 447 (0, [(0, (1, 275)), (1, (0, p1))], [], w) (fun r w' => ∃ z : Int, r = [(0, z)] ∧ mRel w' ∧ sm3 w w') :=
  (c_447 hd h.1 h.2.1 g1).imp (fun r w' q => by obtain ⟨z, hr, rfl⟩ := q; exact ⟨z, hr, h.same⟩)
theorem m_358 {d : Nat} (hd : 23 ≤ d) {w : eW} (h : mRel w) {p1 : Int} (g1 : -2147483648 ≤ p1 ∧ p1 ≤ 2147483647) : e_Ok 20 elay ecode eI d 358 (0, [(0, (1, 275)), (1, (0, p1))], [], w) (fun r w' => ∃ z : Int, r = [(0, z)] ∧ mRel w' ∧ sm3 w w') :=
  (c_358 hd h.1 h.2.1 g1).imp (fun r w' q => by obtain ⟨z, hr, rfl⟩ := q; exact ⟨z, hr, h.same⟩)
theorem m_450 {d : Nat} (hd : 23 ≤ d) {w : eW} (h : mRel w) {p1 : Int} (g1 : -2147483648 ≤ p1 ∧ p1 ≤ 2147483647) : e_Ok 20 elay ecode eI d 450 (0, [(0, (1, 275)), (1, (0, p1))], [], w) (fun r w' => ∃ z : Int, r = [(0, z)] ∧ mRel w' ∧ sm3 w w') :=
  (c_450 hd h.1 h.2.1 g1).imp (fun r w' q => by obtain ⟨z, hr, rfl⟩ := q; exact ⟨z, hr, h.same⟩)
theorem m_444 {d : Nat} (hd : 23 ≤ d) {w : eW} (h : mRel w) {p1 p2 : Int} (g1 : -2147483648 ≤ p1 ∧ p1 ≤ 2147483647) (g2 : -2147483648 ≤ p2 ∧ p2 ≤ 2147483647) : e_Ok 20 elay ecode eI d 444 (0, [(0, (1, 275)), (1, (0, p1)), (2, (0, p2))], [], w) (fun r w' => ∃ z : Int, r = [(0, z)] ∧ mRel w' ∧ sm3 w w') :=
  (c_444 hd h.1 h.2.1 g1 g2 h.ac).imp (fun r w' q => by obtain ⟨z, hr, q⟩ := q; exact ⟨z, hr, h.scr q (fun c k y => by unfold mQ at y; unfold mS; omega)⟩)
theorem m_440 {d : Nat} (hd : 24 ≤ d) {w : eW} (h : mRel w) {p1 p2 p3 : Int} (g1 : -2147483648 ≤ p1 ∧ p1 ≤ 2147483647) (g2 : -2147483648 ≤ p2 ∧ p2 ≤ 2147483647) (g3 : -2147483648 ≤ p3 ∧ p3 ≤ 2147483647) : e_Ok 20 elay ecode eI d 440 (0, [(0, (1, 275)), (1, (0, p1)), (2, (0, p2)), (3, (0, p3))], [], w) (fun r w' => ∃ z : Int, r = [(0, z)] ∧ mRel w' ∧ sm3 w w') :=
  (c_440 hd h.1 h.2.1 g1 g2 g3).imp (fun r w' q => by obtain ⟨z, hr, q⟩ := q; exact ⟨z, hr, h.scr q (fun c k y => by unfold mP at y; unfold mS; omega)⟩)
theorem m_318 {d : Nat} (hd : 27 ≤ d) {w : eW} (h : mRel w) {p1 p2 : Int} (g1 : -2147483648 ≤ p1 ∧ p1 ≤ 2147483647) (g2 : -2147483648 ≤ p2 ∧ p2 ≤ 2147483647) : e_Ok 20 elay ecode eI d 318 (0, [(0, (1, 275)), (1, (0, p1)), (2, (0, p2))], [], w) (fun r w' => ∃ z : Int, r = [(0, z)] ∧ mRel w' ∧ sm3 w w') :=
  (c_318 hd h.1 h.2.1 g1 g2).imp (fun r w' q => by obtain ⟨z, hr, q⟩ := q; exact ⟨z, hr, h.scr q (fun c k y => by unfold mPL at y; unfold mS; omega)⟩)
theorem m_446 {d : Nat} (hd : 27 ≤ d) {w : eW} (h : mRel w) {p1 p2 : Int} (g1 : -2147483648 ≤ p1 ∧ p1 ≤ 2147483647) (g2 : -2147483648 ≤ p2 ∧ p2 ≤ 2147483647) : e_Ok 20 elay ecode eI d 446 (0, [(0, (1, 275)), (1, (0, p1)), (2, (0, p2))], [], w) (fun r w' => ∃ z : Int, r = [(0, z)] ∧ mRel w' ∧ sm3 w w') :=
  (c_446 hd h.1 h.2.1 g1 g2).imp (fun r w' q => by obtain ⟨z, hr, q⟩ := q; exact ⟨z, hr, h.scr q (fun c k y => by unfold mP at y; unfold mS; omega)⟩)
theorem tp_sc (c k : Int) (h : mTape c k) : scN c k := by
  rcases h with ⟨rfl, rfl⟩ | rfl
  · exact ⟨⟨by decide, by unfold cfN; omega⟩, rfl, by omega⟩
  · exact ⟨⟨by decide, by unfold cfN; omega⟩, rfl, by omega⟩
theorem m_274 {d : Nat} (hd : 21 ≤ d) {w : eW} (h : mRel w) {a b c e f : Int} : e_Ok 20 elay ecode eI d 274 (0, [(0, (1, 275)), (1, (0, a)), (2, (0, b)), (3, (0, c)), (4, (0, e)), (5, (0, f))], [], w) (fun r w' => ∃ z : Int, r = [(0, z)] ∧ mRel w' ∧ w' 275 3 = w 275 3 ∧ w' 275 10 = w 275 10 ∧ ((w 275 9 ≤ 3980 ∧ z = w 275 9 + 20 ∧ w' 275 9 = w 275 9 + 20) ∨ (3980 < w 275 9 ∧ z = -3 ∧ w' 275 9 = w 275 9))) :=
  (c_274 hd h.1 h.2.1).imp (fun r w' q => by
    obtain ⟨z, hr, q1, q2, q3, q4⟩ := q
    obtain ⟨r1, r2, r3⟩ := h.gen q1 tp_sc q2 q3
    exact ⟨z, hr, r1, r2, r3, q4⟩)
theorem m_276 {d : Nat} (hd : 21 ≤ d) {w : eW} (h : mRel w) {a : Int} : e_Ok 20 elay ecode eI d 276 (0, [(0, (1, 275)), (1, (0, a))], [], w) (fun r w' => ∃ z : Int, r = [(0, z)] ∧ mRel w' ∧ w' 275 3 = w 275 3 ∧ w' 275 10 = w 275 10 ∧ ((0 ≤ a ∧ a ≤ w 275 9 ∧ z = w 275 9 - a ∧ w' 275 9 = w 275 9 - a) ∨ ((a < 0 ∨ w 275 9 < a) ∧ z = -1 ∧ w' 275 9 = w 275 9))) :=
  (c_276 hd h.1 h.2.1).imp (fun r w' q => by
    obtain ⟨z, hr, q1, q2, q3, q4⟩ := q
    obtain ⟨r1, r2, r3⟩ := h.gen q1 tp_sc q2 q3
    exact ⟨z, hr, r1, r2, r3, q4⟩)
theorem m_277 {d : Nat} (hd : 23 ≤ d) {w : eW} (h : mRel w) : e_Ok 20 elay ecode eI d 277 (0, [(0, (1, 275))], [], w) (fun r w' => ∃ z : Int, r = [(0, z)] ∧ mRel w' ∧ w' 275 3 = 0 ∧ w' 275 10 = 0 ∧ w' 275 9 = w 275 9) :=
  (c_277_h hd h.1 h.2.1).imp (fun r w' q => by
    obtain ⟨z, hr, q1, q2, q3, q4⟩ := q
    exact ⟨z, hr, ⟨q3, q1, ⟨q2.1.trans h.2.2.1.1, fun _ => q4.1.2.2.2.2.2.2.2⟩, Or.inl ⟨q4.1.1, G0, newOk.bInvP q3 q4⟩⟩, q4.1.1, q4.1.2.1, q2.2⟩)
/-- building calls that are not of the form of 'mF' -/
theorem mRel.bld2 {S : Int → Int → Prop} {w w' : eW} (h : mRel w) (ho : w 275 3 = 0) (hF : e_fr S w w') (hT : e_Has mTy w') (hS : ∀ c k, S c k → hTy c k = (1, 0) ∧ ¬ (c = 275 ∧ (k = 3 ∨ k = 5 ∨ k = 6 ∨ k = 9 ∨ k = 10))) (hI : ∀ G, bInv w G → bInv w' G) : mRel w' ∧ sm3 w w' := by
  obtain ⟨h1, h2, h3, h4⟩ := h
  have f : ∀ k, k = 3 ∨ k = 5 ∨ k = 6 ∨ k = 9 ∨ k = 10 → w' 275 k = w 275 k := fun k q => hF 275 k (fun y => (hS _ _ y).2 ⟨rfl, q⟩)
  refine ⟨⟨hT, h2.fr (fun c k y => (hS c k y).1) hF, ⟨(f 6 (by omega)).trans h3.1, fun _ => (f 5 (by omega)).trans (h3.2 ho)⟩, ?_⟩, f 3 (by omega), f 9 (by omega), f 10 (by omega)⟩
  rcases h4 with ⟨-, G, g⟩ | ⟨g, -⟩
  · exact Or.inl ⟨(f 3 (by omega)).trans ho, G, hI G g.1, g.2⟩
  · omega
theorem m_279 {d : Nat} (hd : 23 ≤ d) {w : eW} (h : mRel w) {p1 p2 p3 p4 p5 : Int} (g1 : -2147483648 ≤ p1 ∧ p1 ≤ 2147483647) (g2 : -2147483648 ≤ p2 ∧ p2 ≤ 2147483647) (g3 : -2147483648 ≤ p3 ∧ p3 ≤ 2147483647) (g4 : -2147483648 ≤ p4 ∧ p4 ≤ 2147483647) (g5 : -2147483648 ≤ p5 ∧ p5 ≤ 2147483647) : e_Ok 20 elay ecode eI d 279 (0, [(0, (1, 275)), (1, (0, p1)), (2, (0, p2)), (3, (0, p3)), (4, (0, p4)), (5, (0, p5))], [], w) (fun r w' => ∃ z : Int, r = [(0, z)] ∧ mRel w' ∧ sm3 w w') :=
  (c_279 hd h.1 g1 g2 g3 g4 g5).imp (fun r w' q => by
    obtain ⟨z, hr, hT, q⟩ := q
    rcases q with rfl | ⟨q1, q2, q3, q4, -, -, q7, q8⟩
    · exact ⟨z, hr, h.same⟩
    · exact ⟨z, hr, h.bld2 q2 q3 hT (fun c k y => ⟨hTy_none (by unfold mJo at y; omega), by unfold mJo at y; omega⟩) (fun G g => g.joint ⟨q1.1, q1.2.1⟩ q3 hT q4 q7 q8)⟩)
theorem m_295 {d : Nat} (hd : 22 ≤ d) {w : eW} (h : mRel w) {p1 p2 p3 : Int} (g1 : -2147483648 ≤ p1 ∧ p1 ≤ 2147483647) (g2 : -2147483648 ≤ p2 ∧ p2 ≤ 2147483647) (g3 : 0 ≤ p3 ∧ p3 ≤ 1) : e_Ok 20 elay ecode eI d 295 (0, [(0, (1, 275)), (1, (0, p1)), (2, (0, p2)), (3, (0, p3))], [], w) (fun r w' => ∃ z : Int, r = [(0, z)] ∧ mRel w' ∧ sm3 w w') :=
  (c_295 hd h.1 h.ac g1 g2 g3).imp (fun r w' q => by
    obtain ⟨z, hr, hT, q, hA⟩ := q
    rcases q with rfl | ⟨q1, q2⟩
    · exact ⟨z, hr, h.same⟩
    · exact ⟨z, hr, h.bld2 q1 q2 hT (fun c k y => by
        unfold mF at y
        rcases y with ⟨rfl, rfl⟩ | y
        · exact ⟨rfl, by omega⟩
        · exact ⟨hTy_none (by omega), by omega⟩) (fun G g => g.wire q2 hT hA)⟩)
theorem pr_hn (c k : Int) (h : mPr c k) : hTy c k = (1, 0) ∧ ¬ (c = 275 ∧ (k = 3 ∨ k = 5 ∨ k = 6 ∨ k = 9 ∨ k = 10)) := by
  rcases h with rfl | ⟨rfl, rfl⟩ | ⟨rfl, -⟩
  · exact ⟨rfl, by omega⟩
  · exact ⟨rfl, by omega⟩
  · exact ⟨rfl, by omega⟩
theorem m_289 {d : Nat} (hd : 24 ≤ d) {w : eW} (h : mRel w) {p1 p2 p3 : Int} (g1 : -2147483648 ≤ p1 ∧ p1 ≤ 2147483647) (g2 : -2147483648 ≤ p2 ∧ p2 ≤ 2147483647) (g3 : -2147483648 ≤ p3 ∧ p3 ≤ 2147483647) : e_Ok 20 elay ecode eI d 289 (0, [(0, (1, 275)), (1, (0, p1)), (2, (0, p2)), (3, (0, p3))], [], w) (fun r w' => ∃ z : Int, r = [(0, z)] ∧ mRel w' ∧ sm3 w w') :=
  (c_289 hd h.1 g1 g2 g3 h.or).imp (fun r w' q => by
    obtain ⟨z, hr, q⟩ := q
    rcases q with rfl | ⟨q1, q2, q3, q4, q5⟩
    · exact ⟨z, hr, h.same⟩
    · exact ⟨z, hr, h.bld2 q1 q2 q3 pr_hn (fun G g => g.part q2 q3 q5)⟩)
theorem m_290 {d : Nat} (hd : 24 ≤ d) {w : eW} (h : mRel w) {p1 p2 p3 : Int} (g1 : -2147483648 ≤ p1 ∧ p1 ≤ 2147483647) (g2 : -2147483648 ≤ p2 ∧ p2 ≤ 2147483647) (g3 : -2147483648 ≤ p3 ∧ p3 ≤ 2147483647) : e_Ok 20 elay ecode eI d 290 (0, [(0, (1, 275)), (1, (0, p1)), (2, (0, p2)), (3, (0, p3))], [], w) (fun r w' => ∃ z : Int, r = [(0, z)] ∧ mRel w' ∧ sm3 w w') :=
  (c_290 hd h.1 g1 g2 g3 h.or).imp (fun r w' q => by
    obtain ⟨z, hr, q⟩ := q
    rcases q with rfl | ⟨q1, q2, q3, q4, q5⟩
    · exact ⟨z, hr, h.same⟩
    · exact ⟨z, hr, h.bld2 q1 q2 q3 pr_hn (fun G g => g.part q2 q3 q5)⟩)
end
end
-- part bs
section
noncomputable section
/-! what the model keeps from call to call: open -/
theorem out_277 {k : Int} (h : k < 0 ∨ 33060 ≤ k) : e_out elay 277 k := ⟨by decide, by decide, fun kd cl n e => by
  have e1 : (some ((1 : Nat), (0 : Nat), (33060 : Nat))).map (fun q => q.2.2) = (elay[(277 : Int).toNat]?).map (fun q => q.2.2) := by decide +kernel
  rw [e] at e1
  have : 33060 = n := Option.some.inj e1
  omega⟩
theorem op_hT {w w' : eW} (hF : e_fr mOp w w') (hH : e_Has hTy w) (hT : e_Has mTy w') (h5 : w' 275 5 = 0) (hk : ∀ k, 0 ≤ k → k < 33060 → w' 277 k = w' 276 k) (ho : ∀ k, (k < 0 ∨ 33060 ≤ k) → w' 277 k = w 277 k) : e_Has hTy w' := fun c k hl => by
  by_cases q : mOp c k
  · unfold mOp mK at q
    by_cases c7 : c = 277
    · subst c7
      by_cases g : 0 ≤ k ∧ k < 33060
      · rw [hk k g.1 g.2]
        exact e_Has.now hT k
      · rw [ho k (by omega)]
        exact hH 277 k hl
    · rcases q with ⟨rfl, rfl | rfl⟩ | (⟨rfl, -⟩ | rfl | rfl) | q
      · exact absurd hl (by decide)
      · rw [h5]
        decide
      · exact absurd hl (show ¬ ((1 : Int) ≤ 0) by decide)
      · exact absurd hl (show ¬ ((1 : Int) ≤ 0) by decide)
      · exact absurd hl (show ¬ ((1 : Int) ≤ 0) by decide)
      · exact absurd q c7
  · rw [hF c k q]
    exact hH c k hl
theorem no_bs_0 : ¬ mOp 275 9 := by unfold mOp mK; omega
theorem no_bs_1 : ¬ mOp 275 10 := by unfold mOp mK; omega
theorem no_bs_2 : ¬ mOp 275 6 := by unfold mOp mK; omega
theorem no_bs_3 : ¬ mOp 275 118 := by unfold mOp mK; omega
theorem no_bs_4 : ¬ mOp 276 0 := by unfold mOp mK; omega
theorem no_bs_5 : ¬ mOp 276 5 := by unfold mOp mK; omega
theorem m_296 {d : Nat} (hd : 25 ≤ d) {w : eW} (h : mRel w) : e_Ok 20 elay ecode eI d 296 (0, [(0, (1, 275))], [], w) (fun r w' => ∃ z : Int, r = [(0, z)] ∧ mRel w' ∧ w' 275 3 = 1 ∧ w' 275 9 = w 275 9 ∧ w' 275 10 = w 275 10) := by
  have h3 := e_Has.get h.1 (c := 275) (k := 3) (lo := 0) (hi := 1) rfl (by decide)
  obtain ⟨h1, h2, h6, h4⟩ := id h
  rcases h4 with ⟨g0, G, g⟩ | ⟨g0, G, S, g⟩
  · refine (e_Ok.out eAlk (c_296 hd g.1.inv)).imp (fun r w' q => ?_)
    obtain ⟨⟨z, hr, q⟩, ho⟩ := q
    rcases q with ⟨rfl, q⟩ | ⟨q1, q2, q3, q4, q5, q7⟩
    · exact absurd g0 q
    · have e9 : w' 275 9 = w 275 9 := q5 275 9 no_bs_0
      have e10 : w' 275 10 = w 275 10 := q5 275 10 no_bs_1
      have e6 : w' 275 6 = 0 := (q5 275 6 no_bs_2).trans h6.1
      have e18 : w' 275 118 = w 275 118 := q5 275 118 no_bs_3
      have t0 : w' 276 0 = w 276 0 := q5 276 0 no_bs_4
      have t5 : w' 276 5 = w 276 5 := q5 276 5 no_bs_5
      have h118 := e_Has.get h2 (c := 275) (k := 118) (lo := 0) (hi := 60) rfl (by decide)
      have hq : qtB w := g.1.2.2.2.2.2.2.2
      have hq0 := hq.1
      have hH' := op_hT q5 h2 q4.1 q3 q7 (fun k y => ho 277 k (out_277 y))
      exact ⟨z, hr, ⟨q4.1, hH', ⟨e6, fun g => by omega⟩, Or.inr ⟨q2, G, _, bkI.open0 q4 q3 e6 (by omega) (by omega) q7⟩⟩, q2, e9, e10⟩
  · refine (c_296 hd g.inv).imp (fun r w' q => ?_)
    obtain ⟨z, hr, q⟩ := q
    rcases q with ⟨rfl, q⟩ | ⟨q1, -⟩
    · exact ⟨z, hr, h, g0, rfl, rfl⟩
    · omega
end
end
-- part bt
section
noncomputable section
/-! numbers that nobody knows may be known again -/
def inZ (x : Int) : Prop := -2147483648 ≤ x ∧ x ≤ 2147483647
/-- u knows all that w knows -/
def mor (w u : eW) : Prop := ∀ c k, inZ (w c k) → u c k = w c k
theorem low_in {w : eW} (hT : e_Has mTy w) {c k : Int} (h : K0 c k) : inZ (w c k) := by
  have h1 := hT c k h
  have h2 := tyP.m c k h
  unfold inZ
  exact ⟨by omega, by omega⟩
theorem mor.K {w u : eW} (hT : e_Has mTy w) (hu : mor w u) : ∀ c k, K0 c k → u c k = w c k := fun c k q => hu c k (low_in hT q)
theorem wn_276 (w : eW) (s : Int → Int) (k : Int) : wn w s 276 k = s k := by unfold wn; rw [if_pos rfl]
theorem bkI.res {w u : eW} {G : Int → Gh} {S : Int → Int → Int} (h : bkI w G S) (hT : e_Has mTy w) (hu : mor w u) : bkI u G S := by
  obtain ⟨h1, h2, h3, h4, h5, h6, h7, h8, h9⟩ := h
  have hK := mor.K hT hu
  have z : ∀ {x : Int}, -2147483648 ≤ x → x ≤ 2147483647 → inZ x := fun a b => ⟨a, b⟩
  have e5 : u 275 5 = w 275 5 := hu _ _ (z (by omega) (by omega))
  have e18 : u 275 118 = w 275 118 := hu _ _ (z (by omega) (by omega))
  have e6 : u 275 6 = w 275 6 := hu _ _ (z (by omega) (by omega))
  have hS : ∀ i k, 0 ≤ i → i ≤ w 275 5 → inZ (S i k) := fun i k g1 g2 => by
    have q := e_Has.now (h2 i g1 g2).1.1 k
    rw [wn_276] at q
    exact q
  have e56 : ∀ i, 0 ≤ i → i < w 275 5 → u 356 i = w 356 i := fun i g1 g2 => by
    have := h6 i i g1 (Int.le_refl i) g2
    exact hu _ _ (z (by omega) (by omega))
  refine ⟨fun k => by rw [e5, hK 276 k (K0_now k)]; exact h1 k, fun i g1 g2 => ?_, fun k g1 g2 => ?_, fun q k g1 g2 g3 g4 => ?_, fun i g1 g2 => ?_, fun i j g1 g2 g3 => ?_, by omega, by omega, by omega⟩
  · obtain ⟨q1, q2, q3⟩ := h2 i g1 (by omega)
    exact ⟨q1.low (wn_of (fun c k _ q => hK c k q)), q2, fun k g => by rw [hK 276 k (K0_now k)]; exact q3 k g⟩
  · have q := h3 k g1 g2
    rw [hu 277 k (by rw [q]; exact hS 0 k (by omega) h9.1)]
    exact q
  · have y := h4 q k g1 (by omega) g3 g4
    rw [hu 278 _ (by rw [y]; exact hS (100 * q) k (by omega) (by omega))]
    exact y
  · have y := h5 i g1 (by omega)
    have y6 := h6 i i g1 (Int.le_refl i) (by omega)
    obtain ⟨y1, y2⟩ := y
    have a9 : ∀ j, 4 * i ≤ j → j ≤ 4 * i + 3 → u 279 j = w 279 j := fun j j1 j2 => hu 279 j (y1 j j1 j2)
    have hw := wn_of (w := w) (v := u) (s := S i) (fun c k _ q => hK c k q)
    refine ⟨fun j j1 j2 => by rw [a9 j j1 j2]; exact y1 j j1 j2, ?_⟩
    rw [a9 (4 * i) (by omega) (by omega), a9 (4 * i + 1) (by omega) (by omega), a9 (4 * i + 2) (by omega) (by omega), a9 (4 * i + 3) (by omega) (by omega)]
    rcases y2 with ⟨q2, q3⟩ | ⟨q2, q3, z', g, z1, z2, z3, z4, z5⟩
    · exact Or.inl ⟨q2.low hw, fun k => by rw [rowF_eq hw]; exact q3 k⟩
    · have e55 : u 355 i = w 355 i := hu _ _ (z (by omega) (by omega))
      rw [e55, e56 i g1 (by omega)]
      exact Or.inr ⟨q2, q3.low hw, z', g, z1, z2, z3, fun j j1 j2 => by
        have := z4 j j1 j2
        rw [hu 354 _ (z (by omega) (by omega))]
        exact this, fun k => (z5 k).trans plN_wn⟩
  · rw [e5] at g3
    rw [e56 i g1 (by omega), e56 j (by omega) g3, e18]
    exact h6 i j g1 g2 g3
/-- the relation, whatever is found where nobody knew -/
def hTz (c k : Int) : Int × Int := if c = 275 ∧ (k = 5 ∨ k = 6 ∨ k = 118) then (1, 0) else hTy c k
def hT8 (c k : Int) : Int × Int := if (c = 275 ∧ (k = 9 ∨ k = 88 ∨ k = 95)) ∨ c = 281 then hTy c k else (1, 0)
theorem e_Has.z {u : eW} (h : e_Has hTz u) (h5 : 0 ≤ u 275 5 ∧ u 275 5 ≤ 2000) (h6 : 0 ≤ u 275 6 ∧ u 275 6 ≤ 1) (h118 : 0 ≤ u 275 118 ∧ u 275 118 ≤ 60) : e_Has hTy u := fun c k hl => by
  by_cases q : c = 275 ∧ (k = 5 ∨ k = 6 ∨ k = 118)
  · obtain ⟨rfl, rfl | rfl | rfl⟩ := q
    · exact h5
    · exact h6
    · exact h118
  · have e : hTz c k = hTy c k := if_neg q
    rw [← e] at hl ⊢
    exact h c k hl
theorem e_Has.t8 {w : eW} (h : e_Has hTy w) : e_Has hT8 w := fun c k hl => by
  by_cases q : (c = 275 ∧ (k = 9 ∨ k = 88 ∨ k = 95)) ∨ c = 281
  · have e : hT8 c k = hTy c k := if_pos q
    rw [e] at hl ⊢
    exact h c k hl
  · have e : hT8 c k = (1, 0) := if_neg q
    rw [e] at hl
    exact absurd hl (by decide)
theorem e_Has.t8fr {S : Int → Int → Prop} {w w' : eW} (h : e_Has hT8 w) (f : e_fr S w w') (hS : ∀ c k, ((c = 275 ∧ (k = 9 ∨ k = 88 ∨ k = 95)) ∨ c = 281) → ¬ S c k) : e_Has hT8 w' := fun c k hl => by
  by_cases q : (c = 275 ∧ (k = 9 ∨ k = 88 ∨ k = 95)) ∨ c = 281
  · rw [f c k (hS c k q)]
    exact h c k hl
  · have e : hT8 c k = (1, 0) := if_neg q
    rw [e] at hl
    exact absurd hl (by decide)
def mRelF (w : eW) : Prop := (∀ u, mor w u → e_Has hTz u → mRel u) ∧ e_Has hT8 w
theorem bkI.F {w : eW} {G : Int → Gh} {S : Int → Int → Int} (h : bkI w G S) (hT : e_Has mTy w) (h3 : w 275 3 = 1) (h8 : e_Has hT8 w) : mRelF w := ⟨fun u hu hH => by
  have z : ∀ {x : Int}, -2147483648 ≤ x → x ≤ 2147483647 → inZ x := fun a b => ⟨a, b⟩
  have e3 : u 275 3 = w 275 3 := hu _ _ (z (by omega) (by omega))
  have h6 := h.2.2.2.2.2.2.2.1
  have e6 : u 275 6 = w 275 6 := hu _ _ (z (by omega) (by omega))
  have h9 := h.2.2.2.2.2.2.2.2
  have h7 := h.2.2.2.2.2.2.1
  have e5 : u 275 5 = w 275 5 := hu _ _ (z (by omega) (by omega))
  have e118 : u 275 118 = w 275 118 := hu _ _ (z (by omega) (by omega))
  exact ⟨hT.low (mor.K hT hu), hH.z (by omega) (by omega) (by omega), ⟨e6.trans h6, fun g => by omega⟩, Or.inr ⟨e3.trans h3, G, S, h.res hT hu⟩⟩, h8⟩
theorem mRel.F {w : eW} (h : mRel w) : mRelF w := by
  obtain ⟨h1, h2, h3, h4⟩ := id h
  rcases h4 with ⟨g0, G, g⟩ | ⟨g0, G, S, g⟩
  · refine ⟨fun u hu hH => ?_, h2.t8⟩
    have z : ∀ {x : Int}, -2147483648 ≤ x → x ≤ 2147483647 → inZ x := fun a b => ⟨a, b⟩
    have hK := mor.K h1 hu
    have h35 := h3.2 g0
    have h36 := h3.1
    have e3 : u 275 3 = w 275 3 := hu _ _ (z (by omega) (by omega))
    have e5 : u 275 5 = w 275 5 := hu _ _ (z (by omega) (by omega))
    have e6 : u 275 6 = w 275 6 := hu _ _ (z (by omega) (by omega))
    have hT := h1.low hK
    have q118 := e_Has.get h2 (c := 275) (k := 118) (lo := 0) (hi := 60) rfl (by decide)
    have e118 : u 275 118 = w 275 118 := hu _ _ (z (by omega) (by omega))
    have hF : e_fr (fun c k => ¬ K0 c k) w u := fun c k q => hK c k (Classical.not_not.mp q)
    exact ⟨hT, hH.z (by omega) (by omega) (by omega), ⟨e6.trans h36, fun _ => e5.trans h35⟩, Or.inl ⟨e3.trans g0, G, g.1.cfg hF hT (fun c k q => ⟨fun e => q (by rw [e]; exact K0_now k), K0_cf q⟩), g.2⟩⟩
  · exact g.F h1 g0 h2.t8
end
end
-- part bu
section
noncomputable section
/-! what the model keeps from call to call: what is written into the book -/
theorem opS.sm {w w' : eW} {G : Int → Gh} {x a b c : Int} {s : Int → Int} (h : opS w w' G x a b c s) (h6 : w 275 6 = 0) : sm3 w w' := by
  obtain ⟨-, -, wm, m1, -, m3⟩ := h
  rcases m3 with ⟨m3, -⟩ | ⟨-, m3⟩
  · omega
  · have f := m3.2.2.1
    have e : ∀ k, k = 3 ∨ k = 9 ∨ k = 10 → w' 275 k = w 275 k := fun k q => (f 275 k (by unfold mWr mKw mSo; omega)).trans (m1 275 k (by unfold mTi; omega))
    exact ⟨e 3 (by omega), e 9 (by omega), e 10 (by omega)⟩
theorem mRel.base {w : eW} (h : mRel w) : ∃ G, mInv w G ∧ bkE w ∧ w 276 5 ≤ 7000000 ∧ (w 275 3 = 0 ∨ ∃ S, bkI w G S) := by
  obtain ⟨h1, h2, h3, h4⟩ := h
  rcases h4 with ⟨g0, G, g⟩ | ⟨g0, G, S, g⟩
  · have h5 := h3.2 g0
    have hq : qtB w := g.1.2.2.2.2.2.2.2
    have hq0 := hq.1
    exact ⟨G, g.1.inv, ⟨by omega, Or.inl h3.1, fun y => by omega⟩, by omega, Or.inl g0⟩
  · have hI := g.inv
    have q := (g.2.1 (w 275 5) g.2.2.2.2.2.2.2.2.1 (Int.le_refl _)).2.1
    rw [← g.1, ← g.1] at q
    have t := e_Has.get h1 (c := 276) (k := 0) (lo := 0) (hi := 6000) rfl (by decide)
    have h9 := g.2.2.2.2.2.2.2.2
    exact ⟨G, hI, g.bk, by omega, Or.inr ⟨S, g⟩⟩
theorem mRel.op {w w' : eW} {G : Int → Gh} {x a b c : Int} {s : Int → Int} {C N : Prop} (h : mRel w) (hb : w 275 3 = 0 ∨ ∃ S, bkI w G S) (q : (w = w' ∧ N) ∨ (C ∧ ¬ mBk w ∧ opS w w' G x a b c s ∧ evG w w')) (ho : ∀ k, (k < 0 ∨ 33060 ≤ k) → w' 276 k = w 276 k) (hC : C → w 275 3 = 1 ∧ rowC w x a b c) (hs : ∀ k, s k = rowF w x a b c k) (g1 : -2147483648 ≤ a ∧ a ≤ 2147483647) (g2 : -2147483648 ≤ b ∧ b ≤ 2147483647) (g3 : -2147483648 ≤ c ∧ c ≤ 2147483647) : mRelF w' ∧ sm3 w w' := by
  rcases q with ⟨rfl, -⟩ | ⟨q1, q2, q3, q4⟩
  · exact ⟨h.F, rfl, rfl, rfl⟩
  · obtain ⟨r1, r2⟩ := hC q1
    have hsm := q3.sm h.2.2.1.1
    rcases hb with hb | ⟨S, hb⟩
    · omega
    · obtain ⟨S', k⟩ := hb.op q3 q4 q2 r2 hs g1 g2 g3 ho
      have q8 : e_Has hT8 w' := by
        obtain ⟨-, -, wm, m1, -, m3⟩ := q3
        rcases m3 with ⟨m3, -⟩ | ⟨-, m3⟩
        · have := h.2.2.1.1
          omega
        · exact (h.2.1.t8.t8fr m1 (fun c k y => by unfold mTi; omega)).t8fr m3.2.2.1 (fun c k y => by unfold mWr mKw mSo; omega)
      exact ⟨k.F q3.2.1.1 (hsm.1.trans r1) q8, hsm⟩
theorem m_425 {d : Nat} (hd : 27 ≤ d) {w : eW} (h : mRel w) {p1 p2 : Int} (g1 : -2147483648 ≤ p1 ∧ p1 ≤ 2147483647) (g2 : -2147483648 ≤ p2 ∧ p2 ≤ 2147483647) : e_Ok 20 elay ecode eI d 425 (0, [(0, (1, 275)), (1, (0, p1)), (2, (0, p2))], [], w) (fun r w' => ∃ z : Int, r = [(0, z)] ∧ mRelF w' ∧ sm3 w w') := by
  obtain ⟨G, hI, hB, hE, hb⟩ := h.base
  refine (e_Ok.outN (c_425 hd hI hB hE g1 g2)).imp (fun r w' q => ?_)
  obtain ⟨⟨z, hr, q⟩, ho⟩ := q
  exact ⟨z, hr, h.op hb q ho (fun hq => ⟨hq.1.2.2.2.2, ⟨by decide, fun _ => hq, fun e => absurd e (by decide), fun e => absurd e (by decide), fun e => absurd e (by decide), fun e => absurd e (by decide), fun e => absurd e (by decide), fun e => absurd e (by decide), fun e => absurd e (by decide), fun e => absurd e (by decide), fun e => absurd e (by decide), fun e => absurd e (by decide)⟩⟩) (fun k => rfl) g1 g2 (by decide)⟩
theorem m_426 {d : Nat} (hd : 45 ≤ d) {w : eW} (h : mRel w) {p1 : Int} (g1 : -2147483648 ≤ p1 ∧ p1 ≤ 2147483647) : e_Ok 20 elay ecode eI d 426 (0, [(0, (1, 275)), (1, (0, p1))], [], w) (fun r w' => ∃ z : Int, r = [(0, z)] ∧ mRelF w' ∧ sm3 w w') := by
  obtain ⟨G, hI, hB, hE, hb⟩ := h.base
  refine (e_Ok.outN (c_426 hd hI hB hE g1)).imp (fun r w' q => ?_)
  obtain ⟨⟨z, hr, q⟩, ho⟩ := q
  exact ⟨z, hr, h.op hb q ho (fun hq => ⟨hq.2.2.1, ⟨by decide, fun e => absurd e (by decide), fun _ => hq, fun e => absurd e (by decide), fun e => absurd e (by decide), fun e => absurd e (by decide), fun e => absurd e (by decide), fun e => absurd e (by decide), fun e => absurd e (by decide), fun e => absurd e (by decide), fun e => absurd e (by decide), fun e => absurd e (by decide)⟩⟩) (fun k => rfl) g1 (by decide) (by decide)⟩
theorem m_427 {d : Nat} (hd : 25 ≤ d) {w : eW} (h : mRel w) {p1 p2 : Int} (g1 : -2147483648 ≤ p1 ∧ p1 ≤ 2147483647) (g2 : -2147483648 ≤ p2 ∧ p2 ≤ 2147483647) : e_Ok 20 elay ecode eI d 427 (0, [(0, (1, 275)), (1, (0, p1)), (2, (0, p2))], [], w) (fun r w' => ∃ z : Int, r = [(0, z)] ∧ mRelF w' ∧ sm3 w w') := by
  obtain ⟨G, hI, hB, hE, hb⟩ := h.base
  refine (e_Ok.outN (c_427 hd hI hB hE g1 g2)).imp (fun r w' q => ?_)
  obtain ⟨⟨z, hr, q⟩, ho⟩ := q
  exact ⟨z, hr, h.op hb q ho (fun hq => ⟨hq.2.2, ⟨by decide, fun e => absurd e (by decide), fun e => absurd e (by decide), fun _ => hq, fun e => absurd e (by decide), fun e => absurd e (by decide), fun e => absurd e (by decide), fun e => absurd e (by decide), fun e => absurd e (by decide), fun e => absurd e (by decide), fun e => absurd e (by decide), fun e => absurd e (by decide)⟩⟩) (fun k => rfl) g1 g2 (by decide)⟩
theorem m_428 {d : Nat} (hd : 27 ≤ d) {w : eW} (h : mRel w) {p1 p2 p3 : Int} (g1 : -2147483648 ≤ p1 ∧ p1 ≤ 2147483647) (g2 : -2147483648 ≤ p2 ∧ p2 ≤ 2147483647) (g3 : -2147483648 ≤ p3 ∧ p3 ≤ 2147483647) (hz3 : 0 ≤ p3 ∧ p3 ≤ 1) : e_Ok 20 elay ecode eI d 428 (0, [(0, (1, 275)), (1, (0, p1)), (2, (0, p2)), (3, (0, p3))], [], w) (fun r w' => ∃ z : Int, r = [(0, z)] ∧ mRelF w' ∧ sm3 w w') := by
  obtain ⟨G, hI, hB, hE, hb⟩ := h.base
  refine (e_Ok.outN (c_428 hd hI hB hE g1 g2 g3 hz3)).imp (fun r w' q => ?_)
  obtain ⟨⟨z, hr, q⟩, ho⟩ := q
  exact ⟨z, hr, h.op hb q ho (fun hq => ⟨hq.2.2, ⟨by decide, fun e => absurd e (by decide), fun e => absurd e (by decide), fun e => absurd e (by decide), fun _ => ⟨hq, hz3⟩, fun e => absurd e (by decide), fun e => absurd e (by decide), fun e => absurd e (by decide), fun e => absurd e (by decide), fun e => absurd e (by decide), fun e => absurd e (by decide), fun e => absurd e (by decide)⟩⟩) (fun k => rfl) g1 g2 g3⟩
theorem m_429 {d : Nat} (hd : 25 ≤ d) {w : eW} (h : mRel w) {p1 p2 p3 : Int} (g1 : -2147483648 ≤ p1 ∧ p1 ≤ 2147483647) (g2 : -2147483648 ≤ p2 ∧ p2 ≤ 2147483647) (g3 : -2147483648 ≤ p3 ∧ p3 ≤ 2147483647) (hz2 : 0 ≤ p2 ∧ p2 ≤ 1) (hz3 : 0 ≤ p3 ∧ p3 ≤ 1) : e_Ok 20 elay ecode eI d 429 (0, [(0, (1, 275)), (1, (0, p1)), (2, (0, p2)), (3, (0, p3))], [], w) (fun r w' => ∃ z : Int, r = [(0, z)] ∧ mRelF w' ∧ sm3 w w') := by
  obtain ⟨G, hI, hB, hE, hb⟩ := h.base
  refine (e_Ok.outN (c_429 hd hI hB hE g1 g2 g3 hz2 hz3)).imp (fun r w' q => ?_)
  obtain ⟨⟨z, hr, q⟩, ho⟩ := q
  exact ⟨z, hr, h.op hb q ho (fun hq => ⟨hq.2.2, ⟨by decide, fun e => absurd e (by decide), fun e => absurd e (by decide), fun e => absurd e (by decide), fun e => absurd e (by decide), fun _ => ⟨hq, hz2, hz3⟩, fun e => absurd e (by decide), fun e => absurd e (by decide), fun e => absurd e (by decide), fun e => absurd e (by decide), fun e => absurd e (by decide), fun e => absurd e (by decide)⟩⟩) (fun k => rfl) g1 g2 g3⟩
theorem m_430 {d : Nat} (hd : 27 ≤ d) {w : eW} (h : mRel w) {p1 : Int} (g1 : -2147483648 ≤ p1 ∧ p1 ≤ 2147483647) : e_Ok 20 elay ecode eI d 430 (0, [(0, (1, 275)), (1, (0, p1))], [], w) (fun r w' => ∃ z : Int, r = [(0, z)] ∧ mRelF w' ∧ sm3 w w') := by
  obtain ⟨G, hI, hB, hE, hb⟩ := h.base
  refine (e_Ok.outN (c_430 hd hI hB hE g1)).imp (fun r w' q => ?_)
  obtain ⟨⟨z, hr, q⟩, ho⟩ := q
  exact ⟨z, hr, h.op hb q ho (fun hq => ⟨hq.1.2.1, ⟨by decide, fun e => absurd e (by decide), fun e => absurd e (by decide), fun e => absurd e (by decide), fun e => absurd e (by decide), fun e => absurd e (by decide), fun _ => hq, fun e => absurd e (by decide), fun e => absurd e (by decide), fun e => absurd e (by decide), fun e => absurd e (by decide), fun e => absurd e (by decide)⟩⟩) (fun k => rfl) g1 (by decide) (by decide)⟩
theorem m_431 {d : Nat} (hd : 27 ≤ d) {w : eW} (h : mRel w) {p1 : Int} (g1 : -2147483648 ≤ p1 ∧ p1 ≤ 2147483647) : e_Ok 20 elay ecode eI d 431 (0, [(0, (1, 275)), (1, (0, p1))], [], w) (fun r w' => ∃ z : Int, r = [(0, z)] ∧ mRelF w' ∧ sm3 w w') := by
  obtain ⟨G, hI, hB, hE, hb⟩ := h.base
  refine (e_Ok.outN (c_431 hd hI hB hE g1)).imp (fun r w' q => ?_)
  obtain ⟨⟨z, hr, q⟩, ho⟩ := q
  exact ⟨z, hr, h.op hb q ho (fun hq => ⟨hq.2.1, ⟨by decide, fun e => absurd e (by decide), fun e => absurd e (by decide), fun e => absurd e (by decide), fun e => absurd e (by decide), fun e => absurd e (by decide), fun e => absurd e (by decide), fun _ => hq, fun e => absurd e (by decide), fun e => absurd e (by decide), fun e => absurd e (by decide), fun e => absurd e (by decide)⟩⟩) (fun k => rfl) g1 (by decide) (by decide)⟩
theorem m_432 {d : Nat} (hd : 25 ≤ d) {w : eW} (h : mRel w) {p1 : Int} (g1 : -2147483648 ≤ p1 ∧ p1 ≤ 2147483647) : e_Ok 20 elay ecode eI d 432 (0, [(0, (1, 275)), (1, (0, p1))], [], w) (fun r w' => ∃ z : Int, r = [(0, z)] ∧ mRelF w' ∧ sm3 w w') := by
  obtain ⟨G, hI, hB, hE, hb⟩ := h.base
  refine (e_Ok.outN (c_432 hd hI hB hE g1)).imp (fun r w' q => ?_)
  obtain ⟨⟨z, hr, q⟩, ho⟩ := q
  exact ⟨z, hr, h.op hb q ho (fun hq => ⟨hq.2.2.1, ⟨by decide, fun e => absurd e (by decide), fun e => absurd e (by decide), fun e => absurd e (by decide), fun e => absurd e (by decide), fun e => absurd e (by decide), fun e => absurd e (by decide), fun e => absurd e (by decide), fun _ => hq, fun e => absurd e (by decide), fun e => absurd e (by decide), fun e => absurd e (by decide)⟩⟩) (fun k => rfl) g1 (by decide) (by decide)⟩
theorem m_433 {d : Nat} (hd : 27 ≤ d) {w : eW} (h : mRel w) {p1 p2 p3 : Int} (g1 : -2147483648 ≤ p1 ∧ p1 ≤ 2147483647) (g2 : -2147483648 ≤ p2 ∧ p2 ≤ 2147483647) (g3 : -2147483648 ≤ p3 ∧ p3 ≤ 2147483647) : e_Ok 20 elay ecode eI d 433 (0, [(0, (1, 275)), (1, (0, p1)), (2, (0, p2)), (3, (0, p3))], [], w) (fun r w' => ∃ z : Int, r = [(0, z)] ∧ mRelF w' ∧ sm3 w w') := by
  obtain ⟨G, hI, hB, hE, hb⟩ := h.base
  refine (e_Ok.outN (c_433 hd hI hB hE g1 g2 g3)).imp (fun r w' q => ?_)
  obtain ⟨⟨z, hr, q⟩, ho⟩ := q
  exact ⟨z, hr, h.op hb q ho (fun hq => ⟨hq.2.2.1, ⟨by decide, fun e => absurd e (by decide), fun e => absurd e (by decide), fun e => absurd e (by decide), fun e => absurd e (by decide), fun e => absurd e (by decide), fun e => absurd e (by decide), fun e => absurd e (by decide), fun e => absurd e (by decide), fun _ => hq, fun e => absurd e (by decide), fun e => absurd e (by decide)⟩⟩) (fun k => rfl) g1 g2 g3⟩
theorem m_434 {d : Nat} (hd : 25 ≤ d) {w : eW} (h : mRel w) {p1 p2 : Int} (g1 : -2147483648 ≤ p1 ∧ p1 ≤ 2147483647) (g2 : -2147483648 ≤ p2 ∧ p2 ≤ 2147483647) : e_Ok 20 elay ecode eI d 434 (0, [(0, (1, 275)), (1, (0, p1)), (2, (0, p2))], [], w) (fun r w' => ∃ z : Int, r = [(0, z)] ∧ mRelF w' ∧ sm3 w w') := by
  obtain ⟨G, hI, hB, hE, hb⟩ := h.base
  refine (e_Ok.outN (c_434 hd hI hB hE g1 g2)).imp (fun r w' q => ?_)
  obtain ⟨⟨z, hr, q⟩, ho⟩ := q
  exact ⟨z, hr, h.op hb q ho (fun hq => ⟨hq.2.2, ⟨by decide, fun e => absurd e (by decide), fun e => absurd e (by decide), fun e => absurd e (by decide), fun e => absurd e (by decide), fun e => absurd e (by decide), fun e => absurd e (by decide), fun e => absurd e (by decide), fun e => absurd e (by decide), fun e => absurd e (by decide), fun _ => hq, fun e => absurd e (by decide)⟩⟩) (fun k => rfl) g1 g2 (by decide)⟩
theorem m_419 {d : Nat} (hd : 27 ≤ d) {w : eW} (h : mRel w) {p1 : Int} (g1 : -2147483648 ≤ p1 ∧ p1 ≤ 2147483647) : e_Ok 20 elay ecode eI d 419 (0, [(0, (1, 275)), (1, (0, p1))], [], w) (fun r w' => ∃ z : Int, r = [(0, z)] ∧ mRelF w' ∧ sm3 w w') := by
  obtain ⟨G, hI, hB, hE, hb⟩ := h.base
  refine (e_Ok.outN (c_419 hd hI hB hE g1)).imp (fun r w' q => ?_)
  obtain ⟨⟨z, hr, q⟩, ho⟩ := q
  exact ⟨z, hr, h.op hb q ho (fun hq => ⟨hq.2.1, ⟨by decide, fun e => absurd e (by decide), fun e => absurd e (by decide), fun e => absurd e (by decide), fun e => absurd e (by decide), fun e => absurd e (by decide), fun e => absurd e (by decide), fun e => absurd e (by decide), fun e => absurd e (by decide), fun e => absurd e (by decide), fun e => absurd e (by decide), fun _ => hq⟩⟩) (fun k => rfl) g1 (by decide) (by decide)⟩
end
end
-- part bv
section
noncomputable section
theorem c_436_0 {d : Nat} (hd : 22 ≤ d) {w : eW} (hT : e_Has mTy w) (hH : e_Has hTy w) {p1 : Int} (g1 : -2147483648 ≤ p1 ∧ p1 ≤ 2147483647) (h3 : w 275 3 = 0) : e_Ok 20 elay ecode eI d 436 (0, [(0, (1, 275)), (1, (0, p1))], [], w) (fun r w' => ∃ z : Int, r = [(0, z)] ∧ w = w') := by
  obtain ⟨d, rfl⟩ : ∃ e, d = e + 1 := ⟨d - 1, by omega⟩
  refine e_Ok.run (t' := (4, [(0, (1, 275)), (1, (0, p1))], [(1, 275), (4, 0), (4, p1)], w)) 4 rfl ?_
  have h1 := (e_Has.get hH (c := 275) (k := 5) (lo := 0) (hi := 2000) rfl (by decide))
  refine e_Ok.getf (z := w 275 5) rfl (el_o rfl) rfl rfl rfl (by omega) ?_
  refine e_Ok.run (t' := (8, [(0, (1, 275)), (1, (0, p1))], [(4, w 275 5), (4, 0), (4, p1)], w)) 1 rfl ?_
  refine e_Ok.callS rfl (by omega) rfl rfl (c_266) (fun r2 w3 h4 => ?_)
  obtain ⟨z5, rfl, rfl, q6⟩ := h4
  obtain ⟨rfl, q6⟩ | ⟨rfl, q6⟩ := q6
  · show e_Ok 20 elay ecode eI (d + 1) 436 (11, [(0, (1, 275)), (1, (0, p1))], [(0, 1)], w) _
    refine e_Ok.if1 rfl (fun h7 => ?_) (fun h7 => ?_)
    · replace h7 : (1 : Int) ≠ 0 := h7
      refine e_Ok.run (t' := (17, [(0, (1, 275)), (1, (0, p1))], [(1, 275)], w)) 1 rfl ?_
      refine e_Ok.getf (z := w 275 3) rfl (el_o rfl) rfl rfl rfl (by omega) ?_
      refine e_Ok.if1 rfl (fun h8 => ?_) (fun h8 => ?_)
      · replace h8 : (w 275 3 : Int) ≠ 0 := h8
        exfalso; omega
      · replace h8 : (w 275 3 : Int) = 0 := by have q : ¬ ((w 275 3 : Int) ≠ 0) := h8; omega
        refine e_Ok.run (t' := (25, [(0, (1, 275)), (1, (0, p1))], [(0, (-2))], w)) 1 rfl ?_
        refine e_Ok.rets rfl rfl ?_
        exact ⟨_, rfl, rfl⟩
    · replace h7 : (1 : Int) = 0 := by have q : ¬ ((1 : Int) ≠ 0) := h7; omega
      exfalso; omega
  · show e_Ok 20 elay ecode eI (d + 1) 436 (11, [(0, (1, 275)), (1, (0, p1))], [(0, 0)], w) _
    refine e_Ok.if1 rfl (fun h9 => ?_) (fun h9 => ?_)
    · replace h9 : (0 : Int) ≠ 0 := h9
      exfalso; omega
    · replace h9 : (0 : Int) = 0 := by have q : ¬ ((0 : Int) ≠ 0) := h9; omega
      refine e_Ok.run (t' := (15, [(0, (1, 275)), (1, (0, p1))], [(0, (-1))], w)) 1 rfl ?_
      refine e_Ok.rets rfl rfl ?_
      exact ⟨_, rfl, rfl⟩
/-! what the model keeps from call to call: plan, back -/
theorem bInvP.low {w u : eW} {G : Int → Gh} (g : bInvP w G) (hK : ∀ c k, K0 c k → u c k = w c k) : bInvP u G := by
  have hF : e_fr (fun c k => ¬ K0 c k) w u := fun c k q => hK c k (Classical.not_not.mp q)
  exact ⟨g.1.cfg hF (g.1.1.low hK) (fun c k q => ⟨fun e => q (by rw [e]; exact K0_now k), K0_cf q⟩), g.2⟩
theorem mRel.pm {w w' : eW} (h : mRel w) (hF : e_fr mPm w w') (hs : ∀ k, w' 276 k = w 276 k) (hp : w 275 118 ≤ w' 275 118 ∧ w' 275 118 ≤ 60) : mRelF w' ∧ sm3 w w' := by
  have hK : ∀ c k, K0 c k → w' c k = w c k := fun c k q => by
    by_cases e : c = 276
    · rw [e]; exact hs k
    · exact hF c k (fun y => e (pm_K0 y q))
  have hT := h.1.low hK
  have f : ∀ k, k = 3 ∨ k = 5 ∨ k = 6 ∨ k = 9 ∨ k = 10 → w' 275 k = w 275 k := fun k q => hF 275 k (by unfold mPm; omega)
  have e3 := f 3 (by omega)
  have e5 := f 5 (by omega)
  have e6 := f 6 (by omega)
  refine ⟨?_, e3, f 9 (by omega), f 10 (by omega)⟩
  obtain ⟨h1, h2, h3, h4⟩ := h
  rcases h4 with ⟨g0, G, g⟩ | ⟨g0, G, S, g⟩
  · refine ⟨fun u hu hH => ?_, h2.t8.t8fr hF (fun c k y => by unfold mPm; omega)⟩
    have z : ∀ {x : Int}, -2147483648 ≤ x → x ≤ 2147483647 → inZ x := fun a b => ⟨a, b⟩
    have hu0 := mor.K hT hu
    have h35 := h3.2 g0
    have h36 := h3.1
    have u3 : u 275 3 = w' 275 3 := hu _ _ (z (by omega) (by omega))
    have u5 : u 275 5 = w' 275 5 := hu _ _ (z (by omega) (by omega))
    have u6 : u 275 6 = w' 275 6 := hu _ _ (z (by omega) (by omega))
    have q118 := e_Has.get h2 (c := 275) (k := 118) (lo := 0) (hi := 60) rfl (by decide)
    have u118 : u 275 118 = w' 275 118 := hu _ _ (z (by omega) (by omega))
    exact ⟨hT.low hu0, hH.z (by omega) (by omega) (by omega), ⟨by omega, fun _ => by omega⟩, Or.inl ⟨by omega, G, g.low (fun c k q => (hu0 c k q).trans (hK c k q))⟩⟩
  · exact (g.low (frB.pm hF) hs hp (e6.trans h3.1)).F hT (e3.trans g0) (h2.t8.t8fr hF (fun c k y => by unfold mPm; omega))
theorem m_418 {d : Nat} (hd : 33 ≤ d) {w : eW} (h : mRel w) {p1 p2 p3 : Int} (g1 : -2147483648 ≤ p1 ∧ p1 ≤ 2147483647) (g2 : -2147483648 ≤ p2 ∧ p2 ≤ 2147483647) (g3 : -2147483648 ≤ p3 ∧ p3 ≤ 2147483647) : e_Ok 20 elay ecode eI d 418 (0, [(0, (1, 275)), (1, (0, p1)), (2, (0, p2)), (3, (0, p3))], [], w) (fun r w' => ∃ z : Int, r = [(0, z)] ∧ mRelF w' ∧ sm3 w w') := by
  obtain ⟨G, hI, hB, hE, hb⟩ := h.base
  have h118 := e_Has.get h.2.1 (c := 275) (k := 118) (lo := 0) (hi := 60) rfl (by decide)
  have h10 := e_Has.get h.1 (c := 275) (k := 10) (lo := 0) (hi := 4) rfl (by decide)
  refine (e_Ok.outN (c_418 hd hI hB g1 g2 g3 h118 h.2.2.1.1)).imp (fun r w' q => ?_)
  obtain ⟨⟨z, hr, q⟩, ho⟩ := q
  refine ⟨z, hr, ?_⟩
  rcases q with ⟨q1, q2, q3, q4⟩ | ⟨q1, q2, q3⟩
  · exact h.pm q1 q2 ⟨q3, q4⟩
  · have r1 := q1.2.1
    have ra := q1.1.1
    rcases hb with hb | ⟨S, hb⟩
    · omega
    · obtain ⟨S', k⟩ := hb.plan q1 q2 q3 (by omega) ho
      obtain ⟨z', f, wm, z1, z2, z3, z4, z5, hw, z7, z8⟩ := q3
      have e : ∀ k, k = 3 ∨ k = 9 ∨ k = 10 → w' 275 k = w 275 k := fun k y => (hw.2.2.1 275 k (by unfold mWr mKw mSo; omega)).trans (z2 275 k (by unfold mPm; omega))
      exact ⟨k.F k.inv.1 ((e 3 (by omega)).trans r1) ((h.2.1.t8.t8fr z2 (fun c k y => by unfold mPm; omega)).t8fr hw.2.2.1 (fun c k y => by unfold mWr mKw mSo; omega)), e 3 (by omega), e 9 (by omega), e 10 (by omega)⟩
theorem m_436 {d : Nat} (hd : 49 ≤ d) {w : eW} (h : mRel w) {p1 : Int} (g1 : -2147483648 ≤ p1 ∧ p1 ≤ 2147483647) : e_Ok 20 elay ecode eI d 436 (0, [(0, (1, 275)), (1, (0, p1))], [], w) (fun r w' => ∃ z : Int, r = [(0, z)] ∧ mRelF w' ∧ sm3 w w') := by
  rcases h.2.2.2 with ⟨g0, G, g⟩ | ⟨g0, G, S, g⟩
  · refine (c_436_0 (by omega) h.1 h.2.1 g1 g0).imp (fun r w' q => ?_)
    obtain ⟨z, hr, rfl⟩ := q
    exact ⟨z, hr, h.F, rfl, rfl, rfl⟩
  · refine (c_436 hd g g1).imp (fun r w' q => ?_)
    obtain ⟨z, hr, q⟩ := q
    rcases q with rfl | ⟨q1, q2⟩
    · exact ⟨z, hr, h.F, rfl, rfl, rfl⟩
    · have e : ∀ k, k = 3 ∨ k = 9 ∨ k = 10 → w' 275 k = w 275 k := fun k y => q2 275 k (by unfold mBb mTi mPm; omega)
      exact ⟨z, hr, q1.F q1.inv.1 ((e 3 (by omega)).trans g0) (h.2.1.t8.t8fr q2 (fun c k y => by unfold mBb mTi mPm; omega)), e 3 (by omega), e 9 (by omega), e 10 (by omega)⟩
end
end
-- part bw
section
noncomputable section
theorem c_278_x {d : Nat} (hd : 24 ≤ d) {w : eW} (hT : e_Has mTy w) {p1 p2 p3 p4 : Int} (g1 : -2147483648 ≤ p1 ∧ p1 ≤ 2147483647) (g2 : -2147483648 ≤ p2 ∧ p2 ≤ 2147483647) (g3 : -2147483648 ≤ p3 ∧ p3 ≤ 2147483647) (g4 : -2147483648 ≤ p4 ∧ p4 ≤ 2147483647) : e_Ok 20 elay ecode eI d 278 (0, [(0, (1, 275)), (1, (0, p1)), (2, (0, p2)), (3, (0, p3)), (4, (0, p4))], [], w) (fun r w' => ∃ z : Int, r = [(0, z)] ∧ ((w = w' ∧ ¬ ((-8000 ≤ p1 ∧ p1 ≤ 8000) ∧ (-8000 ≤ p2 ∧ p2 ≤ 8000) ∧ (0 ≤ p3 ∧ p3 ≤ 4095) ∧ (0 ≤ p4 ∧ p4 ≤ 800) ∧ w 275 3 = 0 ∧ w 275 10 ≤ 3)) ∨ (((-8000 ≤ p1 ∧ p1 ≤ 8000) ∧ (-8000 ≤ p2 ∧ p2 ≤ 8000) ∧ (0 ≤ p3 ∧ p3 ≤ 4095) ∧ (0 ≤ p4 ∧ p4 ≤ 800) ∧ w 275 3 = 0 ∧ w 275 10 ≤ 3) ∧ e_fr (mF 10 282 285) w w' ∧ e_Has mTy w' ∧ w' 275 10 = w 275 10 + 1))) := by
  obtain ⟨d, rfl⟩ : ∃ e, d = e + 1 := ⟨d - 1, by omega⟩
  have hop := e_Has.get hT (c := 275) (k := 3) (lo := 0) (hi := 1) rfl (by decide)
  have hr := e_Has.get hT (c := 275) (k := 10) (lo := 0) (hi := 4) rfl (by decide)
  refine e_Ok.run (t' := (8, [(0, (1, 275)), (1, (0, p1)), (2, (0, p2)), (3, (0, p3)), (4, (0, p4))], [(4, 8000), (4, (-8000)), (4, p1)], w)) 4 rfl ?_
  refine e_Ok.callS rfl (by omega) rfl rfl (c_266) (fun r1 w2 h3 => ?_)
  obtain ⟨z4, rfl, rfl, q5⟩ := h3
  obtain ⟨rfl, q5⟩ | ⟨rfl, q5⟩ := q5
  · show e_Ok 20 elay ecode eI (d + 1) 278 (11, [(0, (1, 275)), (1, (0, p1)), (2, (0, p2)), (3, (0, p3)), (4, (0, p4))], [(0, 1)], w) _
    refine e_Ok.if1 rfl (fun h6 => ?_) (fun h6 => ?_)
    · replace h6 : (1 : Int) = 0 := h6
      exfalso; omega
    · replace h6 : (1 : Int) ≠ 0 := by have q : ¬ ((1 : Int) = 0) := h6; omega
      refine e_Ok.run (t' := (22, [(0, (1, 275)), (1, (0, p1)), (2, (0, p2)), (3, (0, p3)), (4, (0, p4))], [(4, 8000), (4, (-8000)), (4, p2)], w)) 4 rfl ?_
      refine e_Ok.callS rfl (by omega) rfl rfl (c_266) (fun r7 w8 h9 => ?_)
      obtain ⟨z10, rfl, rfl, q11⟩ := h9
      obtain ⟨rfl, q11⟩ | ⟨rfl, q11⟩ := q11
      · show e_Ok 20 elay ecode eI (d + 1) 278 (25, [(0, (1, 275)), (1, (0, p1)), (2, (0, p2)), (3, (0, p3)), (4, (0, p4))], [(0, 1)], w) _
        refine e_Ok.if1 rfl (fun h12 => ?_) (fun h12 => ?_)
        · replace h12 : (1 : Int) = 0 := h12
          exfalso; omega
        · replace h12 : (1 : Int) ≠ 0 := by have q : ¬ ((1 : Int) = 0) := h12; omega
          refine e_Ok.run (t' := (34, [(0, (1, 275)), (1, (0, p1)), (2, (0, p2)), (3, (0, p3)), (4, (0, p4))], [(4, 4095), (4, 0), (4, p3)], w)) 4 rfl ?_
          refine e_Ok.callS rfl (by omega) rfl rfl (c_266) (fun r13 w14 h15 => ?_)
          obtain ⟨z16, rfl, rfl, q17⟩ := h15
          obtain ⟨rfl, q17⟩ | ⟨rfl, q17⟩ := q17
          · show e_Ok 20 elay ecode eI (d + 1) 278 (37, [(0, (1, 275)), (1, (0, p1)), (2, (0, p2)), (3, (0, p3)), (4, (0, p4))], [(0, 1)], w) _
            refine e_Ok.if1 rfl (fun h18 => ?_) (fun h18 => ?_)
            · replace h18 : (1 : Int) = 0 := h18
              exfalso; omega
            · replace h18 : (1 : Int) ≠ 0 := by have q : ¬ ((1 : Int) = 0) := h18; omega
              refine e_Ok.run (t' := (47, [(0, (1, 275)), (1, (0, p1)), (2, (0, p2)), (3, (0, p3)), (4, (0, p4))], [(4, 800), (4, 0), (4, p4)], w)) 4 rfl ?_
              refine e_Ok.callS rfl (by omega) rfl rfl (c_266) (fun r19 w20 h21 => ?_)
              obtain ⟨z22, rfl, rfl, q23⟩ := h21
              obtain ⟨rfl, q23⟩ | ⟨rfl, q23⟩ := q23
              · show e_Ok 20 elay ecode eI (d + 1) 278 (50, [(0, (1, 275)), (1, (0, p1)), (2, (0, p2)), (3, (0, p3)), (4, (0, p4))], [(0, 1)], w) _
                refine e_Ok.if1 rfl (fun h24 => ?_) (fun h24 => ?_)
                · replace h24 : (1 : Int) ≠ 0 := h24
                  refine e_Ok.run (t' := (56, [(0, (1, 275)), (1, (0, p1)), (2, (0, p2)), (3, (0, p3)), (4, (0, p4))], [(1, 275)], w)) 1 rfl ?_
                  refine e_Ok.getf (z := w 275 3) rfl (el_o rfl) rfl rfl rfl (by omega) ?_
                  refine e_Ok.if1 rfl (fun h25 => ?_) (fun h25 => ?_)
                  · replace h25 : (w 275 3 : Int) = 0 := h25
                    refine e_Ok.run (t' := (66, [(0, (1, 275)), (1, (0, p1)), (2, (0, p2)), (3, (0, p3)), (4, (0, p4))], [(1, 275)], w)) 1 rfl ?_
                    refine e_Ok.getf (z := w 275 10) rfl (el_o rfl) rfl rfl rfl (by omega) ?_
                    refine e_Ok.run (t' := (70, [(0, (1, 275)), (1, (0, p1)), (2, (0, p2)), (3, (0, p3)), (4, (0, p4))], [(0, 4), (0, w 275 10)], w)) 1 rfl ?_
                    refine e_Ok.if2 rfl (fun h26 => ?_) (fun h26 => ?_)
                    · replace h26 : (w 275 10 : Int) ≠ 4 := h26
                      refine e_Ok.run (t' := (77, [(0, (1, 275)), (1, (0, p1)), (2, (0, p2)), (3, (0, p3)), (4, (0, p4))], [(1, 275)], w)) 1 rfl ?_
                      refine e_Ok.getr (z := 282) rfl (el_o rfl) rfl rfl (e_Has.eq hT rfl) (by omega) ?_
                      refine e_Ok.run (t' := (81, [(0, (1, 275)), (1, (0, p1)), (2, (0, p2)), (3, (0, p3)), (4, (0, p4))], [(1, 275), (1, 282)], w)) 1 rfl ?_
                      refine e_Ok.getf (z := w 275 10) rfl (el_o rfl) rfl rfl rfl (by omega) ?_
                      refine e_Ok.run (t' := (85, [(0, (1, 275)), (1, (0, p1)), (2, (0, p2)), (3, (0, p3)), (4, (0, p4))], [(0, p1), (0, w 275 10), (1, 282)], w)) 1 rfl ?_
                      refine e_Ok.ast rfl (el_o rfl) rfl rfl (by omega) ?_
                      generalize hw27 : e_up w 282 (w 275 10) p1 = w27
                      have f28 : e_fr (mF 10 282 285) w w27 := e_fr.up (e_fr.refl w) hw27 (by first | exact Or.inr ⟨(by decide), (by decide)⟩ | (unfold mF; omega))
                      have hT29 : e_Has mTy w27 := e_Has.upr hT hw27 rfl (by omega)
                      refine e_Ok.run (t' := (87, [(0, (1, 275)), (1, (0, p1)), (2, (0, p2)), (3, (0, p3)), (4, (0, p4))], [(1, 275)], w27)) 1 rfl ?_
                      refine e_Ok.getr (z := 283) rfl (el_o rfl) rfl rfl (by rw [← hw27]; exact (e_up_ne _ _ (Or.inl (by omega))).trans (e_Has.eq hT rfl)) (by omega) ?_
                      refine e_Ok.run (t' := (91, [(0, (1, 275)), (1, (0, p1)), (2, (0, p2)), (3, (0, p3)), (4, (0, p4))], [(1, 275), (1, 283)], w27)) 1 rfl ?_
                      refine e_Ok.getf (z := w 275 10) rfl (el_o rfl) rfl rfl (by rw [← hw27]; exact (e_up_ne _ _ (Or.inl (by omega))).trans rfl) (by omega) ?_
                      refine e_Ok.run (t' := (95, [(0, (1, 275)), (1, (0, p1)), (2, (0, p2)), (3, (0, p3)), (4, (0, p4))], [(0, p2), (0, w 275 10), (1, 283)], w27)) 1 rfl ?_
                      refine e_Ok.ast rfl (el_o rfl) rfl rfl (by omega) ?_
                      generalize hw30 : e_up w27 283 (w 275 10) p2 = w30
                      have f31 : e_fr (mF 10 282 285) w w30 := e_fr.up f28 hw30 (by first | exact Or.inr ⟨(by decide), (by decide)⟩ | (unfold mF; omega))
                      have hT32 : e_Has mTy w30 := e_Has.upr hT29 hw30 rfl (by omega)
                      refine e_Ok.run (t' := (97, [(0, (1, 275)), (1, (0, p1)), (2, (0, p2)), (3, (0, p3)), (4, (0, p4))], [(1, 275)], w30)) 1 rfl ?_
                      refine e_Ok.getr (z := 284) rfl (el_o rfl) rfl rfl (by rw [← hw30]; exact (e_up_ne _ _ (Or.inl (by omega))).trans (by rw [← hw27]; exact (e_up_ne _ _ (Or.inl (by omega))).trans (e_Has.eq hT rfl))) (by omega) ?_
                      refine e_Ok.run (t' := (101, [(0, (1, 275)), (1, (0, p1)), (2, (0, p2)), (3, (0, p3)), (4, (0, p4))], [(1, 275), (1, 284)], w30)) 1 rfl ?_
                      refine e_Ok.getf (z := w 275 10) rfl (el_o rfl) rfl rfl (by rw [← hw30]; exact (e_up_ne _ _ (Or.inl (by omega))).trans (by rw [← hw27]; exact (e_up_ne _ _ (Or.inl (by omega))).trans rfl)) (by omega) ?_
                      refine e_Ok.run (t' := (105, [(0, (1, 275)), (1, (0, p1)), (2, (0, p2)), (3, (0, p3)), (4, (0, p4))], [(0, p3), (0, w 275 10), (1, 284)], w30)) 1 rfl ?_
                      refine e_Ok.ast rfl (el_o rfl) rfl rfl (by omega) ?_
                      generalize hw33 : e_up w30 284 (w 275 10) p3 = w33
                      have f34 : e_fr (mF 10 282 285) w w33 := e_fr.up f31 hw33 (by first | exact Or.inr ⟨(by decide), (by decide)⟩ | (unfold mF; omega))
                      have hT35 : e_Has mTy w33 := e_Has.upr hT32 hw33 rfl (by omega)
                      refine e_Ok.run (t' := (107, [(0, (1, 275)), (1, (0, p1)), (2, (0, p2)), (3, (0, p3)), (4, (0, p4))], [(1, 275)], w33)) 1 rfl ?_
                      refine e_Ok.getr (z := 285) rfl (el_o rfl) rfl rfl (by rw [← hw33]; exact (e_up_ne _ _ (Or.inl (by omega))).trans (by rw [← hw30]; exact (e_up_ne _ _ (Or.inl (by omega))).trans (by rw [← hw27]; exact (e_up_ne _ _ (Or.inl (by omega))).trans (e_Has.eq hT rfl)))) (by omega) ?_
                      refine e_Ok.run (t' := (111, [(0, (1, 275)), (1, (0, p1)), (2, (0, p2)), (3, (0, p3)), (4, (0, p4))], [(1, 275), (1, 285)], w33)) 1 rfl ?_
                      refine e_Ok.getf (z := w 275 10) rfl (el_o rfl) rfl rfl (by rw [← hw33]; exact (e_up_ne _ _ (Or.inl (by omega))).trans (by rw [← hw30]; exact (e_up_ne _ _ (Or.inl (by omega))).trans (by rw [← hw27]; exact (e_up_ne _ _ (Or.inl (by omega))).trans rfl))) (by omega) ?_
                      refine e_Ok.run (t' := (116, [(0, (1, 275)), (1, (0, p1)), (2, (0, p2)), (3, (0, p3)), (4, (0, p4))], [(0, p4), (0, w 275 10), (1, 285)], w33)) 1 rfl ?_
                      refine e_Ok.ast rfl (el_o rfl) rfl rfl (by omega) ?_
                      generalize hw36 : e_up w33 285 (w 275 10) p4 = w36
                      have f37 : e_fr (mF 10 282 285) w w36 := e_fr.up f34 hw36 (by first | exact Or.inr ⟨(by decide), (by decide)⟩ | (unfold mF; omega))
                      have hT38 : e_Has mTy w36 := e_Has.upr hT35 hw36 rfl (by omega)
                      refine e_Ok.run (t' := (119, [(0, (1, 275)), (1, (0, p1)), (2, (0, p2)), (3, (0, p3)), (4, (0, p4))], [(1, 275), (1, 275)], w36)) 2 rfl ?_
                      refine e_Ok.getf (z := w 275 10) rfl (el_o rfl) rfl rfl (by rw [← hw36]; exact (e_up_ne _ _ (Or.inl (by omega))).trans (by rw [← hw33]; exact (e_up_ne _ _ (Or.inl (by omega))).trans (by rw [← hw30]; exact (e_up_ne _ _ (Or.inl (by omega))).trans (by rw [← hw27]; exact (e_up_ne _ _ (Or.inl (by omega))).trans rfl)))) (by omega) ?_
                      refine e_Ok.run (t' := (123, [(0, (1, 275)), (1, (0, p1)), (2, (0, p2)), (3, (0, p3)), (4, (0, p4))], [(0, 1), (0, w 275 10), (1, 275)], w36)) 1 rfl ?_
                      refine e_Ok.add (z := w 275 10 + 1) rfl (by omega) (by omega) ?_
                      refine e_Ok.putf rfl (el_o rfl) rfl rfl ?_
                      generalize hw40 : e_up w36 275 10 (w 275 10 + 1) = w40
                      have f41 : e_fr (mF 10 282 285) w w40 := e_fr.up f37 hw40 (by first | exact Or.inl ⟨rfl, rfl⟩ | (unfold mF; omega))
                      have hT42 : e_Has mTy w40 := e_Has.upr hT38 hw40 rfl (by omega)
                      refine e_Ok.run (t' := (128, [(0, (1, 275)), (1, (0, p1)), (2, (0, p2)), (3, (0, p3)), (4, (0, p4))], [(1, 275)], w40)) 1 rfl ?_
                      refine e_Ok.getf (z := w 275 10 + 1) rfl (el_o rfl) rfl rfl (by rw [← hw40]; exact e_up_eq _ _ _ _) (by omega) ?_
                      refine e_Ok.run (t' := (132, [(0, (1, 275)), (1, (0, p1)), (2, (0, p2)), (3, (0, p3)), (4, (0, p4))], [(0, 1), (0, w 275 10 + 1)], w40)) 1 rfl ?_
                      refine e_Ok.sub' (z := w 275 10) rfl (by omega) (by omega) ?_
                      refine e_Ok.rets rfl rfl ?_
                      have e10 : w40 275 10 = w 275 10 + 1 := (by rw [← hw40]; exact e_up_eq _ _ _ _)
                      exact ⟨_, rfl, Or.inr ⟨by omega, f41, hT42, by omega⟩⟩
                    · replace h26 : (w 275 10 : Int) = 4 := by have q : ¬ ((w 275 10 : Int) ≠ 4) := h26; omega
                      refine e_Ok.run (t' := (75, [(0, (1, 275)), (1, (0, p1)), (2, (0, p2)), (3, (0, p3)), (4, (0, p4))], [(0, (-3))], w)) 1 rfl ?_
                      refine e_Ok.rets rfl rfl ?_
                      exact ⟨_, rfl, Or.inl ⟨rfl, by omega⟩⟩
                  · replace h25 : (w 275 3 : Int) ≠ 0 := by have q : ¬ ((w 275 3 : Int) = 0) := h25; omega
                    refine e_Ok.run (t' := (64, [(0, (1, 275)), (1, (0, p1)), (2, (0, p2)), (3, (0, p3)), (4, (0, p4))], [(0, (-2))], w)) 1 rfl ?_
                    refine e_Ok.rets rfl rfl ?_
                    exact ⟨_, rfl, Or.inl ⟨rfl, by omega⟩⟩
                · replace h24 : (1 : Int) = 0 := by have q : ¬ ((1 : Int) ≠ 0) := h24; omega
                  exfalso; omega
              · show e_Ok 20 elay ecode eI (d + 1) 278 (50, [(0, (1, 275)), (1, (0, p1)), (2, (0, p2)), (3, (0, p3)), (4, (0, p4))], [(0, 0)], w) _
                refine e_Ok.if1 rfl (fun h43 => ?_) (fun h43 => ?_)
                · replace h43 : (0 : Int) ≠ 0 := h43
                  exfalso; omega
                · replace h43 : (0 : Int) = 0 := by have q : ¬ ((0 : Int) ≠ 0) := h43; omega
                  refine e_Ok.run (t' := (54, [(0, (1, 275)), (1, (0, p1)), (2, (0, p2)), (3, (0, p3)), (4, (0, p4))], [(0, (-1))], w)) 1 rfl ?_
                  refine e_Ok.rets rfl rfl ?_
                  exact ⟨_, rfl, Or.inl ⟨rfl, by omega⟩⟩
          · show e_Ok 20 elay ecode eI (d + 1) 278 (37, [(0, (1, 275)), (1, (0, p1)), (2, (0, p2)), (3, (0, p3)), (4, (0, p4))], [(0, 0)], w) _
            refine e_Ok.if1 rfl (fun h44 => ?_) (fun h44 => ?_)
            · replace h44 : (0 : Int) = 0 := h44
              refine e_Ok.run (t' := (54, [(0, (1, 275)), (1, (0, p1)), (2, (0, p2)), (3, (0, p3)), (4, (0, p4))], [(0, (-1))], w)) 1 rfl ?_
              refine e_Ok.rets rfl rfl ?_
              exact ⟨_, rfl, Or.inl ⟨rfl, by omega⟩⟩
            · replace h44 : (0 : Int) ≠ 0 := by have q : ¬ ((0 : Int) = 0) := h44; omega
              exfalso; omega
      · show e_Ok 20 elay ecode eI (d + 1) 278 (25, [(0, (1, 275)), (1, (0, p1)), (2, (0, p2)), (3, (0, p3)), (4, (0, p4))], [(0, 0)], w) _
        refine e_Ok.if1 rfl (fun h45 => ?_) (fun h45 => ?_)
        · replace h45 : (0 : Int) = 0 := h45
          refine e_Ok.run (t' := (54, [(0, (1, 275)), (1, (0, p1)), (2, (0, p2)), (3, (0, p3)), (4, (0, p4))], [(0, (-1))], w)) 1 rfl ?_
          refine e_Ok.rets rfl rfl ?_
          exact ⟨_, rfl, Or.inl ⟨rfl, by omega⟩⟩
        · replace h45 : (0 : Int) ≠ 0 := by have q : ¬ ((0 : Int) = 0) := h45; omega
          exfalso; omega
  · show e_Ok 20 elay ecode eI (d + 1) 278 (11, [(0, (1, 275)), (1, (0, p1)), (2, (0, p2)), (3, (0, p3)), (4, (0, p4))], [(0, 0)], w) _
    refine e_Ok.if1 rfl (fun h46 => ?_) (fun h46 => ?_)
    · replace h46 : (0 : Int) = 0 := h46
      refine e_Ok.run (t' := (54, [(0, (1, 275)), (1, (0, p1)), (2, (0, p2)), (3, (0, p3)), (4, (0, p4))], [(0, (-1))], w)) 1 rfl ?_
      refine e_Ok.rets rfl rfl ?_
      exact ⟨_, rfl, Or.inl ⟨rfl, by omega⟩⟩
    · replace h46 : (0 : Int) ≠ 0 := by have q : ¬ ((0 : Int) = 0) := h46; omega
      exfalso; omega
theorem m_278x {d : Nat} (hd : 24 ≤ d) {w : eW} (h : mRel w) {p1 p2 p3 p4 : Int} (g1 : -2147483648 ≤ p1 ∧ p1 ≤ 2147483647) (g2 : -2147483648 ≤ p2 ∧ p2 ≤ 2147483647) (g3 : -2147483648 ≤ p3 ∧ p3 ≤ 2147483647) (g4 : -2147483648 ≤ p4 ∧ p4 ≤ 2147483647) : e_Ok 20 elay ecode eI d 278 (0, [(0, (1, 275)), (1, (0, p1)), (2, (0, p2)), (3, (0, p3)), (4, (0, p4))], [], w) (fun r w' => ∃ z : Int, r = [(0, z)] ∧ mRel w' ∧ w' 275 3 = w 275 3 ∧ w' 275 9 = w 275 9 ∧ ((¬ ((-8000 ≤ p1 ∧ p1 ≤ 8000) ∧ (-8000 ≤ p2 ∧ p2 ≤ 8000) ∧ (0 ≤ p3 ∧ p3 ≤ 4095) ∧ (0 ≤ p4 ∧ p4 ≤ 800) ∧ w 275 3 = 0 ∧ w 275 10 ≤ 3) ∧ w' 275 10 = w 275 10) ∨ (((-8000 ≤ p1 ∧ p1 ≤ 8000) ∧ (-8000 ≤ p2 ∧ p2 ≤ 8000) ∧ (0 ≤ p3 ∧ p3 ≤ 4095) ∧ (0 ≤ p4 ∧ p4 ≤ 800) ∧ w 275 3 = 0 ∧ w 275 10 ≤ 3) ∧ w' 275 10 = w 275 10 + 1))) :=
  (c_278_x hd h.1 g1 g2 g3 g4).imp (fun r w' q => by
    obtain ⟨z, hr, q⟩ := q
    rcases q with ⟨rfl, q⟩ | ⟨q1, q2, q3, q4⟩
    · exact ⟨z, hr, h, rfl, rfl, Or.inl ⟨q, rfl⟩⟩
    · obtain ⟨r1, r2, r3⟩ := h.bld q1.2.2.2.2.1 q2 q3 (by decide) (by decide) (fun G g => g.arm q2 q3 q4)
      exact ⟨z, hr, r1, r2, r3, Or.inr ⟨q1, q4⟩⟩)
end
end
