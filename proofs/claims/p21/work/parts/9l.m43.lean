noncomputable section
theorem nowZ (k : Int) : (nowR k).1 ≤ 0 ∧ 0 ≤ (nowR k).2 := by
  have hi : ∀ {c : Prop} [Decidable c] {a b : Int × Int}, (c → a.1 ≤ 0 ∧ 0 ≤ a.2) → (¬ c → b.1 ≤ 0 ∧ 0 ≤ b.2) → (if c then a else b).1 ≤ 0 ∧ 0 ≤ (if c then a else b).2 := fun {c} _ {a b} ha hb => by
    by_cases h : c
    · rw [if_pos h]; exact ha h
    · rw [if_neg h]; exact hb h
  have hn : ∀ {l : List (Int × Int)} (_ : ∀ x ∈ l, x.1 ≤ 0 ∧ 0 ≤ x.2) {k : Nat} (_ : k < l.length), (x_nthP l k).1 ≤ 0 ∧ 0 ≤ (x_nthP l k).2 := fun {l} h k hk => by
    unfold x_nthP
    rw [x_at_eq]
    rw [List.getElem?_eq_getElem hk]
    exact h _ (List.getElem_mem hk)
  have h0 : ∀ x ∈ nHead, x.1 ≤ 0 ∧ 0 ≤ x.2 := by decide +kernel
  have h1 : ∀ x ∈ nArm, x.1 ≤ 0 ∧ 0 ≤ x.2 := by decide +kernel
  have e0 : nHead.length = 16 := by decide +kernel
  have e1 : nArm.length = 36 := by decide +kernel
  have ha : (((-2147483648, 2147483647) : Int × Int)).1 ≤ 0 ∧ 0 ≤ (((-2147483648, 2147483647) : Int × Int)).2 := by decide
  have ht : ∀ f, (nTask f).1 ≤ 0 ∧ 0 ≤ (nTask f).2 := fun f => by
    refine hi (fun q => hn ?_ ?_) (fun _ => hi (fun _ => hi (fun _ => ?_) (fun _ => ?_)) (fun _ => ha))
    · decide +kernel
    · show f.toNat < 20; omega
    · decide
    · decide
  refine hi (fun q => hn h0 (by rw [e0]; omega)) (fun _ => hi (fun q => hn h1 (by rw [e1]; omega)) (fun _ => hi (fun _ => ha) (fun _ => hi (fun _ => ?_) (fun _ => hi (fun _ => ha) (fun _ => hi (fun _ => ht _) (fun _ => hi (fun _ => hi (fun _ => ?_) (fun _ => ha)) (fun _ => hi (fun _ => hi (fun _ => ?_) (fun _ => ?_)) (fun _ => hi (fun _ => hi (fun _ => ha) (fun _ => ?_)) (fun _ => hi (fun _ => ?_) (fun _ => hi (fun _ => ha) (fun _ => hi (fun _ => ?_) (fun _ => ha)))))))))))) <;> decide
theorem e_Has.zero {w w' : eW} {k : Int} (h : e_Has mTy w) (hw : e_up w 276 k 0 = w') : e_Has mTy w' := h.up hw (fun _ => nowZ k)
def rF (v : eW) : Prop := v 275 3 = 0 ∧ v 275 10 = 0 ∧ v 275 23 = 0 ∧ v 275 30 = 0 ∧ v 275 40 = 0 ∧ v 275 42 = 0 ∧ v 275 49 = 0 ∧ v 275 5 = 0
theorem rF.up {v v' : eW} {c k z : Int} (h : rF v) (hw : e_up v c k z = v') (hc : c ≠ 275) : rF v' := by
  have e : ∀ k', v' 275 k' = v 275 k' := fun k' => by rw [← hw]; exact e_up_ne _ _ (Or.inl (fun q => hc q.symm))
  unfold rF
  rw [e, e, e, e, e, e, e, e]
  exact h
def mRa (c k : Int) : Prop := (c = 276 ∧ 16 ≤ k ∧ k < 160 ∧ ((k - 16) % 36 = 1 ∨ (k - 16) % 36 = 2 ∨ (k - 16) % 36 = 3 ∨ (k - 16) % 36 = 9)) ∨ c = 286 ∨ c = 306 ∨ c = 280 ∨ c = 338 ∨ c = 339 ∨ c = 340
def mRb (c k : Int) : Prop := c = 276 ∧ 416 ≤ k ∧ k < 20576 ∧ (k - 416) % 1260 = 1
def mRc (c k : Int) : Prop := c = 317 ∨ (c = 276 ∧ 20836 ≤ k ∧ k < 20876)
def mRd (c _k : Int) : Prop := c = 318
def mRe (c _k : Int) : Prop := c = 299
/-- a new cell -/
def newOk (w : eW) : Prop := rF w ∧ (∀ a, 0 ≤ a → a < 4 → w 286 a = 0 ∧ w 338 a = 0 ∧ w 276 (36 * a + 17) = -1) ∧ (∀ p, 0 ≤ p → p < 64 → w 318 p = -1) ∧ (∀ k, 0 ≤ k → k < 33060 → ¬ mRa 276 k → ¬ mRb 276 k → ¬ mRc 276 k → w 276 k = 0)
set_option maxHeartbeats 4000000 in
theorem c_267 {d : Nat} (hd : 21 ≤ d) {w : eW} (hT : e_Has mTy w) : e_Ok 20 elay ecode eI d 267 (0, [(0, (1, 275))], [], w) (fun r w' => r = [] ∧ e_Has mTy w' ∧ newOk w') := by
  obtain ⟨d, rfl⟩ : ∃ e, d = e + 1 := ⟨d - 1, by omega⟩
  refine e_Ok.run (t' := (2, [(0, (1, 275))], [(0, 0), (1, 275)], w)) 2 rfl ?_
  refine e_Ok.putb rfl (el_o rfl) rfl rfl (by omega) ?_
  generalize hw1 : e_up w 275 3 0 = w1
  have hT2 : e_Has mTy w1 := e_Has.upr hT hw1 rfl (by omega)
  refine e_Ok.run (t' := (7, [(0, (1, 275))], [(0, 0), (1, 275)], w1)) 2 rfl ?_
  refine e_Ok.putf rfl (el_o rfl) rfl rfl ?_
  generalize hw3 : e_up w1 275 10 0 = w3
  have hT4 : e_Has mTy w3 := e_Has.upr hT2 hw3 rfl (by omega)
  refine e_Ok.run (t' := (12, [(0, (1, 275))], [(0, 0), (1, 275)], w3)) 2 rfl ?_
  refine e_Ok.putf rfl (el_o rfl) rfl rfl ?_
  generalize hw5 : e_up w3 275 23 0 = w5
  have hT6 : e_Has mTy w5 := e_Has.upr hT4 hw5 rfl (by omega)
  refine e_Ok.run (t' := (17, [(0, (1, 275))], [(0, 0), (1, 275)], w5)) 2 rfl ?_
  refine e_Ok.putf rfl (el_o rfl) rfl rfl ?_
  generalize hw7 : e_up w5 275 30 0 = w7
  have hT8 : e_Has mTy w7 := e_Has.upr hT6 hw7 rfl (by omega)
  refine e_Ok.run (t' := (22, [(0, (1, 275))], [(0, 0), (1, 275)], w7)) 2 rfl ?_
  refine e_Ok.putf rfl (el_o rfl) rfl rfl ?_
  generalize hw9 : e_up w7 275 40 0 = w9
  have hT10 : e_Has mTy w9 := e_Has.upr hT8 hw9 rfl (by omega)
  refine e_Ok.run (t' := (27, [(0, (1, 275))], [(0, 0), (1, 275)], w9)) 2 rfl ?_
  refine e_Ok.putf rfl (el_o rfl) rfl rfl ?_
  generalize hw11 : e_up w9 275 42 0 = w11
  have hT12 : e_Has mTy w11 := e_Has.upr hT10 hw11 rfl (by omega)
  refine e_Ok.run (t' := (32, [(0, (1, 275))], [(0, 0), (1, 275)], w11)) 2 rfl ?_
  refine e_Ok.putf rfl (el_o rfl) rfl rfl ?_
  generalize hw13 : e_up w11 275 49 0 = w13
  have hT14 : e_Has mTy w13 := e_Has.upr hT12 hw13 rfl (by omega)
  refine e_Ok.run (t' := (37, [(0, (1, 275))], [(0, 0), (1, 275)], w13)) 2 rfl ?_
  refine e_Ok.putf rfl (el_o rfl) rfl rfl ?_
  generalize hw15 : e_up w13 275 5 0 = w15
  have hT16 : e_Has mTy w15 := e_Has.ups hT14 hw15 rfl
  refine e_Ok.run (t' := (42, [(0, (1, 275))], [(0, 0), (1, 275)], w15)) 2 rfl ?_
  refine e_Ok.putf rfl (el_o rfl) rfl rfl ?_
  generalize hw17 : e_up w15 275 118 0 = w17
  have hT18 : e_Has mTy w17 := e_Has.ups hT16 hw17 rfl
  refine e_Ok.run (t' := (47, [(1, (0, 0)), (0, (1, 275))], [], w17)) 2 rfl ?_
  have hL19 : ∀ (nn : Nat) (y1 : Int) (v1 : eW), e_Has mTy v1 ∧ rF v1 ∧ (0 ≤ y1 ∧ y1 ≤ 33060) ∧ (∀ k, 0 ≤ k → k < y1 → v1 276 k = 0) → 33061 - y1 < nn → e_Ok 20 elay ecode eI (d + 1) 267 (47, [(0, (1, 275)), (1, (0, y1))], [], v1) (fun r w' => r = [] ∧ e_Has mTy w' ∧ newOk w') := by
    intro nn
    induction nn with
    | zero => intro y1 v1 hj hm; obtain ⟨j21, j22, j23, j24⟩ := hj; exfalso; omega
    | succ nn ih20 =>
      intro y1 v1 hj hm
      obtain ⟨j21, j22, j23, j24⟩ := hj
      refine e_Ok.run (t' := (50, [(0, (1, 275)), (1, (0, y1))], [(0, 33060), (0, y1)], v1)) 2 rfl ?_
      refine e_Ok.if2 rfl (fun h25 => ?_) (fun h25 => ?_)
      · replace h25 : (y1 : Int) ≥ 33060 := h25
        refine e_Ok.run (t' := (68, [(1, (0, 0)), (0, (1, 275))], [], v1)) 2 rfl ?_
        have hL26 : ∀ (nn : Nat) (y2 : Int) (v2 : eW), e_Has mTy v2 ∧ rF v2 ∧ (0 ≤ y2 ∧ y2 ≤ 4) ∧ e_fr mRa v1 v2 ∧ (∀ a, 0 ≤ a → a < y2 → v2 286 a = 0 ∧ v2 338 a = 0 ∧ v2 276 (36 * a + 17) = -1) → 5 - y2 < nn → e_Ok 20 elay ecode eI (d + 1) 267 (68, [(0, (1, 275)), (1, (0, y2))], [], v2) (fun r w' => r = [] ∧ e_Has mTy w' ∧ newOk w') := by
          intro nn
          induction nn with
          | zero => intro y2 v2 hj hm; obtain ⟨j28, j29, j30, j31, j32⟩ := hj; exfalso; omega
          | succ nn ih27 =>
            intro y2 v2 hj hm
            obtain ⟨j28, j29, j30, j31, j32⟩ := hj
            refine e_Ok.run (t' := (70, [(0, (1, 275)), (1, (0, y2))], [(0, 4), (0, y2)], v2)) 2 rfl ?_
            refine e_Ok.if2 rfl (fun h33 => ?_) (fun h33 => ?_)
            · replace h33 : (y2 : Int) ≥ 4 := h33
              refine e_Ok.run (t' := (172, [(1, (0, 0)), (0, (1, 275))], [], v2)) 2 rfl ?_
              have hL34 : ∀ (nn : Nat) (y3 : Int) (v3 : eW), e_Has mTy v3 ∧ rF v3 ∧ (0 ≤ y3 ∧ y3 ≤ 16) ∧ e_fr mRb v2 v3 → 17 - y3 < nn → e_Ok 20 elay ecode eI (d + 1) 267 (172, [(0, (1, 275)), (1, (0, y3))], [], v3) (fun r w' => r = [] ∧ e_Has mTy w' ∧ newOk w') := by
                intro nn
                induction nn with
                | zero => intro y3 v3 hj hm; obtain ⟨j36, j37, j38, j40⟩ := hj; exfalso; omega
                | succ nn ih35 =>
                  intro y3 v3 hj hm
                  obtain ⟨j36, j37, j38, j40⟩ := hj
                  refine e_Ok.run (t' := (175, [(0, (1, 275)), (1, (0, y3))], [(0, 16), (0, y3)], v3)) 2 rfl ?_
                  refine e_Ok.if2 rfl (fun h41 => ?_) (fun h41 => ?_)
                  · replace h41 : (y3 : Int) ≥ 16 := h41
                    refine e_Ok.run (t' := (198, [(1, (0, 0)), (0, (1, 275))], [], v3)) 2 rfl ?_
                    have hL42 : ∀ (nn : Nat) (y4 : Int) (v4 : eW), e_Has mTy v4 ∧ rF v4 ∧ (0 ≤ y4 ∧ y4 ≤ 8) ∧ e_fr mRc v3 v4 → 9 - y4 < nn → e_Ok 20 elay ecode eI (d + 1) 267 (198, [(0, (1, 275)), (1, (0, y4))], [], v4) (fun r w' => r = [] ∧ e_Has mTy w' ∧ newOk w') := by
                      intro nn
                      induction nn with
                      | zero => intro y4 v4 hj hm; obtain ⟨j44, j45, j46, j47⟩ := hj; exfalso; omega
                      | succ nn ih43 =>
                        intro y4 v4 hj hm
                        obtain ⟨j44, j45, j46, j47⟩ := hj
                        refine e_Ok.run (t' := (201, [(0, (1, 275)), (1, (0, y4))], [(0, 8), (0, y4)], v4)) 2 rfl ?_
                        refine e_Ok.if2 rfl (fun h48 => ?_) (fun h48 => ?_)
                        · replace h48 : (y4 : Int) ≥ 8 := h48
                          refine e_Ok.run (t' := (258, [(1, (0, 0)), (0, (1, 275))], [], v4)) 2 rfl ?_
                          have hL49 : ∀ (nn : Nat) (y5 : Int) (v5 : eW), e_Has mTy v5 ∧ rF v5 ∧ (0 ≤ y5 ∧ y5 ≤ 64) ∧ e_fr mRd v4 v5 ∧ (∀ p, 0 ≤ p → p < y5 → v5 318 p = -1) → 65 - y5 < nn → e_Ok 20 elay ecode eI (d + 1) 267 (258, [(0, (1, 275)), (1, (0, y5))], [], v5) (fun r w' => r = [] ∧ e_Has mTy w' ∧ newOk w') := by
                            intro nn
                            induction nn with
                            | zero => intro y5 v5 hj hm; obtain ⟨j51, j52, j53, j54, j55⟩ := hj; exfalso; omega
                            | succ nn ih50 =>
                              intro y5 v5 hj hm
                              obtain ⟨j51, j52, j53, j54, j55⟩ := hj
                              refine e_Ok.run (t' := (261, [(0, (1, 275)), (1, (0, y5))], [(0, 64), (0, y5)], v5)) 2 rfl ?_
                              refine e_Ok.if2 rfl (fun h56 => ?_) (fun h56 => ?_)
                              · replace h56 : (y5 : Int) ≥ 64 := h56
                                refine e_Ok.run (t' := (279, [(1, (0, 0)), (0, (1, 275))], [], v5)) 2 rfl ?_
                                have hL57 : ∀ (nn : Nat) (y6 : Int) (v6 : eW), e_Has mTy v6 ∧ rF v6 ∧ (0 ≤ y6 ∧ y6 ≤ 448) ∧ e_fr mRe v5 v6 → 449 - y6 < nn → e_Ok 20 elay ecode eI (d + 1) 267 (279, [(0, (1, 275)), (1, (0, y6))], [], v6) (fun r w' => r = [] ∧ e_Has mTy w' ∧ newOk w') := by
                                  intro nn
                                  induction nn with
                                  | zero => intro y6 v6 hj hm; obtain ⟨j59, j60, j61, j62⟩ := hj; exfalso; omega
                                  | succ nn ih58 =>
                                    intro y6 v6 hj hm
                                    obtain ⟨j59, j60, j61, j62⟩ := hj
                                    refine e_Ok.run (t' := (283, [(0, (1, 275)), (1, (0, y6))], [(0, 448), (0, y6)], v6)) 2 rfl ?_
                                    refine e_Ok.if2 rfl (fun h63 => ?_) (fun h63 => ?_)
                                    · replace h63 : (y6 : Int) ≥ 448 := h63
                                      refine e_Ok.rets rfl rfl ?_
                                      exact ⟨rfl, j59, j60, fun a g1 g2 => ⟨(j62 286 a (by unfold mRe; omega)).trans ((j54 286 a (by unfold mRd; omega)).trans ((j47 286 a (by unfold mRc; omega)).trans ((j40 286 a (by unfold mRb; omega)).trans ((j32 a g1 (by omega)).1)))), (j62 338 a (by unfold mRe; omega)).trans ((j54 338 a (by unfold mRd; omega)).trans ((j47 338 a (by unfold mRc; omega)).trans ((j40 338 a (by unfold mRb; omega)).trans ((j32 a g1 (by omega)).2.1)))), (j62 276 (36 * a + 17) (by unfold mRe; omega)).trans ((j54 276 (36 * a + 17) (by unfold mRd; omega)).trans ((j47 276 (36 * a + 17) (by unfold mRc; omega)).trans ((j40 276 (36 * a + 17) (by unfold mRb; omega)).trans ((j32 a g1 (by omega)).2.2))))⟩, fun p g1 g2 => (j62 318 p (by unfold mRe; omega)).trans (j55 p g1 (by omega)), fun k g1 g2 q1 q2 q3 => (j62 276 k (by unfold mRe; omega)).trans ((j54 276 k (by unfold mRd; omega)).trans ((j47 276 k q3).trans ((j40 276 k q2).trans ((j31 276 k q1).trans (j24 k g1 (by omega))))))⟩
                                    · replace h63 : (y6 : Int) < 448 := by have q : ¬ ((y6 : Int) ≥ 448) := h63; omega
                                      refine e_Ok.run (t' := (287, [(0, (1, 275)), (1, (0, y6))], [(1, 275)], v6)) 1 rfl ?_
                                      refine e_Ok.getr (z := 299) rfl (el_o rfl) rfl rfl (e_Has.eq j59 rfl) (by omega) ?_
                                      refine e_Ok.run (t' := (292, [(0, (1, 275)), (1, (0, y6))], [(0, 0), (0, y6), (1, 299)], v6)) 2 rfl ?_
                                      refine e_Ok.ast rfl (el_o rfl) rfl (e_nar_b (by omega)) (by omega) ?_
                                      generalize hw64 : e_up v6 299 y6 0 = w64
                                      have hT65 : e_Has mTy w64 := e_Has.upr j59 hw64 rfl (by omega)
                                      refine e_Ok.inc (z := y6 + 1) rfl rfl (by omega) (by omega) ?_
                                      show e_Ok 20 elay ecode eI (d + 1) 267 (296, [(1, (0, y6 + 1)), (0, (1, 275))], [], w64) _
                                      refine e_Ok.run (t' := (279, [(1, (0, y6 + 1)), (0, (1, 275))], [], w64)) 1 rfl ?_
                                      refine e_Ok.sub eAlk (e_sub_of rfl ?_) (ih58 (y6 + 1) w64 ⟨hT65, (rF.up j60 hw64 (by decide)), by omega, (e_fr.up j62 hw64 (by unfold mRe; omega))⟩ (by omega))
                                      exact ⟨rfl, rfl, trivial⟩
                                refine e_Ok.sub eAlk (e_sub_of rfl ?_) (hL57 (449 + 1 : Int).toNat 0 v5 ⟨j51, j52, by omega, (e_fr.refl v5)⟩ (by omega))
                                exact ⟨rfl, rfl, trivial⟩
                              · replace h56 : (y5 : Int) < 64 := by have q : ¬ ((y5 : Int) ≥ 64) := h56; omega
                                refine e_Ok.run (t' := (265, [(0, (1, 275)), (1, (0, y5))], [(1, 275)], v5)) 1 rfl ?_
                                refine e_Ok.getr (z := 318) rfl (el_o rfl) rfl rfl (e_Has.eq j51 rfl) (by omega) ?_
                                refine e_Ok.run (t' := (270, [(0, (1, 275)), (1, (0, y5))], [(0, (-1)), (0, y5), (1, 318)], v5)) 2 rfl ?_
                                refine e_Ok.ast rfl (el_o rfl) rfl rfl (by omega) ?_
                                generalize hw66 : e_up v5 318 y5 (-1) = w66
                                have hT67 : e_Has mTy w66 := e_Has.upr j51 hw66 rfl (by omega)
                                refine e_Ok.inc (z := y5 + 1) rfl rfl (by omega) (by omega) ?_
                                show e_Ok 20 elay ecode eI (d + 1) 267 (274, [(1, (0, y5 + 1)), (0, (1, 275))], [], w66) _
                                refine e_Ok.run (t' := (258, [(1, (0, y5 + 1)), (0, (1, 275))], [], w66)) 1 rfl ?_
                                refine e_Ok.sub eAlk (e_sub_of rfl ?_) (ih50 (y5 + 1) w66 ⟨hT67, (rF.up j52 hw66 (by decide)), by omega, (e_fr.up j54 hw66 (by unfold mRd; omega)), (fun p g1 g2 => Decidable.byCases (p := p = y5) (fun e => by rw [e, ← hw66]; exact e_up_eq _ _ _ _) (fun e => Eq.trans (show w66 318 p = v5 318 p from by rw [← hw66]; exact e_up_ne _ _ (Or.inr e)) (j55 p g1 (by omega))))⟩ (by omega))
                                exact ⟨rfl, rfl, trivial⟩
                          refine e_Ok.sub eAlk (e_sub_of rfl ?_) (hL49 (65 + 1 : Int).toNat 0 v4 ⟨j44, j45, by omega, (e_fr.refl v4), (fun p g1 g2 => by omega)⟩ (by omega))
                          exact ⟨rfl, rfl, trivial⟩
                        · replace h48 : (y4 : Int) < 8 := by have q : ¬ ((y4 : Int) ≥ 8) := h48; omega
                          refine e_Ok.run (t' := (205, [(0, (1, 275)), (1, (0, y4))], [(1, 275)], v4)) 1 rfl ?_
                          refine e_Ok.getr (z := 276) rfl (el_o rfl) rfl rfl (e_Has.eq j44 rfl) (by omega) ?_
                          refine e_Ok.run (t' := (212, [(0, (1, 275)), (1, (0, y4))], [(0, y4), (0, 20868), (1, 276)], v4)) 2 rfl ?_
                          refine e_Ok.add (z := y4 + 20868) rfl (by omega) (by omega) ?_
                          refine e_Ok.run (t' := (214, [(0, (1, 275)), (1, (0, y4))], [(0, (-1)), (0, y4 + 20868), (1, 276)], v4)) 1 rfl ?_
                          refine e_Ok.ast rfl (el_o rfl) rfl rfl (by omega) ?_
                          generalize hw68 : e_up v4 276 (y4 + 20868) (-1) = w68
                          have hT69 : e_Has mTy w68 := e_Has.upr j44 hw68 (nR_LOCK (l := y4) (by omega)) (by omega)
                          refine e_Ok.run (t' := (216, [(0, (1, 275)), (1, (0, y4))], [(1, 275)], w68)) 1 rfl ?_
                          refine e_Ok.getr (z := 276) rfl (el_o rfl) rfl rfl (by rw [← hw68]; exact (e_up_ne _ _ (Or.inl (by omega))).trans (e_Has.eq j44 rfl)) (by omega) ?_
                          refine e_Ok.run (t' := (224, [(0, (1, 275)), (1, (0, y4))], [(0, y4), (0, 4), (0, 20836), (1, 276)], w68)) 3 rfl ?_
                          refine e_Ok.mul (z := 4 * y4) rfl (by omega) (by omega) ?_
                          refine e_Ok.add (z := 4 * y4 + 20836) rfl (by omega) (by omega) ?_
                          refine e_Ok.run (t' := (227, [(0, (1, 275)), (1, (0, y4))], [(0, 1), (0, 4 * y4 + 20836), (1, 276)], w68)) 1 rfl ?_
                          refine e_Ok.ast rfl (el_o rfl) rfl rfl (by omega) ?_
                          generalize hw70 : e_up w68 276 (4 * y4 + 20836) 1 = w70
                          have hT71 : e_Has mTy w70 := e_Has.upr hT69 hw70 (nR_INPUT (i := y4) (f := 0) (by omega) (by decide)) (by omega)
                          refine e_Ok.run (t' := (229, [(0, (1, 275)), (1, (0, y4))], [(1, 275)], w70)) 1 rfl ?_
                          refine e_Ok.getr (z := 276) rfl (el_o rfl) rfl rfl (by rw [← hw70]; exact (e_up_ne _ _ (Or.inl (by omega))).trans (by rw [← hw68]; exact (e_up_ne _ _ (Or.inl (by omega))).trans (e_Has.eq j44 rfl))) (by omega) ?_
                          refine e_Ok.run (t' := (237, [(0, (1, 275)), (1, (0, y4))], [(0, y4), (0, 4), (0, 20836), (1, 276)], w70)) 3 rfl ?_
                          refine e_Ok.mul (z := 4 * y4) rfl (by omega) (by omega) ?_
                          refine e_Ok.add (z := 4 * y4 + 20836) rfl (by omega) (by omega) ?_
                          refine e_Ok.run (t' := (240, [(0, (1, 275)), (1, (0, y4))], [(0, 1), (0, 4 * y4 + 20836), (1, 276)], w70)) 1 rfl ?_
                          refine e_Ok.add (z := 4 * y4 + 20837) rfl (by omega) (by omega) ?_
                          refine e_Ok.run (t' := (242, [(0, (1, 275)), (1, (0, y4))], [(0, 1), (0, 4 * y4 + 20837), (1, 276)], w70)) 1 rfl ?_
                          refine e_Ok.ast rfl (el_o rfl) rfl rfl (by omega) ?_
                          generalize hw72 : e_up w70 276 (4 * y4 + 20837) 1 = w72
                          have hT73 : e_Has mTy w72 := e_Has.upr hT71 hw72 (nR_INPUT (i := y4) (f := 1) (by omega) (by decide)) (by omega)
                          refine e_Ok.run (t' := (244, [(0, (1, 275)), (1, (0, y4))], [(1, 275)], w72)) 1 rfl ?_
                          refine e_Ok.getr (z := 317) rfl (el_o rfl) rfl rfl (by rw [← hw72]; exact (e_up_ne _ _ (Or.inl (by omega))).trans (by rw [← hw70]; exact (e_up_ne _ _ (Or.inl (by omega))).trans (by rw [← hw68]; exact (e_up_ne _ _ (Or.inl (by omega))).trans (e_Has.eq j44 rfl)))) (by omega) ?_
                          refine e_Ok.run (t' := (249, [(0, (1, 275)), (1, (0, y4))], [(0, 0), (0, y4), (1, 317)], w72)) 2 rfl ?_
                          refine e_Ok.ast rfl (el_o rfl) rfl (e_nar_b (by omega)) (by omega) ?_
                          generalize hw74 : e_up w72 317 y4 0 = w74
                          have hT75 : e_Has mTy w74 := e_Has.upr hT73 hw74 rfl (by omega)
                          refine e_Ok.inc (z := y4 + 1) rfl rfl (by omega) (by omega) ?_
                          show e_Ok 20 elay ecode eI (d + 1) 267 (253, [(1, (0, y4 + 1)), (0, (1, 275))], [], w74) _
                          refine e_Ok.run (t' := (198, [(1, (0, y4 + 1)), (0, (1, 275))], [], w74)) 1 rfl ?_
                          refine e_Ok.sub eAlk (e_sub_of rfl ?_) (ih43 (y4 + 1) w74 ⟨hT75, (rF.up (rF.up (rF.up (rF.up j45 hw68 (by decide)) hw70 (by decide)) hw72 (by decide)) hw74 (by decide)), by omega, (e_fr.up (e_fr.up (e_fr.up (e_fr.up j47 hw68 (by unfold mRc; omega)) hw70 (by unfold mRc; omega)) hw72 (by unfold mRc; omega)) hw74 (by unfold mRc; omega))⟩ (by omega))
                          exact ⟨rfl, rfl, trivial⟩
                    refine e_Ok.sub eAlk (e_sub_of rfl ?_) (hL42 (9 + 1 : Int).toNat 0 v3 ⟨j36, j37, by omega, (e_fr.refl v3)⟩ (by omega))
                    exact ⟨rfl, rfl, trivial⟩
                  · replace h41 : (y3 : Int) < 16 := by have q : ¬ ((y3 : Int) ≥ 16) := h41; omega
                    refine e_Ok.run (t' := (179, [(0, (1, 275)), (1, (0, y3))], [(1, 275)], v3)) 1 rfl ?_
                    refine e_Ok.getr (z := 276) rfl (el_o rfl) rfl rfl (e_Has.eq j36 rfl) (by omega) ?_
                    refine e_Ok.run (t' := (183, [(0, (1, 275)), (1, (0, y3))], [(0, y3), (1, 276)], v3)) 1 rfl ?_
                    refine e_Ok.callS rfl (by omega) rfl rfl (c_269 (by omega)) (fun r76 w77 h78 => ?_)
                    obtain ⟨rfl, rfl⟩ := h78
                    show e_Ok 20 elay ecode eI (d + 1) 267 (186, [(0, (1, 275)), (1, (0, y3))], [(0, 1260 * y3 + 416), (1, 276)], v3) _
                    refine e_Ok.run (t' := (187, [(0, (1, 275)), (1, (0, y3))], [(0, 1), (0, 1260 * y3 + 416), (1, 276)], v3)) 1 rfl ?_
                    refine e_Ok.add (z := 1260 * y3 + 417) rfl (by omega) (by omega) ?_
                    refine e_Ok.run (t' := (189, [(0, (1, 275)), (1, (0, y3))], [(0, (-1)), (0, 1260 * y3 + 417), (1, 276)], v3)) 1 rfl ?_
                    refine e_Ok.ast rfl (el_o rfl) rfl rfl (by omega) ?_
                    generalize hw79 : e_up v3 276 (1260 * y3 + 417) (-1) = w79
                    have hT80 : e_Has mTy w79 := e_Has.upr j36 hw79 (nR_TASK_ARM (t := y3) (by omega)) (by omega)
                    refine e_Ok.inc (z := y3 + 1) rfl rfl (by omega) (by omega) ?_
                    show e_Ok 20 elay ecode eI (d + 1) 267 (193, [(1, (0, y3 + 1)), (0, (1, 275))], [], w79) _
                    refine e_Ok.run (t' := (172, [(1, (0, y3 + 1)), (0, (1, 275))], [], w79)) 1 rfl ?_
                    refine e_Ok.sub eAlk (e_sub_of rfl ?_) (ih35 (y3 + 1) w79 ⟨hT80, (rF.up j37 hw79 (by decide)), by omega, (e_fr.up j40 hw79 (by unfold mRb; omega))⟩ (by omega))
                    exact ⟨rfl, rfl, trivial⟩
              refine e_Ok.sub eAlk (e_sub_of rfl ?_) (hL34 (17 + 1 : Int).toNat 0 v2 ⟨j28, j29, by omega, (e_fr.refl v2)⟩ (by omega))
              exact ⟨rfl, rfl, trivial⟩
            · replace h33 : (y2 : Int) < 4 := by have q : ¬ ((y2 : Int) ≥ 4) := h33; omega
              refine e_Ok.run (t' := (74, [(0, (1, 275)), (1, (0, y2))], [(1, 275)], v2)) 1 rfl ?_
              refine e_Ok.getr (z := 286) rfl (el_o rfl) rfl rfl (e_Has.eq j28 rfl) (by omega) ?_
              refine e_Ok.run (t' := (79, [(0, (1, 275)), (1, (0, y2))], [(0, 0), (0, y2), (1, 286)], v2)) 2 rfl ?_
              refine e_Ok.ast rfl (el_o rfl) rfl rfl (by omega) ?_
              generalize hw81 : e_up v2 286 y2 0 = w81
              have hT82 : e_Has mTy w81 := e_Has.upr j28 hw81 rfl (by omega)
              refine e_Ok.run (t' := (81, [(0, (1, 275)), (1, (0, y2))], [(1, 275)], w81)) 1 rfl ?_
              refine e_Ok.getr (z := 276) rfl (el_o rfl) rfl rfl (by rw [← hw81]; exact (e_up_ne _ _ (Or.inl (by omega))).trans (e_Has.eq j28 rfl)) (by omega) ?_
              refine e_Ok.run (t' := (85, [(0, (1, 275)), (1, (0, y2))], [(0, y2), (1, 276)], w81)) 1 rfl ?_
              refine e_Ok.callS rfl (by omega) rfl rfl (c_268 (by omega)) (fun r83 w84 h85 => ?_)
              obtain ⟨rfl, rfl⟩ := h85
              show e_Ok 20 elay ecode eI (d + 1) 267 (88, [(0, (1, 275)), (1, (0, y2))], [(0, 36 * y2 + 16), (1, 276)], w81) _
              refine e_Ok.run (t' := (89, [(0, (1, 275)), (1, (0, y2))], [(0, 1), (0, 36 * y2 + 16), (1, 276)], w81)) 1 rfl ?_
              refine e_Ok.add (z := 36 * y2 + 17) rfl (by omega) (by omega) ?_
              refine e_Ok.run (t' := (91, [(0, (1, 275)), (1, (0, y2))], [(0, (-1)), (0, 36 * y2 + 17), (1, 276)], w81)) 1 rfl ?_
              refine e_Ok.ast rfl (el_o rfl) rfl rfl (by omega) ?_
              generalize hw86 : e_up w81 276 (36 * y2 + 17) (-1) = w86
              have hT87 : e_Has mTy w86 := e_Has.upr hT82 hw86 (nR_HOLDS (a := y2) (by omega)) (by omega)
              refine e_Ok.run (t' := (93, [(0, (1, 275)), (1, (0, y2))], [(1, 275)], w86)) 1 rfl ?_
              refine e_Ok.getr (z := 276) rfl (el_o rfl) rfl rfl (by rw [← hw86]; exact (e_up_ne _ _ (Or.inl (by omega))).trans (by rw [← hw81]; exact (e_up_ne _ _ (Or.inl (by omega))).trans (e_Has.eq j28 rfl))) (by omega) ?_
              refine e_Ok.run (t' := (97, [(0, (1, 275)), (1, (0, y2))], [(0, y2), (1, 276)], w86)) 1 rfl ?_
              refine e_Ok.callS rfl (by omega) rfl rfl (c_268 (by omega)) (fun r88 w89 h90 => ?_)
              obtain ⟨rfl, rfl⟩ := h90
              show e_Ok 20 elay ecode eI (d + 1) 267 (100, [(0, (1, 275)), (1, (0, y2))], [(0, 36 * y2 + 16), (1, 276)], w86) _
              refine e_Ok.run (t' := (101, [(0, (1, 275)), (1, (0, y2))], [(0, 2), (0, 36 * y2 + 16), (1, 276)], w86)) 1 rfl ?_
              refine e_Ok.add (z := 36 * y2 + 18) rfl (by omega) (by omega) ?_
              refine e_Ok.run (t' := (103, [(0, (1, 275)), (1, (0, y2))], [(0, (-1)), (0, 36 * y2 + 18), (1, 276)], w86)) 1 rfl ?_
              refine e_Ok.ast rfl (el_o rfl) rfl rfl (by omega) ?_
              generalize hw91 : e_up w86 276 (36 * y2 + 18) (-1) = w91
              have hT92 : e_Has mTy w91 := e_Has.upr hT87 hw91 (nR_STUCK (a := y2) (by omega)) (by omega)
              refine e_Ok.run (t' := (105, [(0, (1, 275)), (1, (0, y2))], [(1, 275)], w91)) 1 rfl ?_
              refine e_Ok.getr (z := 276) rfl (el_o rfl) rfl rfl (by rw [← hw91]; exact (e_up_ne _ _ (Or.inl (by omega))).trans (by rw [← hw86]; exact (e_up_ne _ _ (Or.inl (by omega))).trans (by rw [← hw81]; exact (e_up_ne _ _ (Or.inl (by omega))).trans (e_Has.eq j28 rfl)))) (by omega) ?_
              refine e_Ok.run (t' := (109, [(0, (1, 275)), (1, (0, y2))], [(0, y2), (1, 276)], w91)) 1 rfl ?_
              refine e_Ok.callS rfl (by omega) rfl rfl (c_268 (by omega)) (fun r93 w94 h95 => ?_)
              obtain ⟨rfl, rfl⟩ := h95
              show e_Ok 20 elay ecode eI (d + 1) 267 (112, [(0, (1, 275)), (1, (0, y2))], [(0, 36 * y2 + 16), (1, 276)], w91) _
              refine e_Ok.run (t' := (113, [(0, (1, 275)), (1, (0, y2))], [(0, 3), (0, 36 * y2 + 16), (1, 276)], w91)) 1 rfl ?_
              refine e_Ok.add (z := 36 * y2 + 19) rfl (by omega) (by omega) ?_
              refine e_Ok.run (t' := (115, [(0, (1, 275)), (1, (0, y2))], [(0, (-1)), (0, 36 * y2 + 19), (1, 276)], w91)) 1 rfl ?_
              refine e_Ok.ast rfl (el_o rfl) rfl rfl (by omega) ?_
              generalize hw101 : e_up w91 276 (36 * y2 + 19) (-1) = w101
              have hT103 : e_Has mTy w101 := e_Has.upr hT92 hw101 (nR_WAY_SIZE (a := y2) (by omega)) (by omega)
              refine e_Ok.run (t' := (117, [(0, (1, 275)), (1, (0, y2))], [(1, 275)], w101)) 1 rfl ?_
              refine e_Ok.getr (z := 276) rfl (el_o rfl) rfl rfl (by rw [← hw101]; exact (e_up_ne _ _ (Or.inl (by omega))).trans (by rw [← hw91]; exact (e_up_ne _ _ (Or.inl (by omega))).trans (by rw [← hw86]; exact (e_up_ne _ _ (Or.inl (by omega))).trans (by rw [← hw81]; exact (e_up_ne _ _ (Or.inl (by omega))).trans (e_Has.eq j28 rfl))))) (by omega) ?_
              refine e_Ok.run (t' := (121, [(0, (1, 275)), (1, (0, y2))], [(0, y2), (1, 276)], w101)) 1 rfl ?_
              refine e_Ok.callS rfl (by omega) rfl rfl (c_268 (by omega)) (fun r104 w105 h106 => ?_)
              obtain ⟨rfl, rfl⟩ := h106
              show e_Ok 20 elay ecode eI (d + 1) 267 (124, [(0, (1, 275)), (1, (0, y2))], [(0, 36 * y2 + 16), (1, 276)], w101) _
              refine e_Ok.run (t' := (126, [(0, (1, 275)), (1, (0, y2))], [(0, 9), (0, 36 * y2 + 16), (1, 276)], w101)) 1 rfl ?_
              refine e_Ok.add (z := 36 * y2 + 25) rfl (by omega) (by omega) ?_
              refine e_Ok.run (t' := (128, [(0, (1, 275)), (1, (0, y2))], [(0, (-1)), (0, 36 * y2 + 25), (1, 276)], w101)) 1 rfl ?_
              refine e_Ok.ast rfl (el_o rfl) rfl rfl (by omega) ?_
              generalize hw107 : e_up w101 276 (36 * y2 + 25) (-1) = w107
              have hT108 : e_Has mTy w107 := e_Has.upr hT103 hw107 (nR_MOVER (a := y2) (by omega)) (by omega)
              refine e_Ok.run (t' := (130, [(0, (1, 275)), (1, (0, y2))], [(1, 275)], w107)) 1 rfl ?_
              refine e_Ok.getr (z := 306) rfl (el_o rfl) rfl rfl (by rw [← hw107]; exact (e_up_ne _ _ (Or.inl (by omega))).trans (by rw [← hw101]; exact (e_up_ne _ _ (Or.inl (by omega))).trans (by rw [← hw91]; exact (e_up_ne _ _ (Or.inl (by omega))).trans (by rw [← hw86]; exact (e_up_ne _ _ (Or.inl (by omega))).trans (by rw [← hw81]; exact (e_up_ne _ _ (Or.inl (by omega))).trans (e_Has.eq j28 rfl)))))) (by omega) ?_
              refine e_Ok.run (t' := (135, [(0, (1, 275)), (1, (0, y2))], [(0, (-1)), (0, y2), (1, 306)], w107)) 2 rfl ?_
              refine e_Ok.ast rfl (el_o rfl) rfl rfl (by omega) ?_
              generalize hw109 : e_up w107 306 y2 (-1) = w109
              have hT110 : e_Has mTy w109 := e_Has.upr hT108 hw109 rfl (by omega)
              refine e_Ok.run (t' := (137, [(0, (1, 275)), (1, (0, y2))], [(1, 275)], w109)) 1 rfl ?_
              refine e_Ok.getr (z := 280) rfl (el_o rfl) rfl rfl (by rw [← hw109]; exact (e_up_ne _ _ (Or.inl (by omega))).trans (by rw [← hw107]; exact (e_up_ne _ _ (Or.inl (by omega))).trans (by rw [← hw101]; exact (e_up_ne _ _ (Or.inl (by omega))).trans (by rw [← hw91]; exact (e_up_ne _ _ (Or.inl (by omega))).trans (by rw [← hw86]; exact (e_up_ne _ _ (Or.inl (by omega))).trans (by rw [← hw81]; exact (e_up_ne _ _ (Or.inl (by omega))).trans (e_Has.eq j28 rfl))))))) (by omega) ?_
              refine e_Ok.run (t' := (142, [(0, (1, 275)), (1, (0, y2))], [(0, 0), (0, y2), (1, 280)], w109)) 2 rfl ?_
              refine e_Ok.ast rfl (el_o rfl) rfl rfl (by omega) ?_
              generalize hw111 : e_up w109 280 y2 0 = w111
              have hT112 : e_Has mTy w111 := e_Has.ups hT110 hw111 rfl
              refine e_Ok.run (t' := (144, [(0, (1, 275)), (1, (0, y2))], [(1, 275)], w111)) 1 rfl ?_
              refine e_Ok.getr (z := 338) rfl (el_o rfl) rfl rfl (by rw [← hw111]; exact (e_up_ne _ _ (Or.inl (by omega))).trans (by rw [← hw109]; exact (e_up_ne _ _ (Or.inl (by omega))).trans (by rw [← hw107]; exact (e_up_ne _ _ (Or.inl (by omega))).trans (by rw [← hw101]; exact (e_up_ne _ _ (Or.inl (by omega))).trans (by rw [← hw91]; exact (e_up_ne _ _ (Or.inl (by omega))).trans (by rw [← hw86]; exact (e_up_ne _ _ (Or.inl (by omega))).trans (by rw [← hw81]; exact (e_up_ne _ _ (Or.inl (by omega))).trans (e_Has.eq j28 rfl)))))))) (by omega) ?_
              refine e_Ok.run (t' := (149, [(0, (1, 275)), (1, (0, y2))], [(0, 0), (0, y2), (1, 338)], w111)) 2 rfl ?_
              refine e_Ok.ast rfl (el_o rfl) rfl rfl (by omega) ?_
              generalize hw113 : e_up w111 338 y2 0 = w113
              have hT114 : e_Has mTy w113 := e_Has.upr hT112 hw113 rfl (by omega)
              refine e_Ok.run (t' := (151, [(0, (1, 275)), (1, (0, y2))], [(1, 275)], w113)) 1 rfl ?_
              refine e_Ok.getr (z := 339) rfl (el_o rfl) rfl rfl (by rw [← hw113]; exact (e_up_ne _ _ (Or.inl (by omega))).trans (by rw [← hw111]; exact (e_up_ne _ _ (Or.inl (by omega))).trans (by rw [← hw109]; exact (e_up_ne _ _ (Or.inl (by omega))).trans (by rw [← hw107]; exact (e_up_ne _ _ (Or.inl (by omega))).trans (by rw [← hw101]; exact (e_up_ne _ _ (Or.inl (by omega))).trans (by rw [← hw91]; exact (e_up_ne _ _ (Or.inl (by omega))).trans (by rw [← hw86]; exact (e_up_ne _ _ (Or.inl (by omega))).trans (by rw [← hw81]; exact (e_up_ne _ _ (Or.inl (by omega))).trans (e_Has.eq j28 rfl))))))))) (by omega) ?_
              refine e_Ok.run (t' := (156, [(0, (1, 275)), (1, (0, y2))], [(0, 0), (0, y2), (1, 339)], w113)) 2 rfl ?_
              refine e_Ok.ast rfl (el_o rfl) rfl rfl (by omega) ?_
              generalize hw115 : e_up w113 339 y2 0 = w115
              have hT116 : e_Has mTy w115 := e_Has.upr hT114 hw115 rfl (by omega)
              refine e_Ok.run (t' := (158, [(0, (1, 275)), (1, (0, y2))], [(1, 275)], w115)) 1 rfl ?_
              refine e_Ok.getr (z := 340) rfl (el_o rfl) rfl rfl (by rw [← hw115]; exact (e_up_ne _ _ (Or.inl (by omega))).trans (by rw [← hw113]; exact (e_up_ne _ _ (Or.inl (by omega))).trans (by rw [← hw111]; exact (e_up_ne _ _ (Or.inl (by omega))).trans (by rw [← hw109]; exact (e_up_ne _ _ (Or.inl (by omega))).trans (by rw [← hw107]; exact (e_up_ne _ _ (Or.inl (by omega))).trans (by rw [← hw101]; exact (e_up_ne _ _ (Or.inl (by omega))).trans (by rw [← hw91]; exact (e_up_ne _ _ (Or.inl (by omega))).trans (by rw [← hw86]; exact (e_up_ne _ _ (Or.inl (by omega))).trans (by rw [← hw81]; exact (e_up_ne _ _ (Or.inl (by omega))).trans (e_Has.eq j28 rfl)))))))))) (by omega) ?_
              refine e_Ok.run (t' := (163, [(0, (1, 275)), (1, (0, y2))], [(0, 0), (0, y2), (1, 340)], w115)) 2 rfl ?_
              refine e_Ok.ast rfl (el_o rfl) rfl (e_nar_b (by omega)) (by omega) ?_
              generalize hw117 : e_up w115 340 y2 0 = w117
              have hT118 : e_Has mTy w117 := e_Has.upr hT116 hw117 rfl (by omega)
              refine e_Ok.inc (z := y2 + 1) rfl rfl (by omega) (by omega) ?_
              show e_Ok 20 elay ecode eI (d + 1) 267 (167, [(1, (0, y2 + 1)), (0, (1, 275))], [], w117) _
              refine e_Ok.run (t' := (68, [(1, (0, y2 + 1)), (0, (1, 275))], [], w117)) 1 rfl ?_
              refine e_Ok.sub eAlk (e_sub_of rfl ?_) (ih27 (y2 + 1) w117 ⟨hT118, (rF.up (rF.up (rF.up (rF.up (rF.up (rF.up (rF.up (rF.up (rF.up (rF.up j29 hw81 (by decide)) hw86 (by decide)) hw91 (by decide)) hw101 (by decide)) hw107 (by decide)) hw109 (by decide)) hw111 (by decide)) hw113 (by decide)) hw115 (by decide)) hw117 (by decide)), by omega, (e_fr.up (e_fr.up (e_fr.up (e_fr.up (e_fr.up (e_fr.up (e_fr.up (e_fr.up (e_fr.up (e_fr.up j31 hw81 (by unfold mRa; omega)) hw86 (by unfold mRa; omega)) hw91 (by unfold mRa; omega)) hw101 (by unfold mRa; omega)) hw107 (by unfold mRa; omega)) hw109 (by unfold mRa; omega)) hw111 (by unfold mRa; omega)) hw113 (by unfold mRa; omega)) hw115 (by unfold mRa; omega)) hw117 (by unfold mRa; omega)), (fun a g1 g2 => Decidable.byCases (p := a = y2) (fun e => by rw [e]; exact ⟨(by rw [← hw117]; exact (e_up_ne _ _ (Or.inl (by omega))).trans (by rw [← hw115]; exact (e_up_ne _ _ (Or.inl (by omega))).trans (by rw [← hw113]; exact (e_up_ne _ _ (Or.inl (by omega))).trans (by rw [← hw111]; exact (e_up_ne _ _ (Or.inl (by omega))).trans (by rw [← hw109]; exact (e_up_ne _ _ (Or.inl (by omega))).trans (by rw [← hw107]; exact (e_up_ne _ _ (Or.inl (by omega))).trans (by rw [← hw101]; exact (e_up_ne _ _ (Or.inl (by omega))).trans (by rw [← hw91]; exact (e_up_ne _ _ (Or.inl (by omega))).trans (by rw [← hw86]; exact (e_up_ne _ _ (Or.inl (by omega))).trans (by rw [← hw81]; exact e_up_eq _ _ _ _)))))))))), (by rw [← hw117]; exact (e_up_ne _ _ (Or.inl (by omega))).trans (by rw [← hw115]; exact (e_up_ne _ _ (Or.inl (by omega))).trans (by rw [← hw113]; exact e_up_eq _ _ _ _))), (by rw [← hw117]; exact (e_up_ne _ _ (Or.inl (by omega))).trans (by rw [← hw115]; exact (e_up_ne _ _ (Or.inl (by omega))).trans (by rw [← hw113]; exact (e_up_ne _ _ (Or.inl (by omega))).trans (by rw [← hw111]; exact (e_up_ne _ _ (Or.inl (by omega))).trans (by rw [← hw109]; exact (e_up_ne _ _ (Or.inl (by omega))).trans (by rw [← hw107]; exact (e_up_ne _ _ (Or.inr (by omega))).trans (by rw [← hw101]; exact (e_up_ne _ _ (Or.inr (by omega))).trans (by rw [← hw91]; exact (e_up_ne _ _ (Or.inr (by omega))).trans (by rw [← hw86]; exact e_up_eq _ _ _ _)))))))))⟩) (fun e => ⟨Eq.trans (show w117 286 a = v2 286 a from (by rw [← hw117]; exact (e_up_ne _ _ (Or.inl (by omega))).trans (by rw [← hw115]; exact (e_up_ne _ _ (Or.inl (by omega))).trans (by rw [← hw113]; exact (e_up_ne _ _ (Or.inl (by omega))).trans (by rw [← hw111]; exact (e_up_ne _ _ (Or.inl (by omega))).trans (by rw [← hw109]; exact (e_up_ne _ _ (Or.inl (by omega))).trans (by rw [← hw107]; exact (e_up_ne _ _ (Or.inl (by omega))).trans (by rw [← hw101]; exact (e_up_ne _ _ (Or.inl (by omega))).trans (by rw [← hw91]; exact (e_up_ne _ _ (Or.inl (by omega))).trans (by rw [← hw86]; exact (e_up_ne _ _ (Or.inl (by omega))).trans (by rw [← hw81]; exact (e_up_ne _ _ (Or.inr (by omega))).trans rfl))))))))))) (j32 a g1 (by omega)).1, Eq.trans (show w117 338 a = v2 338 a from (by rw [← hw117]; exact (e_up_ne _ _ (Or.inl (by omega))).trans (by rw [← hw115]; exact (e_up_ne _ _ (Or.inl (by omega))).trans (by rw [← hw113]; exact (e_up_ne _ _ (Or.inr (by omega))).trans (by rw [← hw111]; exact (e_up_ne _ _ (Or.inl (by omega))).trans (by rw [← hw109]; exact (e_up_ne _ _ (Or.inl (by omega))).trans (by rw [← hw107]; exact (e_up_ne _ _ (Or.inl (by omega))).trans (by rw [← hw101]; exact (e_up_ne _ _ (Or.inl (by omega))).trans (by rw [← hw91]; exact (e_up_ne _ _ (Or.inl (by omega))).trans (by rw [← hw86]; exact (e_up_ne _ _ (Or.inl (by omega))).trans (by rw [← hw81]; exact (e_up_ne _ _ (Or.inl (by omega))).trans rfl))))))))))) (j32 a g1 (by omega)).2.1, Eq.trans (show w117 276 (36 * a + 17) = v2 276 (36 * a + 17) from (by rw [← hw117]; exact (e_up_ne _ _ (Or.inl (by omega))).trans (by rw [← hw115]; exact (e_up_ne _ _ (Or.inl (by omega))).trans (by rw [← hw113]; exact (e_up_ne _ _ (Or.inl (by omega))).trans (by rw [← hw111]; exact (e_up_ne _ _ (Or.inl (by omega))).trans (by rw [← hw109]; exact (e_up_ne _ _ (Or.inl (by omega))).trans (by rw [← hw107]; exact (e_up_ne _ _ (Or.inr (by omega))).trans (by rw [← hw101]; exact (e_up_ne _ _ (Or.inr (by omega))).trans (by rw [← hw91]; exact (e_up_ne _ _ (Or.inr (by omega))).trans (by rw [← hw86]; exact (e_up_ne _ _ (Or.inr (by omega))).trans (by rw [← hw81]; exact (e_up_ne _ _ (Or.inl (by omega))).trans rfl))))))))))) (j32 a g1 (by omega)).2.2⟩))⟩ (by omega))
              exact ⟨rfl, rfl, trivial⟩
        refine e_Ok.sub eAlk (e_sub_of rfl ?_) (hL26 (5 + 1 : Int).toNat 0 v1 ⟨j21, j22, by omega, (e_fr.refl v1), (fun a g1 g2 => by omega)⟩ (by omega))
        exact ⟨rfl, rfl, trivial⟩
      · replace h25 : (y1 : Int) < 33060 := by have q : ¬ ((y1 : Int) ≥ 33060) := h25; omega
        refine e_Ok.run (t' := (54, [(0, (1, 275)), (1, (0, y1))], [(1, 275)], v1)) 1 rfl ?_
        refine e_Ok.getr (z := 276) rfl (el_o rfl) rfl rfl (e_Has.eq j21 rfl) (by omega) ?_
        refine e_Ok.run (t' := (59, [(0, (1, 275)), (1, (0, y1))], [(0, 0), (0, y1), (1, 276)], v1)) 2 rfl ?_
        refine e_Ok.ast rfl (el_o rfl) rfl rfl (by omega) ?_
        generalize hw119 : e_up v1 276 y1 0 = w119
        have hT120 : e_Has mTy w119 := e_Has.zero j21 hw119
        refine e_Ok.inc (z := y1 + 1) rfl rfl (by omega) (by omega) ?_
        show e_Ok 20 elay ecode eI (d + 1) 267 (63, [(1, (0, y1 + 1)), (0, (1, 275))], [], w119) _
        refine e_Ok.run (t' := (47, [(1, (0, y1 + 1)), (0, (1, 275))], [], w119)) 1 rfl ?_
        refine e_Ok.sub eAlk (e_sub_of rfl ?_) (ih20 (y1 + 1) w119 ⟨hT120, (rF.up j22 hw119 (by decide)), by omega, (fun k g1 g2 => Decidable.byCases (p := k = y1) (fun e => by rw [e, ← hw119]; exact e_up_eq _ _ _ _) (fun e => Eq.trans (show w119 276 k = v1 276 k from by rw [← hw119]; exact e_up_ne _ _ (Or.inr e)) (j24 k g1 (by omega))))⟩ (by omega))
        exact ⟨rfl, rfl, trivial⟩
  refine e_Ok.sub eAlk (e_sub_of rfl ?_) (hL19 (33061 + 1 : Int).toNat 0 w17 ⟨hT18, ⟨(by rw [← hw17]; exact (e_up_ne _ _ (Or.inr (by omega))).trans (by rw [← hw15]; exact (e_up_ne _ _ (Or.inr (by omega))).trans (by rw [← hw13]; exact (e_up_ne _ _ (Or.inr (by omega))).trans (by rw [← hw11]; exact (e_up_ne _ _ (Or.inr (by omega))).trans (by rw [← hw9]; exact (e_up_ne _ _ (Or.inr (by omega))).trans (by rw [← hw7]; exact (e_up_ne _ _ (Or.inr (by omega))).trans (by rw [← hw5]; exact (e_up_ne _ _ (Or.inr (by omega))).trans (by rw [← hw3]; exact (e_up_ne _ _ (Or.inr (by omega))).trans (by rw [← hw1]; exact e_up_eq _ _ _ _))))))))), (by rw [← hw17]; exact (e_up_ne _ _ (Or.inr (by omega))).trans (by rw [← hw15]; exact (e_up_ne _ _ (Or.inr (by omega))).trans (by rw [← hw13]; exact (e_up_ne _ _ (Or.inr (by omega))).trans (by rw [← hw11]; exact (e_up_ne _ _ (Or.inr (by omega))).trans (by rw [← hw9]; exact (e_up_ne _ _ (Or.inr (by omega))).trans (by rw [← hw7]; exact (e_up_ne _ _ (Or.inr (by omega))).trans (by rw [← hw5]; exact (e_up_ne _ _ (Or.inr (by omega))).trans (by rw [← hw3]; exact e_up_eq _ _ _ _)))))))), (by rw [← hw17]; exact (e_up_ne _ _ (Or.inr (by omega))).trans (by rw [← hw15]; exact (e_up_ne _ _ (Or.inr (by omega))).trans (by rw [← hw13]; exact (e_up_ne _ _ (Or.inr (by omega))).trans (by rw [← hw11]; exact (e_up_ne _ _ (Or.inr (by omega))).trans (by rw [← hw9]; exact (e_up_ne _ _ (Or.inr (by omega))).trans (by rw [← hw7]; exact (e_up_ne _ _ (Or.inr (by omega))).trans (by rw [← hw5]; exact e_up_eq _ _ _ _))))))), (by rw [← hw17]; exact (e_up_ne _ _ (Or.inr (by omega))).trans (by rw [← hw15]; exact (e_up_ne _ _ (Or.inr (by omega))).trans (by rw [← hw13]; exact (e_up_ne _ _ (Or.inr (by omega))).trans (by rw [← hw11]; exact (e_up_ne _ _ (Or.inr (by omega))).trans (by rw [← hw9]; exact (e_up_ne _ _ (Or.inr (by omega))).trans (by rw [← hw7]; exact e_up_eq _ _ _ _)))))), (by rw [← hw17]; exact (e_up_ne _ _ (Or.inr (by omega))).trans (by rw [← hw15]; exact (e_up_ne _ _ (Or.inr (by omega))).trans (by rw [← hw13]; exact (e_up_ne _ _ (Or.inr (by omega))).trans (by rw [← hw11]; exact (e_up_ne _ _ (Or.inr (by omega))).trans (by rw [← hw9]; exact e_up_eq _ _ _ _))))), (by rw [← hw17]; exact (e_up_ne _ _ (Or.inr (by omega))).trans (by rw [← hw15]; exact (e_up_ne _ _ (Or.inr (by omega))).trans (by rw [← hw13]; exact (e_up_ne _ _ (Or.inr (by omega))).trans (by rw [← hw11]; exact e_up_eq _ _ _ _)))), (by rw [← hw17]; exact (e_up_ne _ _ (Or.inr (by omega))).trans (by rw [← hw15]; exact (e_up_ne _ _ (Or.inr (by omega))).trans (by rw [← hw13]; exact e_up_eq _ _ _ _))), (by rw [← hw17]; exact (e_up_ne _ _ (Or.inr (by omega))).trans (by rw [← hw15]; exact e_up_eq _ _ _ _))⟩, by omega, (fun k g1 g2 => by omega)⟩ (by omega))
  exact ⟨rfl, rfl, trivial⟩
end
