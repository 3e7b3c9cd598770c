noncomputable section
/-! the class: a travel begins -/
set_option maxHeartbeats 4000000 in
theorem c_107 {d : Nat} (hd : 25 ≤ d) {w : eW} (hT : e_Has kTy w) {a y : Int} (ga : 0 ≤ a ∧ a ≤ 3) {OP OD CL : Int → Int → Int} {h t0 : Int} (q : kI w OP OD CL h t0) (hY : w (17 * a + 86) 17 = y) (hy0 : 0 ≤ y) (hs : w (17 * a + 86) 11 = 0) (hm : w (17 * a + 86) 19 = 0) (hpw : ¬ w 74 3 = 0) : e_Ok 20 elay kcode eI d 107 (0, [(0, (1, 262)), (1, (1, 17 * a + 86))], [], w) (fun r w' => ∃ z : Int, r = [(0, z)] ∧ e_Has kTy w' ∧ (e_fr kNq w w' ∧ w' 74 0 = w 74 0 ∧ w' 74 1 = w 74 1) ∧ kI w' OP OD CL h t0) := by
  obtain ⟨d, rfl⟩ : ∃ e, d = e + 1 := ⟨d - 1, by omega⟩
  have hjn := kn_joints hT (a := a) (by omega)
  have hyr := e_Has.get hT (c := 17 * a + 86) (k := 17) (lo := -1) (hi := 59) (kA_17 (a := a) rfl ga) (by decide)
  have hA := q.arm (a := a) (by omega) (by omega)
  have hy : 0 ≤ y → yD w (w (17 * a + 86) 8) y := by have g := hA.2.2.2.2.2.1; rw [hY] at g; exact g
  have hyp := hA.2.2.2.2.2.2.1 (by omega) hm
  rw [hY] at hyp
  have hyl := (hy (by omega)).1
  refine e_Ok.run (t' := (2, [(0, (1, 262)), (1, (1, 17 * a + 86))], [(1, 17 * a + 86), (1, 262)], w)) 2 rfl ?_
  refine e_Ok.getf (z := y) rfl (lA0 (a := a) (by omega) (by omega)) rfl rfl hY (by omega) ?_
  refine e_Ok.callV rfl (by omega) rfl rfl rfl rfl (c_95 (by omega) (m := w (17 * a + 86) 8) hT (by omega) hy) (fun r1 w2 h3 => ?_)
  obtain ⟨z4, rfl, rfl, q5r, q5x⟩ := h3
  show e_Ok 20 elay kcode eI (d + 1) 107 (8, [(0, (1, 262)), (1, (1, 17 * a + 86))], [(0, z4)], w) _
  refine e_Ok.run (t' := (10, [(2, (0, z4)), (0, (1, 262)), (1, (1, 17 * a + 86))], [(0, z4)], w)) 2 rfl ?_
  refine e_Ok.if1 rfl (fun h6 => ?_) (fun h6 => ?_)
  · replace h6 : (z4 : Int) ≠ 0 := h6
    refine e_Ok.run (t' := (20, [(4, (0, 1)), (3, (0, 1)), (2, (0, z4)), (0, (1, 262)), (1, (1, 17 * a + 86))], [], w)) 4 rfl ?_
    have hL7 : ∀ (nn : Nat) (y3 : Int) (y4 : Int), (1 ≤ y4 ∧ y4 ≤ 1001) ∧ ((1 ≤ y3 ∧ y3 ≤ y4)) → 1001 - y4 < nn → e_Ok 20 elay kcode eI (d + 1) 107 (20, [(0, (1, 262)), (1, (1, 17 * a + 86)), (2, (0, z4)), (3, (0, y3)), (4, (0, y4))], [], w) (fun r w' => ∃ z : Int, r = [(0, z)] ∧ e_Has kTy w' ∧ (e_fr kNq w w' ∧ w' 74 0 = w 74 0 ∧ w' 74 1 = w 74 1) ∧ kI w' OP OD CL h t0) := by
      intro nn
      induction nn with
      | zero => intro y3 y4 hj hm; obtain ⟨j9, j10⟩ := hj; exfalso; omega
      | succ nn ih8 =>
        intro y3 y4 hj hm
        obtain ⟨j9, j10⟩ := hj
        refine e_Ok.run (t' := (23, [(0, (1, 262)), (1, (1, 17 * a + 86)), (2, (0, z4)), (3, (0, y3)), (4, (0, y4))], [(0, z4), (0, y4)], w)) 2 rfl ?_
        refine e_Ok.if2 rfl (fun h11 => ?_) (fun h11 => ?_)
        · replace h11 : (y4 : Int) ≥ z4 := h11
          refine e_Ok.run (t' := (62, [(0, (1, 262)), (1, (1, 17 * a + 86)), (2, (0, z4)), (3, (0, y3)), (4, (0, y4))], [(0, 0), (1, 17 * a + 86)], w)) 2 rfl ?_
          refine e_Ok.putf rfl (lA0 (a := a) (by omega) (by omega)) rfl rfl ?_
          generalize hw12 : e_up w (17 * a + 86) 18 0 = w12
          have f13 : e_fr kNq w w12 := e_fr.up (e_fr.refl w) hw12 (by unfold kNq; omega)
          have hT14 : e_Has kTy w12 := e_Has.upr hT hw12 (kA_18 (a := a) (by omega) (by omega)) (by omega)
          refine e_Ok.run (t' := (67, [(0, (1, 262)), (1, (1, 17 * a + 86)), (2, (0, z4)), (3, (0, y3)), (4, (0, y4))], [(1, 17 * a + 86), (1, 262)], w12)) 2 rfl ?_
          have eA : ∀ c k, ¬ (c = 17 * a + 86 ∧ k = 18) → w12 c k = w c k := fun c k g => by rw [← hw12]; exact e_up_ne _ _ (by omega)
          have e8 : w12 (17 * a + 86) 8 = w (17 * a + 86) 8 := eA _ _ (by omega)
          have e17 : w12 (17 * a + 86) 17 = y := (eA _ _ (by omega)).trans hY
          have e18 : w12 (17 * a + 86) 18 = 0 := by rw [← hw12]; exact e_up_eq _ _ _ _
          have e270 : w12 270 y = w 270 y := eA _ _ (by omega)
          refine e_Ok.callV rfl (by omega) rfl rfl rfl rfl (c_108 (by omega) (a := a) hT14 (by omega) e17 e18 (fun g => by rw [e8]; exact (hy g).eq (fun c k g1 g2 => eA _ _ (by omega))) (fun g => ⟨by omega, by omega, by rw [e8]; exact hyp.eq (fun c k g1 g2 => eA _ _ (by omega)) (fun j g1 g2 => ⟨eA _ _ (by omega), eA _ _ (by omega)⟩) (fun j g1 g2 => eA _ _ (by omega))⟩) (fun j g1 g2 => by rw [eA _ _ (by omega)]; have g3 := hA.2.2.1 j g1 (by omega); have g4 := g3.1.1; have g5 := g3.2.1; omega)) (fun r15 w16 h17 => ?_)
          obtain ⟨z18, rfl, q19f, q19T, q19x⟩ := h17
          have f20 : e_fr kNq w w16 := e_fr.trans f13 (e_fr.mono q19f (fun c k q => by exact nq_kGf (by omega) q))
          show e_Ok 20 elay kcode eI (d + 1) 107 (70, [(0, (1, 262)), (1, (1, 17 * a + 86)), (2, (0, z4)), (3, (0, y3)), (4, (0, y4))], [(0, z18)], w16) _
          refine e_Ok.run (t' := (72, [(0, (1, 262)), (1, (1, 17 * a + 86)), (2, (0, z4)), (3, (0, y3)), (4, (0, y4))], [(0, y3)], w16)) 2 rfl ?_
          refine e_Ok.rets rfl rfl ?_
          obtain ⟨-, k1, k2, k3, k4, k5, k6⟩ : z18 = 1 ∧ _ := by rcases q19x with g | g; exact absurd g.2.2 (by omega); exact g
          have fW : e_fr (kGf a) w w16 := fun c k g => by rw [q19f c k g]; exact eA c k (fun g2 => g (by unfold kGf; omega))
          have hA3 := hA.further (w' := w16) (by omega) (by omega) (fun c k g1 g2 => fW c k g2) (fun i g1 g2 => (hA.2.2.1 i g1 g2).2.2.1 hs) k1.1 k1.2 (fun j g1 g2 => by have g3 := k2 j g1 (by omega); rw [eA _ _ (by omega), eA _ _ (by omega)] at g3; exact g3) (by omega) (by rw [hY]; omega) (by rw [hY]; rw [e8] at k6; exact k6)
          have Q4 := kI.ar q q19T (by omega) (fW.mono (fun c k g => ah_kGf g)) (q.lgk.fr fW (by unfold kGf; omega) (fun k => by unfold kGf; omega)) hA3 (fun g => absurd g hpw)
          exact ⟨_, rfl, q19T, ⟨f20, fW _ _ (by unfold kGf; omega), fW _ _ (by unfold kGf; omega)⟩, Q4⟩
        · replace h11 : (y4 : Int) < z4 := by have q : ¬ ((y4 : Int) ≥ z4) := h11; omega
          refine e_Ok.run (t' := (28, [(0, (1, 262)), (1, (1, 17 * a + 86)), (2, (0, z4)), (3, (0, y3)), (4, (0, y4))], [(1, 17 * a + 86), (1, 262)], w)) 2 rfl ?_
          refine e_Ok.getf (z := y) rfl (lA0 (a := a) (by omega) (by omega)) rfl rfl hY (by omega) ?_
          refine e_Ok.run (t' := (33, [(0, (1, 262)), (1, (1, 17 * a + 86)), (2, (0, z4)), (3, (0, y3)), (4, (0, y4))], [(0, y4), (0, y), (1, 262)], w)) 1 rfl ?_
          refine e_Ok.callV rfl (by omega) rfl rfl rfl rfl (c_96 (by omega) (m := w (17 * a + 86) 8) hT (by omega) (by omega) hy (by omega)) (fun r21 w22 h23 => ?_)
          obtain ⟨z24, rfl, rfl, q25r, q25x⟩ := h23
          clear q25x
          show e_Ok 20 elay kcode eI (d + 1) 107 (36, [(0, (1, 262)), (1, (1, 17 * a + 86)), (2, (0, z4)), (3, (0, y3)), (4, (0, y4))], [(0, z24)], w) _
          refine e_Ok.run (t' := (38, [(0, (1, 262)), (1, (1, 17 * a + 86)), (2, (0, z4)), (3, (0, y3)), (4, (0, y4))], [(1, 17 * a + 86), (1, 262), (0, z24)], w)) 2 rfl ?_
          refine e_Ok.getf (z := y) rfl (lA0 (a := a) (by omega) (by omega)) rfl rfl hY (by omega) ?_
          refine e_Ok.run (t' := (44, [(0, (1, 262)), (1, (1, 17 * a + 86)), (2, (0, z4)), (3, (0, y3)), (4, (0, y4))], [(0, 1), (0, y4), (0, y), (1, 262), (0, z24)], w)) 2 rfl ?_
          refine e_Ok.sub' (z := y4 - 1) rfl (by omega) (by omega) ?_
          refine e_Ok.callV rfl (by omega) rfl rfl rfl rfl (c_96 (by omega) (m := w (17 * a + 86) 8) hT (by omega) (by omega) hy (by omega)) (fun r26 w27 h28 => ?_)
          obtain ⟨z29, rfl, rfl, q30r, q30x⟩ := h28
          clear q30x
          show e_Ok 20 elay kcode eI (d + 1) 107 (48, [(0, (1, 262)), (1, (1, 17 * a + 86)), (2, (0, z4)), (3, (0, y3)), (4, (0, y4))], [(0, z29), (0, z24)], w) _
          refine e_Ok.if2 rfl (fun h31 => ?_) (fun h31 => ?_)
          · replace h31 : (z24 : Int) = z29 := h31
            refine e_Ok.inc (z := y4 + 1) rfl rfl (by omega) (by omega) ?_
            show e_Ok 20 elay kcode eI (d + 1) 107 (57, [(4, (0, y4 + 1)), (0, (1, 262)), (1, (1, 17 * a + 86)), (2, (0, z4)), (3, (0, y3))], [], w) _
            refine e_Ok.run (t' := (20, [(4, (0, y4 + 1)), (0, (1, 262)), (1, (1, 17 * a + 86)), (2, (0, z4)), (3, (0, y3))], [], w)) 1 rfl ?_
            refine e_Ok.sub kAlk (e_sub_of rfl ?_) (ih8 y3 (y4 + 1) ⟨by omega, by omega⟩ (by omega))
            exact ⟨rfl, rfl, rfl, rfl, rfl, trivial⟩
          · replace h31 : (z24 : Int) ≠ z29 := by have q : ¬ ((z24 : Int) = z29) := h31; omega
            refine e_Ok.inc (z := y3 + 1) rfl rfl (by omega) (by omega) ?_
            show e_Ok 20 elay kcode eI (d + 1) 107 (54, [(3, (0, y3 + 1)), (0, (1, 262)), (1, (1, 17 * a + 86)), (2, (0, z4)), (4, (0, y4))], [], w) _
            refine e_Ok.inc (z := y4 + 1) rfl rfl (by omega) (by omega) ?_
            show e_Ok 20 elay kcode eI (d + 1) 107 (57, [(4, (0, y4 + 1)), (3, (0, y3 + 1)), (0, (1, 262)), (1, (1, 17 * a + 86)), (2, (0, z4))], [], w) _
            refine e_Ok.run (t' := (20, [(4, (0, y4 + 1)), (3, (0, y3 + 1)), (0, (1, 262)), (1, (1, 17 * a + 86)), (2, (0, z4))], [], w)) 1 rfl ?_
            refine e_Ok.sub kAlk (e_sub_of rfl ?_) (ih8 (y3 + 1) (y4 + 1) ⟨by omega, by omega⟩ (by omega))
            exact ⟨rfl, rfl, rfl, rfl, rfl, trivial⟩
    refine e_Ok.sub kAlk (e_sub_of rfl ?_) (hL7 (1001 + 1 : Int).toNat 1 1 ⟨by omega, by omega⟩ (by omega))
    exact ⟨rfl, rfl, rfl, rfl, rfl, trivial⟩
  · replace h6 : (z4 : Int) = 0 := by have q : ¬ ((z4 : Int) ≠ 0) := h6; omega
    refine e_Ok.run (t' := (14, [(2, (0, z4)), (0, (1, 262)), (1, (1, 17 * a + 86))], [(0, 0)], w)) 1 rfl ?_
    refine e_Ok.rets rfl rfl ?_
    exact ⟨_, rfl, hT, ⟨e_fr.refl w, rfl, rfl⟩, q⟩
end
