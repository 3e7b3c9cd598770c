noncomputable section
/-! the class: the search itself -/
def kSc (c k : Int) : Prop := c = 268 ∨ (c = 250 ∧ 13 ≤ k ∧ k ≤ 16)
theorem aP.sc {w w' : eW} {a : Int} (ga : 0 ≤ a ∧ a ≤ 3) (fr : e_fr kSc w w') (hT : e_Has kTy w) (hT' : e_Has kTy w') (h : aP w a) : aP w' a := by
  have hjn := kn_joints hT ga
  refine h.eq (fr _ _ (by unfold kSc; omega)) (fun c k q => ?_) (fun k g => ⟨fr _ _ (by unfold kSc; omega), fr _ _ (by unfold kSc; omega)⟩)
  rcases q with q | ⟨j, hj, rfl, rfl⟩
  · refine Kq.of (fr.mono (fun c k g => ?_)) hT hT' c k q
    unfold kSc at g
    rcases g with g | g
    · unfold kNh; omega
    · exact Or.inl (Or.inr (Or.inr (Or.inr (Or.inr (Or.inr (Or.inr (Or.inr (Or.inr (Or.inr (Or.inr (Or.inl (by omega))))))))))))
  · exact fr _ _ (by unfold kSc; omega)
theorem tvV.eq {w w' : eW} {n x j : Int} (h : ∀ c k, 263 ≤ c → c ≤ 266 → w' c k = w c k) : tvV w' n x j = tvV w n x j := by
  have e5 : w' 265 = w 265 := funext (fun k => h 265 k (by omega) (by omega))
  unfold tvV
  rw [h 263 j (by omega) (by omega), h 264 j (by omega) (by omega), e5]
set_option maxHeartbeats 4000000 in
theorem c_100 {d : Nat} (hd : 27 ≤ d) {w : eW} (hT : e_Has kTy w) {a n m : Int} (hL : lyI w a n m) (ga : 0 ≤ a ∧ a ≤ 3) {cn g : Int} (gc : 0 ≤ cn ∧ cn ≤ 4) (gg : 0 ≤ g ∧ g < kpr (w 265) m.toNat) (ka : ∀ b, 0 ≤ b → b ≤ 3 → aK w b) (hvv : ∀ j, 0 ≤ j → j < m → w (17 * a + j + 97) 7 = w 263 j) : e_Ok 20 elay kcode eI d 100 (0, [(0, (1, 262)), (1, (1, 9)), (2, (0, cn)), (3, (1, 250)), (4, (0, a)), (5, (0, g))], [], w) (fun r w' => ∃ z : Int, r = [(0, z)] ∧ e_fr (kSr a m) w w' ∧ e_Has kTy w' ∧ (0 ≤ z ∧ z ≤ 1) ∧ (∀ b, 0 ≤ b → b ≤ 3 → aK w' b) ∧ (∀ j, 0 ≤ j → j ≤ 5 → w' (17 * a + j + 97) 7 = w (17 * a + j + 97) 7) ∧ aQ w w' ∧ (z = 1 → ∃ t, BF w' (w 265) m (kpr (w 265) m.toNat) t (w 262 3) ∧ 1 ≤ w' 268 g)) := by
  obtain ⟨d, rfl⟩ : ∃ e, d = e + 1 := ⟨d - 1, by omega⟩
  have hm := hL.1.2.1
  have hm8 : w (17 * a + 86) 8 = m := hL.1.2.2.1
  have hn1 := hL.1.1
  have hw1 : w 262 1 = n := hL.1.2.2.2.1
  have hw2 := hL.1.2.2.2.2; unfold kn1 at hw2
  have hNk := hL.2.2.1
  have hog := hL.og.1
  refine e_Ok.run (t' := (3, [(0, (1, 262)), (1, (1, 9)), (2, (0, cn)), (3, (1, 250)), (4, (0, a)), (5, (0, g))], [(0, a), (1, 9)], w)) 2 rfl ?_
  refine e_Ok.aald (z := 17 * a + 86) rfl (el_o rfl) rfl (by omega) (Eq.trans (e_Has.eq hT (k9 (by omega))) (by omega)) (by omega) ?_
  refine e_Ok.run (t' := (7, [(6, (1, 17 * a + 86)), (0, (1, 262)), (1, (1, 9)), (2, (0, cn)), (3, (1, 250)), (4, (0, a)), (5, (0, g))], [(1, 262)], w)) 2 rfl ?_
  refine e_Ok.getr (z := 268) rfl (el_o rfl) rfl rfl (Eq.trans (e_Has.eq hT rfl) (by omega)) (by omega) ?_
  refine e_Ok.run (t' := (11, [(6, (1, 17 * a + 86)), (0, (1, 262)), (1, (1, 9)), (2, (0, cn)), (3, (1, 250)), (4, (0, a)), (5, (0, g))], [(0, 0), (1, 268)], w)) 1 rfl ?_
  refine e_Ok.callS rfl (by omega) rfl rfl (c_452_68 hT) (fun r1 w2 h3 => ?_)
  obtain ⟨rfl, q4f, q4T, q4x⟩ := h3
  have f5 : e_fr (kSr a m) w w2 := e_fr.trans (e_fr.refl w) (e_fr.mono q4f (fun c k q => by exact (by unfold kF68 at q; unfold kSr; omega)))
  have ka1 := aK.any q4f (fun b c k g1 g2 g3 => by unfold kF68 at g3; omega) ka
  show e_Ok 20 elay kcode eI (d + 1) 100 (14, [(6, (1, 17 * a + 86)), (0, (1, 262)), (1, (1, 9)), (2, (0, cn)), (3, (1, 250)), (4, (0, a)), (5, (0, g))], [], w2) _
  refine e_Ok.run (t' := (21, [(6, (1, 17 * a + 86)), (0, (1, 262)), (1, (1, 9)), (2, (0, cn)), (3, (1, 250)), (4, (0, a)), (5, (0, g))], [(1, 262), (0, 0), (0, a), (0, cn), (1, 9), (1, 250)], w2)) 6 rfl ?_
  refine e_Ok.getf (z := w 262 2) rfl (el_o rfl) rfl rfl ((q4f 262 2 (by unfold kF68; omega)).trans rfl) (by omega) ?_
  refine e_Ok.callV rfl (by omega) rfl rfl rfl rfl (c_171 (by omega) q4T (by omega) (by omega) (by omega) (by omega) ka1) (fun r6 w7 h8 => ?_)
  obtain ⟨z9, rfl, q10f, q10T, q10r⟩ := h8
  have f11 : e_fr (kSr a m) w w7 := e_fr.trans f5 (e_fr.mono q10f (fun c k q => by exact (by unfold kTc at q; unfold kSr; omega)))
  have ka2 := aK.any q10f (fun b c k g1 g2 g3 => by unfold kTc at g3; omega) ka1
  have c0 : ∀ k, 0 ≤ k → k < 1000 → w7 268 k = 0 := fun k g1 g2 => by rw [q10f _ _ (by unfold kTc; omega)]; exact q4x k g1 g2
  show e_Ok 20 elay kcode eI (d + 1) 100 (27, [(6, (1, 17 * a + 86)), (0, (1, 262)), (1, (1, 9)), (2, (0, cn)), (3, (1, 250)), (4, (0, a)), (5, (0, g))], [(0, z9)], w7) _
  refine e_Ok.if1 rfl (fun h12 => ?_) (fun h12 => ?_)
  · replace h12 : (z9 : Int) = 0 := h12
    refine e_Ok.run (t' := (33, [(6, (1, 17 * a + 86)), (0, (1, 262)), (1, (1, 9)), (2, (0, cn)), (3, (1, 250)), (4, (0, a)), (5, (0, g))], [(1, 262)], w7)) 1 rfl ?_
    refine e_Ok.getr (z := 268) rfl (el_o rfl) rfl rfl ((q10f 262 9 (by unfold kTc; omega)).trans ((q4f 262 9 (by unfold kF68; omega)).trans (Eq.trans (e_Has.eq hT rfl) (by omega)))) (by omega) ?_
    refine e_Ok.run (t' := (37, [(6, (1, 17 * a + 86)), (0, (1, 262)), (1, (1, 9)), (2, (0, cn)), (3, (1, 250)), (4, (0, a)), (5, (0, g))], [(1, 262), (1, 268)], w7)) 1 rfl ?_
    refine e_Ok.getf (z := w 262 3) rfl (el_o rfl) rfl rfl ((q10f 262 3 (by unfold kTc; omega)).trans ((q4f 262 3 (by unfold kF68; omega)).trans rfl)) (by omega) ?_
    refine e_Ok.run (t' := (42, [(6, (1, 17 * a + 86)), (0, (1, 262)), (1, (1, 9)), (2, (0, cn)), (3, (1, 250)), (4, (0, a)), (5, (0, g))], [(0, 100), (0, w 262 3), (1, 268)], w7)) 1 rfl ?_
    refine e_Ok.ast rfl (el_o rfl) rfl rfl (by omega) ?_
    generalize hw13 : e_up w7 268 (w 262 3) 100 = w13
    have f14 : e_fr (kSr a m) w w13 := e_fr.up f11 hw13 (by unfold kSr; omega)
    have hT15 : e_Has kTy w13 := e_Has.ups q10T hw13 rfl
    refine e_Ok.run (t' := (44, [(6, (1, 17 * a + 86)), (0, (1, 262)), (1, (1, 9)), (2, (0, cn)), (3, (1, 250)), (4, (0, a)), (5, (0, g))], [(1, 262)], w13)) 1 rfl ?_
    refine e_Ok.getr (z := 267) rfl (el_o rfl) rfl rfl (by rw [← hw13]; exact (e_up_ne _ _ (Or.inl (by omega))).trans ((q10f 262 8 (by unfold kTc; omega)).trans ((q4f 262 8 (by unfold kF68; omega)).trans (Eq.trans (e_Has.eq hT rfl) (by omega))))) (by omega) ?_
    refine e_Ok.run (t' := (49, [(6, (1, 17 * a + 86)), (0, (1, 262)), (1, (1, 9)), (2, (0, cn)), (3, (1, 250)), (4, (0, a)), (5, (0, g))], [(1, 262), (0, 0), (1, 267)], w13)) 2 rfl ?_
    refine e_Ok.getf (z := w 262 3) rfl (el_o rfl) rfl rfl (by rw [← hw13]; exact (e_up_ne _ _ (Or.inl (by omega))).trans ((q10f 262 3 (by unfold kTc; omega)).trans ((q4f 262 3 (by unfold kF68; omega)).trans rfl))) (by omega) ?_
    refine e_Ok.ast rfl (el_o rfl) rfl rfl (by omega) ?_
    generalize hw16 : e_up w13 267 0 (w 262 3) = w16
    have f17 : e_fr (kSr a m) w w16 := e_fr.up f14 hw16 (by unfold kSr; omega)
    have hT18 : e_Has kTy w16 := e_Has.ups hT15 hw16 rfl
    refine e_Ok.run (t' := (59, [(8, (0, 0)), (7, (0, 1)), (6, (1, 17 * a + 86)), (0, (1, 262)), (1, (1, 9)), (2, (0, cn)), (3, (1, 250)), (4, (0, a)), (5, (0, g))], [], w16)) 4 rfl ?_
    have hL19 : ∀ (nn : Nat) (y7 : Int) (y8 : Int) (v1 : eW), e_fr (kSr a m) w v1 ∧ e_Has kTy v1 ∧ (∀ b, 0 ≤ b → b ≤ 3 → aK v1 b) ∧ BF v1 (w 265) m (kpr (w 265) m.toNat) y7 (w 262 3) ∧ ((1 ≤ y7 ∧ y7 ≤ 1000)) ∧ ((0 ≤ y8 ∧ y8 ≤ y7)) → 1000 - y8 < nn → e_Ok 20 elay kcode eI (d + 1) 100 (59, [(0, (1, 262)), (1, (1, 9)), (2, (0, cn)), (3, (1, 250)), (4, (0, a)), (5, (0, g)), (6, (1, 17 * a + 86)), (7, (0, y7)), (8, (0, y8))], [], v1) (fun r w' => ∃ z : Int, r = [(0, z)] ∧ e_fr (kSr a m) w w' ∧ e_Has kTy w' ∧ (0 ≤ z ∧ z ≤ 1) ∧ (∀ b, 0 ≤ b → b ≤ 3 → aK w' b) ∧ (∀ j, 0 ≤ j → j ≤ 5 → w' (17 * a + j + 97) 7 = w (17 * a + j + 97) 7) ∧ aQ w w' ∧ (z = 1 → ∃ t, BF w' (w 265) m (kpr (w 265) m.toNat) t (w 262 3) ∧ 1 ≤ w' 268 g)) := by
      intro nn
      induction nn with
      | zero => intro y7 y8 v1 hj hm; obtain ⟨j21, j22, j23, j24, j25, j26⟩ := hj; exfalso; omega
      | succ nn ih20 =>
        intro y7 y8 v1 hj hm
        obtain ⟨j21, j22, j23, j24, j25, j26⟩ := hj
        refine e_Ok.run (t' := (63, [(0, (1, 262)), (1, (1, 9)), (2, (0, cn)), (3, (1, 250)), (4, (0, a)), (5, (0, g)), (6, (1, 17 * a + 86)), (7, (0, y7)), (8, (0, y8))], [(0, y7), (0, y8)], v1)) 2 rfl ?_
        refine e_Ok.if2 rfl (fun h27 => ?_) (fun h27 => ?_)
        · replace h27 : (y8 : Int) ≥ y7 := h27
          have hL1 : lyI v1 a n m := hL.eq (fun c k g => j21 c k (by unfold kSr; omega))
          have hcg := j24.came (by omega) gg
          refine e_Ok.run (t' := (203, [(0, (1, 262)), (1, (1, 9)), (2, (0, cn)), (3, (1, 250)), (4, (0, a)), (5, (0, g)), (6, (1, 17 * a + 86)), (7, (0, y7)), (8, (0, y8))], [(1, 262), (1, 17 * a + 86), (1, 262)], v1)) 3 rfl ?_
          refine e_Ok.getf (z := w 262 3) rfl (el_o rfl) rfl rfl ((j21 262 3 (by unfold kSr; omega)).trans rfl) (by omega) ?_
          refine e_Ok.callV rfl (by omega) rfl rfl rfl rfl (c_102 (by omega) j22 hL1 (x := w 262 3) ga (by omega)) (fun r28 w29 h30 => ?_)
          obtain ⟨rfl, q31f, q31T, q31x⟩ := h30
          have f32 : e_fr (kSr a m) w w29 := e_fr.trans j21 (e_fr.mono q31f (fun c k q => by exact (by unfold kJv at q; unfold kSr; omega)))
          show e_Ok 20 elay kcode eI (d + 1) 100 (209, [(0, (1, 262)), (1, (1, 9)), (2, (0, cn)), (3, (1, 250)), (4, (0, a)), (5, (0, g)), (6, (1, 17 * a + 86)), (7, (0, y7)), (8, (0, y8))], [], w29) _
          refine e_Ok.run (t' := (211, [(0, (1, 262)), (1, (1, 9)), (2, (0, cn)), (3, (1, 250)), (4, (0, a)), (5, (0, g)), (6, (1, 17 * a + 86)), (7, (0, y7)), (8, (0, y8))], [(1, 17 * a + 86)], w29)) 1 rfl ?_
          have ka6 := aK.any q31f (fun b c k g1 g2 g3 => by unfold kJv at g3; omega) j23
          have j6 := kn_joints q31T (a := a) ga
          refine e_Ok.callV rfl (by omega) rfl (lA0 (a := a) (by omega) (by omega)) rfl rfl (c_10_pm (by omega) (a := a) q31T ga ((f32 _ _ (by unfold kSr; omega)).trans hm8) ((ka6 a ga.1 ga.2).1 0 (by omega) (by omega)) ((ka6 a ga.1 ga.2).2 0 (by omega) (by omega))) (fun r33 w34 h35 => ?_)
          obtain ⟨rfl, q36f, q36T, q36x, q36p⟩ := h35
          have f37 : e_fr (kSr a m) w w34 := e_fr.trans f32 (e_fr.mono q36f (fun c k q => by exact (by unfold kPm at q; unfold kSr; omega)))
          have ka7 := aK.all ga q36f (fun b c k g1 g2 g3 g4 => by unfold kPm at g4; omega) ka6 q36x
          have val7 : ∀ j, 0 ≤ j → j ≤ 5 → w34 (17 * a + j + 97) 7 = w (17 * a + j + 97) 7 := fun j g1 g2 => by
            by_cases e : j < m
            · rw [q36f _ _ (by unfold kPm; omega), q31x j g1 e, tvV.eq (w := w) (fun c k g3 g4 => j21 c k (by unfold kSr; omega)), hL.ogv ⟨g1, e⟩]; exact (hvv j g1 e).symm
            · exact f37 _ _ (by unfold kSr; omega)
          have B7 : BF w34 (w 265) m (kpr (w 265) m.toNat) y7 (w 262 3) := (j24.eq (fun c k g => q31f c k (by unfold kJv; omega))).eq (fun c k g => q36f c k (by unfold kPm; omega))
          have g7 : w34 268 g = v1 268 g := (q36f _ _ (by unfold kPm; omega)).trans (q31f _ _ (by unfold kJv; omega))
          show e_Ok 20 elay kcode eI (d + 1) 100 (214, [(0, (1, 262)), (1, (1, 9)), (2, (0, cn)), (3, (1, 250)), (4, (0, a)), (5, (0, g)), (6, (1, 17 * a + 86)), (7, (0, y7)), (8, (0, y8))], [], w34) _
          refine e_Ok.run (t' := (215, [(0, (1, 262)), (1, (1, 9)), (2, (0, cn)), (3, (1, 250)), (4, (0, a)), (5, (0, g)), (6, (1, 17 * a + 86)), (7, (0, y7)), (8, (0, y8))], [(1, 262)], w34)) 1 rfl ?_
          refine e_Ok.getr (z := 268) rfl (el_o rfl) rfl rfl ((q36f 262 9 (by unfold kPm; omega)).trans ((q31f 262 9 (by unfold kJv; omega)).trans ((j21 262 9 (by unfold kSr; omega)).trans (Eq.trans (e_Has.eq hT rfl) (by omega))))) (by omega) ?_
          refine e_Ok.run (t' := (220, [(0, (1, 262)), (1, (1, 9)), (2, (0, cn)), (3, (1, 250)), (4, (0, a)), (5, (0, g)), (6, (1, 17 * a + 86)), (7, (0, y7)), (8, (0, y8))], [(0, g), (1, 268)], w34)) 1 rfl ?_
          refine e_Ok.ald (z := v1 268 g) rfl (el_o rfl) rfl (by omega) ((q36f 268 g (by unfold kPm; omega)).trans ((q31f 268 g (by unfold kJv; omega)).trans rfl)) (by omega) ?_
          refine e_Ok.if1 rfl (fun h38 => ?_) (fun h38 => ?_)
          · replace h38 : (v1 268 g : Int) ≤ 0 := h38
            refine e_Ok.run (t' := (229, [(0, (1, 262)), (1, (1, 9)), (2, (0, cn)), (3, (1, 250)), (4, (0, a)), (5, (0, g)), (6, (1, 17 * a + 86)), (7, (0, y7)), (8, (0, y8))], [(0, 0)], w34)) 1 rfl ?_
            refine e_Ok.rets rfl rfl ?_
            exact ⟨_, rfl, f37, q36T, by omega, ka7, val7, aQ.sr ga (by omega) f37 hT q36T (fun _ => q36p), fun g => absurd g (by omega)⟩
          · replace h38 : (v1 268 g : Int) > 0 := by have q : ¬ ((v1 268 g : Int) ≤ 0) := h38; omega
            refine e_Ok.run (t' := (229, [(0, (1, 262)), (1, (1, 9)), (2, (0, cn)), (3, (1, 250)), (4, (0, a)), (5, (0, g)), (6, (1, 17 * a + 86)), (7, (0, y7)), (8, (0, y8))], [(0, 1)], w34)) 2 rfl ?_
            refine e_Ok.rets rfl rfl ?_
            exact ⟨_, rfl, f37, q36T, by omega, ka7, val7, aQ.sr ga (by omega) f37 hT q36T (fun _ => q36p), fun _ => ⟨y7, B7, by omega⟩⟩
        · replace h27 : (y8 : Int) < y7 := by have q : ¬ ((y8 : Int) ≥ y7) := h27; omega
          have hcg := j24.came (by omega) gg
          refine e_Ok.run (t' := (67, [(0, (1, 262)), (1, (1, 9)), (2, (0, cn)), (3, (1, 250)), (4, (0, a)), (5, (0, g)), (6, (1, 17 * a + 86)), (7, (0, y7)), (8, (0, y8))], [(1, 262)], v1)) 1 rfl ?_
          refine e_Ok.getr (z := 268) rfl (el_o rfl) rfl rfl ((j21 262 9 (by unfold kSr; omega)).trans (Eq.trans (e_Has.eq hT rfl) (by omega))) (by omega) ?_
          refine e_Ok.run (t' := (72, [(0, (1, 262)), (1, (1, 9)), (2, (0, cn)), (3, (1, 250)), (4, (0, a)), (5, (0, g)), (6, (1, 17 * a + 86)), (7, (0, y7)), (8, (0, y8))], [(0, g), (1, 268)], v1)) 1 rfl ?_
          refine e_Ok.ald (z := v1 268 g) rfl (el_o rfl) rfl (by omega) rfl (by omega) ?_
          refine e_Ok.if1 rfl (fun h40 => ?_) (fun h40 => ?_)
          · replace h40 : (v1 268 g : Int) ≠ 0 := h40
            have hL1 : lyI v1 a n m := hL.eq (fun c k g => j21 c k (by unfold kSr; omega))
            refine e_Ok.run (t' := (203, [(0, (1, 262)), (1, (1, 9)), (2, (0, cn)), (3, (1, 250)), (4, (0, a)), (5, (0, g)), (6, (1, 17 * a + 86)), (7, (0, y7)), (8, (0, y8))], [(1, 262), (1, 17 * a + 86), (1, 262)], v1)) 3 rfl ?_
            refine e_Ok.getf (z := w 262 3) rfl (el_o rfl) rfl rfl ((j21 262 3 (by unfold kSr; omega)).trans rfl) (by omega) ?_
            refine e_Ok.callV rfl (by omega) rfl rfl rfl rfl (c_102 (by omega) j22 hL1 (x := w 262 3) ga (by omega)) (fun r41 w42 h43 => ?_)
            obtain ⟨rfl, q44f, q44T, q44x⟩ := h43
            have f45 : e_fr (kSr a m) w w42 := e_fr.trans j21 (e_fr.mono q44f (fun c k q => by exact (by unfold kJv at q; unfold kSr; omega)))
            show e_Ok 20 elay kcode eI (d + 1) 100 (209, [(0, (1, 262)), (1, (1, 9)), (2, (0, cn)), (3, (1, 250)), (4, (0, a)), (5, (0, g)), (6, (1, 17 * a + 86)), (7, (0, y7)), (8, (0, y8))], [], w42) _
            refine e_Ok.run (t' := (211, [(0, (1, 262)), (1, (1, 9)), (2, (0, cn)), (3, (1, 250)), (4, (0, a)), (5, (0, g)), (6, (1, 17 * a + 86)), (7, (0, y7)), (8, (0, y8))], [(1, 17 * a + 86)], w42)) 1 rfl ?_
            have ka6 := aK.any q44f (fun b c k g1 g2 g3 => by unfold kJv at g3; omega) j23
            have j6 := kn_joints q44T (a := a) ga
            refine e_Ok.callV rfl (by omega) rfl (lA0 (a := a) (by omega) (by omega)) rfl rfl (c_10_pm (by omega) (a := a) q44T ga ((f45 _ _ (by unfold kSr; omega)).trans hm8) ((ka6 a ga.1 ga.2).1 0 (by omega) (by omega)) ((ka6 a ga.1 ga.2).2 0 (by omega) (by omega))) (fun r46 w47 h48 => ?_)
            obtain ⟨rfl, q49f, q49T, q49x, q49p⟩ := h48
            have f50 : e_fr (kSr a m) w w47 := e_fr.trans f45 (e_fr.mono q49f (fun c k q => by exact (by unfold kPm at q; unfold kSr; omega)))
            have ka7 := aK.all ga q49f (fun b c k g1 g2 g3 g4 => by unfold kPm at g4; omega) ka6 q49x
            have val7 : ∀ j, 0 ≤ j → j ≤ 5 → w47 (17 * a + j + 97) 7 = w (17 * a + j + 97) 7 := fun j g1 g2 => by
              by_cases e : j < m
              · rw [q49f _ _ (by unfold kPm; omega), q44x j g1 e, tvV.eq (w := w) (fun c k g3 g4 => j21 c k (by unfold kSr; omega)), hL.ogv ⟨g1, e⟩]; exact (hvv j g1 e).symm
              · exact f50 _ _ (by unfold kSr; omega)
            have B7 : BF w47 (w 265) m (kpr (w 265) m.toNat) y7 (w 262 3) := (j24.eq (fun c k g => q44f c k (by unfold kJv; omega))).eq (fun c k g => q49f c k (by unfold kPm; omega))
            have g7 : w47 268 g = v1 268 g := (q49f _ _ (by unfold kPm; omega)).trans (q44f _ _ (by unfold kJv; omega))
            show e_Ok 20 elay kcode eI (d + 1) 100 (214, [(0, (1, 262)), (1, (1, 9)), (2, (0, cn)), (3, (1, 250)), (4, (0, a)), (5, (0, g)), (6, (1, 17 * a + 86)), (7, (0, y7)), (8, (0, y8))], [], w47) _
            refine e_Ok.run (t' := (215, [(0, (1, 262)), (1, (1, 9)), (2, (0, cn)), (3, (1, 250)), (4, (0, a)), (5, (0, g)), (6, (1, 17 * a + 86)), (7, (0, y7)), (8, (0, y8))], [(1, 262)], w47)) 1 rfl ?_
            refine e_Ok.getr (z := 268) rfl (el_o rfl) rfl rfl ((q49f 262 9 (by unfold kPm; omega)).trans ((q44f 262 9 (by unfold kJv; omega)).trans ((j21 262 9 (by unfold kSr; omega)).trans (Eq.trans (e_Has.eq hT rfl) (by omega))))) (by omega) ?_
            refine e_Ok.run (t' := (220, [(0, (1, 262)), (1, (1, 9)), (2, (0, cn)), (3, (1, 250)), (4, (0, a)), (5, (0, g)), (6, (1, 17 * a + 86)), (7, (0, y7)), (8, (0, y8))], [(0, g), (1, 268)], w47)) 1 rfl ?_
            refine e_Ok.ald (z := v1 268 g) rfl (el_o rfl) rfl (by omega) ((q49f 268 g (by unfold kPm; omega)).trans ((q44f 268 g (by unfold kJv; omega)).trans rfl)) (by omega) ?_
            refine e_Ok.if1 rfl (fun h51 => ?_) (fun h51 => ?_)
            · replace h51 : (v1 268 g : Int) ≤ 0 := h51
              refine e_Ok.run (t' := (229, [(0, (1, 262)), (1, (1, 9)), (2, (0, cn)), (3, (1, 250)), (4, (0, a)), (5, (0, g)), (6, (1, 17 * a + 86)), (7, (0, y7)), (8, (0, y8))], [(0, 0)], w47)) 1 rfl ?_
              refine e_Ok.rets rfl rfl ?_
              exact ⟨_, rfl, f50, q49T, by omega, ka7, val7, aQ.sr ga (by omega) f50 hT q49T (fun _ => q49p), fun g => absurd g (by omega)⟩
            · replace h51 : (v1 268 g : Int) > 0 := by have q : ¬ ((v1 268 g : Int) ≤ 0) := h51; omega
              refine e_Ok.run (t' := (229, [(0, (1, 262)), (1, (1, 9)), (2, (0, cn)), (3, (1, 250)), (4, (0, a)), (5, (0, g)), (6, (1, 17 * a + 86)), (7, (0, y7)), (8, (0, y8))], [(0, 1)], w47)) 2 rfl ?_
              refine e_Ok.rets rfl rfl ?_
              exact ⟨_, rfl, f50, q49T, by omega, ka7, val7, aQ.sr ga (by omega) f50 hT q49T (fun _ => q49p), fun _ => ⟨y7, B7, by omega⟩⟩
          · replace h40 : (v1 268 g : Int) = 0 := by have q : ¬ ((v1 268 g : Int) ≠ 0) := h40; omega
            have hqr := j24.2.1 y8 (by omega) (by omega)
            have hL1 : lyI v1 a n m := hL.eq (fun c k g => j21 c k (by unfold kSr; omega))
            refine e_Ok.run (t' := (80, [(0, (1, 262)), (1, (1, 9)), (2, (0, cn)), (3, (1, 250)), (4, (0, a)), (5, (0, g)), (6, (1, 17 * a + 86)), (7, (0, y7)), (8, (0, y8))], [(1, 262), (1, 17 * a + 86), (1, 262)], v1)) 3 rfl ?_
            refine e_Ok.getr (z := 267) rfl (el_o rfl) rfl rfl ((j21 262 8 (by unfold kSr; omega)).trans (Eq.trans (e_Has.eq hT rfl) (by omega))) (by omega) ?_
            refine e_Ok.run (t' := (85, [(0, (1, 262)), (1, (1, 9)), (2, (0, cn)), (3, (1, 250)), (4, (0, a)), (5, (0, g)), (6, (1, 17 * a + 86)), (7, (0, y7)), (8, (0, y8))], [(0, y8), (1, 267), (1, 17 * a + 86), (1, 262)], v1)) 1 rfl ?_
            refine e_Ok.ald (z := v1 267 y8) rfl (el_o rfl) rfl (by omega) rfl (by omega) ?_
            refine e_Ok.callV rfl (by omega) rfl rfl rfl rfl (c_102 (by omega) j22 hL1 ga (by omega)) (fun r52 w53 h54 => ?_)
            obtain ⟨rfl, q55f, q55T, q55x⟩ := h54
            have f56 : e_fr (kSr a m) w w53 := e_fr.trans j21 (e_fr.mono q55f (fun c k q => by exact (by unfold kJv at q; unfold kSr; omega)))
            show e_Ok 20 elay kcode eI (d + 1) 100 (89, [(0, (1, 262)), (1, (1, 9)), (2, (0, cn)), (3, (1, 250)), (4, (0, a)), (5, (0, g)), (6, (1, 17 * a + 86)), (7, (0, y7)), (8, (0, y8))], [], w53) _
            refine e_Ok.run (t' := (92, [(9, (0, 0)), (0, (1, 262)), (1, (1, 9)), (2, (0, cn)), (3, (1, 250)), (4, (0, a)), (5, (0, g)), (6, (1, 17 * a + 86)), (7, (0, y7)), (8, (0, y8))], [], w53)) 2 rfl ?_
            have hL57 : ∀ (nn : Nat) (y7b : Int) (y9 : Int) (v2 : eW), e_fr (kSr a m) w v2 ∧ e_Has kTy v2 ∧ (∀ b, 0 ≤ b → b ≤ 3 → aK v2 b) ∧ BF v2 (w 265) m (kpr (w 265) m.toNat) y7b (w 262 3) ∧ ((y8 < y7b ∧ y7b ≤ 1000)) ∧ v2 267 y8 = v1 267 y8 ∧ (∀ j, 0 ≤ j ∧ j < m → -100000 ≤ v2 (17 * a + j + 97) 7 ∧ v2 (17 * a + j + 97) 7 ≤ 100000) ∧ ((0 ≤ y9 ∧ y9 ≤ 2 * m)) → 12 - y9 < nn → e_Ok 20 elay kcode eI (d + 1) 100 (92, [(0, (1, 262)), (1, (1, 9)), (2, (0, cn)), (3, (1, 250)), (4, (0, a)), (5, (0, g)), (6, (1, 17 * a + 86)), (7, (0, y7b)), (8, (0, y8)), (9, (0, y9))], [], v2) (fun r w' => ∃ z : Int, r = [(0, z)] ∧ e_fr (kSr a m) w w' ∧ e_Has kTy w' ∧ (0 ≤ z ∧ z ≤ 1) ∧ (∀ b, 0 ≤ b → b ≤ 3 → aK w' b) ∧ (∀ j, 0 ≤ j → j ≤ 5 → w' (17 * a + j + 97) 7 = w (17 * a + j + 97) 7) ∧ aQ w w' ∧ (z = 1 → ∃ t, BF w' (w 265) m (kpr (w 265) m.toNat) t (w 262 3) ∧ 1 ≤ w' 268 g)) := by
              intro nn
              induction nn with
              | zero => intro y7b y9 v2 hj hm; obtain ⟨j59, j60, j61, j62, j63, j64, j65, j66⟩ := hj; exfalso; omega
              | succ nn ih58 =>
                intro y7b y9 v2 hj hm
                obtain ⟨j59, j60, j61, j62, j63, j64, j65, j66⟩ := hj
                refine e_Ok.run (t' := (97, [(0, (1, 262)), (1, (1, 9)), (2, (0, cn)), (3, (1, 250)), (4, (0, a)), (5, (0, g)), (6, (1, 17 * a + 86)), (7, (0, y7b)), (8, (0, y8)), (9, (0, y9))], [(1, 17 * a + 86), (0, 2), (0, y9)], v2)) 3 rfl ?_
                have h67 := (e_Has.get hT (c := 17 * a + 86) (k := 8) (lo := 0) (hi := 6) (kA_8 (a := a) (by omega) (by omega)) (by decide))
                refine e_Ok.getf (z := w (17 * a + 86) 8) rfl (lA0 (a := a) (by omega) (by omega)) rfl rfl ((j59 (17 * a + 86) 8 (by unfold kSr; omega)).trans rfl) (by omega) ?_
                refine e_Ok.mul (z := 2 * w (17 * a + 86) 8) rfl (by omega) (by omega) ?_
                refine e_Ok.if2 rfl (fun h68 => ?_) (fun h68 => ?_)
                · replace h68 : (y9 : Int) ≥ 2 * w (17 * a + 86) 8 := h68
                  refine e_Ok.inc (z := y8 + 1) rfl rfl (by omega) (by omega) ?_
                  show e_Ok 20 elay kcode eI (d + 1) 100 (196, [(8, (0, y8 + 1)), (0, (1, 262)), (1, (1, 9)), (2, (0, cn)), (3, (1, 250)), (4, (0, a)), (5, (0, g)), (6, (1, 17 * a + 86)), (7, (0, y7b)), (9, (0, y9))], [], v2) _
                  refine e_Ok.run (t' := (59, [(8, (0, y8 + 1)), (0, (1, 262)), (1, (1, 9)), (2, (0, cn)), (3, (1, 250)), (4, (0, a)), (5, (0, g)), (6, (1, 17 * a + 86)), (7, (0, y7b)), (9, (0, y9))], [], v2)) 1 rfl ?_
                  refine e_Ok.sub kAlk (e_sub_of rfl ?_) (ih20 y7b (y8 + 1) v2 ⟨j59, j60, j61, j62, by omega, by omega⟩ (by omega))
                  exact ⟨rfl, rfl, rfl, rfl, rfl, rfl, rfl, rfl, rfl, trivial⟩
                · replace h68 : (y9 : Int) < 2 * w (17 * a + 86) 8 := by have q : ¬ ((y9 : Int) ≥ 2 * w (17 * a + 86) 8) := h68; omega
                  refine e_Ok.run (t' := (106, [(0, (1, 262)), (1, (1, 9)), (2, (0, cn)), (3, (1, 250)), (4, (0, a)), (5, (0, g)), (6, (1, 17 * a + 86)), (7, (0, y7b)), (8, (0, y8)), (9, (0, y9))], [(1, 262), (1, 262)], v2)) 2 rfl ?_
                  refine e_Ok.getr (z := 267) rfl (el_o rfl) rfl rfl ((j59 262 8 (by unfold kSr; omega)).trans (Eq.trans (e_Has.eq hT rfl) (by omega))) (by omega) ?_
                  refine e_Ok.run (t' := (111, [(0, (1, 262)), (1, (1, 9)), (2, (0, cn)), (3, (1, 250)), (4, (0, a)), (5, (0, g)), (6, (1, 17 * a + 86)), (7, (0, y7b)), (8, (0, y8)), (9, (0, y9))], [(0, y8), (1, 267), (1, 262)], v2)) 1 rfl ?_
                  refine e_Ok.ald (z := v1 267 y8) rfl (el_o rfl) rfl (by omega) j64 (by omega) ?_
                  refine e_Ok.run (t' := (114, [(0, (1, 262)), (1, (1, 9)), (2, (0, cn)), (3, (1, 250)), (4, (0, a)), (5, (0, g)), (6, (1, 17 * a + 86)), (7, (0, y7b)), (8, (0, y8)), (9, (0, y9))], [(0, y9), (0, v1 267 y8), (1, 262)], v2)) 1 rfl ?_
                  have hL2 : lyI v2 a n m := hL.eq (fun c k g => j59 c k (by unfold kSr; omega))
                  have e5 : v2 265 = w 265 := funext (fun k => j59 265 k (by unfold kSr; omega))
                  refine e_Ok.callV rfl (by omega) rfl rfl rfl rfl (c_103 (by omega) j60 hL2 (x := v1 267 y8) (by rw [e5]; exact hqr) (by omega)) (fun r69 w70 h71 => ?_)
                  obtain ⟨z72, rfl, rfl, q73⟩ := h71
                  rw [e5] at q73
                  obtain rfl | ⟨hzr, hkl⟩ := q73
                  · show e_Ok 20 elay kcode eI (d + 1) 100 (117, [(0, (1, 262)), (1, (1, 9)), (2, (0, cn)), (3, (1, 250)), (4, (0, a)), (5, (0, g)), (6, (1, 17 * a + 86)), (7, (0, y7b)), (8, (0, y8)), (9, (0, y9))], [(0, (-1))], v2) _
                    refine e_Ok.run (t' := (121, [(10, (0, (-1))), (0, (1, 262)), (1, (1, 9)), (2, (0, cn)), (3, (1, 250)), (4, (0, a)), (5, (0, g)), (6, (1, 17 * a + 86)), (7, (0, y7b)), (8, (0, y8)), (9, (0, y9))], [(0, (-1))], v2)) 2 rfl ?_
                    refine e_Ok.if1 rfl (fun h74 => ?_) (fun h74 => ?_)
                    · replace h74 : ((-1) : Int) < 0 := h74
                      refine e_Ok.inc (z := y9 + 1) rfl rfl (by omega) (by omega) ?_
                      show e_Ok 20 elay kcode eI (d + 1) 100 (190, [(9, (0, y9 + 1)), (10, (0, (-1))), (0, (1, 262)), (1, (1, 9)), (2, (0, cn)), (3, (1, 250)), (4, (0, a)), (5, (0, g)), (6, (1, 17 * a + 86)), (7, (0, y7b)), (8, (0, y8))], [], v2) _
                      refine e_Ok.run (t' := (92, [(9, (0, y9 + 1)), (10, (0, (-1))), (0, (1, 262)), (1, (1, 9)), (2, (0, cn)), (3, (1, 250)), (4, (0, a)), (5, (0, g)), (6, (1, 17 * a + 86)), (7, (0, y7b)), (8, (0, y8))], [], v2)) 1 rfl ?_
                      refine e_Ok.sub kAlk (e_sub_of rfl ?_) (ih58 y7b (y9 + 1) v2 ⟨j59, j60, j61, j62, by omega, j64, j65, by omega⟩ (by omega))
                      exact ⟨rfl, rfl, rfl, rfl, rfl, rfl, rfl, rfl, rfl, rfl, trivial⟩
                    · replace h74 : ((-1) : Int) ≥ 0 := by have q : ¬ (((-1) : Int) < 0) := h74; omega
                      exfalso; omega
                  · show e_Ok 20 elay kcode eI (d + 1) 100 (117, [(0, (1, 262)), (1, (1, 9)), (2, (0, cn)), (3, (1, 250)), (4, (0, a)), (5, (0, g)), (6, (1, 17 * a + 86)), (7, (0, y7b)), (8, (0, y8)), (9, (0, y9))], [(0, z72)], v2) _
                    refine e_Ok.run (t' := (121, [(10, (0, z72)), (0, (1, 262)), (1, (1, 9)), (2, (0, cn)), (3, (1, 250)), (4, (0, a)), (5, (0, g)), (6, (1, 17 * a + 86)), (7, (0, y7b)), (8, (0, y8)), (9, (0, y9))], [(0, z72)], v2)) 2 rfl ?_
                    refine e_Ok.if1 rfl (fun h75 => ?_) (fun h75 => ?_)
                    · replace h75 : (z72 : Int) < 0 := h75
                      exfalso; omega
                    · replace h75 : (z72 : Int) ≥ 0 := by have q : ¬ ((z72 : Int) < 0) := h75; omega
                      have hcz := j62.came (by omega) hzr
                      refine e_Ok.run (t' := (125, [(10, (0, z72)), (0, (1, 262)), (1, (1, 9)), (2, (0, cn)), (3, (1, 250)), (4, (0, a)), (5, (0, g)), (6, (1, 17 * a + 86)), (7, (0, y7b)), (8, (0, y8)), (9, (0, y9))], [(1, 262)], v2)) 1 rfl ?_
                      refine e_Ok.getr (z := 268) rfl (el_o rfl) rfl rfl ((j59 262 9 (by unfold kSr; omega)).trans (Eq.trans (e_Has.eq hT rfl) (by omega))) (by omega) ?_
                      refine e_Ok.run (t' := (130, [(10, (0, z72)), (0, (1, 262)), (1, (1, 9)), (2, (0, cn)), (3, (1, 250)), (4, (0, a)), (5, (0, g)), (6, (1, 17 * a + 86)), (7, (0, y7b)), (8, (0, y8)), (9, (0, y9))], [(0, z72), (1, 268)], v2)) 1 rfl ?_
                      refine e_Ok.ald (z := v2 268 z72) rfl (el_o rfl) rfl (by omega) rfl (by omega) ?_
                      refine e_Ok.if1 rfl (fun h76 => ?_) (fun h76 => ?_)
                      · replace h76 : (v2 268 z72 : Int) ≠ 0 := h76
                        refine e_Ok.inc (z := y9 + 1) rfl rfl (by omega) (by omega) ?_
                        show e_Ok 20 elay kcode eI (d + 1) 100 (190, [(9, (0, y9 + 1)), (10, (0, z72)), (0, (1, 262)), (1, (1, 9)), (2, (0, cn)), (3, (1, 250)), (4, (0, a)), (5, (0, g)), (6, (1, 17 * a + 86)), (7, (0, y7b)), (8, (0, y8))], [], v2) _
                        refine e_Ok.run (t' := (92, [(9, (0, y9 + 1)), (10, (0, z72)), (0, (1, 262)), (1, (1, 9)), (2, (0, cn)), (3, (1, 250)), (4, (0, a)), (5, (0, g)), (6, (1, 17 * a + 86)), (7, (0, y7b)), (8, (0, y8))], [], v2)) 1 rfl ?_
                        refine e_Ok.sub kAlk (e_sub_of rfl ?_) (ih58 y7b (y9 + 1) v2 ⟨j59, j60, j61, j62, by omega, j64, j65, by omega⟩ (by omega))
                        exact ⟨rfl, rfl, rfl, rfl, rfl, rfl, rfl, rfl, rfl, rfl, trivial⟩
                      · replace h76 : (v2 268 z72 : Int) = 0 := by have q : ¬ ((v2 268 z72 : Int) ≠ 0) := h76; omega
                        refine e_Ok.run (t' := (139, [(10, (0, z72)), (0, (1, 262)), (1, (1, 9)), (2, (0, cn)), (3, (1, 250)), (4, (0, a)), (5, (0, g)), (6, (1, 17 * a + 86)), (7, (0, y7b)), (8, (0, y8)), (9, (0, y9))], [(0, 1000), (0, y7b)], v2)) 2 rfl ?_
                        refine e_Ok.if2 rfl (fun h77 => ?_) (fun h77 => ?_)
                        · replace h77 : (y7b : Int) < 1000 := h77
                          refine e_Ok.run (t' := (155, [(10, (0, z72)), (0, (1, 262)), (1, (1, 9)), (2, (0, cn)), (3, (1, 250)), (4, (0, a)), (5, (0, g)), (6, (1, 17 * a + 86)), (7, (0, y7b)), (8, (0, y8)), (9, (0, y9))], [(0, z72), (0, y9), (0, a), (1, 250), (0, cn), (1, 9), (1, 262)], v2)) 7 rfl ?_
                          refine e_Ok.callV rfl (by omega) rfl rfl rfl rfl (c_104 (by omega) j60 hL2 ga (by omega) (by omega) (by omega) j61 j65) (fun r78 w79 h80 => ?_)
                          obtain ⟨z81, rfl, q82f, q82T, q82r, q82k, q82v, q82c, q82d⟩ := h80
                          have f83 : e_fr (kSr a m) w w79 := e_fr.trans j59 (e_fr.mono q82f (fun c k q => by exact (by unfold kPs at q; unfold kSr; omega)))
                          have B5 : BF w79 (w 265) m (kpr (w 265) m.toNat) y7b (w 262 3) := j62.blk hzr (by omega) (fun k => q82f _ _ (by unfold kPs; omega)) q82c q82d
                          have v5 : ∀ j, 0 ≤ j ∧ j < m → -100000 ≤ w79 (17 * a + j + 97) 7 ∧ w79 (17 * a + j + 97) 7 ≤ 100000 := fun j g1 => by rw [q82v j g1.1 (by omega)]; exact j65 j g1
                          have z51 : w79 268 z72 < 1 := by omega
                          show e_Ok 20 elay kcode eI (d + 1) 100 (158, [(10, (0, z72)), (0, (1, 262)), (1, (1, 9)), (2, (0, cn)), (3, (1, 250)), (4, (0, a)), (5, (0, g)), (6, (1, 17 * a + 86)), (7, (0, y7b)), (8, (0, y8)), (9, (0, y9))], [(0, z81)], w79) _
                          refine e_Ok.if1 rfl (fun h84 => ?_) (fun h84 => ?_)
                          · replace h84 : (z81 : Int) ≠ 0 := h84
                            refine e_Ok.run (t' := (165, [(10, (0, z72)), (0, (1, 262)), (1, (1, 9)), (2, (0, cn)), (3, (1, 250)), (4, (0, a)), (5, (0, g)), (6, (1, 17 * a + 86)), (7, (0, y7b)), (8, (0, y8)), (9, (0, y9))], [(1, 262)], w79)) 1 rfl ?_
                            refine e_Ok.getr (z := 268) rfl (el_o rfl) rfl rfl ((q82f 262 9 (by unfold kPs; omega)).trans ((j59 262 9 (by unfold kSr; omega)).trans (Eq.trans (e_Has.eq hT rfl) (by omega)))) (by omega) ?_
                            refine e_Ok.run (t' := (173, [(10, (0, z72)), (0, (1, 262)), (1, (1, 9)), (2, (0, cn)), (3, (1, 250)), (4, (0, a)), (5, (0, g)), (6, (1, 17 * a + 86)), (7, (0, y7b)), (8, (0, y8)), (9, (0, y9))], [(0, 1), (0, y9), (0, z72), (1, 268)], w79)) 3 rfl ?_
                            refine e_Ok.add (z := y9 + 1) rfl (by omega) (by omega) ?_
                            refine e_Ok.ast rfl (el_o rfl) rfl rfl (by omega) ?_
                            generalize hw85 : e_up w79 268 z72 (y9 + 1) = w85
                            have f86 : e_fr (kSr a m) w w85 := e_fr.up f83 hw85 (by unfold kSr; omega)
                            have hT87 : e_Has kTy w85 := e_Has.ups q82T hw85 rfl
                            refine e_Ok.run (t' := (176, [(10, (0, z72)), (0, (1, 262)), (1, (1, 9)), (2, (0, cn)), (3, (1, 250)), (4, (0, a)), (5, (0, g)), (6, (1, 17 * a + 86)), (7, (0, y7b)), (8, (0, y8)), (9, (0, y9))], [(1, 262)], w85)) 1 rfl ?_
                            refine e_Ok.getr (z := 267) rfl (el_o rfl) rfl rfl (by rw [← hw85]; exact (e_up_ne _ _ (Or.inl (by omega))).trans ((q82f 262 8 (by unfold kPs; omega)).trans ((j59 262 8 (by unfold kSr; omega)).trans (Eq.trans (e_Has.eq hT rfl) (by omega))))) (by omega) ?_
                            refine e_Ok.run (t' := (183, [(10, (0, z72)), (0, (1, 262)), (1, (1, 9)), (2, (0, cn)), (3, (1, 250)), (4, (0, a)), (5, (0, g)), (6, (1, 17 * a + 86)), (7, (0, y7b)), (8, (0, y8)), (9, (0, y9))], [(0, z72), (0, y7b), (1, 267)], w85)) 2 rfl ?_
                            refine e_Ok.ast rfl (el_o rfl) rfl rfl (by omega) ?_
                            generalize hw88 : e_up w85 267 y7b z72 = w88
                            have f89 : e_fr (kSr a m) w w88 := e_fr.up f86 hw88 (by unfold kSr; omega)
                            have hT90 : e_Has kTy w88 := e_Has.ups hT87 hw88 rfl
                            refine e_Ok.inc (z := y7b + 1) rfl rfl (by omega) (by omega) ?_
                            show e_Ok 20 elay kcode eI (d + 1) 100 (187, [(7, (0, y7b + 1)), (10, (0, z72)), (0, (1, 262)), (1, (1, 9)), (2, (0, cn)), (3, (1, 250)), (4, (0, a)), (5, (0, g)), (6, (1, 17 * a + 86)), (8, (0, y8)), (9, (0, y9))], [], w88) _
                            refine e_Ok.inc (z := y9 + 1) rfl rfl (by omega) (by omega) ?_
                            show e_Ok 20 elay kcode eI (d + 1) 100 (190, [(9, (0, y9 + 1)), (7, (0, y7b + 1)), (10, (0, z72)), (0, (1, 262)), (1, (1, 9)), (2, (0, cn)), (3, (1, 250)), (4, (0, a)), (5, (0, g)), (6, (1, 17 * a + 86)), (8, (0, y8))], [], w88) _
                            refine e_Ok.run (t' := (92, [(9, (0, y9 + 1)), (7, (0, y7b + 1)), (10, (0, z72)), (0, (1, 262)), (1, (1, 9)), (2, (0, cn)), (3, (1, 250)), (4, (0, a)), (5, (0, g)), (6, (1, 17 * a + 86)), (8, (0, y8))], [], w88)) 1 rfl ?_
                            refine e_Ok.sub kAlk (e_sub_of rfl ?_) (ih58 (y7b + 1) (y9 + 1) w88 ⟨f89, hT90, (fun b g1 g2 => ((q82k b g1 g2).up hw85 (by omega) (by omega) (by omega)).up hw88 (by omega) (by omega) (by omega)), (BF.add B5 hzr z51 (by omega) (by omega) (i := y8) (by omega) (by rw [q82f 267 y8 (by unfold kPs; omega), j64]; exact hkl) hw85 hw88), by omega, (by rw [← hw88, e_up_ne _ _ (by omega), ← hw85, e_up_ne _ _ (by omega)]; exact Eq.trans (q82f _ _ (by unfold kPs; omega)) j64), (fun j g1 => by rw [← hw88, e_up_ne _ _ (by omega), ← hw85, e_up_ne _ _ (by omega)]; exact v5 j g1), by omega⟩ (by omega))
                            exact ⟨rfl, rfl, rfl, rfl, rfl, rfl, rfl, rfl, rfl, rfl, trivial⟩
                          · replace h84 : (z81 : Int) = 0 := by have q : ¬ ((z81 : Int) ≠ 0) := h84; omega
                            refine e_Ok.run (t' := (187, [(10, (0, z72)), (0, (1, 262)), (1, (1, 9)), (2, (0, cn)), (3, (1, 250)), (4, (0, a)), (5, (0, g)), (6, (1, 17 * a + 86)), (7, (0, y7b)), (8, (0, y8)), (9, (0, y9))], [], w79)) 1 rfl ?_
                            refine e_Ok.inc (z := y9 + 1) rfl rfl (by omega) (by omega) ?_
                            show e_Ok 20 elay kcode eI (d + 1) 100 (190, [(9, (0, y9 + 1)), (10, (0, z72)), (0, (1, 262)), (1, (1, 9)), (2, (0, cn)), (3, (1, 250)), (4, (0, a)), (5, (0, g)), (6, (1, 17 * a + 86)), (7, (0, y7b)), (8, (0, y8))], [], w79) _
                            refine e_Ok.run (t' := (92, [(9, (0, y9 + 1)), (10, (0, z72)), (0, (1, 262)), (1, (1, 9)), (2, (0, cn)), (3, (1, 250)), (4, (0, a)), (5, (0, g)), (6, (1, 17 * a + 86)), (7, (0, y7b)), (8, (0, y8))], [], w79)) 1 rfl ?_
                            refine e_Ok.sub kAlk (e_sub_of rfl ?_) (ih58 y7b (y9 + 1) w79 ⟨f83, q82T, q82k, B5, by omega, (Eq.trans (q82f _ _ (by unfold kPs; omega)) j64), v5, by omega⟩ (by omega))
                            exact ⟨rfl, rfl, rfl, rfl, rfl, rfl, rfl, rfl, rfl, rfl, trivial⟩
                        · replace h77 : (y7b : Int) ≥ 1000 := by have q : ¬ ((y7b : Int) < 1000) := h77; omega
                          refine e_Ok.run (t' := (187, [(10, (0, z72)), (0, (1, 262)), (1, (1, 9)), (2, (0, cn)), (3, (1, 250)), (4, (0, a)), (5, (0, g)), (6, (1, 17 * a + 86)), (7, (0, y7b)), (8, (0, y8)), (9, (0, y9))], [], v2)) 1 rfl ?_
                          refine e_Ok.inc (z := y9 + 1) rfl rfl (by omega) (by omega) ?_
                          show e_Ok 20 elay kcode eI (d + 1) 100 (190, [(9, (0, y9 + 1)), (10, (0, z72)), (0, (1, 262)), (1, (1, 9)), (2, (0, cn)), (3, (1, 250)), (4, (0, a)), (5, (0, g)), (6, (1, 17 * a + 86)), (7, (0, y7b)), (8, (0, y8))], [], v2) _
                          refine e_Ok.run (t' := (92, [(9, (0, y9 + 1)), (10, (0, z72)), (0, (1, 262)), (1, (1, 9)), (2, (0, cn)), (3, (1, 250)), (4, (0, a)), (5, (0, g)), (6, (1, 17 * a + 86)), (7, (0, y7b)), (8, (0, y8))], [], v2)) 1 rfl ?_
                          refine e_Ok.sub kAlk (e_sub_of rfl ?_) (ih58 y7b (y9 + 1) v2 ⟨j59, j60, j61, j62, by omega, j64, j65, by omega⟩ (by omega))
                          exact ⟨rfl, rfl, rfl, rfl, rfl, rfl, rfl, rfl, rfl, rfl, trivial⟩
            refine e_Ok.sub kAlk (e_sub_of rfl ?_) (hL57 (12 + 1 : Int).toNat y7 0 w53 ⟨f56, q55T, (aK.any q55f (fun b c k g1 g2 g3 => by unfold kJv at g3; omega) j23), (j24.eq (fun c k g => q55f c k (by unfold kJv; omega))), by omega, (q55f _ _ (by unfold kJv; omega)), (fun j g1 => by rw [q55x j g1.1 g1.2]; have z1 := hL1.val (x := v1 267 y8) g1; have z2 := (hL1.2.2.2 j g1.1 g1.2).2.1; omega), by omega⟩ (by omega))
            exact ⟨rfl, rfl, rfl, rfl, rfl, rfl, rfl, rfl, rfl, rfl, trivial⟩
    refine e_Ok.sub kAlk (e_sub_of rfl ?_) (hL19 (1000 + 1 : Int).toNat 1 0 w16 ⟨f17, hT18, (fun b g1 g2 => ((ka2 b g1 g2).up hw13 (by omega) (by omega) (by omega)).up hw16 (by omega) (by omega) (by omega)), (BF.start hog c0 hNk hw13 hw16), by omega, by omega⟩ (by omega))
    exact ⟨rfl, rfl, rfl, rfl, rfl, rfl, rfl, rfl, rfl, trivial⟩
  · replace h12 : (z9 : Int) ≠ 0 := by have q : ¬ ((z9 : Int) = 0) := h12; omega
    refine e_Ok.run (t' := (31, [(6, (1, 17 * a + 86)), (0, (1, 262)), (1, (1, 9)), (2, (0, cn)), (3, (1, 250)), (4, (0, a)), (5, (0, g))], [(0, 0)], w7)) 1 rfl ?_
    refine e_Ok.rets rfl rfl ?_
    exact ⟨_, rfl, f11, q10T, by omega, ka2, (fun j g1 g2 => by rw [q10f _ _ (by unfold kTc; omega), q4f _ _ (by unfold kF68; omega)]), aQ.sr ga (by omega) f11 hT q10T (fun g => aP.sc ga (e_fr.trans (q4f.mono (fun c k q => by unfold kF68 at q; unfold kSc; omega)) (q10f.mono (fun c k q => by unfold kTc at q; unfold kSc; omega))) hT q10T g), fun g => absurd g (by omega)⟩
end
