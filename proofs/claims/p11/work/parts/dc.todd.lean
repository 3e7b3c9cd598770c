-- part dc
section
noncomputable section
/-! the class: the search itself -/
def kSc (c k : Int) : Prop := c = 268 ∨ (c = 250 ∧ 13 ≤ k ∧ k ≤ 16)
theorem aP.sc {w w' : eW} {a : Int} (ga : 0 ≤ a ∧ a ≤ 3) (fr : e_fr kSc w w') (hT : e_Has kTy w) (hT' : e_Has kTy w') (h : aP w a) : aP w' a := by
  have hjn := kn_joints hT ga
  refine h.eq (fr _ _ (by unfold kSc; omega)) (fun c k q => ?_) (fun k g => ⟨fr _ _ (by unfold kSc; omega), fr _ _ (by unfold kSc; omega)⟩)
  rcases q with q | ⟨j, hj, rfl, rfl⟩
  · refine Kq.of (fr.mono (fun c k g => ?_)) hT hT' c k q
    unfold kSc at g
    rcases g with g | g
    · unfold kNh; omega
    · exact Or.inl (Or.inr (Or.inr (Or.inr (Or.inr (Or.inr (Or.inr (Or.inr (Or.inr (Or.inr (Or.inr (Or.inl (by omega))))))))))))
  · exact fr _ _ (by unfold kSc; omega)
theorem tvV.eq {w w' : eW} {n x j : Int} (h : ∀ c k, 263 ≤ c → c ≤ 266 → w' c k = w c k) : tvV w' n x j = tvV w n x j := by
  have e5 : w' 265 = w 265 := funext (fun k => h 265 k (by omega) (by omega))
  unfold tvV
  rw [h 263 j (by omega) (by omega), h 264 j (by omega) (by omega), e5]
theorem no_dc_0 {k : Int} : ¬ kF68 262 k := by unfold kF68; omega
theorem no_dc_1 {k : Int} : ¬ kTc 262 k := by unfold kTc; omega
theorem no_dc_2 {a : Int} {m : Int} : ¬ kJv a m 262 9 := by unfold kJv; omega
theorem su_dc_3 {c k : Int} (q : kF68 c k) : kSc c k := by
  unfold kF68 at q
  rcases q with q
  · exact Or.inl (by omega)
theorem su_dc_4 {c k : Int} (q : kTc c k) : kSc c k := by
  unfold kTc at q
  rcases q with ⟨q, ⟨q, q⟩⟩
  · exact Or.inr ⟨(by omega), ⟨(by omega), (by omega)⟩⟩
set_option maxHeartbeats 4000000 in
theorem c_100 {d : Nat} (hd : 27 ≤ d) {w : eW} (hT : e_Has kTy w) {a n m : Int} (hL : lyI w a n m) (ga : 0 ≤ a ∧ a ≤ 3) {cn g : Int} (gc : 0 ≤ cn ∧ cn ≤ 4) (gg : 0 ≤ g ∧ g < kpr (w 265) m.toNat) (ka : ∀ b, 0 ≤ b → b ≤ 3 → aK w b) (hvv : ∀ j, 0 ≤ j → j < m → w (17 * a + j + 97) 7 = w 263 j) : e_Ok 20 elay kcode eI d 100 (0, [(0, (1, 262)), (1, (1, 9)), (2, (0, cn)), (3, (1, 250)), (4, (0, a)), (5, (0, g))], [], w) (fun r w' => ∃ z : Int, r = [(0, z)] ∧ e_fr (kSr a m) w w' ∧ e_Has kTy w' ∧ (0 ≤ z ∧ z ≤ 1) ∧ (∀ b, 0 ≤ b → b ≤ 3 → aK w' b) ∧ (∀ j, 0 ≤ j → j ≤ 5 → w' (17 * a + j + 97) 7 = w (17 * a + j + 97) 7) ∧ aQ w w' ∧ (z = 1 → ∃ t, BF w' (w 265) m (kpr (w 265) m.toNat) t (w 262 3) ∧ 1 ≤ w' 268 g)) := by
  obtain ⟨d, rfl⟩ : ∃ e, d = e + 1 := ⟨d - 1, by omega⟩
  have hm := hL.1.2.1
  have hm8 : w (17 * a + 86) 8 = m := hL.1.2.2.1
  have hn1 := hL.1.1
  have hw1 : w 262 1 = n := hL.1.2.2.2.1
  have hw2 := hL.1.2.2.2.2; unfold kn1 at hw2
  have hNk := hL.2.2.1
  have hog := hL.og.1
  refine e_Ok.ps2 (x := (0, a)) (y := (1, 9)) (q := 3) 2 rfl ?_
  refine e_Ok.aald (z := 17 * a + 86) rfl (el_o rfl) rfl (by omega) (Eq.trans (e_Has.eq hT (k9 (by omega))) (by omega)) (by omega) ?_
  refine e_Ok.run (t' := (7, [(6, (1, 17 * a + 86)), (0, (1, 262)), (1, (1, 9)), (2, (0, cn)), (3, (1, 250)), (4, (0, a)), (5, (0, g))], [(1, 262)], w)) 2 rfl ?_
  refine e_Ok.getr (z := 268) rfl (el_o rfl) rfl rfl (e_Has.eq hT (kt_o rfl)) ⟨by decide, by decide⟩ ?_
  refine e_Ok.ps1 (x := (0, 0)) (q := 11) 1 rfl ?_
  refine e_Ok.callS rfl (e_dq hd rfl) rfl rfl (c_452_68 hT) (fun r1 w2 h3 => ?_)
  obtain ⟨rfl, q4f, q4T, q4x⟩ := h3
  have ka1 := aK.any q4f (fun b c k g1 g2 g3 => by unfold kF68 at g3; omega) ka
  refine e_Ok.nrm (q := 14) (st' := []) rfl rfl ?_
  refine e_Ok.run (t' := (21, [(6, (1, 17 * a + 86)), (0, (1, 262)), (1, (1, 9)), (2, (0, cn)), (3, (1, 250)), (4, (0, a)), (5, (0, g))], [(1, 262), (0, 0), (0, a), (0, cn), (1, 9), (1, 250)], w2)) 6 rfl ?_
  refine e_Ok.getf (z := w 262 2) rfl (el_o rfl) rfl rfl ((q4f 262 2 no_dc_0).trans rfl) (by omega) ?_
  refine e_Ok.callV rfl (e_dq hd rfl) rfl rfl rfl rfl (c_171 (e_dq hd rfl) q4T (by omega) (by omega) (by omega) (by omega) ka1) (fun r6 w7 h8 => ?_)
  obtain ⟨z9, rfl, q10f, q10T, q10r⟩ := h8
  have f11 : e_fr (kSr a m) w w7 := e_fr.trans (show e_fr (kSr a m) w w2 from e_fr.trans (e_fr.refl w) (e_fr.mono q4f (fun c k q => by exact (by unfold kF68 at q; unfold kSr; omega)))) (e_fr.mono q10f (fun c k q => by exact (by unfold kTc at q; unfold kSr; omega)))
  have ka2 := aK.any q10f (fun b c k g1 g2 g3 => by unfold kTc at g3; omega) ka1
  have c0 : ∀ k, 0 ≤ k → k < 1000 → w7 268 k = 0 := fun k g1 g2 => by rw [q10f _ _ (by unfold kTc; omega)]; exact q4x k g1 g2
  refine e_Ok.nrm (q := 27) (st' := [(0, z9)]) rfl rfl ?_
  refine e_Ok.if1 rfl (fun h12 => ?_) (fun h12 => ?_)
  · replace h12 : (z9 : Int) = 0 := h12
    refine e_Ok.ps1 (x := (1, 262)) (q := 33) 1 rfl ?_
    refine e_Ok.getr (z := 268) rfl (el_o rfl) rfl rfl ((q10f 262 9 no_dc_1).trans ((q4f 262 9 no_dc_0).trans (e_Has.eq hT (kt_o rfl)))) ⟨by decide, by decide⟩ ?_
    refine e_Ok.ps1 (x := (1, 262)) (q := 37) 1 rfl ?_
    refine e_Ok.getf (z := w 262 3) rfl (el_o rfl) rfl rfl ((q10f 262 3 no_dc_1).trans ((q4f 262 3 no_dc_0).trans rfl)) (by omega) ?_
    refine e_Ok.ps1 (x := (0, 100)) (q := 42) 1 rfl ?_
    refine e_Ok.ast rfl (el_o rfl) rfl rfl (by omega) ?_
    generalize hw13 : e_up w7 268 (w 262 3) 100 = w13
    have hT15 : e_Has kTy w13 := e_Has.ups q10T hw13 (kt_o rfl)
    refine e_Ok.ps1 (x := (1, 262)) (q := 44) 1 rfl ?_
    refine e_Ok.getr (z := 267) rfl (el_o rfl) rfl rfl (e_uq hw13 (Or.inl (by decide)) ((q10f 262 8 no_dc_1).trans ((q4f 262 8 no_dc_0).trans (e_Has.eq hT (kt_o rfl))))) ⟨by decide, by decide⟩ ?_
    refine e_Ok.ps2 (x := (1, 262)) (y := (0, 0)) (q := 49) 2 rfl ?_
    refine e_Ok.getf (z := w 262 3) rfl (el_o rfl) rfl rfl (e_uq hw13 (Or.inl (by decide)) ((q10f 262 3 no_dc_1).trans ((q4f 262 3 no_dc_0).trans rfl))) (by omega) ?_
    refine e_Ok.ast rfl (el_o rfl) rfl rfl (by omega) ?_
    generalize hw16 : e_up w13 267 0 (w 262 3) = w16
    have hT18 : e_Has kTy w16 := e_Has.ups hT15 hw16 (kt_o rfl)
    refine e_Ok.run (t' := (59, [(8, (0, 0)), (7, (0, 1)), (6, (1, 17 * a + 86)), (0, (1, 262)), (1, (1, 9)), (2, (0, cn)), (3, (1, 250)), (4, (0, a)), (5, (0, g))], [], w16)) 4 rfl ?_
    have hL19 : ∀ (nn : Nat) (y7 : Int) (y8 : Int) (v1 : eW), e_fr (kSr a m) w v1 ∧ e_Has kTy v1 ∧ (∀ b, 0 ≤ b → b ≤ 3 → aK v1 b) ∧ BF v1 (w 265) m (kpr (w 265) m.toNat) y7 (w 262 3) ∧ ((1 ≤ y7 ∧ y7 ≤ 1000)) ∧ ((0 ≤ y8 ∧ y8 ≤ y7)) → 1000 - y8 < nn → e_Ok 20 elay kcode eI (d + 1) 100 (59, [(0, (1, 262)), (1, (1, 9)), (2, (0, cn)), (3, (1, 250)), (4, (0, a)), (5, (0, g)), (6, (1, 17 * a + 86)), (7, (0, y7)), (8, (0, y8))], [], v1) (fun r w' => ∃ z : Int, r = [(0, z)] ∧ e_fr (kSr a m) w w' ∧ e_Has kTy w' ∧ (0 ≤ z ∧ z ≤ 1) ∧ (∀ b, 0 ≤ b → b ≤ 3 → aK w' b) ∧ (∀ j, 0 ≤ j → j ≤ 5 → w' (17 * a + j + 97) 7 = w (17 * a + j + 97) 7) ∧ aQ w w' ∧ (z = 1 → ∃ t, BF w' (w 265) m (kpr (w 265) m.toNat) t (w 262 3) ∧ 1 ≤ w' 268 g)) := by
      intro nn
      induction nn with
      | zero => intro y7 y8 v1 hj hm; obtain ⟨j21, j22, j23, j24, j25, j26⟩ := hj; exfalso; omega
      | succ nn ih20 =>
        intro y7 y8 v1 hj hm
        obtain ⟨j21, j22, j23, j24, j25, j26⟩ := hj
        refine e_Ok.run (t' := (63, [(0, (1, 262)), (1, (1, 9)), (2, (0, cn)), (3, (1, 250)), (4, (0, a)), (5, (0, g)), (6, (1, 17 * a + 86)), (7, (0, y7)), (8, (0, y8))], [(0, y7), (0, y8)], v1)) 2 rfl ?_
        refine e_Ok.if2 rfl (fun h27 => ?_) (fun h27 => ?_)
        · replace h27 : (y8 : Int) ≥ y7 := h27
          have hL1 : lyI v1 a n m := hL.eq (fun c k g => j21 c k (by unfold kSr; omega))
          have hcg := j24.came (by omega) gg
          refine e_Ok.run (t' := (203, [(0, (1, 262)), (1, (1, 9)), (2, (0, cn)), (3, (1, 250)), (4, (0, a)), (5, (0, g)), (6, (1, 17 * a + 86)), (7, (0, y7)), (8, (0, y8))], [(1, 262), (1, 17 * a + 86), (1, 262)], v1)) 3 rfl ?_
          refine e_Ok.getf (z := w 262 3) rfl (el_o rfl) rfl rfl ((j21 262 3 (by unfold kSr; omega)).trans rfl) (by omega) ?_
          refine e_Ok.callV rfl (e_dq hd rfl) rfl rfl rfl rfl (c_102 (e_dq hd rfl) j22 hL1 (x := w 262 3) ga (by omega)) (fun r28 w29 h30 => ?_)
          obtain ⟨rfl, q31f, q31T, q31x⟩ := h30
          have f32 : e_fr (kSr a m) w w29 := e_fr.trans j21 (e_fr.mono q31f (fun c k q => by exact (by unfold kJv at q; unfold kSr; omega)))
          refine e_Ok.nrm (q := 209) (st' := []) rfl rfl ?_
          refine e_Ok.ps1 (x := (1, 17 * a + 86)) (q := 211) 1 rfl ?_
          have ka6 := aK.any q31f (fun b c k g1 g2 g3 => by unfold kJv at g3; omega) j23
          have j6 := kn_joints q31T (a := a) ga
          refine e_Ok.callV rfl (e_dq hd rfl) rfl (lA0 (a := a) rfl ga) rfl rfl (c_10_pm (e_dq hd rfl) (a := a) q31T ga ((f32 _ _ (by unfold kSr; omega)).trans hm8) ((ka6 a ga.1 ga.2).1 0 (by omega) (by omega)) ((ka6 a ga.1 ga.2).2 0 (by omega) (by omega))) (fun r33 w34 h35 => ?_)
          obtain ⟨rfl, q36f, q36T, q36x, q36p⟩ := h35
          have f37 : e_fr (kSr a m) w w34 := e_fr.trans f32 (e_fr.mono q36f (fun c k q => by exact (by unfold kPm at q; unfold kSr; omega)))
          have ka7 := aK.all ga q36f (fun b c k g1 g2 g3 g4 => by unfold kPm at g4; omega) ka6 q36x
          have val7 : ∀ j, 0 ≤ j → j ≤ 5 → w34 (17 * a + j + 97) 7 = w (17 * a + j + 97) 7 := fun j g1 g2 => by
            by_cases e : j < m
            · rw [q36f _ _ (by unfold kPm; omega), q31x j g1 e, tvV.eq (w := w) (fun c k g3 g4 => j21 c k (by unfold kSr; omega)), hL.ogv ⟨g1, e⟩]; exact (hvv j g1 e).symm
            · exact f37 _ _ (by unfold kSr; omega)
          have B7 : BF w34 (w 265) m (kpr (w 265) m.toNat) y7 (w 262 3) := (j24.eq (fun c k g => q31f c k (by unfold kJv; omega))).eq (fun c k g => q36f c k (by unfold kPm; omega))
          have g7 : w34 268 g = v1 268 g := (q36f _ _ (by unfold kPm; omega)).trans (q31f _ _ (by unfold kJv; omega))
          show e_Ok 20 elay kcode eI (d + 1) 100 (214, [(0, (1, 262)), (1, (1, 9)), (2, (0, cn)), (3, (1, 250)), (4, (0, a)), (5, (0, g)), (6, (1, 17 * a + 86)), (7, (0, y7)), (8, (0, y8))], [], w34) _
          refine e_Ok.ps1 (x := (1, 262)) (q := 215) 1 rfl ?_
          refine e_Ok.getr (z := 268) rfl (el_o rfl) rfl rfl ((q36f 262 9 (by unfold kPm; omega)).trans ((q31f 262 9 (by first | exact no_dc_2 | (unfold kJv; omega))).trans ((j21 262 9 (by unfold kSr; omega)).trans (e_Has.eq hT (kt_o rfl))))) ⟨by decide, by decide⟩ ?_
          refine e_Ok.ps1 (x := (0, g)) (q := 220) 1 rfl ?_
          refine e_Ok.ald (z := v1 268 g) rfl (el_o rfl) rfl (by omega) ((q36f 268 g (by unfold kPm; omega)).trans ((q31f 268 g (by unfold kJv; omega)).trans rfl)) (by omega) ?_
          refine e_Ok.if1 rfl (fun h38 => ?_) (fun h38 => ?_)
          · replace h38 : (v1 268 g : Int) ≤ 0 := h38
            refine e_Ok.ps1 (x := (0, 0)) (q := 229) 1 rfl ?_
            refine e_Ok.rets rfl rfl ?_
            exact ⟨_, rfl, f37, q36T, by omega, ka7, val7, aQ.sr ga (by omega) f37 hT q36T (fun _ => q36p), fun g => absurd g (by omega)⟩
          · replace h38 : (v1 268 g : Int) > 0 := Int.not_le.mp (show ¬ ((v1 268 g : Int) ≤ 0) from h38)
            refine e_Ok.ps1 (x := (0, 1)) (q := 229) 2 rfl ?_
            refine e_Ok.rets rfl rfl ?_
            exact ⟨_, rfl, f37, q36T, by omega, ka7, val7, aQ.sr ga (by omega) f37 hT q36T (fun _ => q36p), fun _ => ⟨y7, B7, by omega⟩⟩
        · replace h27 : (y8 : Int) < y7 := Int.not_le.mp (show ¬ ((y8 : Int) ≥ y7) from h27)
          have hcg := j24.came (by omega) gg
          refine e_Ok.ps1 (x := (1, 262)) (q := 67) 1 rfl ?_
          refine e_Ok.getr (z := 268) rfl (el_o rfl) rfl rfl ((j21 262 9 (by unfold kSr; omega)).trans (e_Has.eq hT (kt_o rfl))) ⟨by decide, by decide⟩ ?_
          refine e_Ok.ps1 (x := (0, g)) (q := 72) 1 rfl ?_
          refine e_Ok.ald (z := v1 268 g) rfl (el_o rfl) rfl (by omega) rfl (by omega) ?_
          refine e_Ok.if1 rfl (fun h40 => ?_) (fun h40 => ?_)
          · replace h40 : (v1 268 g : Int) ≠ 0 := h40
            have hL1 : lyI v1 a n m := hL.eq (fun c k g => j21 c k (by unfold kSr; omega))
            refine e_Ok.run (t' := (203, [(0, (1, 262)), (1, (1, 9)), (2, (0, cn)), (3, (1, 250)), (4, (0, a)), (5, (0, g)), (6, (1, 17 * a + 86)), (7, (0, y7)), (8, (0, y8))], [(1, 262), (1, 17 * a + 86), (1, 262)], v1)) 3 rfl ?_
            refine e_Ok.getf (z := w 262 3) rfl (el_o rfl) rfl rfl ((j21 262 3 (by unfold kSr; omega)).trans rfl) (by omega) ?_
            refine e_Ok.callV rfl (e_dq hd rfl) rfl rfl rfl rfl (c_102 (e_dq hd rfl) j22 hL1 (x := w 262 3) ga (by omega)) (fun r41 w42 h43 => ?_)
            obtain ⟨rfl, q44f, q44T, q44x⟩ := h43
            have f45 : e_fr (kSr a m) w w42 := e_fr.trans j21 (e_fr.mono q44f (fun c k q => by exact (by unfold kJv at q; unfold kSr; omega)))
            refine e_Ok.nrm (q := 209) (st' := []) rfl rfl ?_
            refine e_Ok.ps1 (x := (1, 17 * a + 86)) (q := 211) 1 rfl ?_
            have ka6 := aK.any q44f (fun b c k g1 g2 g3 => by unfold kJv at g3; omega) j23
            have j6 := kn_joints q44T (a := a) ga
            refine e_Ok.callV rfl (e_dq hd rfl) rfl (lA0 (a := a) rfl ga) rfl rfl (c_10_pm (e_dq hd rfl) (a := a) q44T ga ((f45 _ _ (by unfold kSr; omega)).trans hm8) ((ka6 a ga.1 ga.2).1 0 (by omega) (by omega)) ((ka6 a ga.1 ga.2).2 0 (by omega) (by omega))) (fun r46 w47 h48 => ?_)
            obtain ⟨rfl, q49f, q49T, q49x, q49p⟩ := h48
            have f50 : e_fr (kSr a m) w w47 := e_fr.trans f45 (e_fr.mono q49f (fun c k q => by exact (by unfold kPm at q; unfold kSr; omega)))
            have ka7 := aK.all ga q49f (fun b c k g1 g2 g3 g4 => by unfold kPm at g4; omega) ka6 q49x
            have val7 : ∀ j, 0 ≤ j → j ≤ 5 → w47 (17 * a + j + 97) 7 = w (17 * a + j + 97) 7 := fun j g1 g2 => by
              by_cases e : j < m
              · rw [q49f _ _ (by unfold kPm; omega), q44x j g1 e, tvV.eq (w := w) (fun c k g3 g4 => j21 c k (by unfold kSr; omega)), hL.ogv ⟨g1, e⟩]; exact (hvv j g1 e).symm
              · exact f50 _ _ (by unfold kSr; omega)
            have B7 : BF w47 (w 265) m (kpr (w 265) m.toNat) y7 (w 262 3) := (j24.eq (fun c k g => q44f c k (by unfold kJv; omega))).eq (fun c k g => q49f c k (by unfold kPm; omega))
            have g7 : w47 268 g = v1 268 g := (q49f _ _ (by unfold kPm; omega)).trans (q44f _ _ (by unfold kJv; omega))
            show e_Ok 20 elay kcode eI (d + 1) 100 (214, [(0, (1, 262)), (1, (1, 9)), (2, (0, cn)), (3, (1, 250)), (4, (0, a)), (5, (0, g)), (6, (1, 17 * a + 86)), (7, (0, y7)), (8, (0, y8))], [], w47) _
            refine e_Ok.ps1 (x := (1, 262)) (q := 215) 1 rfl ?_
            refine e_Ok.getr (z := 268) rfl (el_o rfl) rfl rfl ((q49f 262 9 (by unfold kPm; omega)).trans ((q44f 262 9 (by first | exact no_dc_2 | (unfold kJv; omega))).trans ((j21 262 9 (by unfold kSr; omega)).trans (e_Has.eq hT (kt_o rfl))))) ⟨by decide, by decide⟩ ?_
            refine e_Ok.ps1 (x := (0, g)) (q := 220) 1 rfl ?_
            refine e_Ok.ald (z := v1 268 g) rfl (el_o rfl) rfl (by omega) ((q49f 268 g (by unfold kPm; omega)).trans ((q44f 268 g (by unfold kJv; omega)).trans rfl)) (by omega) ?_
            refine e_Ok.if1 rfl (fun h51 => ?_) (fun h51 => ?_)
            · replace h51 : (v1 268 g : Int) ≤ 0 := h51
              refine e_Ok.ps1 (x := (0, 0)) (q := 229) 1 rfl ?_
              refine e_Ok.rets rfl rfl ?_
              exact ⟨_, rfl, f50, q49T, by omega, ka7, val7, aQ.sr ga (by omega) f50 hT q49T (fun _ => q49p), fun g => absurd g (by omega)⟩
            · replace h51 : (v1 268 g : Int) > 0 := Int.not_le.mp (show ¬ ((v1 268 g : Int) ≤ 0) from h51)
              refine e_Ok.ps1 (x := (0, 1)) (q := 229) 2 rfl ?_
              refine e_Ok.rets rfl rfl ?_
              exact ⟨_, rfl, f50, q49T, by omega, ka7, val7, aQ.sr ga (by omega) f50 hT q49T (fun _ => q49p), fun _ => ⟨y7, B7, by omega⟩⟩
          · replace h40 : (v1 268 g : Int) = 0 := Classical.not_not.mp (show ¬ ((v1 268 g : Int) ≠ 0) from h40)
            have hqr := j24.2.1 y8 (by omega) (by omega)
            have hL1 : lyI v1 a n m := hL.eq (fun c k g => j21 c k (by unfold kSr; omega))
            refine e_Ok.run (t' := (80, [(0, (1, 262)), (1, (1, 9)), (2, (0, cn)), (3, (1, 250)), (4, (0, a)), (5, (0, g)), (6, (1, 17 * a + 86)), (7, (0, y7)), (8, (0, y8))], [(1, 262), (1, 17 * a + 86), (1, 262)], v1)) 3 rfl ?_
            refine e_Ok.getr (z := 267) rfl (el_o rfl) rfl rfl ((j21 262 8 (by unfold kSr; omega)).trans (e_Has.eq hT (kt_o rfl))) ⟨by decide, by decide⟩ ?_
            refine e_Ok.ps1 (x := (0, y8)) (q := 85) 1 rfl ?_
            refine e_Ok.ald (z := v1 267 y8) rfl (el_o rfl) rfl (by omega) rfl (by omega) ?_
            refine e_Ok.callV rfl (e_dq hd rfl) rfl rfl rfl rfl (c_102 (e_dq hd rfl) j22 hL1 ga (by omega)) (fun r52 w53 h54 => ?_)
            obtain ⟨rfl, q55f, q55T, q55x⟩ := h54
            refine e_Ok.nrm (q := 89) (st' := []) rfl rfl ?_
            refine e_Ok.run (t' := (92, [(9, (0, 0)), (0, (1, 262)), (1, (1, 9)), (2, (0, cn)), (3, (1, 250)), (4, (0, a)), (5, (0, g)), (6, (1, 17 * a + 86)), (7, (0, y7)), (8, (0, y8))], [], w53)) 2 rfl ?_
            have hL57 : ∀ (nn : Nat) (y7b : Int) (y9 : Int) (v2 : eW), e_fr (kSr a m) w v2 ∧ e_Has kTy v2 ∧ (∀ b, 0 ≤ b → b ≤ 3 → aK v2 b) ∧ BF v2 (w 265) m (kpr (w 265) m.toNat) y7b (w 262 3) ∧ ((y8 < y7b ∧ y7b ≤ 1000)) ∧ v2 267 y8 = v1 267 y8 ∧ (∀ j, 0 ≤ j ∧ j < m → -100000 ≤ v2 (17 * a + j + 97) 7 ∧ v2 (17 * a + j + 97) 7 ≤ 100000) ∧ ((0 ≤ y9 ∧ y9 ≤ 2 * m)) → 12 - y9 < nn → e_Ok 20 elay kcode eI (d + 1) 100 (92, [(0, (1, 262)), (1, (1, 9)), (2, (0, cn)), (3, (1, 250)), (4, (0, a)), (5, (0, g)), (6, (1, 17 * a + 86)), (7, (0, y7b)), (8, (0, y8)), (9, (0, y9))], [], v2) (fun r w' => ∃ z : Int, r = [(0, z)] ∧ e_fr (kSr a m) w w' ∧ e_Has kTy w' ∧ (0 ≤ z ∧ z ≤ 1) ∧ (∀ b, 0 ≤ b → b ≤ 3 → aK w' b) ∧ (∀ j, 0 ≤ j → j ≤ 5 → w' (17 * a + j + 97) 7 = w (17 * a + j + 97) 7) ∧ aQ w w' ∧ (z = 1 → ∃ t, BF w' (w 265) m (kpr (w 265) m.toNat) t (w 262 3) ∧ 1 ≤ w' 268 g)) := by
              intro nn
              induction nn with
              | zero => intro y7b y9 v2 hj hm; obtain ⟨j59, j60, j61, j62, j63, j64, j65, j66⟩ := hj; exfalso; omega
              | succ nn ih58 =>
                intro y7b y9 v2 hj hm
                obtain ⟨j59, j60, j61, j62, j63, j64, j65, j66⟩ := hj
                refine e_Ok.run (t' := (97, [(0, (1, 262)), (1, (1, 9)), (2, (0, cn)), (3, (1, 250)), (4, (0, a)), (5, (0, g)), (6, (1, 17 * a + 86)), (7, (0, y7b)), (8, (0, y8)), (9, (0, y9))], [(1, 17 * a + 86), (0, 2), (0, y9)], v2)) 3 rfl ?_
                have h67 := (e_Has.get hT (c := 17 * a + 86) (k := 8) (lo := 0) (hi := 6) (kA_8 (a := a) rfl ga) (by decide))
                refine e_Ok.getf (z := w (17 * a + 86) 8) rfl (lA0 (a := a) rfl ga) rfl rfl ((j59 (17 * a + 86) 8 (by unfold kSr; omega)).trans rfl) (e_bq h67 (by decide) (by decide)) ?_
                refine e_Ok.mul (z := 2 * w (17 * a + 86) 8) rfl rfl (by omega) ?_
                refine e_Ok.if2 rfl (fun h68 => ?_) (fun h68 => ?_)
                · replace h68 : (y9 : Int) ≥ 2 * w (17 * a + 86) 8 := h68
                  refine e_Ok.inc (z := y8 + 1) rfl rfl (by first | with_reducible rfl | omega) (by omega) ?_
                  show e_Ok 20 elay kcode eI (d + 1) 100 (196, [(8, (0, y8 + 1)), (0, (1, 262)), (1, (1, 9)), (2, (0, cn)), (3, (1, 250)), (4, (0, a)), (5, (0, g)), (6, (1, 17 * a + 86)), (7, (0, y7b)), (9, (0, y9))], [], v2) _
                  refine e_Ok.ps0 (q := 59) 1 rfl ?_
                  refine e_Ok.sub kAlk (e_sub_of rfl ?_) (ih20 y7b (y8 + 1) v2 ⟨j59, j60, j61, j62, by omega, by omega⟩ (by omega))
                  exact ⟨rfl, rfl, rfl, rfl, rfl, rfl, rfl, rfl, rfl, trivial⟩
                · replace h68 : (y9 : Int) < 2 * w (17 * a + 86) 8 := Int.not_le.mp (show ¬ ((y9 : Int) ≥ 2 * w (17 * a + 86) 8) from h68)
                  refine e_Ok.ps2 (x := (1, 262)) (y := (1, 262)) (q := 106) 2 rfl ?_
                  refine e_Ok.getr (z := 267) rfl (el_o rfl) rfl rfl ((j59 262 8 (by unfold kSr; omega)).trans (e_Has.eq hT (kt_o rfl))) ⟨by decide, by decide⟩ ?_
                  refine e_Ok.ps1 (x := (0, y8)) (q := 111) 1 rfl ?_
                  refine e_Ok.ald (z := v1 267 y8) rfl (el_o rfl) rfl (by omega) j64 (by omega) ?_
                  refine e_Ok.ps1 (x := (0, y9)) (q := 114) 1 rfl ?_
                  have hL2 : lyI v2 a n m := hL.eq (fun c k g => j59 c k (by unfold kSr; omega))
                  have e5 : v2 265 = w 265 := funext (fun k => j59 265 k (by unfold kSr; omega))
                  refine e_Ok.callV rfl (e_dq hd rfl) rfl rfl rfl rfl (c_103 (e_dq hd rfl) j60 hL2 (x := v1 267 y8) (by rw [e5]; exact hqr) (by omega)) (fun r69 w70 h71 => ?_)
                  obtain ⟨z72, rfl, rfl, q73⟩ := h71
                  rw [e5] at q73
                  obtain rfl | ⟨hzr, hkl⟩ := q73
                  · show e_Ok 20 elay kcode eI (d + 1) 100 (117, [(0, (1, 262)), (1, (1, 9)), (2, (0, cn)), (3, (1, 250)), (4, (0, a)), (5, (0, g)), (6, (1, 17 * a + 86)), (7, (0, y7b)), (8, (0, y8)), (9, (0, y9))], [(0, (-1))], v2) _
                    refine e_Ok.run (t' := (121, [(10, (0, (-1))), (0, (1, 262)), (1, (1, 9)), (2, (0, cn)), (3, (1, 250)), (4, (0, a)), (5, (0, g)), (6, (1, 17 * a + 86)), (7, (0, y7b)), (8, (0, y8)), (9, (0, y9))], [(0, (-1))], v2)) 2 rfl ?_
                    refine e_Ok.if1 rfl (fun h74 => ?_) (fun h74 => ?_)
                    · replace h74 : ((-1) : Int) < 0 := h74
                      refine e_Ok.inc (z := y9 + 1) rfl rfl (by first | with_reducible rfl | omega) (by omega) ?_
                      show e_Ok 20 elay kcode eI (d + 1) 100 (190, [(9, (0, y9 + 1)), (10, (0, (-1))), (0, (1, 262)), (1, (1, 9)), (2, (0, cn)), (3, (1, 250)), (4, (0, a)), (5, (0, g)), (6, (1, 17 * a + 86)), (7, (0, y7b)), (8, (0, y8))], [], v2) _
                      refine e_Ok.ps0 (q := 92) 1 rfl ?_
                      refine e_Ok.sub kAlk (e_sub_of rfl ?_) (ih58 y7b (y9 + 1) v2 ⟨j59, j60, j61, j62, by omega, j64, j65, by omega⟩ (by omega))
                      exact ⟨rfl, rfl, rfl, rfl, rfl, rfl, rfl, rfl, rfl, rfl, trivial⟩
                    · replace h74 : ((-1) : Int) ≥ 0 := Int.not_lt.mp (show ¬ (((-1) : Int) < 0) from h74)
                      exfalso; omega
                  · show e_Ok 20 elay kcode eI (d + 1) 100 (117, [(0, (1, 262)), (1, (1, 9)), (2, (0, cn)), (3, (1, 250)), (4, (0, a)), (5, (0, g)), (6, (1, 17 * a + 86)), (7, (0, y7b)), (8, (0, y8)), (9, (0, y9))], [(0, z72)], v2) _
                    refine e_Ok.run (t' := (121, [(10, (0, z72)), (0, (1, 262)), (1, (1, 9)), (2, (0, cn)), (3, (1, 250)), (4, (0, a)), (5, (0, g)), (6, (1, 17 * a + 86)), (7, (0, y7b)), (8, (0, y8)), (9, (0, y9))], [(0, z72)], v2)) 2 rfl ?_
                    refine e_Ok.if1 rfl (fun h75 => ?_) (fun h75 => ?_)
                    · replace h75 : (z72 : Int) < 0 := h75
                      exfalso; omega
                    · replace h75 : (z72 : Int) ≥ 0 := Int.not_lt.mp (show ¬ ((z72 : Int) < 0) from h75)
                      have hcz := j62.came (by omega) hzr
                      refine e_Ok.ps1 (x := (1, 262)) (q := 125) 1 rfl ?_
                      refine e_Ok.getr (z := 268) rfl (el_o rfl) rfl rfl ((j59 262 9 (by unfold kSr; omega)).trans (e_Has.eq hT (kt_o rfl))) ⟨by decide, by decide⟩ ?_
                      refine e_Ok.ps1 (x := (0, z72)) (q := 130) 1 rfl ?_
                      refine e_Ok.ald (z := v2 268 z72) rfl (el_o rfl) rfl (by omega) rfl (by omega) ?_
                      refine e_Ok.if1 rfl (fun h76 => ?_) (fun h76 => ?_)
                      · replace h76 : (v2 268 z72 : Int) ≠ 0 := h76
                        refine e_Ok.inc (z := y9 + 1) rfl rfl (by first | with_reducible rfl | omega) (by omega) ?_
                        show e_Ok 20 elay kcode eI (d + 1) 100 (190, [(9, (0, y9 + 1)), (10, (0, z72)), (0, (1, 262)), (1, (1, 9)), (2, (0, cn)), (3, (1, 250)), (4, (0, a)), (5, (0, g)), (6, (1, 17 * a + 86)), (7, (0, y7b)), (8, (0, y8))], [], v2) _
                        refine e_Ok.ps0 (q := 92) 1 rfl ?_
                        refine e_Ok.sub kAlk (e_sub_of rfl ?_) (ih58 y7b (y9 + 1) v2 ⟨j59, j60, j61, j62, by omega, j64, j65, by omega⟩ (by omega))
                        exact ⟨rfl, rfl, rfl, rfl, rfl, rfl, rfl, rfl, rfl, rfl, trivial⟩
                      · replace h76 : (v2 268 z72 : Int) = 0 := Classical.not_not.mp (show ¬ ((v2 268 z72 : Int) ≠ 0) from h76)
                        refine e_Ok.ps2 (x := (0, 1000)) (y := (0, y7b)) (q := 139) 2 rfl ?_
                        refine e_Ok.if2 rfl (fun h77 => ?_) (fun h77 => ?_)
                        · replace h77 : (y7b : Int) < 1000 := h77
                          refine e_Ok.run (t' := (155, [(10, (0, z72)), (0, (1, 262)), (1, (1, 9)), (2, (0, cn)), (3, (1, 250)), (4, (0, a)), (5, (0, g)), (6, (1, 17 * a + 86)), (7, (0, y7b)), (8, (0, y8)), (9, (0, y9))], [(0, z72), (0, y9), (0, a), (1, 250), (0, cn), (1, 9), (1, 262)], v2)) 7 rfl ?_
                          refine e_Ok.callV rfl (e_dq hd rfl) rfl rfl rfl rfl (c_104 (e_dq hd rfl) j60 hL2 ga (by omega) (by omega) (by omega) j61 j65) (fun r78 w79 h80 => ?_)
                          obtain ⟨z81, rfl, q82f, q82T, q82r, q82k, q82v, q82c, q82d⟩ := h80
                          have f83 : e_fr (kSr a m) w w79 := e_fr.trans j59 (e_fr.mono q82f (fun c k q => by exact (by unfold kPs at q; unfold kSr; omega)))
                          have B5 : BF w79 (w 265) m (kpr (w 265) m.toNat) y7b (w 262 3) := j62.blk hzr (by omega) (fun k => q82f _ _ (by unfold kPs; omega)) q82c q82d
                          have v5 : ∀ j, 0 ≤ j ∧ j < m → -100000 ≤ w79 (17 * a + j + 97) 7 ∧ w79 (17 * a + j + 97) 7 ≤ 100000 := fun j g1 => by rw [q82v j g1.1 (by omega)]; exact j65 j g1
                          have z51 : w79 268 z72 < 1 := by omega
                          refine e_Ok.nrm (q := 158) (st' := [(0, z81)]) rfl rfl ?_
                          refine e_Ok.if1 rfl (fun h84 => ?_) (fun h84 => ?_)
                          · replace h84 : (z81 : Int) ≠ 0 := h84
                            refine e_Ok.ps1 (x := (1, 262)) (q := 165) 1 rfl ?_
                            refine e_Ok.getr (z := 268) rfl (el_o rfl) rfl rfl ((q82f 262 9 (by unfold kPs; omega)).trans ((j59 262 9 (by unfold kSr; omega)).trans (e_Has.eq hT (kt_o rfl)))) ⟨by decide, by decide⟩ ?_
                            refine e_Ok.ps3 (x := (0, 1)) (y := (0, y9)) (z := (0, z72)) (q := 173) 3 rfl ?_
                            refine e_Ok.add (z := y9 + 1) rfl rfl (by omega) ?_
                            refine e_Ok.ast rfl (el_o rfl) rfl rfl (by omega) ?_
                            generalize hw85 : e_up w79 268 z72 (y9 + 1) = w85
                            have hT87 : e_Has kTy w85 := e_Has.ups q82T hw85 (kt_o rfl)
                            refine e_Ok.ps1 (x := (1, 262)) (q := 176) 1 rfl ?_
                            refine e_Ok.getr (z := 267) rfl (el_o rfl) rfl rfl (e_uq hw85 (Or.inl (by decide)) ((q82f 262 8 (by unfold kPs; omega)).trans ((j59 262 8 (by unfold kSr; omega)).trans (e_Has.eq hT (kt_o rfl))))) ⟨by decide, by decide⟩ ?_
                            refine e_Ok.ps2 (x := (0, z72)) (y := (0, y7b)) (q := 183) 2 rfl ?_
                            refine e_Ok.ast rfl (el_o rfl) rfl rfl (by omega) ?_
                            generalize hw88 : e_up w85 267 y7b z72 = w88
                            have hT90 : e_Has kTy w88 := e_Has.ups hT87 hw88 (kt_o rfl)
                            refine e_Ok.inc (z := y7b + 1) rfl rfl (by first | with_reducible rfl | omega) (by omega) ?_
                            show e_Ok 20 elay kcode eI (d + 1) 100 (187, [(7, (0, y7b + 1)), (10, (0, z72)), (0, (1, 262)), (1, (1, 9)), (2, (0, cn)), (3, (1, 250)), (4, (0, a)), (5, (0, g)), (6, (1, 17 * a + 86)), (8, (0, y8)), (9, (0, y9))], [], w88) _
                            refine e_Ok.inc (z := y9 + 1) rfl rfl (by first | with_reducible rfl | omega) (by omega) ?_
                            show e_Ok 20 elay kcode eI (d + 1) 100 (190, [(9, (0, y9 + 1)), (7, (0, y7b + 1)), (10, (0, z72)), (0, (1, 262)), (1, (1, 9)), (2, (0, cn)), (3, (1, 250)), (4, (0, a)), (5, (0, g)), (6, (1, 17 * a + 86)), (8, (0, y8))], [], w88) _
                            refine e_Ok.ps0 (q := 92) 1 rfl ?_
                            refine e_Ok.sub kAlk (e_sub_of rfl ?_) (ih58 (y7b + 1) (y9 + 1) w88 ⟨(show e_fr (kSr a m) w w88 from e_fr.up (show e_fr (kSr a m) w w85 from e_fr.up f83 hw85 (by first | exact Or.inr (Or.inr (Or.inr (Or.inr rfl))) | (unfold kSr; omega))) hw88 (by first | exact Or.inr (Or.inr (Or.inr (Or.inl rfl))) | (unfold kSr; omega))), hT90, (fun b g1 g2 => ((q82k b g1 g2).up hw85 (by omega) (by omega) (by omega)).up hw88 (by omega) (by omega) (by omega)), (BF.add B5 hzr z51 (by omega) (by omega) (i := y8) (by omega) (by rw [q82f 267 y8 (by unfold kPs; omega), j64]; exact hkl) hw85 hw88), by omega, (by rw [← hw88, e_up_ne _ _ (by omega), ← hw85, e_up_ne _ _ (by omega)]; exact Eq.trans (q82f _ _ (by unfold kPs; omega)) j64), (fun j g1 => by rw [← hw88, e_up_ne _ _ (by omega), ← hw85, e_up_ne _ _ (by omega)]; exact v5 j g1), by omega⟩ (by omega))
                            exact ⟨rfl, rfl, rfl, rfl, rfl, rfl, rfl, rfl, rfl, rfl, trivial⟩
                          · replace h84 : (z81 : Int) = 0 := Classical.not_not.mp (show ¬ ((z81 : Int) ≠ 0) from h84)
                            refine e_Ok.ps0 (q := 187) 1 rfl ?_
                            refine e_Ok.inc (z := y9 + 1) rfl rfl (by first | with_reducible rfl | omega) (by omega) ?_
                            show e_Ok 20 elay kcode eI (d + 1) 100 (190, [(9, (0, y9 + 1)), (10, (0, z72)), (0, (1, 262)), (1, (1, 9)), (2, (0, cn)), (3, (1, 250)), (4, (0, a)), (5, (0, g)), (6, (1, 17 * a + 86)), (7, (0, y7b)), (8, (0, y8))], [], w79) _
                            refine e_Ok.ps0 (q := 92) 1 rfl ?_
                            refine e_Ok.sub kAlk (e_sub_of rfl ?_) (ih58 y7b (y9 + 1) w79 ⟨f83, q82T, q82k, B5, by omega, (Eq.trans (q82f _ _ (by unfold kPs; omega)) j64), v5, by omega⟩ (by omega))
                            exact ⟨rfl, rfl, rfl, rfl, rfl, rfl, rfl, rfl, rfl, rfl, trivial⟩
                        · replace h77 : (y7b : Int) ≥ 1000 := Int.not_lt.mp (show ¬ ((y7b : Int) < 1000) from h77)
                          refine e_Ok.ps0 (q := 187) 1 rfl ?_
                          refine e_Ok.inc (z := y9 + 1) rfl rfl (by first | with_reducible rfl | omega) (by omega) ?_
                          show e_Ok 20 elay kcode eI (d + 1) 100 (190, [(9, (0, y9 + 1)), (10, (0, z72)), (0, (1, 262)), (1, (1, 9)), (2, (0, cn)), (3, (1, 250)), (4, (0, a)), (5, (0, g)), (6, (1, 17 * a + 86)), (7, (0, y7b)), (8, (0, y8))], [], v2) _
                          refine e_Ok.ps0 (q := 92) 1 rfl ?_
                          refine e_Ok.sub kAlk (e_sub_of rfl ?_) (ih58 y7b (y9 + 1) v2 ⟨j59, j60, j61, j62, by omega, j64, j65, by omega⟩ (by omega))
                          exact ⟨rfl, rfl, rfl, rfl, rfl, rfl, rfl, rfl, rfl, rfl, trivial⟩
            refine e_Ok.sub kAlk (e_sub_of rfl ?_) (hL57 (12 + 1 : Int).toNat y7 0 w53 ⟨(show e_fr (kSr a m) w w53 from e_fr.trans j21 (e_fr.mono q55f (fun c k q => by exact (by unfold kJv at q; unfold kSr; omega)))), q55T, (aK.any q55f (fun b c k g1 g2 g3 => by unfold kJv at g3; omega) j23), (j24.eq (fun c k g => q55f c k (by unfold kJv; omega))), by omega, (q55f _ _ (by unfold kJv; omega)), (fun j g1 => by rw [q55x j g1.1 g1.2]; have z1 := hL1.val (x := v1 267 y8) g1; have z2 := (hL1.2.2.2 j g1.1 g1.2).2.1; omega), by omega⟩ (by omega))
            exact ⟨rfl, rfl, rfl, rfl, rfl, rfl, rfl, rfl, rfl, rfl, trivial⟩
    refine e_Ok.sub kAlk (e_sub_of rfl ?_) (hL19 (1000 + 1 : Int).toNat 1 0 w16 ⟨(show e_fr (kSr a m) w w16 from e_fr.up (show e_fr (kSr a m) w w13 from e_fr.up f11 hw13 (by first | exact Or.inr (Or.inr (Or.inr (Or.inr rfl))) | (unfold kSr; omega))) hw16 (by first | exact Or.inr (Or.inr (Or.inr (Or.inl rfl))) | (unfold kSr; omega))), hT18, (fun b g1 g2 => ((ka2 b g1 g2).up hw13 (by omega) (by omega) (by omega)).up hw16 (by omega) (by omega) (by omega)), (BF.start hog c0 hNk hw13 hw16), by omega, by omega⟩ (by omega))
    exact ⟨rfl, rfl, rfl, rfl, rfl, rfl, rfl, rfl, rfl, trivial⟩
  · replace h12 : (z9 : Int) ≠ 0 := (show ¬ ((z9 : Int) = 0) from h12)
    refine e_Ok.ps1 (x := (0, 0)) (q := 31) 1 rfl ?_
    refine e_Ok.rets rfl rfl ?_
    exact ⟨_, rfl, f11, q10T, by omega, ka2, (fun j g1 g2 => by rw [q10f _ _ (by unfold kTc; omega), q4f _ _ (by unfold kF68; omega)]), aQ.sr ga (by omega) f11 hT q10T (fun g => aP.sc ga (e_fr.trans (q4f.mono (fun c k q => su_dc_3 q)) (q10f.mono (fun c k q => su_dc_4 q))) hT q10T g), fun g => absurd g (by omega)⟩
end
end
-- part dd
section
noncomputable section
/-! the class: a way is kept -/
def kKp (y : Int) (c k : Int) : Prop := (c = 269 ∧ 1000 * y ≤ k ∧ k < 1000 * y + 1000) ∨ ((c = 270 ∨ c = 271) ∧ k = y)
theorem bmod8 {x : Int} (hx : -128 ≤ x ∧ x ≤ 127) : x.bmod 256 = x := by
  show (if x % ((256 : Nat) : Int) < (((256 : Nat) : Int) + 1) / 2 then x % ((256 : Nat) : Int) else x % ((256 : Nat) : Int) - ((256 : Nat) : Int)) = x
  split <;> omega
theorem nar2x {x z : Int} (h : e_nar 2 x = some z) (hx : -128 ≤ x ∧ x ≤ 127) : z = x := by
  have h2 : x.bmod 256 = z := Option.some.inj h
  rw [← h2]
  exact bmod8 hx
section Dd
variable {w w' : eW} {a n m : Int}
theorem e_Ok.i2bx {d M p nx a b : Nat} {l : eL} {r : List eV} {x : Int} {Q : List eV → eW → Prop} (hc : kcode M p = (0, ei_un (fun x => (0, x.bmod 256)) nx, a, b)) (hx : -128 ≤ x ∧ x ≤ 127) (h : e_Ok 20 elay kcode eI d M (nx, l, (0, x) :: r, w) Q) : e_Ok 20 elay kcode eI d M (p, l, (0, x) :: r, w) Q :=
  e_Ok.step (t' := (nx, l, (0, x.bmod 256) :: r, w)) hc rfl (by rw [bmod8 hx]; exact h)
theorem bf_eq {p x s j z : Int} (hL : lyI w a n m) (hs : 0 ≤ s ∧ s < 2 * m) (hj : j = s / 2) (hk : kln (w 265) p x s) (h : (s % 2 = 0 ∧ z = x - w 266 j) ∨ (s % 2 = 1 ∧ z = x + w 266 j)) : z = p := by
  have hst := (hL.str (j := j) (by omega)).2
  unfold kln at hk
  rw [← hj, ← hst] at hk
  rcases hk with ⟨k1, k2, -⟩ | ⟨k1, k2, -⟩ <;> rcases h with ⟨h1, h2⟩ | ⟨h1, h2⟩ <;> omega
/-- the way back from g -/
def pth (w : eW) (f : Int → Int) (m N : Int) (P : Int → Int) (g l : Int) : Prop := P 0 = g ∧ ∀ k, 0 ≤ k → k < l → (0 ≤ P k ∧ P k < N) ∧ (1 ≤ w 268 (P k) ∧ w 268 (P k) ≤ 2 * m) ∧ kln f (P (k + 1)) (P k) (w 268 (P k) - 1)
theorem pth.snoc {f : Int → Int} {N g l x z : Int} {P : Int → Int} (h : pth w f m N P g l) (hl : 0 ≤ l) (hx : P l = x) (h1 : 0 ≤ x ∧ x < N) (h2 : 1 ≤ w 268 x ∧ w 268 x ≤ 2 * m) (h3 : kln f z x (w 268 x - 1)) : pth w f m N (fun k => if k = l + 1 then z else P k) g (l + 1) := by
  refine ⟨by show (if (0 : Int) = l + 1 then z else P 0) = g; rw [if_neg (by omega)]; exact h.1, fun k g1 g2 => ?_⟩
  show (0 ≤ (if k = l + 1 then z else P k) ∧ (if k = l + 1 then z else P k) < N) ∧ (1 ≤ w 268 (if k = l + 1 then z else P k) ∧ w 268 (if k = l + 1 then z else P k) ≤ 2 * m) ∧ kln f (if k + 1 = l + 1 then z else P (k + 1)) (if k = l + 1 then z else P k) (w 268 (if k = l + 1 then z else P k) - 1)
  rw [if_neg (by omega)]
  by_cases e : k = l
  · rw [if_pos (by omega), e, hx]
    exact ⟨h1, h2, h3⟩
  · rw [if_neg (by omega)]
    exact h.2 k g1 (by omega)
/-- what is kept is a way -/
theorem kp_fin {y g l : Int} {P : Int → Int} (hL : lyI w a n m) (h : pth w (w 265) m (kpr (w 265) m.toNat) P g l) (hl : 0 ≤ l ∧ l ≤ 999) (ho : P l = w 262 3) (hy : 0 ≤ y) (h0 : w' 270 y = l) (h1 : w' 271 y = n) (h9 : ∀ k, 0 ≤ k → k < l → w' 269 (1000 * y + k) = w 268 (P (l - 1 - k)) - 1) (hJ : ∀ j k, 0 ≤ j → j < m → (k = 1 ∨ k = 2) → w' (17 * a + j + 97) k = w (17 * a + j + 97) k) : yD w' m y ∧ yP w' a m y 0 (fun j => w 263 j) := by
  have hm := hL.1.2.1
  have hn := hL.1.1
  refine ⟨⟨by rw [h0]; omega, by rw [h1]; exact hn, fun k g1 g2 => ?_⟩, fun k j => tvV w n (P (l - k)) j, fun j g1 g2 => ?_, fun k g1 g2 j g3 g4 => ?_⟩
  · rw [h0] at g2
    rw [h9 k g1 g2]
    have z := (h.2 (l - 1 - k) (by omega) (by omega)).2.1
    omega
  · show tvV w n (P (l - 0)) j = w 263 j
    rw [Int.sub_zero, ho]
    exact hL.ogv ⟨g1, g2⟩
  · rw [h0] at g2
    have z := h.2 (l - 1 - k) (by omega) (by omega)
    rw [show l - 1 - k + 1 = l - k by omega] at z
    rw [h9 k g1 g2, h1, hJ j 1 g3 g4 (by omega), hJ j 2 g3 g4 (by omega)]
    show tvV w n (P (l - (k + 1))) j = tvV w n (P (l - k)) j + dlt (w 268 (P (l - 1 - k)) - 1) j n ∧ w (17 * a + j + 97) 1 ≤ tvV w n (P (l - (k + 1))) j ∧ tvV w n (P (l - (k + 1))) j ≤ w (17 * a + j + 97) 2
    refine ⟨?_, hL.val ⟨g3, g4⟩⟩
    rw [show l - (k + 1) = l - 1 - k by omega]
    have zd := z.2.2.dgt (n := m.toNat) (i := j.toNat) (by have := z.2.1; omega) (by omega) hL.one
    rw [show ((j.toNat : Nat) : Int) = j by omega] at zd
    unfold tvV dlt
    by_cases e1 : w 268 (P (l - 1 - k)) - 1 = 2 * j
    · rw [if_pos e1, zd.1 e1, show kdg (w 265) (P (l - k)) j.toNat + 1 - w 264 j = kdg (w 265) (P (l - k)) j.toNat - w 264 j + 1 by omega, Int.add_mul, Int.one_mul]
      omega
    · rw [if_neg e1]
      by_cases e2 : w 268 (P (l - 1 - k)) - 1 = 2 * j + 1
      · rw [if_pos e2, zd.2.1 e2, show kdg (w 265) (P (l - k)) j.toNat - 1 - w 264 j = kdg (w 265) (P (l - k)) j.toNat - w 264 j - 1 by omega, Int.sub_mul (kdg (w 265) (P (l - k)) j.toNat - w 264 j), Int.one_mul]
        omega
      · rw [if_neg e2, zd.2.2 e1 e2]
        omega
end Dd
theorem c_106 {d : Nat} (hd : 21 ≤ d) {w : eW} (hT : e_Has kTy w) {a n m : Int} (hL : lyI w a n m) {x : Int} (gx : 0 ≤ x ∧ x ≤ 999) (hc : 1 ≤ w 268 x ∧ w 268 x ≤ 2 * m) : e_Ok 20 elay kcode eI d 106 (0, [(0, (1, 262)), (1, (0, x))], [], w) (fun r w' => ∃ z : Int, r = [(0, z)] ∧ w = w' ∧ ∀ p, kln (w 265) p x (w 268 x - 1) → z = p) := by
  obtain ⟨d, rfl⟩ : ∃ e, d = e + 1 := ⟨d - 1, by omega⟩
  have hm := hL.1.2.1
  refine e_Ok.ps1 (x := (1, 262)) (q := 1) 1 rfl ?_
  refine e_Ok.getr (z := 268) rfl (el_o rfl) rfl rfl (e_Has.eq hT (kt_o rfl)) ⟨by decide, by decide⟩ ?_
  refine e_Ok.ps1 (x := (0, x)) (q := 5) 1 rfl ?_
  refine e_Ok.ald (z := w 268 x) rfl (el_o rfl) rfl (by omega) rfl (by omega) ?_
  refine e_Ok.ps1 (x := (0, 1)) (q := 7) 1 rfl ?_
  refine e_Ok.sub' (z := w 268 x - 1) rfl rfl (by omega) ?_
  refine e_Ok.run (t' := (13, [(2, (0, w 268 x - 1)), (0, (1, 262)), (1, (0, x))], [(0, 11), (0, 0), (0, w 268 x - 1)], w)) 4 rfl ?_
  refine e_Ok.callS rfl (e_dq hd rfl) rfl rfl (c_242 (by omega) (by omega) (by omega)) (fun r1 w2 h3 => ?_)
  obtain ⟨z4, rfl, rfl, q5⟩ := h3
  obtain ⟨rfl, q5⟩ | ⟨rfl, q5⟩ := q5
  · refine e_Ok.nrm (q := 16) (st' := [(0, 1)]) rfl rfl ?_
    refine e_Ok.if1 rfl (fun h6 => ?_) (fun h6 => ?_)
    · replace h6 : (1 : Int) ≠ 0 := h6
      refine e_Ok.ps2 (x := (0, 2)) (y := (0, w 268 x - 1)) (q := 23) 2 rfl ?_
      refine e_Ok.remn (fun z7 hz7 => ?_) rfl (by omega) (by omega)
      replace hz7 : z7 = (w 268 x - 1) % 2 := hz7
      have z7r : 0 ≤ z7 ∧ z7 ≤ 1 := by omega
      refine e_Ok.if1 rfl (fun h8 => ?_) (fun h8 => ?_)
      · replace h8 : (z7 : Int) ≠ 0 := h8
        refine e_Ok.ps2 (x := (1, 262)) (y := (0, x)) (q := 42) 2 rfl ?_
        refine e_Ok.getr (z := 266) rfl (el_o rfl) rfl rfl (e_Has.eq hT (kt_o rfl)) ⟨by decide, by decide⟩ ?_
        refine e_Ok.ps2 (x := (0, 2)) (y := (0, w 268 x - 1)) (q := 47) 2 rfl ?_
        refine e_Ok.divn (fun z9 hz9 => ?_) rfl (by omega) (by omega)
        replace hz9 : z9 = (w 268 x - 1) / 2 := hz9
        have z9r : 0 ≤ z9 ∧ z9 ≤ 5 := by omega
        have hst := (hL.str (j := z9) (by omega)).1
        refine e_Ok.ald (z := w 266 z9) rfl (el_o rfl) rfl (by omega) rfl (by omega) ?_
        refine e_Ok.add (z := x + w 266 z9) rfl (by omega) (by omega) ?_
        refine e_Ok.rets rfl rfl ?_
        exact ⟨_, rfl, rfl, fun p hp => bf_eq hL (by omega) (show z9 = (w 268 x - 1) / 2 by omega) hp (by omega)⟩
      · replace h8 : (z7 : Int) = 0 := Classical.not_not.mp (show ¬ ((z7 : Int) ≠ 0) from h8)
        refine e_Ok.ps2 (x := (1, 262)) (y := (0, x)) (q := 29) 2 rfl ?_
        refine e_Ok.getr (z := 266) rfl (el_o rfl) rfl rfl (e_Has.eq hT (kt_o rfl)) ⟨by decide, by decide⟩ ?_
        refine e_Ok.ps2 (x := (0, 2)) (y := (0, w 268 x - 1)) (q := 34) 2 rfl ?_
        refine e_Ok.divn (fun z10 hz10 => ?_) rfl (by omega) (by omega)
        replace hz10 : z10 = (w 268 x - 1) / 2 := hz10
        have z10r : 0 ≤ z10 ∧ z10 ≤ 5 := by omega
        have hst := (hL.str (j := z10) (by omega)).1
        refine e_Ok.ald (z := w 266 z10) rfl (el_o rfl) rfl (by omega) rfl (by omega) ?_
        refine e_Ok.sub' (z := x - w 266 z10) rfl (by omega) (by omega) ?_
        refine e_Ok.ps0 (q := 50) 1 rfl ?_
        refine e_Ok.rets rfl rfl ?_
        exact ⟨_, rfl, rfl, fun p hp => bf_eq hL (by omega) (show z10 = (w 268 x - 1) / 2 by omega) hp (by omega)⟩
    · replace h6 : (1 : Int) = 0 := Classical.not_not.mp (show ¬ ((1 : Int) ≠ 0) from h6)
      exfalso; omega
  · refine e_Ok.nrm (q := 16) (st' := [(0, 0)]) rfl rfl ?_
    refine e_Ok.if1 rfl (fun h11 => ?_) (fun h11 => ?_)
    · replace h11 : (0 : Int) ≠ 0 := h11
      exfalso; omega
    · replace h11 : (0 : Int) = 0 := Classical.not_not.mp (show ¬ ((0 : Int) ≠ 0) from h11)
      refine e_Ok.ps1 (x := (0, x)) (q := 20) 1 rfl ?_
      refine e_Ok.rets rfl rfl ?_
      exfalso; omega
theorem no_dd_0 {y : Int} {k : Int} : ¬ kKp y 262 k := by unfold kKp; omega
theorem no_dd_1 {y : Int} {k : Int} : ¬ kKp y 268 k := by unfold kKp; omega
set_option maxHeartbeats 4000000 in
theorem c_105 {d : Nat} (hd : 23 ≤ d) {w : eW} (hT : e_Has kTy w) {a n m : Int} (hL : lyI w a n m) (ga : 0 ≤ a ∧ a ≤ 3) {y g t : Int} (gy : 0 ≤ y ∧ y ≤ 59) (gg : 0 ≤ g ∧ g < kpr (w 265) m.toNat) (hB : BF w (w 265) m (kpr (w 265) m.toNat) t (w 262 3)) (hg1 : 1 ≤ w 268 g) : e_Ok 20 elay kcode eI d 105 (0, [(0, (1, 262)), (1, (0, y)), (2, (0, g))], [], w) (fun r w' => r = [] ∧ e_fr (kKp y) w w' ∧ e_Has kTy w' ∧ yD w' m y ∧ yP w' a m y 0 (fun j => w 263 j)) := by
  obtain ⟨d, rfl⟩ : ∃ e, d = e + 1 := ⟨d - 1, by omega⟩
  have hm := hL.1.2.1
  have hm8 : w (17 * a + 86) 8 = m := hL.1.2.2.1
  have hn1 := hL.1.1
  have hw1 : w 262 1 = n := hL.1.2.2.2.1
  have hw2 := hL.1.2.2.2.2; unfold kn1 at hw2
  have hNk := hL.2.2.1
  obtain ⟨i0, hi00, hg0⟩ : ∃ i, (0 ≤ i ∧ i < t) ∧ w 267 i = g := by rcases hB.2.2.2.2 g gg.1 gg.2 with q | q | q; (exfalso; omega); (exfalso; omega); exact q
  have ht := hB.1
  refine e_Ok.run (t' := (5, [(4, (0, g)), (3, (0, 0)), (0, (1, 262)), (1, (0, y)), (2, (0, g))], [], w)) 4 rfl ?_
  have hL1 : ∀ (nn : Nat) (y3 : Int) (y4 : Int) (ix : Int) (P1 : Int → Int), pth w (w 265) m (kpr (w 265) m.toNat) P1 g y3 ∧ P1 y3 = y4 ∧ ((0 ≤ ix ∧ ix < t)) ∧ w 267 ix = y4 ∧ ix + y3 ≤ 999 ∧ ((0 ≤ y3 ∧ y3 ≤ 999)) ∧ ((0 ≤ y4 ∧ y4 ≤ 999)) → 999 - y3 < nn → e_Ok 20 elay kcode eI (d + 1) 105 (5, [(0, (1, 262)), (1, (0, y)), (2, (0, g)), (3, (0, y3)), (4, (0, y4))], [], w) (fun r w' => r = [] ∧ e_fr (kKp y) w w' ∧ e_Has kTy w' ∧ yD w' m y ∧ yP w' a m y 0 (fun j => w 263 j)) := by
    intro nn
    induction nn with
    | zero => intro y3 y4 ix P1 hj hm; obtain ⟨j3, j4, j5, j6, j7, j8, j9⟩ := hj; exfalso; omega
    | succ nn ih2 =>
      intro y3 y4 ix P1 hj hm
      obtain ⟨j3, j4, j5, j6, j7, j8, j9⟩ := hj
      have hp := hB.pos (i := ix) j5
      rw [j6] at hp
      have hyr : 0 ≤ y4 ∧ y4 < kpr (w 265) m.toNat := by have z := hB.2.1 ix j5.1 j5.2; rw [j6] at z; exact z
      have hcr := hB.came (by omega) hyr
      refine e_Ok.run (t' := (6, [(0, (1, 262)), (1, (0, y)), (2, (0, g)), (3, (0, y3)), (4, (0, y4))], [(1, 262)], w)) 1 rfl ?_
      refine e_Ok.getr (z := 268) rfl (el_o rfl) rfl rfl (e_Has.eq hT (kt_o rfl)) ⟨by decide, by decide⟩ ?_
      refine e_Ok.ps1 (x := (0, y4)) (q := 11) 1 rfl ?_
      refine e_Ok.ald (z := w 268 y4) rfl (el_o rfl) rfl (by omega) rfl (by omega) ?_
      refine e_Ok.ps1 (x := (0, 100)) (q := 14) 1 rfl ?_
      refine e_Ok.if2 rfl (fun h10 => ?_) (fun h10 => ?_)
      · replace h10 : (w 268 y4 : Int) = 100 := h10
        have hi0 : ix = 0 := by by_cases g : ix = 0; exact g; (have g2 := hp.2.2 (by omega); omega)
        have hog : P1 y3 = w 262 3 := by rw [j4, ← j6, hi0]; exact hB.2.2.1.1
        refine e_Ok.run (t' := (43, [(4, (0, g)), (0, (1, 262)), (1, (0, y)), (2, (0, g)), (3, (0, y3))], [(0, 1), (0, y3)], w)) 4 rfl ?_
        refine e_Ok.sub' (z := y3 - 1) rfl rfl (by omega) ?_
        refine e_Ok.run (t' := (46, [(5, (0, y3 - 1)), (4, (0, g)), (0, (1, 262)), (1, (0, y)), (2, (0, g)), (3, (0, y3))], [], w)) 1 rfl ?_
        have hL11 : ∀ (nn : Nat) (y4b : Int) (y5 : Int) (v1 : eW), e_fr (kKp y) w v1 ∧ e_Has kTy v1 ∧ y4b = P1 (y3 - 1 - y5) ∧ (∀ k, y5 < k → k < y3 → v1 269 (1000 * y + k) = w 268 (P1 (y3 - 1 - k)) - 1) ∧ (∀ c k, c ≠ 269 → v1 c k = w c k) ∧ ((-1 ≤ y5 ∧ y5 < y3)) ∧ ((0 ≤ y5 → 0 ≤ y4b ∧ y4b ≤ 999)) → y5 + 1 < nn → e_Ok 20 elay kcode eI (d + 1) 105 (46, [(0, (1, 262)), (1, (0, y)), (3, (0, y3)), (4, (0, y4b)), (5, (0, y5))], [], v1) (fun r w' => r = [] ∧ e_fr (kKp y) w w' ∧ e_Has kTy w' ∧ yD w' m y ∧ yP w' a m y 0 (fun j => w 263 j)) := by
          intro nn
          induction nn with
          | zero => intro y4b y5 v1 hj hm; obtain ⟨j13, j14, j15, j16, j17, j18, j19⟩ := hj; exfalso; omega
          | succ nn ih12 =>
            intro y4b y5 v1 hj hm
            obtain ⟨j13, j14, j15, j16, j17, j18, j19⟩ := hj
            refine e_Ok.run (t' := (48, [(0, (1, 262)), (1, (0, y)), (3, (0, y3)), (4, (0, y4b)), (5, (0, y5))], [(0, y5)], v1)) 1 rfl ?_
            refine e_Ok.if1 rfl (fun h20 => ?_) (fun h20 => ?_)
            · replace h20 : (y5 : Int) < 0 := h20
              refine e_Ok.ps1 (x := (1, 262)) (q := 89) 1 rfl ?_
              refine e_Ok.getr (z := 270) rfl (el_o rfl) rfl rfl ((j13 262 11 (by first | exact no_dd_0 | (unfold kKp; omega))).trans (e_Has.eq hT (kt_o rfl))) ⟨by decide, by decide⟩ ?_
              refine e_Ok.ps2 (x := (0, y3)) (y := (0, y)) (q := 94) 2 rfl ?_
              refine e_Ok.ast rfl (el_o rfl) rfl rfl (by omega) ?_
              generalize hw21 : e_up v1 270 y y3 = w21
              have hT23 : e_Has kTy w21 := e_Has.ups j14 hw21 rfl
              refine e_Ok.ps1 (x := (1, 262)) (q := 96) 1 rfl ?_
              refine e_Ok.getr (z := 271) rfl (el_o rfl) rfl rfl (e_uq hw21 (Or.inl (by decide)) ((j13 262 12 (by first | exact no_dd_0 | (unfold kKp; omega))).trans (e_Has.eq hT (kt_o rfl)))) ⟨by decide, by decide⟩ ?_
              refine e_Ok.ps2 (x := (1, 262)) (y := (0, y)) (q := 101) 2 rfl ?_
              refine e_Ok.getf (z := w 262 1) rfl (el_o rfl) rfl rfl (e_uq hw21 (Or.inl (by decide)) ((j13 262 1 (by first | exact no_dd_0 | (unfold kKp; omega))).trans rfl)) (by omega) ?_
              refine e_Ok.ast rfl (el_o rfl) rfl rfl (by omega) ?_
              generalize hw24 : e_up w21 271 y (w 262 1) = w24
              have hT26 : e_Has kTy w24 := e_Has.ups hT23 hw24 (kt_o rfl)
              refine e_Ok.rets rfl rfl ?_
              have eZ : ∀ c k, ¬ ((c = 270 ∨ c = 271) ∧ k = y) → w24 c k = v1 c k := fun c k g => by rw [← hw24, e_up_ne _ _ (by omega), ← hw21, e_up_ne _ _ (by omega)]
              exact ⟨rfl, (show e_fr (kKp y) w w24 from e_fr.up (show e_fr (kKp y) w w21 from e_fr.up j13 hw21 (by first | exact Or.inr ⟨Or.inl rfl, (by omega)⟩ | (unfold kKp; omega))) hw24 (by first | exact Or.inr ⟨Or.inr rfl, (by omega)⟩ | (unfold kKp; omega))), hT26, kp_fin (w' := w24) hL j3 (by omega) hog gy.1 (e_uq hw24 (Or.inl (by omega)) (e_ue hw21)) (Eq.trans (e_ue hw24) hw1) (fun k g1 g2 => by rw [eZ _ _ (by omega)]; exact j16 k (by omega) g2) (fun j k g1 g2 g3 => by rw [eZ _ _ (by omega)]; exact j17 _ _ (by omega))⟩
            · replace h20 : (y5 : Int) ≥ 0 := Int.not_lt.mp (show ¬ ((y5 : Int) < 0) from h20)
              have hk := (j3).2 (y3 - 1 - y5) (by omega) (by omega)
              rw [← j15] at hk
              have hk1 := hk.1; have hk2 := hk.2.1
              refine e_Ok.run (t' := (52, [(0, (1, 262)), (1, (0, y)), (3, (0, y3)), (4, (0, y4b)), (5, (0, y5))], [(1, 262)], v1)) 1 rfl ?_
              refine e_Ok.getr (z := 269) rfl (el_o rfl) rfl rfl ((j13 262 10 (by first | exact no_dd_0 | (unfold kKp; omega))).trans (e_Has.eq hT (kt_o rfl))) ⟨by decide, by decide⟩ ?_
              refine e_Ok.ps2 (x := (0, 1000)) (y := (0, y)) (q := 59) 2 rfl ?_
              refine e_Ok.mul (z := 1000 * y) rfl (Int.mul_comm _ _) (by omega) ?_
              refine e_Ok.ps1 (x := (0, y5)) (q := 62) 1 rfl ?_
              refine e_Ok.add (z := 1000 * y + y5) rfl rfl (by omega) ?_
              refine e_Ok.ps1 (x := (1, 262)) (q := 64) 1 rfl ?_
              refine e_Ok.getr (z := 268) rfl (el_o rfl) rfl rfl ((j13 262 9 (by first | exact no_dd_0 | (unfold kKp; omega))).trans (e_Has.eq hT (kt_o rfl))) ⟨by decide, by decide⟩ ?_
              refine e_Ok.ps1 (x := (0, y4b)) (q := 69) 1 rfl ?_
              refine e_Ok.ald (z := w 268 y4b) rfl (el_o rfl) rfl (by omega) ((j13 268 y4b (by first | exact no_dd_1 | (unfold kKp; omega))).trans rfl) (by omega) ?_
              refine e_Ok.ps1 (x := (0, 1)) (q := 71) 1 rfl ?_
              refine e_Ok.sub' (z := w 268 y4b - 1) rfl rfl (by omega) ?_
              refine e_Ok.i2bx rfl (by omega) ?_
              obtain ⟨z27, hz27, z27r⟩ := e_nar_2 (w 268 y4b - 1)
              refine e_Ok.ast rfl (el_o rfl) rfl hz27 (by omega) ?_
              generalize hw28 : e_up v1 269 (1000 * y + y5) z27 = w28
              have hT30 : e_Has kTy w28 := e_Has.ups j14 hw28 rfl
              refine e_Ok.run (t' := (77, [(0, (1, 262)), (1, (0, y)), (3, (0, y3)), (4, (0, y4b)), (5, (0, y5))], [(0, y4b), (1, 262)], w28)) 2 rfl ?_
              have e46 : ∀ c k, c ≠ 269 → w28 c k = w c k := fun c k g => by rw [← hw28, e_up_ne _ _ (by omega)]; exact j17 c k g
              have hL4 : lyI w28 a n m := hL.eq (fun c k g => e46 c k (by omega))
              refine e_Ok.callV rfl (e_dq hd rfl) rfl rfl rfl rfl (c_106 (e_dq hd rfl) hT30 hL4 (x := y4b) (by omega) (by rw [e46 _ _ (by omega)]; exact hk2)) (fun r31 w32 h33 => ?_)
              obtain ⟨z34, rfl, rfl, q35x⟩ := h33
              have hz2 : z34 = P1 (y3 - 1 - (y5 - 1)) := by rw [show y3 - 1 - (y5 - 1) = y3 - 1 - y5 + 1 by omega]; refine q35x _ ?_; rw [e46 _ _ (by omega), show w28 265 = w 265 from funext (fun k => e46 265 k (by omega))]; exact hk.2.2
              have hk9 : 0 ≤ y5 - 1 → 0 ≤ z34 ∧ z34 ≤ 999 := fun g => by have z9 := ((j3).2 (y3 - 1 - (y5 - 1)) (by omega) (by omega)).1; rw [← hz2] at z9; omega
              show e_Ok 20 elay kcode eI (d + 1) 105 (80, [(0, (1, 262)), (1, (0, y)), (3, (0, y3)), (4, (0, y4b)), (5, (0, y5))], [(0, z34)], w28) _
              refine e_Ok.run (t' := (82, [(4, (0, z34)), (0, (1, 262)), (1, (0, y)), (3, (0, y3)), (5, (0, y5))], [], w28)) 1 rfl ?_
              refine e_Ok.inc (z := y5 - 1) rfl rfl (by first | with_reducible rfl | omega) (by omega) ?_
              show e_Ok 20 elay kcode eI (d + 1) 105 (85, [(5, (0, y5 - 1)), (4, (0, z34)), (0, (1, 262)), (1, (0, y)), (3, (0, y3))], [], w28) _
              refine e_Ok.ps0 (q := 46) 1 rfl ?_
              refine e_Ok.sub kAlk (e_sub_of rfl ?_) (ih12 z34 (y5 - 1) w28 ⟨(show e_fr (kKp y) w w28 from e_fr.up j13 hw28 (by unfold kKp; omega)), hT30, hz2, (fun k g1 g2 => by by_cases e : k = y5; (rw [e, ← hw28, e_up_eq, ← j15]; exact nar2x hz27 (by omega)); (rw [← hw28, e_up_ne _ _ (by omega)]; exact j16 k (by omega) g2)), e46, by omega, hk9⟩ (by omega))
              exact ⟨rfl, rfl, rfl, rfl, rfl, trivial⟩
        refine e_Ok.sub kAlk (e_sub_of rfl ?_) (hL11 (1000 + 1 : Int).toNat g (y3 - 1) w ⟨(e_fr.refl w), hT, (by rw [show y3 - 1 - (y3 - 1) = 0 by omega]; exact (j3).1.symm), (fun k g1 g2 => by omega), (fun _ _ _ => rfl), by omega, by omega⟩ (by omega))
        exact ⟨rfl, rfl, rfl, rfl, rfl, trivial⟩
      · replace h10 : (w 268 y4 : Int) ≠ 100 := (show ¬ ((w 268 y4 : Int) = 100) from h10)
        refine e_Ok.ps2 (x := (0, 1000)) (y := (0, y3)) (q := 21) 2 rfl ?_
        refine e_Ok.if2 rfl (fun h36 => ?_) (fun h36 => ?_)
        · replace h36 : (y3 : Int) ≥ 1000 := h36
          exfalso; omega
        · replace h36 : (y3 : Int) < 1000 := Int.not_le.mp (show ¬ ((y3 : Int) ≥ 1000) from h36)
          refine e_Ok.inc (z := y3 + 1) rfl rfl (by first | with_reducible rfl | omega) (by omega) ?_
          show e_Ok 20 elay kcode eI (d + 1) 105 (27, [(3, (0, y3 + 1)), (0, (1, 262)), (1, (0, y)), (2, (0, g)), (4, (0, y4))], [], w) _
          refine e_Ok.ps2 (x := (0, y4)) (y := (1, 262)) (q := 30) 2 rfl ?_
          have hix : 1 ≤ ix := by by_cases g : ix = 0; (have g2 := hp.2.1 g; omega); omega
          obtain ⟨hc1, jx, hjx, hkx⟩ := hB.2.2.2.1 ix hix (by omega)
          rw [j6] at hc1 hkx
          refine e_Ok.callV rfl (e_dq hd rfl) rfl rfl rfl rfl (c_106 (e_dq hd rfl) hT hL (by omega) hc1) (fun r37 w38 h40 => ?_)
          obtain ⟨z41, rfl, rfl, q42x⟩ := h40
          have hz := q42x _ hkx
          have hzr := hB.2.1 jx (by omega) (by omega)
          show e_Ok 20 elay kcode eI (d + 1) 105 (33, [(3, (0, y3 + 1)), (0, (1, 262)), (1, (0, y)), (2, (0, g)), (4, (0, y4))], [(0, z41)], w) _
          refine e_Ok.run (t' := (5, [(4, (0, z41)), (3, (0, y3 + 1)), (0, (1, 262)), (1, (0, y)), (2, (0, g))], [], w)) 2 rfl ?_
          refine e_Ok.sub kAlk (e_sub_of rfl ?_) (ih2 (y3 + 1) z41 jx (fun k => if k = y3 + 1 then z41 else P1 k) ⟨(pth.snoc j3 (by omega) j4 hyr hc1 (by rw [hz]; exact hkx)), (by show (if y3 + 1 = y3 + 1 then z41 else _) = _; rw [if_pos rfl]), (by omega), hz.symm, (by omega), by omega, by omega⟩ (by omega))
          exact ⟨rfl, rfl, rfl, rfl, rfl, trivial⟩
  refine e_Ok.sub kAlk (e_sub_of rfl ?_) (hL1 (999 + 1 : Int).toNat 0 g i0 (fun _ => g) ⟨⟨rfl, fun k g1 g2 => by omega⟩, rfl, hi00, hg0, (by omega), by omega, by omega⟩ (by omega))
  exact ⟨rfl, rfl, rfl, rfl, rfl, trivial⟩
end
end
