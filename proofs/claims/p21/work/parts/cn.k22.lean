noncomputable section
/-! the class: an arm goes on -/
theorem c_14_b {d : Nat} (hd : 23 ≤ d) {w : eW} (hT : e_Has kTy w) {a : Int} (g_a : 0 ≤ a ∧ a ≤ 3) (kx : aK w a) (ht : kn1 (w (17 * a + 86) 12)) (hst : w (17 * a + 86) 11 = 1 ∨ w (17 * a + 86) 11 = 2) (hm : aMs w a (w (17 * a + 86) 8) (w (17 * a + 86) 11)) : e_Ok 20 elay kcode eI d 14 (0, [(0, (1, 17 * a + 86))], [], w) (fun r w' => ∃ z : Int, r = [(0, z)] ∧ e_fr (kGo a) w w' ∧ e_Has kTy w' ∧ (0 ≤ z ∧ z ≤ 1) ∧ (aMs w' a (w (17 * a + 86) 8) (w (17 * a + 86) 11) ∧ aK w' a ∧ (z = 0 → ∀ i, 0 ≤ i → i < w (17 * a + 86) 8 → w' (17 * a + i + 97) 7 = w (17 * a + i + 97) 7) ∧ kn1 (w' (17 * a + 86) 12) ∧ (aP w a → aP w' a))) := by
  obtain ⟨d, rfl⟩ : ∃ e, d = e + 1 := ⟨d - 1, by omega⟩
  have hjn := kn_joints hT (a := a) (by omega)
  have ht0 := ht
  unfold kn1 at ht
  refine e_Ok.run (t' := (4, [(1, (0, 0)), (0, (1, 17 * a + 86))], [(1, 17 * a + 86), (1, 17 * a + 86)], w)) 4 rfl ?_
  refine e_Ok.getf (z := w (17 * a + 86) 12) rfl (lA0 (a := a) (by omega) (by omega)) rfl rfl rfl (by omega) ?_
  refine e_Ok.run (t' := (8, [(1, (0, 0)), (0, (1, 17 * a + 86))], [(0, 1), (0, w (17 * a + 86) 12), (1, 17 * a + 86)], w)) 1 rfl ?_
  refine e_Ok.any rfl (eF_add_any _ _) (fun z1 z1a z1b => ?_)
  refine e_Ok.putf rfl (lA0 (a := a) (by omega) (by omega)) rfl rfl ?_
  generalize hw2 : e_up w (17 * a + 86) 12 z1 = w2
  have f3 : e_fr (kGo a) w w2 := e_fr.up (e_fr.refl w) hw2 (by unfold kGo; omega)
  have l4 : w2 (17 * a + 86) 8 = w (17 * a + 86) 8 := f3 (17 * a + 86) 8 (by unfold kGo; omega)
  have l5 : w2 (17 * a + 86) 11 = w (17 * a + 86) 11 := f3 (17 * a + 86) 11 (by unfold kGo; omega)
  have hT6 : e_Has kTy w2 := e_Has.ups hT hw2 (kA_12 (a := a) (by omega) (by omega))
  refine e_Ok.run (t' := (14, [(2, (0, 0)), (1, (0, 0)), (0, (1, 17 * a + 86))], [], w2)) 2 rfl ?_
  have hL7 : ∀ (nn : Nat) (y1 : Int) (y2 : Int) (v1 : eW), e_fr (kGo a) w v1 ∧ e_Has kTy v1 ∧ aMs v1 a (w (17 * a + 86) 8) (w (17 * a + 86) 11) ∧ aK v1 a ∧ (y1 = 0 → ∀ i, 0 ≤ i → i < w (17 * a + 86) 8 → v1 (17 * a + i + 97) 7 = w (17 * a + i + 97) 7) ∧ kn1 (v1 (17 * a + 86) 12) ∧ (∀ k, v1 (17 * a + 88) k = w (17 * a + 88) k ∧ v1 (17 * a + 89) k = w (17 * a + 89) k) ∧ (0 ≤ y1 ∧ y1 ≤ 1) ∧ (0 ≤ y2 ∧ y2 ≤ 6) → 6 - y2 < nn → e_Ok 20 elay kcode eI (d + 1) 14 (14, [(0, (1, 17 * a + 86)), (1, (0, y1)), (2, (0, y2))], [], v1) (fun r w' => ∃ z : Int, r = [(0, z)] ∧ e_fr (kGo a) w w' ∧ e_Has kTy w' ∧ (0 ≤ z ∧ z ≤ 1) ∧ (aMs w' a (w (17 * a + 86) 8) (w (17 * a + 86) 11) ∧ aK w' a ∧ (z = 0 → ∀ i, 0 ≤ i → i < w (17 * a + 86) 8 → w' (17 * a + i + 97) 7 = w (17 * a + i + 97) 7) ∧ kn1 (w' (17 * a + 86) 12) ∧ (aP w a → aP w' a))) := by
    intro nn
    induction nn with
    | zero => intro y1 y2 v1 hj hm; obtain ⟨j9, j10, j11, j12, j13, j14, j15, j16, j17⟩ := hj; exfalso; omega
    | succ nn ih8 =>
      intro y1 y2 v1 hj hm
      obtain ⟨j9, j10, j11, j12, j13, j14, j15, j16, j17⟩ := hj
      have l18 : v1 (17 * a + 86) 8 = w (17 * a + 86) 8 := j9 (17 * a + 86) 8 (by unfold kGo; omega)
      have l19 : v1 (17 * a + 86) 11 = w (17 * a + 86) 11 := j9 (17 * a + 86) 11 (by unfold kGo; omega)
      refine e_Ok.run (t' := (16, [(0, (1, 17 * a + 86)), (1, (0, y1)), (2, (0, y2))], [(1, 17 * a + 86), (0, y2)], v1)) 2 rfl ?_
      have h20 := (e_Has.get hT (c := 17 * a + 86) (k := 8) (lo := 0) (hi := 6) (kA_8 (a := a) (by omega) (by omega)) (by decide))
      refine e_Ok.getf (z := w (17 * a + 86) 8) rfl (lA0 (a := a) (by omega) (by omega)) rfl rfl ((j9 (17 * a + 86) 8 (by unfold kGo; omega)).trans rfl) (by omega) ?_
      refine e_Ok.if2 rfl (fun h21 => ?_) (fun h21 => ?_)
      · replace h21 : (y2 : Int) ≥ w (17 * a + 86) 8 := h21
        refine e_Ok.run (t' := (89, [(0, (1, 17 * a + 86)), (1, (0, y1)), (2, (0, y2))], [(0, y1)], v1)) 1 rfl ?_
        refine e_Ok.if1 rfl (fun h22 => ?_) (fun h22 => ?_)
        · replace h22 : (y1 : Int) = 0 := h22
          refine e_Ok.run (t' := (97, [(0, (1, 17 * a + 86)), (1, (0, y1)), (2, (0, y2))], [(0, y1)], v1)) 1 rfl ?_
          refine e_Ok.retb rfl (by omega) ?_
          exact ⟨_, rfl, j9, j10, ⟨by omega, by omega⟩, ⟨j11, j12, fun _ i g1 g2 => j13 (by omega) i g1 g2, j14, fun g => aP.same (by omega) j9 hT j10 (fun i g1 g2 => j13 (by omega) i g1 g2) j15 g⟩⟩
        · replace h22 : (y1 : Int) ≠ 0 := by have q : ¬ ((y1 : Int) = 0) := h22; omega
          refine e_Ok.run (t' := (93, [(0, (1, 17 * a + 86)), (1, (0, y1)), (2, (0, y2))], [(1, 17 * a + 86)], v1)) 1 rfl ?_
          refine e_Ok.callV rfl (by omega) rfl (lA0 (a := a) (by omega) (by omega)) rfl rfl (c_10_p (by omega) (a := a) j10 (by omega) (j12.1 0 (by omega) (by omega)) (j12.2 0 (by omega) (by omega))) (fun r23 w24 h25 => ?_)
          obtain ⟨rfl, q26f, q26T, q26x, q26p⟩ := h25
          have f27 : e_fr (kGo a) w w24 := e_fr.trans j9 (e_fr.mono q26f (fun c k q => by unfold kPl at q; unfold kGo; omega))
          have l28 : w24 (17 * a + 86) 8 = w (17 * a + 86) 8 := f27 (17 * a + 86) 8 (by unfold kGo; omega)
          have l29 : w24 (17 * a + 86) 11 = w (17 * a + 86) 11 := f27 (17 * a + 86) 11 (by unfold kGo; omega)
          show e_Ok 20 elay kcode eI (d + 1) 14 (96, [(0, (1, 17 * a + 86)), (1, (0, y1)), (2, (0, y2))], [], w24) _
          refine e_Ok.run (t' := (97, [(0, (1, 17 * a + 86)), (1, (0, y1)), (2, (0, y2))], [(0, y1)], w24)) 1 rfl ?_
          refine e_Ok.retb rfl (by omega) ?_
          exact ⟨_, rfl, f27, q26T, ⟨by omega, by omega⟩, ⟨fun i g1 g2 => by have e : ∀ k, w24 (17 * a + i + 97) k = v1 (17 * a + i + 97) k := fun k => q26f _ _ (by unfold kPl; omega); have q := j11 i g1 g2; unfold jC jM at q ⊢; simp only [e]; exact q, q26x, fun g => absurd g (by omega), by rw [q26f _ _ (by unfold kPl; omega)]; exact j14, fun _ => q26p⟩⟩
      · replace h21 : (y2 : Int) < w (17 * a + 86) 8 := by have q : ¬ ((y2 : Int) ≥ w (17 * a + 86) 8) := h21; omega
        refine e_Ok.run (t' := (23, [(0, (1, 17 * a + 86)), (1, (0, y1)), (2, (0, y2))], [(1, 17 * a + 86)], v1)) 1 rfl ?_
        refine e_Ok.getr (z := 17 * a + 87) rfl (lA0 (a := a) (by omega) (by omega)) rfl rfl ((j9 (17 * a + 86) 0 (by unfold kGo; omega)).trans (Eq.trans (e_Has.eq hT (kA_0 (a := a) (by omega) (by omega))) (by omega))) (by omega) ?_
        refine e_Ok.run (t' := (27, [(0, (1, 17 * a + 86)), (1, (0, y1)), (2, (0, y2))], [(0, y2), (1, 17 * a + 87)], v1)) 1 rfl ?_
        refine e_Ok.aald (z := 17 * a + y2 + 97) rfl (lA1 (a := a) (by omega) (by omega)) rfl (by omega) ((j9 (17 * a + 87) y2 (by unfold kGo; omega)).trans (Eq.trans (e_Has.eq hT (kA87 (a := a) (by omega) (by omega) (by omega))) (by omega))) (by omega) ?_
        refine e_Ok.run (t' := (29, [(3, (1, 17 * a + y2 + 97)), (0, (1, 17 * a + 86)), (1, (0, y1)), (2, (0, y2))], [], v1)) 1 rfl ?_
        have hq := j11 y2 (by omega) (by omega)
        have hqc := hq.1; have hqm := hq.2; unfold jC at hqc; unfold jM joOk at hqm
        have hqt := e_Has.get j10 (c := 17 * a + y2 + 97) (k := 8) (lo := -2000) (hi := 2000) (kJ_8 (a := a) (j := y2) (by omega) (by omega) (by omega)) (by decide)
        have hqv := hqm.1; have hqg := hqm.2.2.1; clear hqm
        refine e_Ok.run (t' := (31, [(3, (1, 17 * a + y2 + 97)), (0, (1, 17 * a + 86)), (1, (0, y1)), (2, (0, y2))], [(1, 17 * a + 86), (1, 17 * a + y2 + 97)], v1)) 2 rfl ?_
        have h30 := (e_Has.get hT (c := 17 * a + 86) (k := 11) (lo := 0) (hi := 2) (kA_11 (a := a) (by omega) (by omega)) (by decide))
        refine e_Ok.getf (z := w (17 * a + 86) 11) rfl (lA0 (a := a) (by omega) (by omega)) rfl rfl ((j9 (17 * a + 86) 11 (by unfold kGo; omega)).trans rfl) (by omega) ?_
        refine e_Ok.run (t' := (35, [(3, (1, 17 * a + y2 + 97)), (0, (1, 17 * a + 86)), (1, (0, y1)), (2, (0, y2))], [(0, 2), (0, w (17 * a + 86) 11), (1, 17 * a + y2 + 97)], v1)) 1 rfl ?_
        refine e_Ok.if2 rfl (fun h31 => ?_) (fun h31 => ?_)
        · replace h31 : (w (17 * a + 86) 11 : Int) ≠ 2 := h31
          refine e_Ok.run (t' := (46, [(3, (1, 17 * a + y2 + 97)), (0, (1, 17 * a + 86)), (1, (0, y1)), (2, (0, y2))], [(1, 17 * a + y2 + 97), (1, 17 * a + y2 + 97)], v1)) 1 rfl ?_
          refine e_Ok.callV rfl (by omega) rfl (lJ (a := a) (j := y2) (by omega) (by omega) (by omega)) rfl rfl (c_90 (by omega) (a := a) (j := y2) j10 (by omega) (by omega) (g := v1 (17 * a + y2 + 97) 6) (by omega) rfl (v := v1 (17 * a + y2 + 97) 7) (s := v1 (17 * a + y2 + 97) 8) (go := v1 (17 * a + y2 + 97) 9) (sp := v1 (17 * a + y2 + 97) 5) (by omega) (by have := hqg (by omega); omega) (by omega) (by omega) rfl rfl rfl rfl) (fun r32 w33 h34 => ?_)
          obtain ⟨z35, rfl, rfl, q36r, q36d⟩ := h34
          clear hqg
          show e_Ok 20 elay kcode eI (d + 1) 14 (49, [(3, (1, 17 * a + y2 + 97)), (0, (1, 17 * a + 86)), (1, (0, y1)), (2, (0, y2))], [(0, z35), (1, 17 * a + y2 + 97)], v1) _
          refine e_Ok.putf rfl (lJ (a := a) (j := y2) (by omega) (by omega) (by omega)) rfl rfl ?_
          generalize hw37 : e_up v1 (17 * a + y2 + 97) 8 z35 = w37
          have f38 : e_fr (kGo a) w w37 := e_fr.up j9 hw37 (by unfold kGo; omega)
          have l40 : w37 (17 * a + 86) 8 = w (17 * a + 86) 8 := f38 (17 * a + 86) 8 (by unfold kGo; omega)
          have l41 : w37 (17 * a + 86) 11 = w (17 * a + 86) 11 := f38 (17 * a + 86) 11 (by unfold kGo; omega)
          have hT42 : e_Has kTy w37 := e_Has.upr j10 hw37 (kJ_8 (a := a) (j := y2) (by omega) (by omega) (by omega)) (by omega)
          refine e_Ok.run (t' := (54, [(3, (1, 17 * a + y2 + 97)), (0, (1, 17 * a + 86)), (1, (0, y1)), (2, (0, y2))], [(1, 17 * a + y2 + 97), (1, 17 * a + y2 + 97)], w37)) 2 rfl ?_
          refine e_Ok.getf (z := v1 (17 * a + y2 + 97) 7) rfl (lJ (a := a) (j := y2) (by omega) (by omega) (by omega)) rfl rfl (by rw [← hw37]; exact (e_up_ne _ _ (Or.inr (by omega))).trans rfl) (by omega) ?_
          refine e_Ok.run (t' := (58, [(3, (1, 17 * a + y2 + 97)), (0, (1, 17 * a + 86)), (1, (0, y1)), (2, (0, y2))], [(1, 17 * a + y2 + 97), (0, v1 (17 * a + y2 + 97) 7), (1, 17 * a + y2 + 97)], w37)) 1 rfl ?_
          refine e_Ok.getf (z := z35) rfl (lJ (a := a) (j := y2) (by omega) (by omega) (by omega)) rfl rfl (by rw [← hw37]; exact e_up_eq _ _ _ _) (by omega) ?_
          refine e_Ok.add (z := v1 (17 * a + y2 + 97) 7 + z35) rfl (by omega) (by omega) ?_
          refine e_Ok.putf rfl (lJ (a := a) (j := y2) (by omega) (by omega) (by omega)) rfl rfl ?_
          generalize hw43 : e_up w37 (17 * a + y2 + 97) 7 (v1 (17 * a + y2 + 97) 7 + z35) = w43
          have f44 : e_fr (kGo a) w w43 := e_fr.up f38 hw43 (by unfold kGo; omega)
          have l45 : w43 (17 * a + 86) 8 = w (17 * a + 86) 8 := f44 (17 * a + 86) 8 (by unfold kGo; omega)
          have l46 : w43 (17 * a + 86) 11 = w (17 * a + 86) 11 := f44 (17 * a + 86) 11 (by unfold kGo; omega)
          have hT47 : e_Has kTy w43 := e_Has.upr hT42 hw43 (kJ_7 (a := a) (j := y2) (by omega) (by omega) (by omega)) (by omega)
          refine e_Ok.run (t' := (66, [(3, (1, 17 * a + y2 + 97)), (0, (1, 17 * a + 86)), (1, (0, y1)), (2, (0, y2))], [(0, y1)], w43)) 1 rfl ?_
          refine e_Ok.if1 rfl (fun h48 => ?_) (fun h48 => ?_)
          · replace h48 : (y1 : Int) ≠ 0 := h48
            refine e_Ok.run (t' := (82, [(1, (0, 1)), (3, (1, 17 * a + y2 + 97)), (0, (1, 17 * a + 86)), (2, (0, y2))], [], w43)) 3 rfl ?_
            refine e_Ok.inc (z := y2 + 1) rfl rfl (by omega) (by omega) ?_
            show e_Ok 20 elay kcode eI (d + 1) 14 (85, [(2, (0, y2 + 1)), (1, (0, 1)), (3, (1, 17 * a + y2 + 97)), (0, (1, 17 * a + 86))], [], w43) _
            refine e_Ok.run (t' := (14, [(2, (0, y2 + 1)), (1, (0, 1)), (3, (1, 17 * a + y2 + 97)), (0, (1, 17 * a + 86))], [], w43)) 1 rfl ?_
            refine e_Ok.sub kAlk (e_sub_of rfl ?_) (ih8 1 (y2 + 1) w43 ⟨f44, hT47, (fun i g1 g2 => if e : i = y2 then by rw [e]; exact jq.step hq hw37 hw43 (by omega) (Or.inl ⟨by omega, q36d⟩) else jq.oth (jq.oth (j11 i g1 g2) hw37 (by omega)) hw43 (by omega)), (aK.up (aK.up j12 hw37 (by omega) (by omega) (by omega)) hw43 (by omega) (by omega) (by omega)), (fun g => absurd g (by decide)), (by rw [← hw43, e_up_ne _ _ (by omega), ← hw37, e_up_ne _ _ (by omega)]; exact j14), (fun k => ⟨by rw [← hw43, e_up_ne _ _ (by omega), ← hw37, e_up_ne _ _ (by omega)]; exact (j15 k).1, by rw [← hw43, e_up_ne _ _ (by omega), ← hw37, e_up_ne _ _ (by omega)]; exact (j15 k).2⟩), by omega, by omega⟩ (by omega))
            exact ⟨rfl, rfl, rfl, trivial⟩
          · replace h48 : (y1 : Int) = 0 := by have q : ¬ ((y1 : Int) ≠ 0) := h48; omega
            refine e_Ok.run (t' := (70, [(3, (1, 17 * a + y2 + 97)), (0, (1, 17 * a + 86)), (1, (0, y1)), (2, (0, y2))], [(1, 17 * a + y2 + 97)], w43)) 1 rfl ?_
            refine e_Ok.getf (z := z35) rfl (lJ (a := a) (j := y2) (by omega) (by omega) (by omega)) rfl rfl (by rw [← hw43]; exact (e_up_ne _ _ (Or.inr (by omega))).trans (by rw [← hw37]; exact e_up_eq _ _ _ _)) (by omega) ?_
            refine e_Ok.if1 rfl (fun h49 => ?_) (fun h49 => ?_)
            · replace h49 : (z35 : Int) = 0 := h49
              refine e_Ok.run (t' := (82, [(1, (0, 0)), (3, (1, 17 * a + y2 + 97)), (0, (1, 17 * a + 86)), (2, (0, y2))], [], w43)) 2 rfl ?_
              refine e_Ok.inc (z := y2 + 1) rfl rfl (by omega) (by omega) ?_
              show e_Ok 20 elay kcode eI (d + 1) 14 (85, [(2, (0, y2 + 1)), (1, (0, 0)), (3, (1, 17 * a + y2 + 97)), (0, (1, 17 * a + 86))], [], w43) _
              refine e_Ok.run (t' := (14, [(2, (0, y2 + 1)), (1, (0, 0)), (3, (1, 17 * a + y2 + 97)), (0, (1, 17 * a + 86))], [], w43)) 1 rfl ?_
              refine e_Ok.sub kAlk (e_sub_of rfl ?_) (ih8 0 (y2 + 1) w43 ⟨f44, hT47, (fun i g1 g2 => if e : i = y2 then by rw [e]; exact jq.step hq hw37 hw43 (by omega) (Or.inl ⟨by omega, q36d⟩) else jq.oth (jq.oth (j11 i g1 g2) hw37 (by omega)) hw43 (by omega)), (aK.up (aK.up j12 hw37 (by omega) (by omega) (by omega)) hw43 (by omega) (by omega) (by omega)), (fun _ i g1 g2 => by
          by_cases e : i = y2
          · rw [e, ← hw43, e_up_eq]; have g := j13 (by omega) y2 (by omega) (by omega); omega
          · rw [← hw43, e_up_ne _ _ (by omega), ← hw37, e_up_ne _ _ (by omega)]; exact j13 (by omega) i g1 g2), (by rw [← hw43, e_up_ne _ _ (by omega), ← hw37, e_up_ne _ _ (by omega)]; exact j14), (fun k => ⟨by rw [← hw43, e_up_ne _ _ (by omega), ← hw37, e_up_ne _ _ (by omega)]; exact (j15 k).1, by rw [← hw43, e_up_ne _ _ (by omega), ← hw37, e_up_ne _ _ (by omega)]; exact (j15 k).2⟩), by omega, by omega⟩ (by omega))
              exact ⟨rfl, rfl, rfl, trivial⟩
            · replace h49 : (z35 : Int) ≠ 0 := by have q : ¬ ((z35 : Int) = 0) := h49; omega
              refine e_Ok.run (t' := (82, [(1, (0, 1)), (3, (1, 17 * a + y2 + 97)), (0, (1, 17 * a + 86)), (2, (0, y2))], [], w43)) 3 rfl ?_
              refine e_Ok.inc (z := y2 + 1) rfl rfl (by omega) (by omega) ?_
              show e_Ok 20 elay kcode eI (d + 1) 14 (85, [(2, (0, y2 + 1)), (1, (0, 1)), (3, (1, 17 * a + y2 + 97)), (0, (1, 17 * a + 86))], [], w43) _
              refine e_Ok.run (t' := (14, [(2, (0, y2 + 1)), (1, (0, 1)), (3, (1, 17 * a + y2 + 97)), (0, (1, 17 * a + 86))], [], w43)) 1 rfl ?_
              refine e_Ok.sub kAlk (e_sub_of rfl ?_) (ih8 1 (y2 + 1) w43 ⟨f44, hT47, (fun i g1 g2 => if e : i = y2 then by rw [e]; exact jq.step hq hw37 hw43 (by omega) (Or.inl ⟨by omega, q36d⟩) else jq.oth (jq.oth (j11 i g1 g2) hw37 (by omega)) hw43 (by omega)), (aK.up (aK.up j12 hw37 (by omega) (by omega) (by omega)) hw43 (by omega) (by omega) (by omega)), (fun g => absurd g (by decide)), (by rw [← hw43, e_up_ne _ _ (by omega), ← hw37, e_up_ne _ _ (by omega)]; exact j14), (fun k => ⟨by rw [← hw43, e_up_ne _ _ (by omega), ← hw37, e_up_ne _ _ (by omega)]; exact (j15 k).1, by rw [← hw43, e_up_ne _ _ (by omega), ← hw37, e_up_ne _ _ (by omega)]; exact (j15 k).2⟩), by omega, by omega⟩ (by omega))
              exact ⟨rfl, rfl, rfl, trivial⟩
        · replace h31 : (w (17 * a + 86) 11 : Int) = 2 := by have q : ¬ ((w (17 * a + 86) 11 : Int) ≠ 2) := h31; omega
          refine e_Ok.run (t' := (39, [(3, (1, 17 * a + y2 + 97)), (0, (1, 17 * a + 86)), (1, (0, y1)), (2, (0, y2))], [(1, 17 * a + y2 + 97), (1, 17 * a + y2 + 97)], v1)) 1 rfl ?_
          refine e_Ok.callV rfl (by omega) rfl (lJ (a := a) (j := y2) (by omega) (by omega) (by omega)) rfl rfl (c_91 (a := a) (j := y2) j10 (by omega) (by omega) (g := v1 (17 * a + y2 + 97) 6) (by omega) rfl (s := v1 (17 * a + y2 + 97) 8) (by omega) rfl) (fun r50 w51 h52 => ?_)
          obtain ⟨z53, rfl, rfl, q54r, q54d⟩ := h52
          clear hqg
          show e_Ok 20 elay kcode eI (d + 1) 14 (42, [(3, (1, 17 * a + y2 + 97)), (0, (1, 17 * a + 86)), (1, (0, y1)), (2, (0, y2))], [(0, z53), (1, 17 * a + y2 + 97)], v1) _
          refine e_Ok.run (t' := (49, [(3, (1, 17 * a + y2 + 97)), (0, (1, 17 * a + 86)), (1, (0, y1)), (2, (0, y2))], [(0, z53), (1, 17 * a + y2 + 97)], v1)) 1 rfl ?_
          refine e_Ok.putf rfl (lJ (a := a) (j := y2) (by omega) (by omega) (by omega)) rfl rfl ?_
          generalize hw55 : e_up v1 (17 * a + y2 + 97) 8 z53 = w55
          have f56 : e_fr (kGo a) w w55 := e_fr.up j9 hw55 (by unfold kGo; omega)
          have l57 : w55 (17 * a + 86) 8 = w (17 * a + 86) 8 := f56 (17 * a + 86) 8 (by unfold kGo; omega)
          have l58 : w55 (17 * a + 86) 11 = w (17 * a + 86) 11 := f56 (17 * a + 86) 11 (by unfold kGo; omega)
          have hT59 : e_Has kTy w55 := e_Has.upr j10 hw55 (kJ_8 (a := a) (j := y2) (by omega) (by omega) (by omega)) (by omega)
          refine e_Ok.run (t' := (54, [(3, (1, 17 * a + y2 + 97)), (0, (1, 17 * a + 86)), (1, (0, y1)), (2, (0, y2))], [(1, 17 * a + y2 + 97), (1, 17 * a + y2 + 97)], w55)) 2 rfl ?_
          refine e_Ok.getf (z := v1 (17 * a + y2 + 97) 7) rfl (lJ (a := a) (j := y2) (by omega) (by omega) (by omega)) rfl rfl (by rw [← hw55]; exact (e_up_ne _ _ (Or.inr (by omega))).trans rfl) (by omega) ?_
          refine e_Ok.run (t' := (58, [(3, (1, 17 * a + y2 + 97)), (0, (1, 17 * a + 86)), (1, (0, y1)), (2, (0, y2))], [(1, 17 * a + y2 + 97), (0, v1 (17 * a + y2 + 97) 7), (1, 17 * a + y2 + 97)], w55)) 1 rfl ?_
          refine e_Ok.getf (z := z53) rfl (lJ (a := a) (j := y2) (by omega) (by omega) (by omega)) rfl rfl (by rw [← hw55]; exact e_up_eq _ _ _ _) (by omega) ?_
          refine e_Ok.add (z := v1 (17 * a + y2 + 97) 7 + z53) rfl (by omega) (by omega) ?_
          refine e_Ok.putf rfl (lJ (a := a) (j := y2) (by omega) (by omega) (by omega)) rfl rfl ?_
          generalize hw60 : e_up w55 (17 * a + y2 + 97) 7 (v1 (17 * a + y2 + 97) 7 + z53) = w60
          have f61 : e_fr (kGo a) w w60 := e_fr.up f56 hw60 (by unfold kGo; omega)
          have l62 : w60 (17 * a + 86) 8 = w (17 * a + 86) 8 := f61 (17 * a + 86) 8 (by unfold kGo; omega)
          have l63 : w60 (17 * a + 86) 11 = w (17 * a + 86) 11 := f61 (17 * a + 86) 11 (by unfold kGo; omega)
          have hT64 : e_Has kTy w60 := e_Has.upr hT59 hw60 (kJ_7 (a := a) (j := y2) (by omega) (by omega) (by omega)) (by omega)
          refine e_Ok.run (t' := (66, [(3, (1, 17 * a + y2 + 97)), (0, (1, 17 * a + 86)), (1, (0, y1)), (2, (0, y2))], [(0, y1)], w60)) 1 rfl ?_
          refine e_Ok.if1 rfl (fun h65 => ?_) (fun h65 => ?_)
          · replace h65 : (y1 : Int) ≠ 0 := h65
            refine e_Ok.run (t' := (82, [(1, (0, 1)), (3, (1, 17 * a + y2 + 97)), (0, (1, 17 * a + 86)), (2, (0, y2))], [], w60)) 3 rfl ?_
            refine e_Ok.inc (z := y2 + 1) rfl rfl (by omega) (by omega) ?_
            show e_Ok 20 elay kcode eI (d + 1) 14 (85, [(2, (0, y2 + 1)), (1, (0, 1)), (3, (1, 17 * a + y2 + 97)), (0, (1, 17 * a + 86))], [], w60) _
            refine e_Ok.run (t' := (14, [(2, (0, y2 + 1)), (1, (0, 1)), (3, (1, 17 * a + y2 + 97)), (0, (1, 17 * a + 86))], [], w60)) 1 rfl ?_
            refine e_Ok.sub kAlk (e_sub_of rfl ?_) (ih8 1 (y2 + 1) w60 ⟨f61, hT64, (fun i g1 g2 => if e : i = y2 then by rw [e]; exact jq.step hq hw55 hw60 (by omega) (Or.inr ⟨by omega, q54d⟩) else jq.oth (jq.oth (j11 i g1 g2) hw55 (by omega)) hw60 (by omega)), (aK.up (aK.up j12 hw55 (by omega) (by omega) (by omega)) hw60 (by omega) (by omega) (by omega)), (fun g => absurd g (by decide)), (by rw [← hw60, e_up_ne _ _ (by omega), ← hw55, e_up_ne _ _ (by omega)]; exact j14), (fun k => ⟨by rw [← hw60, e_up_ne _ _ (by omega), ← hw55, e_up_ne _ _ (by omega)]; exact (j15 k).1, by rw [← hw60, e_up_ne _ _ (by omega), ← hw55, e_up_ne _ _ (by omega)]; exact (j15 k).2⟩), by omega, by omega⟩ (by omega))
            exact ⟨rfl, rfl, rfl, trivial⟩
          · replace h65 : (y1 : Int) = 0 := by have q : ¬ ((y1 : Int) ≠ 0) := h65; omega
            refine e_Ok.run (t' := (70, [(3, (1, 17 * a + y2 + 97)), (0, (1, 17 * a + 86)), (1, (0, y1)), (2, (0, y2))], [(1, 17 * a + y2 + 97)], w60)) 1 rfl ?_
            refine e_Ok.getf (z := z53) rfl (lJ (a := a) (j := y2) (by omega) (by omega) (by omega)) rfl rfl (by rw [← hw60]; exact (e_up_ne _ _ (Or.inr (by omega))).trans (by rw [← hw55]; exact e_up_eq _ _ _ _)) (by omega) ?_
            refine e_Ok.if1 rfl (fun h66 => ?_) (fun h66 => ?_)
            · replace h66 : (z53 : Int) = 0 := h66
              refine e_Ok.run (t' := (82, [(1, (0, 0)), (3, (1, 17 * a + y2 + 97)), (0, (1, 17 * a + 86)), (2, (0, y2))], [], w60)) 2 rfl ?_
              refine e_Ok.inc (z := y2 + 1) rfl rfl (by omega) (by omega) ?_
              show e_Ok 20 elay kcode eI (d + 1) 14 (85, [(2, (0, y2 + 1)), (1, (0, 0)), (3, (1, 17 * a + y2 + 97)), (0, (1, 17 * a + 86))], [], w60) _
              refine e_Ok.run (t' := (14, [(2, (0, y2 + 1)), (1, (0, 0)), (3, (1, 17 * a + y2 + 97)), (0, (1, 17 * a + 86))], [], w60)) 1 rfl ?_
              refine e_Ok.sub kAlk (e_sub_of rfl ?_) (ih8 0 (y2 + 1) w60 ⟨f61, hT64, (fun i g1 g2 => if e : i = y2 then by rw [e]; exact jq.step hq hw55 hw60 (by omega) (Or.inr ⟨by omega, q54d⟩) else jq.oth (jq.oth (j11 i g1 g2) hw55 (by omega)) hw60 (by omega)), (aK.up (aK.up j12 hw55 (by omega) (by omega) (by omega)) hw60 (by omega) (by omega) (by omega)), (fun _ i g1 g2 => by
          by_cases e : i = y2
          · rw [e, ← hw60, e_up_eq]; have g := j13 (by omega) y2 (by omega) (by omega); omega
          · rw [← hw60, e_up_ne _ _ (by omega), ← hw55, e_up_ne _ _ (by omega)]; exact j13 (by omega) i g1 g2), (by rw [← hw60, e_up_ne _ _ (by omega), ← hw55, e_up_ne _ _ (by omega)]; exact j14), (fun k => ⟨by rw [← hw60, e_up_ne _ _ (by omega), ← hw55, e_up_ne _ _ (by omega)]; exact (j15 k).1, by rw [← hw60, e_up_ne _ _ (by omega), ← hw55, e_up_ne _ _ (by omega)]; exact (j15 k).2⟩), by omega, by omega⟩ (by omega))
              exact ⟨rfl, rfl, rfl, trivial⟩
            · replace h66 : (z53 : Int) ≠ 0 := by have q : ¬ ((z53 : Int) = 0) := h66; omega
              refine e_Ok.run (t' := (82, [(1, (0, 1)), (3, (1, 17 * a + y2 + 97)), (0, (1, 17 * a + 86)), (2, (0, y2))], [], w60)) 3 rfl ?_
              refine e_Ok.inc (z := y2 + 1) rfl rfl (by omega) (by omega) ?_
              show e_Ok 20 elay kcode eI (d + 1) 14 (85, [(2, (0, y2 + 1)), (1, (0, 1)), (3, (1, 17 * a + y2 + 97)), (0, (1, 17 * a + 86))], [], w60) _
              refine e_Ok.run (t' := (14, [(2, (0, y2 + 1)), (1, (0, 1)), (3, (1, 17 * a + y2 + 97)), (0, (1, 17 * a + 86))], [], w60)) 1 rfl ?_
              refine e_Ok.sub kAlk (e_sub_of rfl ?_) (ih8 1 (y2 + 1) w60 ⟨f61, hT64, (fun i g1 g2 => if e : i = y2 then by rw [e]; exact jq.step hq hw55 hw60 (by omega) (Or.inr ⟨by omega, q54d⟩) else jq.oth (jq.oth (j11 i g1 g2) hw55 (by omega)) hw60 (by omega)), (aK.up (aK.up j12 hw55 (by omega) (by omega) (by omega)) hw60 (by omega) (by omega) (by omega)), (fun g => absurd g (by decide)), (by rw [← hw60, e_up_ne _ _ (by omega), ← hw55, e_up_ne _ _ (by omega)]; exact j14), (fun k => ⟨by rw [← hw60, e_up_ne _ _ (by omega), ← hw55, e_up_ne _ _ (by omega)]; exact (j15 k).1, by rw [← hw60, e_up_ne _ _ (by omega), ← hw55, e_up_ne _ _ (by omega)]; exact (j15 k).2⟩), by omega, by omega⟩ (by omega))
              exact ⟨rfl, rfl, rfl, trivial⟩
  refine e_Ok.sub kAlk (e_sub_of rfl ?_) (hL7 (6 + 1 : Int).toNat 0 0 w2 ⟨f3, hT6, (fun i g1 g2 => jq.oth (hm i g1 g2) hw2 (by omega)), (aK.up kx hw2 (by omega) (by omega) (by omega)), (fun _ i g1 g2 => by rw [← hw2]; exact e_up_ne _ _ (by omega)), (by rw [← hw2, e_up_eq]; unfold kn1; omega), (fun k => ⟨by rw [← hw2]; exact e_up_ne _ _ (by omega), by rw [← hw2]; exact e_up_ne _ _ (by omega)⟩), by omega, by omega⟩ (by omega))
  exact ⟨rfl, rfl, rfl, trivial⟩
end
