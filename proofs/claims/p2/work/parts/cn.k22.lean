noncomputable section
/-! the class: an arm goes on -/
theorem c_14_b {d : Nat} (hd : 23 ≤ d) {w : eW} (hT : e_Has kTy w) {a : Int} (g_a : 0 ≤ a ∧ a ≤ 3) (kx : aK w a) (ht : kn1 (w (17 * a + 86) 12)) (hst : w (17 * a + 86) 11 = 1 ∨ w (17 * a + 86) 11 = 2) (hm : aMs w a (w (17 * a + 86) 8) (w (17 * a + 86) 11)) : e_Ok 20 elay kcode eI d 14 (0, [(0, (1, 17 * a + 86))], [], w) (fun r w' => ∃ z : Int, r = [(0, z)] ∧ e_fr (kGo a) w w' ∧ e_Has kTy w' ∧ (0 ≤ z ∧ z ≤ 1) ∧ (aMs w' a (w (17 * a + 86) 8) (w (17 * a + 86) 11) ∧ aK w' a ∧ (z = 0 → ∀ i, 0 ≤ i → i < w (17 * a + 86) 8 → w' (17 * a + i + 97) 7 = w (17 * a + i + 97) 7) ∧ kn1 (w' (17 * a + 86) 12))) := by
  obtain ⟨d, rfl⟩ : ∃ e, d = e + 1 := ⟨d - 1, by omega⟩
  have hjn := kn_joints hT (a := a) (by omega)
  have ht0 := ht
  unfold kn1 at ht
  refine e_Ok.run (t' := (4, [(1, (0, 0)), (0, (1, 17 * a + 86))], [(1, 17 * a + 86), (1, 17 * a + 86)], w)) 4 rfl ?_
  refine e_Ok.getf (z := w (17 * a + 86) 12) rfl (lA0 (a := a) (by omega) (by omega)) rfl rfl rfl (by omega) ?_
  refine e_Ok.run (t' := (8, [(1, (0, 0)), (0, (1, 17 * a + 86))], [(0, 1), (0, w (17 * a + 86) 12), (1, 17 * a + 86)], w)) 1 rfl ?_
  refine e_Ok.any rfl (eF_add_any _ _) (fun z1 z1a z1b => ?_)
  refine e_Ok.putf rfl (lA0 (a := a) (by omega) (by omega)) rfl rfl ?_
  generalize hw2 : e_up w (17 * a + 86) 12 z1 = w2
  have f3 : e_fr (kGo a) w w2 := e_fr.up (e_fr.refl w) hw2 (by unfold kGo; omega)
  have l4 : w2 (17 * a + 86) 8 = w (17 * a + 86) 8 := f3 (17 * a + 86) 8 (by unfold kGo; omega)
  have l5 : w2 (17 * a + 86) 11 = w (17 * a + 86) 11 := f3 (17 * a + 86) 11 (by unfold kGo; omega)
  have hT6 : e_Has kTy w2 := e_Has.ups hT hw2 (kA_12 (a := a) (by omega) (by omega))
  refine e_Ok.run (t' := (14, [(2, (0, 0)), (1, (0, 0)), (0, (1, 17 * a + 86))], [], w2)) 2 rfl ?_
  have hL7 : ∀ (nn : Nat) (y1 : Int) (y2 : Int) (v1 : eW), e_fr (kGo a) w v1 ∧ e_Has kTy v1 ∧ aMs v1 a (w (17 * a + 86) 8) (w (17 * a + 86) 11) ∧ aK v1 a ∧ (y1 = 0 → ∀ i, 0 ≤ i → i < w (17 * a + 86) 8 → v1 (17 * a + i + 97) 7 = w (17 * a + i + 97) 7) ∧ kn1 (v1 (17 * a + 86) 12) ∧ (0 ≤ y1 ∧ y1 ≤ 1) ∧ (0 ≤ y2 ∧ y2 ≤ 6) → 6 - y2 < nn → e_Ok 20 elay kcode eI (d + 1) 14 (14, [(0, (1, 17 * a + 86)), (1, (0, y1)), (2, (0, y2))], [], v1) (fun r w' => ∃ z : Int, r = [(0, z)] ∧ e_fr (kGo a) w w' ∧ e_Has kTy w' ∧ (0 ≤ z ∧ z ≤ 1) ∧ (aMs w' a (w (17 * a + 86) 8) (w (17 * a + 86) 11) ∧ aK w' a ∧ (z = 0 → ∀ i, 0 ≤ i → i < w (17 * a + 86) 8 → w' (17 * a + i + 97) 7 = w (17 * a + i + 97) 7) ∧ kn1 (w' (17 * a + 86) 12))) := by
    intro nn
    induction nn with
    | zero => intro y1 y2 v1 hj hm; obtain ⟨j9, j10, j11, j12, j13, j14, j15, j16⟩ := hj; exfalso; omega
    | succ nn ih8 =>
      intro y1 y2 v1 hj hm
      obtain ⟨j9, j10, j11, j12, j13, j14, j15, j16⟩ := hj
      have l17 : v1 (17 * a + 86) 8 = w (17 * a + 86) 8 := j9 (17 * a + 86) 8 (by unfold kGo; omega)
      have l18 : v1 (17 * a + 86) 11 = w (17 * a + 86) 11 := j9 (17 * a + 86) 11 (by unfold kGo; omega)
      refine e_Ok.run (t' := (16, [(0, (1, 17 * a + 86)), (1, (0, y1)), (2, (0, y2))], [(1, 17 * a + 86), (0, y2)], v1)) 2 rfl ?_
      have h19 := (e_Has.get hT (c := 17 * a + 86) (k := 8) (lo := 0) (hi := 6) (kA_8 (a := a) (by omega) (by omega)) (by decide))
      refine e_Ok.getf (z := w (17 * a + 86) 8) rfl (lA0 (a := a) (by omega) (by omega)) rfl rfl ((j9 (17 * a + 86) 8 (by unfold kGo; omega)).trans rfl) (by omega) ?_
      refine e_Ok.if2 rfl (fun h20 => ?_) (fun h20 => ?_)
      · replace h20 : (y2 : Int) ≥ w (17 * a + 86) 8 := h20
        refine e_Ok.run (t' := (89, [(0, (1, 17 * a + 86)), (1, (0, y1)), (2, (0, y2))], [(0, y1)], v1)) 1 rfl ?_
        refine e_Ok.if1 rfl (fun h21 => ?_) (fun h21 => ?_)
        · replace h21 : (y1 : Int) = 0 := h21
          refine e_Ok.run (t' := (97, [(0, (1, 17 * a + 86)), (1, (0, y1)), (2, (0, y2))], [(0, y1)], v1)) 1 rfl ?_
          refine e_Ok.retb rfl (by omega) ?_
          exact ⟨_, rfl, j9, j10, ⟨by omega, by omega⟩, ⟨j11, j12, fun _ i g1 g2 => j13 (by omega) i g1 g2, j14⟩⟩
        · replace h21 : (y1 : Int) ≠ 0 := by have q : ¬ ((y1 : Int) = 0) := h21; omega
          refine e_Ok.run (t' := (93, [(0, (1, 17 * a + 86)), (1, (0, y1)), (2, (0, y2))], [(1, 17 * a + 86)], v1)) 1 rfl ?_
          refine e_Ok.callV rfl (by omega) rfl (lA0 (a := a) (by omega) (by omega)) rfl rfl (c_10 (by omega) (a := a) j10 (by omega) (j12.1 0 (by omega) (by omega)) (j12.2 0 (by omega) (by omega))) (fun r22 w23 h24 => ?_)
          obtain ⟨rfl, q25f, q25T, q25x⟩ := h24
          have f26 : e_fr (kGo a) w w23 := e_fr.trans j9 (e_fr.mono q25f (fun c k q => by unfold kPl at q; unfold kGo; omega))
          have l27 : w23 (17 * a + 86) 8 = w (17 * a + 86) 8 := f26 (17 * a + 86) 8 (by unfold kGo; omega)
          have l28 : w23 (17 * a + 86) 11 = w (17 * a + 86) 11 := f26 (17 * a + 86) 11 (by unfold kGo; omega)
          show e_Ok 20 elay kcode eI (d + 1) 14 (96, [(0, (1, 17 * a + 86)), (1, (0, y1)), (2, (0, y2))], [], w23) _
          refine e_Ok.run (t' := (97, [(0, (1, 17 * a + 86)), (1, (0, y1)), (2, (0, y2))], [(0, y1)], w23)) 1 rfl ?_
          refine e_Ok.retb rfl (by omega) ?_
          exact ⟨_, rfl, f26, q25T, ⟨by omega, by omega⟩, ⟨fun i g1 g2 => by have e : ∀ k, w23 (17 * a + i + 97) k = v1 (17 * a + i + 97) k := fun k => q25f _ _ (by unfold kPl; omega); have q := j11 i g1 g2; unfold jC jM at q ⊢; simp only [e]; exact q, q25x, fun g => absurd g (by omega), by rw [q25f _ _ (by unfold kPl; omega)]; exact j14⟩⟩
      · replace h20 : (y2 : Int) < w (17 * a + 86) 8 := by have q : ¬ ((y2 : Int) ≥ w (17 * a + 86) 8) := h20; omega
        refine e_Ok.run (t' := (23, [(0, (1, 17 * a + 86)), (1, (0, y1)), (2, (0, y2))], [(1, 17 * a + 86)], v1)) 1 rfl ?_
        refine e_Ok.getr (z := 17 * a + 87) rfl (lA0 (a := a) (by omega) (by omega)) rfl rfl ((j9 (17 * a + 86) 0 (by unfold kGo; omega)).trans (Eq.trans (e_Has.eq hT (kA_0 (a := a) (by omega) (by omega))) (by omega))) (by omega) ?_
        refine e_Ok.run (t' := (27, [(0, (1, 17 * a + 86)), (1, (0, y1)), (2, (0, y2))], [(0, y2), (1, 17 * a + 87)], v1)) 1 rfl ?_
        refine e_Ok.aald (z := 17 * a + y2 + 97) rfl (lA1 (a := a) (by omega) (by omega)) rfl (by omega) ((j9 (17 * a + 87) y2 (by unfold kGo; omega)).trans (Eq.trans (e_Has.eq hT (kA87 (a := a) (by omega) (by omega) (by omega))) (by omega))) (by omega) ?_
        refine e_Ok.run (t' := (29, [(3, (1, 17 * a + y2 + 97)), (0, (1, 17 * a + 86)), (1, (0, y1)), (2, (0, y2))], [], v1)) 1 rfl ?_
        have hq := j11 y2 (by omega) (by omega)
        have hqc := hq.1; have hqm := hq.2; unfold jC at hqc; unfold jM joOk at hqm
        have hqt := e_Has.get j10 (c := 17 * a + y2 + 97) (k := 8) (lo := -2000) (hi := 2000) (kJ_8 (a := a) (j := y2) (by omega) (by omega) (by omega)) (by decide)
        have hqv := hqm.1; have hqg := hqm.2.2.1; clear hqm
        refine e_Ok.run (t' := (31, [(3, (1, 17 * a + y2 + 97)), (0, (1, 17 * a + 86)), (1, (0, y1)), (2, (0, y2))], [(1, 17 * a + 86), (1, 17 * a + y2 + 97)], v1)) 2 rfl ?_
        have h29 := (e_Has.get hT (c := 17 * a + 86) (k := 11) (lo := 0) (hi := 2) (kA_11 (a := a) (by omega) (by omega)) (by decide))
        refine e_Ok.getf (z := w (17 * a + 86) 11) rfl (lA0 (a := a) (by omega) (by omega)) rfl rfl ((j9 (17 * a + 86) 11 (by unfold kGo; omega)).trans rfl) (by omega) ?_
        refine e_Ok.run (t' := (35, [(3, (1, 17 * a + y2 + 97)), (0, (1, 17 * a + 86)), (1, (0, y1)), (2, (0, y2))], [(0, 2), (0, w (17 * a + 86) 11), (1, 17 * a + y2 + 97)], v1)) 1 rfl ?_
        refine e_Ok.if2 rfl (fun h30 => ?_) (fun h30 => ?_)
        · replace h30 : (w (17 * a + 86) 11 : Int) ≠ 2 := h30
          refine e_Ok.run (t' := (46, [(3, (1, 17 * a + y2 + 97)), (0, (1, 17 * a + 86)), (1, (0, y1)), (2, (0, y2))], [(1, 17 * a + y2 + 97), (1, 17 * a + y2 + 97)], v1)) 1 rfl ?_
          refine e_Ok.callV rfl (by omega) rfl (lJ (a := a) (j := y2) (by omega) (by omega) (by omega)) rfl rfl (c_90 (by omega) (a := a) (j := y2) j10 (by omega) (by omega) (g := v1 (17 * a + y2 + 97) 6) (by omega) rfl (v := v1 (17 * a + y2 + 97) 7) (s := v1 (17 * a + y2 + 97) 8) (go := v1 (17 * a + y2 + 97) 9) (sp := v1 (17 * a + y2 + 97) 5) (by omega) (by have := hqg (by omega); omega) (by omega) (by omega) rfl rfl rfl rfl) (fun r31 w32 h33 => ?_)
          obtain ⟨z34, rfl, rfl, q35r, q35d⟩ := h33
          clear hqg
          show e_Ok 20 elay kcode eI (d + 1) 14 (49, [(3, (1, 17 * a + y2 + 97)), (0, (1, 17 * a + 86)), (1, (0, y1)), (2, (0, y2))], [(0, z34), (1, 17 * a + y2 + 97)], v1) _
          refine e_Ok.putf rfl (lJ (a := a) (j := y2) (by omega) (by omega) (by omega)) rfl rfl ?_
          generalize hw36 : e_up v1 (17 * a + y2 + 97) 8 z34 = w36
          have f37 : e_fr (kGo a) w w36 := e_fr.up j9 hw36 (by unfold kGo; omega)
          have l38 : w36 (17 * a + 86) 8 = w (17 * a + 86) 8 := f37 (17 * a + 86) 8 (by unfold kGo; omega)
          have l40 : w36 (17 * a + 86) 11 = w (17 * a + 86) 11 := f37 (17 * a + 86) 11 (by unfold kGo; omega)
          have hT41 : e_Has kTy w36 := e_Has.upr j10 hw36 (kJ_8 (a := a) (j := y2) (by omega) (by omega) (by omega)) (by omega)
          refine e_Ok.run (t' := (54, [(3, (1, 17 * a + y2 + 97)), (0, (1, 17 * a + 86)), (1, (0, y1)), (2, (0, y2))], [(1, 17 * a + y2 + 97), (1, 17 * a + y2 + 97)], w36)) 2 rfl ?_
          refine e_Ok.getf (z := v1 (17 * a + y2 + 97) 7) rfl (lJ (a := a) (j := y2) (by omega) (by omega) (by omega)) rfl rfl (by rw [← hw36]; exact (e_up_ne _ _ (Or.inr (by omega))).trans rfl) (by omega) ?_
          refine e_Ok.run (t' := (58, [(3, (1, 17 * a + y2 + 97)), (0, (1, 17 * a + 86)), (1, (0, y1)), (2, (0, y2))], [(1, 17 * a + y2 + 97), (0, v1 (17 * a + y2 + 97) 7), (1, 17 * a + y2 + 97)], w36)) 1 rfl ?_
          refine e_Ok.getf (z := z34) rfl (lJ (a := a) (j := y2) (by omega) (by omega) (by omega)) rfl rfl (by rw [← hw36]; exact e_up_eq _ _ _ _) (by omega) ?_
          refine e_Ok.add (z := v1 (17 * a + y2 + 97) 7 + z34) rfl (by omega) (by omega) ?_
          refine e_Ok.putf rfl (lJ (a := a) (j := y2) (by omega) (by omega) (by omega)) rfl rfl ?_
          generalize hw42 : e_up w36 (17 * a + y2 + 97) 7 (v1 (17 * a + y2 + 97) 7 + z34) = w42
          have f43 : e_fr (kGo a) w w42 := e_fr.up f37 hw42 (by unfold kGo; omega)
          have l44 : w42 (17 * a + 86) 8 = w (17 * a + 86) 8 := f43 (17 * a + 86) 8 (by unfold kGo; omega)
          have l45 : w42 (17 * a + 86) 11 = w (17 * a + 86) 11 := f43 (17 * a + 86) 11 (by unfold kGo; omega)
          have hT46 : e_Has kTy w42 := e_Has.upr hT41 hw42 (kJ_7 (a := a) (j := y2) (by omega) (by omega) (by omega)) (by omega)
          refine e_Ok.run (t' := (66, [(3, (1, 17 * a + y2 + 97)), (0, (1, 17 * a + 86)), (1, (0, y1)), (2, (0, y2))], [(0, y1)], w42)) 1 rfl ?_
          refine e_Ok.if1 rfl (fun h47 => ?_) (fun h47 => ?_)
          · replace h47 : (y1 : Int) ≠ 0 := h47
            refine e_Ok.run (t' := (82, [(1, (0, 1)), (3, (1, 17 * a + y2 + 97)), (0, (1, 17 * a + 86)), (2, (0, y2))], [], w42)) 3 rfl ?_
            refine e_Ok.inc (z := y2 + 1) rfl rfl (by omega) (by omega) ?_
            show e_Ok 20 elay kcode eI (d + 1) 14 (85, [(2, (0, y2 + 1)), (1, (0, 1)), (3, (1, 17 * a + y2 + 97)), (0, (1, 17 * a + 86))], [], w42) _
            refine e_Ok.run (t' := (14, [(2, (0, y2 + 1)), (1, (0, 1)), (3, (1, 17 * a + y2 + 97)), (0, (1, 17 * a + 86))], [], w42)) 1 rfl ?_
            refine e_Ok.sub kAlk (e_sub_of rfl ?_) (ih8 1 (y2 + 1) w42 ⟨f43, hT46, (fun i g1 g2 => if e : i = y2 then by rw [e]; exact jq.step hq hw36 hw42 (by omega) (Or.inl ⟨by omega, q35d⟩) else jq.oth (jq.oth (j11 i g1 g2) hw36 (by omega)) hw42 (by omega)), (aK.up (aK.up j12 hw36 (by omega) (by omega) (by omega)) hw42 (by omega) (by omega) (by omega)), (fun g => absurd g (by decide)), (by rw [← hw42, e_up_ne _ _ (by omega), ← hw36, e_up_ne _ _ (by omega)]; exact j14), by omega, by omega⟩ (by omega))
            exact ⟨rfl, rfl, rfl, trivial⟩
          · replace h47 : (y1 : Int) = 0 := by have q : ¬ ((y1 : Int) ≠ 0) := h47; omega
            refine e_Ok.run (t' := (70, [(3, (1, 17 * a + y2 + 97)), (0, (1, 17 * a + 86)), (1, (0, y1)), (2, (0, y2))], [(1, 17 * a + y2 + 97)], w42)) 1 rfl ?_
            refine e_Ok.getf (z := z34) rfl (lJ (a := a) (j := y2) (by omega) (by omega) (by omega)) rfl rfl (by rw [← hw42]; exact (e_up_ne _ _ (Or.inr (by omega))).trans (by rw [← hw36]; exact e_up_eq _ _ _ _)) (by omega) ?_
            refine e_Ok.if1 rfl (fun h48 => ?_) (fun h48 => ?_)
            · replace h48 : (z34 : Int) = 0 := h48
              refine e_Ok.run (t' := (82, [(1, (0, 0)), (3, (1, 17 * a + y2 + 97)), (0, (1, 17 * a + 86)), (2, (0, y2))], [], w42)) 2 rfl ?_
              refine e_Ok.inc (z := y2 + 1) rfl rfl (by omega) (by omega) ?_
              show e_Ok 20 elay kcode eI (d + 1) 14 (85, [(2, (0, y2 + 1)), (1, (0, 0)), (3, (1, 17 * a + y2 + 97)), (0, (1, 17 * a + 86))], [], w42) _
              refine e_Ok.run (t' := (14, [(2, (0, y2 + 1)), (1, (0, 0)), (3, (1, 17 * a + y2 + 97)), (0, (1, 17 * a + 86))], [], w42)) 1 rfl ?_
              refine e_Ok.sub kAlk (e_sub_of rfl ?_) (ih8 0 (y2 + 1) w42 ⟨f43, hT46, (fun i g1 g2 => if e : i = y2 then by rw [e]; exact jq.step hq hw36 hw42 (by omega) (Or.inl ⟨by omega, q35d⟩) else jq.oth (jq.oth (j11 i g1 g2) hw36 (by omega)) hw42 (by omega)), (aK.up (aK.up j12 hw36 (by omega) (by omega) (by omega)) hw42 (by omega) (by omega) (by omega)), (fun _ i g1 g2 => by
          by_cases e : i = y2
          · rw [e, ← hw42, e_up_eq]; have g := j13 (by omega) y2 (by omega) (by omega); omega
          · rw [← hw42, e_up_ne _ _ (by omega), ← hw36, e_up_ne _ _ (by omega)]; exact j13 (by omega) i g1 g2), (by rw [← hw42, e_up_ne _ _ (by omega), ← hw36, e_up_ne _ _ (by omega)]; exact j14), by omega, by omega⟩ (by omega))
              exact ⟨rfl, rfl, rfl, trivial⟩
            · replace h48 : (z34 : Int) ≠ 0 := by have q : ¬ ((z34 : Int) = 0) := h48; omega
              refine e_Ok.run (t' := (82, [(1, (0, 1)), (3, (1, 17 * a + y2 + 97)), (0, (1, 17 * a + 86)), (2, (0, y2))], [], w42)) 3 rfl ?_
              refine e_Ok.inc (z := y2 + 1) rfl rfl (by omega) (by omega) ?_
              show e_Ok 20 elay kcode eI (d + 1) 14 (85, [(2, (0, y2 + 1)), (1, (0, 1)), (3, (1, 17 * a + y2 + 97)), (0, (1, 17 * a + 86))], [], w42) _
              refine e_Ok.run (t' := (14, [(2, (0, y2 + 1)), (1, (0, 1)), (3, (1, 17 * a + y2 + 97)), (0, (1, 17 * a + 86))], [], w42)) 1 rfl ?_
              refine e_Ok.sub kAlk (e_sub_of rfl ?_) (ih8 1 (y2 + 1) w42 ⟨f43, hT46, (fun i g1 g2 => if e : i = y2 then by rw [e]; exact jq.step hq hw36 hw42 (by omega) (Or.inl ⟨by omega, q35d⟩) else jq.oth (jq.oth (j11 i g1 g2) hw36 (by omega)) hw42 (by omega)), (aK.up (aK.up j12 hw36 (by omega) (by omega) (by omega)) hw42 (by omega) (by omega) (by omega)), (fun g => absurd g (by decide)), (by rw [← hw42, e_up_ne _ _ (by omega), ← hw36, e_up_ne _ _ (by omega)]; exact j14), by omega, by omega⟩ (by omega))
              exact ⟨rfl, rfl, rfl, trivial⟩
        · replace h30 : (w (17 * a + 86) 11 : Int) = 2 := by have q : ¬ ((w (17 * a + 86) 11 : Int) ≠ 2) := h30; omega
          refine e_Ok.run (t' := (39, [(3, (1, 17 * a + y2 + 97)), (0, (1, 17 * a + 86)), (1, (0, y1)), (2, (0, y2))], [(1, 17 * a + y2 + 97), (1, 17 * a + y2 + 97)], v1)) 1 rfl ?_
          refine e_Ok.callV rfl (by omega) rfl (lJ (a := a) (j := y2) (by omega) (by omega) (by omega)) rfl rfl (c_91 (a := a) (j := y2) j10 (by omega) (by omega) (g := v1 (17 * a + y2 + 97) 6) (by omega) rfl (s := v1 (17 * a + y2 + 97) 8) (by omega) rfl) (fun r49 w50 h51 => ?_)
          obtain ⟨z52, rfl, rfl, q53r, q53d⟩ := h51
          clear hqg
          show e_Ok 20 elay kcode eI (d + 1) 14 (42, [(3, (1, 17 * a + y2 + 97)), (0, (1, 17 * a + 86)), (1, (0, y1)), (2, (0, y2))], [(0, z52), (1, 17 * a + y2 + 97)], v1) _
          refine e_Ok.run (t' := (49, [(3, (1, 17 * a + y2 + 97)), (0, (1, 17 * a + 86)), (1, (0, y1)), (2, (0, y2))], [(0, z52), (1, 17 * a + y2 + 97)], v1)) 1 rfl ?_
          refine e_Ok.putf rfl (lJ (a := a) (j := y2) (by omega) (by omega) (by omega)) rfl rfl ?_
          generalize hw54 : e_up v1 (17 * a + y2 + 97) 8 z52 = w54
          have f55 : e_fr (kGo a) w w54 := e_fr.up j9 hw54 (by unfold kGo; omega)
          have l56 : w54 (17 * a + 86) 8 = w (17 * a + 86) 8 := f55 (17 * a + 86) 8 (by unfold kGo; omega)
          have l57 : w54 (17 * a + 86) 11 = w (17 * a + 86) 11 := f55 (17 * a + 86) 11 (by unfold kGo; omega)
          have hT58 : e_Has kTy w54 := e_Has.upr j10 hw54 (kJ_8 (a := a) (j := y2) (by omega) (by omega) (by omega)) (by omega)
          refine e_Ok.run (t' := (54, [(3, (1, 17 * a + y2 + 97)), (0, (1, 17 * a + 86)), (1, (0, y1)), (2, (0, y2))], [(1, 17 * a + y2 + 97), (1, 17 * a + y2 + 97)], w54)) 2 rfl ?_
          refine e_Ok.getf (z := v1 (17 * a + y2 + 97) 7) rfl (lJ (a := a) (j := y2) (by omega) (by omega) (by omega)) rfl rfl (by rw [← hw54]; exact (e_up_ne _ _ (Or.inr (by omega))).trans rfl) (by omega) ?_
          refine e_Ok.run (t' := (58, [(3, (1, 17 * a + y2 + 97)), (0, (1, 17 * a + 86)), (1, (0, y1)), (2, (0, y2))], [(1, 17 * a + y2 + 97), (0, v1 (17 * a + y2 + 97) 7), (1, 17 * a + y2 + 97)], w54)) 1 rfl ?_
          refine e_Ok.getf (z := z52) rfl (lJ (a := a) (j := y2) (by omega) (by omega) (by omega)) rfl rfl (by rw [← hw54]; exact e_up_eq _ _ _ _) (by omega) ?_
          refine e_Ok.add (z := v1 (17 * a + y2 + 97) 7 + z52) rfl (by omega) (by omega) ?_
          refine e_Ok.putf rfl (lJ (a := a) (j := y2) (by omega) (by omega) (by omega)) rfl rfl ?_
          generalize hw59 : e_up w54 (17 * a + y2 + 97) 7 (v1 (17 * a + y2 + 97) 7 + z52) = w59
          have f60 : e_fr (kGo a) w w59 := e_fr.up f55 hw59 (by unfold kGo; omega)
          have l61 : w59 (17 * a + 86) 8 = w (17 * a + 86) 8 := f60 (17 * a + 86) 8 (by unfold kGo; omega)
          have l62 : w59 (17 * a + 86) 11 = w (17 * a + 86) 11 := f60 (17 * a + 86) 11 (by unfold kGo; omega)
          have hT63 : e_Has kTy w59 := e_Has.upr hT58 hw59 (kJ_7 (a := a) (j := y2) (by omega) (by omega) (by omega)) (by omega)
          refine e_Ok.run (t' := (66, [(3, (1, 17 * a + y2 + 97)), (0, (1, 17 * a + 86)), (1, (0, y1)), (2, (0, y2))], [(0, y1)], w59)) 1 rfl ?_
          refine e_Ok.if1 rfl (fun h64 => ?_) (fun h64 => ?_)
          · replace h64 : (y1 : Int) ≠ 0 := h64
            refine e_Ok.run (t' := (82, [(1, (0, 1)), (3, (1, 17 * a + y2 + 97)), (0, (1, 17 * a + 86)), (2, (0, y2))], [], w59)) 3 rfl ?_
            refine e_Ok.inc (z := y2 + 1) rfl rfl (by omega) (by omega) ?_
            show e_Ok 20 elay kcode eI (d + 1) 14 (85, [(2, (0, y2 + 1)), (1, (0, 1)), (3, (1, 17 * a + y2 + 97)), (0, (1, 17 * a + 86))], [], w59) _
            refine e_Ok.run (t' := (14, [(2, (0, y2 + 1)), (1, (0, 1)), (3, (1, 17 * a + y2 + 97)), (0, (1, 17 * a + 86))], [], w59)) 1 rfl ?_
            refine e_Ok.sub kAlk (e_sub_of rfl ?_) (ih8 1 (y2 + 1) w59 ⟨f60, hT63, (fun i g1 g2 => if e : i = y2 then by rw [e]; exact jq.step hq hw54 hw59 (by omega) (Or.inr ⟨by omega, q53d⟩) else jq.oth (jq.oth (j11 i g1 g2) hw54 (by omega)) hw59 (by omega)), (aK.up (aK.up j12 hw54 (by omega) (by omega) (by omega)) hw59 (by omega) (by omega) (by omega)), (fun g => absurd g (by decide)), (by rw [← hw59, e_up_ne _ _ (by omega), ← hw54, e_up_ne _ _ (by omega)]; exact j14), by omega, by omega⟩ (by omega))
            exact ⟨rfl, rfl, rfl, trivial⟩
          · replace h64 : (y1 : Int) = 0 := by have q : ¬ ((y1 : Int) ≠ 0) := h64; omega
            refine e_Ok.run (t' := (70, [(3, (1, 17 * a + y2 + 97)), (0, (1, 17 * a + 86)), (1, (0, y1)), (2, (0, y2))], [(1, 17 * a + y2 + 97)], w59)) 1 rfl ?_
            refine e_Ok.getf (z := z52) rfl (lJ (a := a) (j := y2) (by omega) (by omega) (by omega)) rfl rfl (by rw [← hw59]; exact (e_up_ne _ _ (Or.inr (by omega))).trans (by rw [← hw54]; exact e_up_eq _ _ _ _)) (by omega) ?_
            refine e_Ok.if1 rfl (fun h65 => ?_) (fun h65 => ?_)
            · replace h65 : (z52 : Int) = 0 := h65
              refine e_Ok.run (t' := (82, [(1, (0, 0)), (3, (1, 17 * a + y2 + 97)), (0, (1, 17 * a + 86)), (2, (0, y2))], [], w59)) 2 rfl ?_
              refine e_Ok.inc (z := y2 + 1) rfl rfl (by omega) (by omega) ?_
              show e_Ok 20 elay kcode eI (d + 1) 14 (85, [(2, (0, y2 + 1)), (1, (0, 0)), (3, (1, 17 * a + y2 + 97)), (0, (1, 17 * a + 86))], [], w59) _
              refine e_Ok.run (t' := (14, [(2, (0, y2 + 1)), (1, (0, 0)), (3, (1, 17 * a + y2 + 97)), (0, (1, 17 * a + 86))], [], w59)) 1 rfl ?_
              refine e_Ok.sub kAlk (e_sub_of rfl ?_) (ih8 0 (y2 + 1) w59 ⟨f60, hT63, (fun i g1 g2 => if e : i = y2 then by rw [e]; exact jq.step hq hw54 hw59 (by omega) (Or.inr ⟨by omega, q53d⟩) else jq.oth (jq.oth (j11 i g1 g2) hw54 (by omega)) hw59 (by omega)), (aK.up (aK.up j12 hw54 (by omega) (by omega) (by omega)) hw59 (by omega) (by omega) (by omega)), (fun _ i g1 g2 => by
          by_cases e : i = y2
          · rw [e, ← hw59, e_up_eq]; have g := j13 (by omega) y2 (by omega) (by omega); omega
          · rw [← hw59, e_up_ne _ _ (by omega), ← hw54, e_up_ne _ _ (by omega)]; exact j13 (by omega) i g1 g2), (by rw [← hw59, e_up_ne _ _ (by omega), ← hw54, e_up_ne _ _ (by omega)]; exact j14), by omega, by omega⟩ (by omega))
              exact ⟨rfl, rfl, rfl, trivial⟩
            · replace h65 : (z52 : Int) ≠ 0 := by have q : ¬ ((z52 : Int) = 0) := h65; omega
              refine e_Ok.run (t' := (82, [(1, (0, 1)), (3, (1, 17 * a + y2 + 97)), (0, (1, 17 * a + 86)), (2, (0, y2))], [], w59)) 3 rfl ?_
              refine e_Ok.inc (z := y2 + 1) rfl rfl (by omega) (by omega) ?_
              show e_Ok 20 elay kcode eI (d + 1) 14 (85, [(2, (0, y2 + 1)), (1, (0, 1)), (3, (1, 17 * a + y2 + 97)), (0, (1, 17 * a + 86))], [], w59) _
              refine e_Ok.run (t' := (14, [(2, (0, y2 + 1)), (1, (0, 1)), (3, (1, 17 * a + y2 + 97)), (0, (1, 17 * a + 86))], [], w59)) 1 rfl ?_
              refine e_Ok.sub kAlk (e_sub_of rfl ?_) (ih8 1 (y2 + 1) w59 ⟨f60, hT63, (fun i g1 g2 => if e : i = y2 then by rw [e]; exact jq.step hq hw54 hw59 (by omega) (Or.inr ⟨by omega, q53d⟩) else jq.oth (jq.oth (j11 i g1 g2) hw54 (by omega)) hw59 (by omega)), (aK.up (aK.up j12 hw54 (by omega) (by omega) (by omega)) hw59 (by omega) (by omega) (by omega)), (fun g => absurd g (by decide)), (by rw [← hw59, e_up_ne _ _ (by omega), ← hw54, e_up_ne _ _ (by omega)]; exact j14), by omega, by omega⟩ (by omega))
              exact ⟨rfl, rfl, rfl, trivial⟩
  refine e_Ok.sub kAlk (e_sub_of rfl ?_) (hL7 (6 + 1 : Int).toNat 0 0 w2 ⟨f3, hT6, (fun i g1 g2 => jq.oth (hm i g1 g2) hw2 (by omega)), (aK.up kx hw2 (by omega) (by omega) (by omega)), (fun _ i g1 g2 => by rw [← hw2]; exact e_up_ne _ _ (by omega)), (by rw [← hw2, e_up_eq]; unfold kn1; omega), by omega, by omega⟩ (by omega))
  exact ⟨rfl, rfl, rfl, trivial⟩
end
