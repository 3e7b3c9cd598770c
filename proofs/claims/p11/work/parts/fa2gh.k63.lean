noncomputable section
/-! the class: build, the counts -/
theorem c_25_c {d : Nat} {w : eW} (hT : e_Has kTy w) : e_Ok 20 elay kcode eI d 25 (0, [(0, (1, 74))], [], w) (fun r w' => r = [] ∧ e_fr kCc w w' ∧ e_Has kTy w' ∧ w' 74 2 = 0) := by
  refine e_Ok.ps2 (x := (0, 0)) (y := (1, 74)) (q := 2) 2 rfl ?_
  refine e_Ok.putf rfl (el_o rfl) rfl rfl ?_
  generalize hw1 : e_up w 74 2 0 = w1
  have f2 : e_fr kCc w w1 := e_fr.up (e_fr.refl w) hw1 (by unfold kCc; omega)
  have hT3 : e_Has kTy w1 := e_Has.upr hT hw1 (kt_o rfl) (by omega)
  refine e_Ok.run (t' := (7, [(1, (0, 0)), (0, (1, 74))], [], w1)) 2 rfl ?_
  have hL4 : ∀ (nn : Nat) (y1 : Int) (v1 : eW), e_fr kCc w v1 ∧ e_Has kTy v1 ∧ (0 ≤ y1 ∧ y1 ≤ 8) ∧ v1 74 2 = 0 → 9 - y1 < nn → e_Ok 20 elay kcode eI d 25 (7, [(0, (1, 74)), (1, (0, y1))], [], v1) (fun r w' => r = [] ∧ e_fr kCc w w' ∧ e_Has kTy w' ∧ w' 74 2 = 0) := by
    intro nn
    induction nn with
    | zero => intro y1 v1 hj hm; obtain ⟨j6, j7, j8, j9⟩ := hj; exfalso; omega
    | succ nn ih5 =>
      intro y1 v1 hj hm
      obtain ⟨j6, j7, j8, j9⟩ := hj
      refine e_Ok.run (t' := (10, [(0, (1, 74)), (1, (0, y1))], [(0, 8), (0, y1)], v1)) 2 rfl ?_
      refine e_Ok.if2 rfl (fun h9 => ?_) (fun h9 => ?_)
      · replace h9 : (y1 : Int) ≥ 8 := h9
        refine e_Ok.rets rfl rfl ?_
        exact ⟨rfl, j6, j7, j9⟩
      · replace h9 : (y1 : Int) < 8 := Int.not_le.mp (show ¬ ((y1 : Int) ≥ 8) from h9)
        refine e_Ok.ps1 (x := (1, 74)) (q := 14) 1 rfl ?_
        refine e_Ok.getr (z := 77) rfl (el_o rfl) rfl rfl ((j6 74 10 (by unfold kCc; omega)).trans (Eq.trans (e_Has.eq hT (kt_o rfl)) (by omega))) ⟨by decide, by decide⟩ ?_
        refine e_Ok.ps2 (x := (0, 0)) (y := (0, y1)) (q := 19) 2 rfl ?_
        refine e_Ok.ast rfl (el_o rfl) rfl (e_nar_b (by omega)) (by omega) ?_
        generalize hw10 : e_up v1 77 y1 0 = w10
        have f11 : e_fr kCc w w10 := e_fr.up j6 hw10 (by unfold kCc; omega)
        have hT12 : e_Has kTy w10 := e_Has.upr j7 hw10 rfl (by omega)
        refine e_Ok.inc (z := y1 + 1) rfl rfl (by first | with_reducible rfl | omega) (by omega) ?_
        show e_Ok 20 elay kcode eI d 25 (23, [(1, (0, y1 + 1)), (0, (1, 74))], [], w10) _
        refine e_Ok.ps0 (q := 7) 1 rfl ?_
        refine e_Ok.sub kAlk (e_sub_of rfl ?_) (ih5 (y1 + 1) w10 ⟨f11, hT12, by omega, by rw [← hw10]; exact (e_up_ne _ _ (Or.inl (by omega))).trans j9⟩ (by omega))
        exact ⟨rfl, rfl, trivial⟩
  refine e_Ok.sub kAlk (e_sub_of rfl ?_) (hL4 (9 + 1 : Int).toNat 0 w1 ⟨f2, hT3, by omega, by rw [← hw1]; exact e_up_eq _ _ _ _⟩ (by omega))
  exact ⟨rfl, rfl, trivial⟩
set_option maxHeartbeats 4000000 in
theorem c_251_c {d : Nat} (hd : 28 ≤ d) {w : eW} (hT : e_Has kTy w) (hC : ∀ a, 0 ≤ a → a ≤ 3 → isCd (w (17 * a + 86) 7)) (hR : isCd (w 1 3)) (hX : ∀ a, 0 ≤ a → a ≤ 3 → w (17 * a + 86) 7 ≠ w 1 3) (hD : ∀ a b, 0 ≤ a → a ≤ 3 → 0 ≤ b → b ≤ 3 → a ≠ b → w (17 * a + 86) 7 ≠ w (17 * b + 86) 7) : e_Ok 20 elay kcode eI d 251 (0, [(0, (1, 0))], [], w) (fun r w' => r = [] ∧ (w' 19 0 = 0 ∧ w' 19 1 = 0 ∧ w' 250 0 = 0 ∧ w' 250 1 = 0 ∧ w' 74 2 = 0) ∧ e_Has kTy w') := by
  obtain ⟨d, rfl⟩ : ∃ e, d = e + 1 := ⟨d - 1, by omega⟩
  refine e_Ok.ps2 (x := (0, 0)) (y := (1, 0)) (q := 2) 2 rfl ?_
  refine e_Ok.putf rfl (el_o rfl) rfl rfl ?_
  generalize hw1 : e_up w 0 11 0 = w1
  have f2 : e_fr kCL w w1 := e_fr.up (e_fr.refl w) hw1 (Or.inr (Or.inl (⟨rfl, by decide, by decide⟩)))
  have hT3 : e_Has kTy w1 := e_Has.upr hT hw1 (kt_o rfl) (by omega)
  refine e_Ok.ps2 (x := (0, 0)) (y := (1, 0)) (q := 7) 2 rfl ?_
  refine e_Ok.putf rfl (el_o rfl) rfl rfl ?_
  generalize hw4 : e_up w1 0 12 0 = w4
  have f5 : e_fr kCL w w4 := e_fr.up f2 hw4 (Or.inr (Or.inl (⟨rfl, by decide, by decide⟩)))
  have hT6 : e_Has kTy w4 := e_Has.ups hT3 hw4 (kt_o rfl)
  refine e_Ok.ps2 (x := (0, 0)) (y := (1, 0)) (q := 12) 2 rfl ?_
  refine e_Ok.putb rfl (el_o rfl) rfl rfl (by omega) ?_
  generalize hw7 : e_up w4 0 13 0 = w7
  have f8 : e_fr kCL w w7 := e_fr.up f5 hw7 (Or.inr (Or.inl (⟨rfl, by decide, by decide⟩)))
  have hT9 : e_Has kTy w7 := e_Has.ups hT6 hw7 (kt_o rfl)
  refine e_Ok.run (t' := (17, [(1, (0, 0)), (0, (1, 0))], [], w7)) 2 rfl ?_
  have hL10 : ∀ (nn : Nat) (y1 : Int) (v1 : eW), e_fr kCL w v1 ∧ e_Has kTy v1 ∧ (∀ a, 0 ≤ a → a < y1 → mK0 w v1 a) ∧ ((v1 0 11 = 0 ∧ v1 0 12 = 0 ∧ v1 0 13 = 0)) ∧ ((0 ≤ y1 ∧ y1 ≤ 4)) → 5 - y1 < nn → e_Ok 20 elay kcode eI (d + 1) 251 (17, [(0, (1, 0)), (1, (0, y1))], [], v1) (fun r w' => r = [] ∧ (w' 19 0 = 0 ∧ w' 19 1 = 0 ∧ w' 250 0 = 0 ∧ w' 250 1 = 0 ∧ w' 74 2 = 0) ∧ e_Has kTy w') := by
    intro nn
    induction nn with
    | zero => intro y1 v1 hj hm; obtain ⟨j12, j13, j14, j15, j16⟩ := hj; exfalso; omega
    | succ nn ih11 =>
      intro y1 v1 hj hm
      obtain ⟨j12, j13, j14, j15, j16⟩ := hj
      refine e_Ok.run (t' := (19, [(0, (1, 0)), (1, (0, y1))], [(0, 4), (0, y1)], v1)) 2 rfl ?_
      refine e_Ok.if2 rfl (fun h17 => ?_) (fun h17 => ?_)
      · replace h17 : (y1 : Int) ≥ 4 := h17
        have M0 : ∀ a, 0 ≤ a → a ≤ 3 → mK0 w v1 a := fun a g1 g2 => j14 a g1 (by omega)
        refine e_Ok.ps1 (x := (1, 0)) (q := 42) 1 rfl ?_
        refine e_Ok.getr (z := 250) rfl (el_o rfl) rfl rfl ((j12 0 6 (by unfold kCL kNw; omega)).trans (Eq.trans (e_Has.eq hT (kt_o rfl)) (by omega))) ⟨by decide, by decide⟩ ?_
        refine e_Ok.ps1 (x := (0, 0)) (q := 46) 1 rfl ?_
        refine e_Ok.putf rfl (el_o rfl) rfl rfl ?_
        generalize hw18 : e_up v1 250 0 0 = w18
        have f19 : e_fr kCL w w18 := e_fr.up j12 hw18 (Or.inr (Or.inr (Or.inr (Or.inr (Or.inr (Or.inr (Or.inr (Or.inr (Or.inr (Or.inl (⟨rfl, Or.inl rfl⟩)))))))))))
        have hT20 : e_Has kTy w18 := e_Has.upr j13 hw18 rfl (by omega)
        have g21 : e_fr (fun c k => c = 250 ∧ k = 0) v1 w18 := fun c k g => by have g2 : ¬ (c = 250 ∧ k = 0) := g; rw [← hw18]; exact e_up_ne _ _ (by omega)
        have M22 : ∀ a, 0 ≤ a → a ≤ 3 → mK0 w w18 a := fun a g1 g2 => mK0.fr ⟨g1, g2⟩ (hC a g1 g2) g21 (fun c k q => by omega) (M0 a g1 g2)
        refine e_Ok.ps1 (x := (1, 0)) (q := 50) 1 rfl ?_
        refine e_Ok.getr (z := 250) rfl (el_o rfl) rfl rfl (e_uq hw18 (Or.inl (by decide)) ((j12 0 6 (by unfold kCL kNw; omega)).trans (Eq.trans (e_Has.eq hT (kt_o rfl)) (by omega)))) ⟨by decide, by decide⟩ ?_
        refine e_Ok.ps1 (x := (0, 0)) (q := 54) 1 rfl ?_
        refine e_Ok.putf rfl (el_o rfl) rfl rfl ?_
        generalize hw23 : e_up w18 250 1 0 = w23
        have f24 : e_fr kCL w w23 := e_fr.up f19 hw23 (Or.inr (Or.inr (Or.inr (Or.inr (Or.inr (Or.inr (Or.inr (Or.inr (Or.inr (Or.inl (⟨rfl, Or.inr rfl⟩)))))))))))
        have hT25 : e_Has kTy w23 := e_Has.upr hT20 hw23 (kt_o rfl) (by omega)
        have g26 : e_fr (fun c k => c = 250 ∧ k = 1) w18 w23 := fun c k g => by have g2 : ¬ (c = 250 ∧ k = 1) := g; rw [← hw23]; exact e_up_ne _ _ (by omega)
        have M27 : ∀ a, 0 ≤ a → a ≤ 3 → mK0 w w23 a := fun a g1 g2 => mK0.fr ⟨g1, g2⟩ (hC a g1 g2) g26 (fun c k q => by omega) (M22 a g1 g2)
        refine e_Ok.ps1 (x := (1, 0)) (q := 58) 1 rfl ?_
        refine e_Ok.getr (z := 10) rfl (el_o rfl) rfl rfl (e_uq hw23 (Or.inl (by decide)) (e_uq hw18 (Or.inl (by decide)) ((j12 0 3 (by unfold kCL kNw; omega)).trans (Eq.trans (e_Has.eq hT (kt_o rfl)) (by omega))))) ⟨by decide, by decide⟩ ?_
        refine e_Ok.callV rfl (e_dq hd rfl) rfl rfl rfl rfl (c_109 (e_dq hd rfl) hT25) (fun r28 w29 h30 => ?_)
        obtain ⟨rfl, q31f, q31T, q31x⟩ := h30
        have f32 : e_fr kCL w w29 := e_fr.trans f24 (e_fr.mono q31f (fun c k q => by exact (by rcases q with q | q; exact Or.inr (Or.inr (Or.inr (Or.inr (Or.inl q)))); exact Or.inr (Or.inr (Or.inr (Or.inr (Or.inr (Or.inl q))))))))
        have M33 : ∀ a, 0 ≤ a → a ≤ 3 → mK0 w w29 a := fun a g1 g2 => mK0.fr ⟨g1, g2⟩ (hC a g1 g2) q31f (fun c k q => by unfold kPc at q; omega) (M27 a g1 g2)
        refine e_Ok.nrm (q := 64) (st' := []) rfl rfl ?_
        refine e_Ok.ps1 (x := (1, 0)) (q := 65) 1 rfl ?_
        refine e_Ok.getr (z := 19) rfl (el_o rfl) rfl rfl ((q31f 0 4 (by unfold kPc; omega)).trans (e_uq hw23 (Or.inl (by decide)) (e_uq hw18 (Or.inl (by decide)) ((j12 0 4 (by unfold kCL kNw; omega)).trans (Eq.trans (e_Has.eq hT (kt_o rfl)) (by omega)))))) ⟨by decide, by decide⟩ ?_
        refine e_Ok.ps1 (x := (0, 0)) (q := 69) 1 rfl ?_
        refine e_Ok.putf rfl (el_o rfl) rfl rfl ?_
        generalize hw34 : e_up w29 19 0 0 = w34
        have f35 : e_fr kCL w w34 := e_fr.up f32 hw34 (Or.inr (Or.inr (Or.inr (Or.inr (Or.inr (Or.inr (Or.inl (⟨rfl, Or.inl rfl⟩))))))))
        have hT36 : e_Has kTy w34 := e_Has.upr q31T hw34 (kt_o rfl) (by omega)
        have g37 : e_fr (fun c k => c = 19 ∧ k = 0) w29 w34 := fun c k g => by have g2 : ¬ (c = 19 ∧ k = 0) := g; rw [← hw34]; exact e_up_ne _ _ (by omega)
        have M38 : ∀ a, 0 ≤ a → a ≤ 3 → mK0 w w34 a := fun a g1 g2 => mK0.fr ⟨g1, g2⟩ (hC a g1 g2) g37 (fun c k q => by omega) (M33 a g1 g2)
        have B40 : bP w34 := bP.eq q31T (fun c k g => g37 c k (by unfold dBp at g; omega)) q31x
        refine e_Ok.ps1 (x := (1, 0)) (q := 73) 1 rfl ?_
        refine e_Ok.getr (z := 19) rfl (el_o rfl) rfl rfl (e_uq hw34 (Or.inl (by decide)) ((q31f 0 4 (by unfold kPc; omega)).trans (e_uq hw23 (Or.inl (by decide)) (e_uq hw18 (Or.inl (by decide)) ((j12 0 4 (by unfold kCL kNw; omega)).trans (Eq.trans (e_Has.eq hT (kt_o rfl)) (by omega))))))) ⟨by decide, by decide⟩ ?_
        refine e_Ok.ps1 (x := (0, 0)) (q := 77) 1 rfl ?_
        refine e_Ok.putf rfl (el_o rfl) rfl rfl ?_
        generalize hw41 : e_up w34 19 1 0 = w41
        have f42 : e_fr kCL w w41 := e_fr.up f35 hw41 (Or.inr (Or.inr (Or.inr (Or.inr (Or.inr (Or.inr (Or.inl (⟨rfl, Or.inr rfl⟩))))))))
        have hT43 : e_Has kTy w41 := e_Has.upr hT36 hw41 (kt_o rfl) (by omega)
        have g44 : e_fr (fun c k => c = 19 ∧ k = 1) w34 w41 := fun c k g => by have g2 : ¬ (c = 19 ∧ k = 1) := g; rw [← hw41]; exact e_up_ne _ _ (by omega)
        have M45 : ∀ a, 0 ≤ a → a ≤ 3 → mK0 w w41 a := fun a g1 g2 => mK0.fr ⟨g1, g2⟩ (hC a g1 g2) g44 (fun c k q => by omega) (M38 a g1 g2)
        have B46 : bP w41 := bP.eq hT36 (fun c k g => g44 c k (by unfold dBp at g; omega)) B40
        refine e_Ok.ps1 (x := (1, 0)) (q := 81) 1 rfl ?_
        refine e_Ok.getr (z := 74) rfl (el_o rfl) rfl rfl (e_uq hw41 (Or.inl (by decide)) (e_uq hw34 (Or.inl (by decide)) ((q31f 0 5 (by unfold kPc; omega)).trans (e_uq hw23 (Or.inl (by decide)) (e_uq hw18 (Or.inl (by decide)) ((j12 0 5 (by unfold kCL kNw; omega)).trans (Eq.trans (e_Has.eq hT (kt_o rfl)) (by omega)))))))) ⟨by decide, by decide⟩ ?_
        refine e_Ok.callV rfl (e_dq hd rfl) rfl rfl rfl rfl (c_25_c hT43) (fun r47 w48 h49 => ?_)
        obtain ⟨rfl, q50f, q50T, q50x⟩ := h49
        have f51 : e_fr kCL w w48 := e_fr.trans f42 (e_fr.mono q50f (fun c k q => by exact (by rcases q with q | q; exact Or.inr (Or.inr (Or.inr (Or.inr (Or.inr (Or.inr (Or.inr (Or.inl q))))))); exact Or.inr (Or.inr (Or.inr (Or.inr (Or.inr (Or.inr (Or.inr (Or.inr (Or.inl q)))))))))))
        have M52 : ∀ a, 0 ≤ a → a ≤ 3 → mK0 w w48 a := fun a g1 g2 => mK0.fr ⟨g1, g2⟩ (hC a g1 g2) q50f (fun c k q => by unfold kCc at q; omega) (M45 a g1 g2)
        have B53 : bP w48 := bP.eq hT43 (fun c k g => q50f c k (by unfold dBp at g; unfold kCc; omega)) B46
        refine e_Ok.nrm (q := 87) (st' := []) rfl rfl ?_
        refine e_Ok.ps1 (x := (1, 0)) (q := 88) 1 rfl ?_
        refine e_Ok.getr (z := 262) rfl (el_o rfl) rfl rfl ((q50f 0 7 (by unfold kCc; omega)).trans (e_uq hw41 (Or.inl (by decide)) (e_uq hw34 (Or.inl (by decide)) ((q31f 0 7 (by unfold kPc; omega)).trans (e_uq hw23 (Or.inl (by decide)) (e_uq hw18 (Or.inl (by decide)) ((j12 0 7 (by unfold kCL kNw; omega)).trans (Eq.trans (e_Has.eq hT (kt_o rfl)) (by omega))))))))) ⟨by decide, by decide⟩ ?_
        refine e_Ok.ps1 (x := (0, 0)) (q := 92) 1 rfl ?_
        refine e_Ok.putf rfl (el_o rfl) rfl rfl ?_
        generalize hw54 : e_up w48 262 0 0 = w54
        have f55 : e_fr kCL w w54 := e_fr.up f51 hw54 (Or.inr (Or.inr (Or.inr (Or.inr (Or.inr (Or.inr (Or.inr (Or.inr (Or.inr (Or.inr (Or.inl (⟨rfl, rfl⟩))))))))))))
        have hT56 : e_Has kTy w54 := e_Has.ups q50T hw54 (kt_o rfl)
        have g57 : e_fr (fun c k => c = 262 ∧ k = 0) w48 w54 := fun c k g => by have g2 : ¬ (c = 262 ∧ k = 0) := g; rw [← hw54]; exact e_up_ne _ _ (by omega)
        have M58 : ∀ a, 0 ≤ a → a ≤ 3 → mK0 w w54 a := fun a g1 g2 => mK0.fr ⟨g1, g2⟩ (hC a g1 g2) g57 (fun c k q => by omega) (M52 a g1 g2)
        have B59 : bP w54 := bP.eq q50T (fun c k g => g57 c k (by unfold dBp at g; omega)) B53
        refine e_Ok.ps1 (x := (1, 0)) (q := 96) 1 rfl ?_
        refine e_Ok.getr (z := 274) rfl (el_o rfl) rfl rfl (e_uq hw54 (Or.inl (by decide)) ((q50f 0 10 (by unfold kCc; omega)).trans (e_uq hw41 (Or.inl (by decide)) (e_uq hw34 (Or.inl (by decide)) ((q31f 0 10 (by unfold kPc; omega)).trans (e_uq hw23 (Or.inl (by decide)) (e_uq hw18 (Or.inl (by decide)) ((j12 0 10 (by unfold kCL kNw; omega)).trans (Eq.trans (e_Has.eq hT (kt_o rfl)) (by omega)))))))))) ⟨by decide, by decide⟩ ?_
        refine e_Ok.ps1 (x := (0, 0)) (q := 100) 1 rfl ?_
        refine e_Ok.callS rfl (e_dq hd rfl) rfl rfl (c_452_74 hT56) (fun r60 w61 h62 => ?_)
        obtain ⟨rfl, q63f, q63T, q63x⟩ := h62
        have f64 : e_fr kCL w w61 := e_fr.trans f55 (e_fr.mono q63f (fun c k q => by exact (Or.inr (Or.inr (Or.inr (Or.inr (Or.inr (Or.inr (Or.inr (Or.inr (Or.inr (Or.inr (Or.inr (q))))))))))))))
        have M65 : ∀ a, 0 ≤ a → a ≤ 3 → mK0 w w61 a := fun a g1 g2 => mK0.fr ⟨g1, g2⟩ (hC a g1 g2) q63f (fun c k q => by unfold kF74 at q; omega) (M58 a g1 g2)
        have B66 : bP w61 := bP.eq hT56 (fun c k g => q63f c k (by unfold dBp at g; unfold kF74; omega)) B59
        refine e_Ok.nrm (q := 103) (st' := []) rfl rfl ?_
        refine e_Ok.ps1 (x := (1, 0)) (q := 104) 1 rfl ?_
        have r19 : w61 19 1 = 0 := ((q63f 19 1 (by unfold kF74; omega)).trans (e_uq hw54 (Or.inl (by decide)) ((q50f 19 1 (by unfold kCc; omega)).trans (e_ue hw41))))
        refine e_Ok.callV rfl (e_dq hd rfl) rfl rfl rfl rfl (c_252 (e_dq hd rfl) q63T (fun a g1 g2 => by have m := M65 a g1 g2; unfold mK0 at m; unfold kn1; omega) (fun p g1 g2 => by omega)) (fun r67 w68 h69 => ?_)
        obtain ⟨rfl, wf, wT, -, wr⟩ := h69
        have f70 : e_fr kCL w w68 := e_fr.trans f64 (e_fr.mono wf (fun c k q => by exact Or.inl q))
        have wM : ∀ a, 0 ≤ a → a ≤ 3 → mK0 w w68 a := fun a g1 g2 => (M65 a g1 g2).eq (wf _ _ (nw_a ⟨g1, g2⟩ (by omega))) (wf _ _ (nw_x ⟨g1, g2⟩).1) (wf _ _ (nw_x ⟨g1, g2⟩).2) (wf _ _ (nw_cd (hC a g1 g2))) (wf _ _ (nw_cd (hC a g1 g2)))
        have wB : bP w68 := bP.eq q63T (fun c k g => wf c k (by rcases g with rfl | rfl <;> (unfold kNw; omega))) B66
        refine e_Ok.nrm (q := 107) (st' := []) rfl rfl ?_
        refine e_Ok.rets rfl rfl ?_
        exact ⟨rfl, ⟨((wf 19 0 (by unfold kNw; omega)).trans ((q63f 19 0 (by unfold kF74; omega)).trans (e_uq hw54 (Or.inl (by first | decide | omega)) ((q50f 19 0 (by unfold kCc; omega)).trans (e_uq hw41 (Or.inr (by first | decide | omega)) (e_ue hw34)))))), ((wf 19 1 (by unfold kNw; omega)).trans ((q63f 19 1 (by unfold kF74; omega)).trans (e_uq hw54 (Or.inl (by first | decide | omega)) ((q50f 19 1 (by unfold kCc; omega)).trans (e_ue hw41))))), ((wf 250 0 (by unfold kNw; omega)).trans ((q63f 250 0 (by unfold kF74; omega)).trans (e_uq hw54 (Or.inl (by first | decide | omega)) ((q50f 250 0 (by unfold kCc; omega)).trans (e_uq hw41 (Or.inl (by first | decide | omega)) (e_uq hw34 (Or.inl (by first | decide | omega)) ((q31f 250 0 (by unfold kPc; omega)).trans (e_uq hw23 (Or.inr (by first | decide | omega)) (e_ue hw18))))))))), ((wf 250 1 (by unfold kNw; omega)).trans ((q63f 250 1 (by unfold kF74; omega)).trans (e_uq hw54 (Or.inl (by first | decide | omega)) ((q50f 250 1 (by unfold kCc; omega)).trans (e_uq hw41 (Or.inl (by first | decide | omega)) (e_uq hw34 (Or.inl (by first | decide | omega)) ((q31f 250 1 (by unfold kPc; omega)).trans (e_ue hw23)))))))), ((wf 74 2 (by unfold kNw; omega)).trans ((q63f 74 2 (by unfold kF74; omega)).trans (e_uq hw54 (Or.inl (by first | decide | omega)) q50x)))⟩, wT⟩
      · replace h17 : (y1 : Int) < 4 := Int.not_le.mp (show ¬ ((y1 : Int) ≥ 4) from h17)
        refine e_Ok.ps1 (x := (1, 0)) (q := 23) 1 rfl ?_
        refine e_Ok.getr (z := 9) rfl (el_o rfl) rfl rfl ((j12 0 2 (by unfold kCL kNw; omega)).trans (Eq.trans (e_Has.eq hT (kt_o rfl)) (by omega))) ⟨by decide, by decide⟩ ?_
        refine e_Ok.ps1 (x := (0, y1)) (q := 27) 1 rfl ?_
        refine e_Ok.aald (z := 17 * y1 + 86) rfl (el_o rfl) rfl (by omega) ((j12 9 y1 (by unfold kCL kNw; omega)).trans (Eq.trans (e_Has.eq hT (k9 (by omega))) (by omega))) (by omega) ?_
        refine e_Ok.ps4 (x := (0, 0)) (y := (0, 0)) (z := (0, 0)) (u := (0, 0)) (q := 32) 4 rfl ?_
        have hcy : v1 (17 * y1 + 86) 7 = w (17 * y1 + 86) 7 := j12 _ _ (cl_7 (by omega))
        refine e_Ok.callV rfl (e_dq hd rfl) rfl (lA0 (a := y1) (by omega) (by omega)) rfl rfl (c_1 (e_dq hd rfl) (a := y1) (cd := w (17 * y1 + 86) 7) j13 (by omega) hcy (hC y1 (by omega) (by omega)) (by omega) (by omega) (by omega) (by omega)) (fun r71 w72 h73 => ?_)
        obtain ⟨rfl, mf, mT, m8, mx, -, mc⟩ := h73
        have hcc := hC y1 (by omega) (by omega); unfold isCd at hcc
        have mF : e_fr kCL w w72 := e_fr.trans j12 (e_fr.mono mf (fun c k q => cl_mk (by omega) (hC y1 (by omega) (by omega)) q))
        refine e_Ok.nrm (q := 35) (st' := []) rfl rfl ?_
        refine e_Ok.inc (z := y1 + 1) rfl rfl (by first | with_reducible rfl | omega) (by omega) ?_
        show e_Ok 20 elay kcode eI (d + 1) 251 (38, [(1, (0, y1 + 1)), (0, (1, 0))], [], w72) _
        refine e_Ok.ps0 (q := 17) 1 rfl ?_
        refine e_Ok.sub kAlk (e_sub_of rfl ?_) (ih11 (y1 + 1) w72 ⟨mF, mT, (fun a g1 g2 => by by_cases e : a = y1; (rw [e]; exact ⟨m8, mx, mc⟩); (have hd := hD a y1 (by omega) (by omega) (by omega) (by omega) e; have ha := hC a (by omega) (by omega); unfold isCd at ha; exact (j14 a g1 (by omega)).eq (mf _ _ (by unfold kMk; omega)) (mf _ _ (by unfold kMk; omega)) (mf _ _ (by unfold kMk; omega)) (mf _ _ (by unfold kMk; omega)) (mf _ _ (by unfold kMk; omega)))), ⟨(mf _ _ (by unfold kMk; omega)).trans j15.1, (mf _ _ (by unfold kMk; omega)).trans j15.2.1, (mf _ _ (by unfold kMk; omega)).trans j15.2.2⟩, (by omega)⟩ (by omega))
        exact ⟨rfl, rfl, trivial⟩
  refine e_Ok.sub kAlk (e_sub_of rfl ?_) (hL10 (5 + 1 : Int).toNat 0 w7 ⟨f8, hT9, (fun a g1 g2 => by omega), ⟨(e_uq hw7 (Or.inr (by first | decide | omega)) (e_uq hw4 (Or.inr (by first | decide | omega)) (e_ue hw1))), (e_uq hw7 (Or.inr (by first | decide | omega)) (e_ue hw4)), (e_ue hw7)⟩, (by omega)⟩ (by omega))
  exact ⟨rfl, rfl, trivial⟩
theorem c_192_c {d : Nat} (hd : 30 ≤ d) {w : eW} (hT : e_Has kTy w) (hC : ∀ a, 0 ≤ a → a ≤ 3 → isCd (w (17 * a + 86) 7)) (hR : isCd (w 1 3)) (hX : ∀ a, 0 ≤ a → a ≤ 3 → w (17 * a + 86) 7 ≠ w 1 3) (hD : ∀ a b, 0 ≤ a → a ≤ 3 → 0 ≤ b → b ≤ 3 → a ≠ b → w (17 * a + 86) 7 ≠ w (17 * b + 86) 7) : e_Ok 20 elay kcode eI d 192 (0, [(0, (1, 0))], [], w) (fun r w' => ∃ z : Int, r = [(0, z)] ∧ w' 19 0 = 0 ∧ w' 19 1 = 0 ∧ w' 250 0 = 0 ∧ w' 250 1 = 0 ∧ w' 74 2 = 0) := by
  obtain ⟨d, rfl⟩ : ∃ e, d = e + 1 := ⟨d - 1, by omega⟩
  refine e_Ok.ps1 (x := (1, 0)) (q := 1) 1 rfl ?_
  refine e_Ok.getr (z := 74) rfl (el_o rfl) rfl rfl (Eq.trans (e_Has.eq hT (kt_o rfl)) (by omega)) ⟨by decide, by decide⟩ ?_
  have h1 := (e_Has.get hT (c := 74) (k := 0) (lo := 0) (hi := 6000) (kt_o rfl) (by decide))
  refine e_Ok.getf (z := w 74 0) rfl (el_o rfl) rfl rfl rfl (e_bq h1 (by decide) (by decide)) ?_
  refine e_Ok.run (t' := (9, [(1, (0, w 74 0)), (0, (1, 0))], [(1, 0)], w)) 2 rfl ?_
  refine e_Ok.callV rfl (e_dq hd rfl) rfl rfl rfl rfl (c_251_c (e_dq hd rfl) hT hC hR hX hD) (fun r2 w3 h4 => ?_)
  obtain ⟨rfl, cx, cT⟩ := h4
  refine e_Ok.nrm (q := 12) (st' := []) rfl rfl ?_
  refine e_Ok.ps1 (x := (0, w 74 0)) (q := 13) 1 rfl ?_
  refine e_Ok.rets rfl rfl ?_
  exact ⟨_, rfl, cx⟩
end
