noncomputable section
set_option maxHeartbeats 4000000 in
theorem c_371 {d : Nat} (hd : 8 ≤ d) {w : eW} (hT : e_Has mTy w) {t a g : Int} (ht : 0 ≤ t ∧ t ≤ 15) (ha : 0 ≤ a ∧ a ≤ 3) (h96 : w 275 96 = t) (h97 : w 275 97 = 1260 * t + 416) (h98 : w 275 98 = a) {n nt nw : Int} {dl sg pi en : Int → Int} {an br : Int → Int → Prop} {bs ow : Int → Int} (hC : cOk w a n nt nw dl sg pi en an br) {r p x y : Int} (hR : runOk w a t g r n nt nw dl sg pi an br bs ow) (hp : 0 ≤ p ∧ p < en r) (hE : w 276 5 ≤ 2147483000) (hx : -2147483648 ≤ x ∧ x ≤ 2147483647) (hy : -2147483648 ≤ y ∧ y ≤ 2147483647) (hy3 : x = 3 → 0 ≤ y ∧ y < nw ∧ br r y ∧ p < w 336 (900 * a + y)) : e_Ok 1 elay ecode eI d 371 (0, [(0, (1, 275)), (1, (0, r)), (2, (0, x)), (3, (0, y))], [], w) (fun r' w' => r' = [] ∧ e_fr (mLv t) w w' ∧ e_Has mTy w' ∧ (w 276 5 ≤ w' 276 5 ∧ w' 276 5 ≤ w 276 5 + 2) ∧ w' 275 102 = 0 ∧ ((w' 275 100 = 1 ∧ (w' 276 (1260 * t + 416) = 6 ∨ w' 276 (1260 * t + 416) = 7)) ∨ (w' 275 100 = w 275 100 ∧ ∃ (g' p' : Int) (bs' ow' : Int → Int), g' ≤ g ∧ (g' = g → p < p') ∧ topOk w' a t g' p' n nt nw dl sg pi an br bs' ow' ∧ dl p' = 0 ∧ sg p' = 0))) := by
  obtain ⟨d, rfl⟩ : ∃ e, d = e + 1 := ⟨d - 1, by omega⟩
  have hR0 := hR.1
  have hR4 := hR.2.2.2.1
  have hC1_ := hC.1
  have hpir := hC.2.2.2.1.2.1 r (by omega) (by omega)
  refine e_Ok.run (t' := (2, [(0, (1, 275)), (1, (0, r)), (2, (0, x)), (3, (0, y))], [(0, 0), (1, 275)], w)) 2 rfl ?_
  refine e_Ok.putf rfl rfl rfl rfl ?_
  generalize hw1 : e_up w 275 102 0 = w1
  have f2 : e_fr (mLv t) w w1 := e_fr.up (e_fr.refl w) hw1 (by unfold mLv; omega)
  have hT3 : e_Has mTy w1 := e_Has.ups hT hw1 rfl
  refine e_Ok.run (t' := (11, [(5, (0, 1)), (4, (0, r)), (0, (1, 275)), (1, (0, r)), (2, (0, x)), (3, (0, y))], [], w1)) 4 rfl ?_
  have hL4 : ∀ (nn : Nat) (y4 : Int) (v1 : eW) (g1 : Int), e_fr (mLv t) w v1 ∧ e_Has mTy v1 ∧ runOk v1 a t g1 y4 n nt nw dl sg pi an br bs ow ∧ v1 275 102 = 0 ∧ v1 275 100 = w 275 100 ∧ v1 276 5 = w 276 5 ∧ (g1 ≤ g ∧ (g1 = g → p < en y4)) ∧ ((x = 3 → g1 = g ∧ br y4 y)) ∧ (0 ≤ g1 ∧ -1 ≤ y4 ∧ y4 < 3 * nt) → 3000 * g1 + y4 + 1 < nn → e_Ok 1 elay ecode eI (d + 1) 371 (11, [(0, (1, 275)), (2, (0, x)), (3, (0, y)), (4, (0, y4)), (5, (0, 1))], [], v1) (fun r' w' => r' = [] ∧ e_fr (mLv t) w w' ∧ e_Has mTy w' ∧ (w 276 5 ≤ w' 276 5 ∧ w' 276 5 ≤ w 276 5 + 2) ∧ w' 275 102 = 0 ∧ ((w' 275 100 = 1 ∧ (w' 276 (1260 * t + 416) = 6 ∨ w' 276 (1260 * t + 416) = 7)) ∨ (w' 275 100 = w 275 100 ∧ ∃ (g' p' : Int) (bs' ow' : Int → Int), g' ≤ g ∧ (g' = g → p < p') ∧ topOk w' a t g' p' n nt nw dl sg pi an br bs' ow' ∧ dl p' = 0 ∧ sg p' = 0))) := by
    intro nn
    induction nn with
    | zero => intro y4 v1 g1 hj hm; obtain ⟨j6, j7, j8, j9, j10, j11, j12, j13, j14⟩ := hj; exfalso; omega
    | succ nn ih5 =>
      intro y4 v1 g1 hj hm
      obtain ⟨j6, j7, j8, j9, j10, j11, j12, j13, j14⟩ := hj
      have hru1 := j8
      obtain ⟨hg1, hF1, hlow1, hr1, hPn1, hch1, hpe1⟩ := id j8
      have hC1 := cOk.fr (fun c k q1 q2 => j6 c k (by unfold mLv; omega)) hC
      have hbs1 := hlow1.2.1 g1 (by omega) (by omega)
      have hpy4 := hC.2.2.2.1.2.1 y4 (by omega) (by omega)
      refine e_Ok.run (t' := (13, [(0, (1, 275)), (2, (0, x)), (3, (0, y)), (4, (0, y4)), (5, (0, 1))], [(0, 1)], v1)) 1 rfl ?_
      refine e_Ok.if1 rfl (fun h15 => ?_) (fun h15 => ?_)
      · replace h15 : (1 : Int) = 0 := h15
        exfalso; omega
      · replace h15 : (1 : Int) ≠ 0 := by have q : ¬ ((1 : Int) = 0) := h15; omega
        refine e_Ok.run (t' := (18, [(0, (1, 275)), (2, (0, x)), (3, (0, y)), (4, (0, y4)), (5, (0, 1))], [(0, 3), (0, x)], v1)) 2 rfl ?_
        refine e_Ok.if2 rfl (fun h16 => ?_) (fun h16 => ?_)
        · replace h16 : (x : Int) ≠ 3 := h16
          refine e_Ok.run (t' := (63, [(0, (1, 275)), (2, (0, x)), (3, (0, y)), (4, (0, y4)), (5, (0, 1))], [(0, y4)], v1)) 1 rfl ?_
          refine e_Ok.if1 rfl (fun h17 => ?_) (fun h17 => ?_)
          · replace h17 : (y4 : Int) ≥ 0 := h17
            refine e_Ok.run (t' := (94, [(0, (1, 275)), (2, (0, x)), (3, (0, y)), (4, (0, y4)), (5, (0, 1))], [(1, 275), (0, 900)], v1)) 2 rfl ?_
            refine e_Ok.getf (z := a) rfl rfl rfl rfl ((j6 275 98 (by unfold mLv; omega)).trans h98) (by omega) ?_
            refine e_Ok.mul (z := 900 * a) rfl (by omega) (by omega) ?_
            refine e_Ok.run (t' := (101, [(0, (1, 275)), (2, (0, x)), (3, (0, y)), (4, (0, y4)), (5, (0, 1))], [(0, 3), (0, y4), (0, 900 * a)], v1)) 2 rfl ?_
            refine e_Ok.divn (fun z18 hz18 => ?_) rfl (by omega) (by omega)
            replace hz18 : z18 = y4 / 3 := hz18
            have z18r : 0 ≤ z18 ∧ z18 ≤ 899 := by omega
            refine e_Ok.add (z := 900 * a + z18) rfl (by omega) (by omega) ?_
            refine e_Ok.run (t' := (108, [(6, (0, 900 * a + z18)), (0, (1, 275)), (2, (0, x)), (3, (0, y)), (4, (0, y4)), (5, (0, 1))], [(0, 3), (0, y4)], v1)) 3 rfl ?_
            refine e_Ok.remn (fun z19 hz19 => ?_) rfl (by omega) (by omega)
            replace hz19 : z19 = y4 % 3 := hz19
            have z19r : 0 ≤ z19 ∧ z19 ≤ 2 := by omega
            refine e_Ok.run (t' := (111, [(7, (0, z19)), (6, (0, 900 * a + z18)), (0, (1, 275)), (2, (0, x)), (3, (0, y)), (4, (0, y4)), (5, (0, 1))], [], v1)) 1 rfl ?_
            obtain ⟨hti, hpi3, hcat, hfin, hend, han1, han2⟩ := id (hC.2.2.1 z18 (by omega) (by omega))
            have hall := (hC.2.2.1 z18 (by omega) (by omega)).all (y := y4) (k := z19) (by omega) (by omega)
            unfold tgt at hcat hfin hend
            have hpz := hC.2.2.2.1.2.1 (w 331 (900 * a + z18)) (by omega) (by omega)
            refine e_Ok.run (t' := (113, [(7, (0, z19)), (6, (0, 900 * a + z18)), (0, (1, 275)), (2, (0, x)), (3, (0, y)), (4, (0, y4)), (5, (0, 1))], [(0, z19)], v1)) 1 rfl ?_
            refine e_Ok.if1 rfl (fun h20 => ?_) (fun h20 => ?_)
            · replace h20 : (z19 : Int) ≠ 0 := h20
              refine e_Ok.run (t' := (163, [(7, (0, z19)), (6, (0, 900 * a + z18)), (0, (1, 275)), (2, (0, x)), (3, (0, y)), (4, (0, y4)), (5, (0, 1))], [(0, 2), (0, z19)], v1)) 2 rfl ?_
              refine e_Ok.if2 rfl (fun h21 => ?_) (fun h21 => ?_)
              · replace h21 : (z19 : Int) ≥ 2 := h21
                refine e_Ok.run (t' := (200, [(7, (0, z19)), (6, (0, 900 * a + z18)), (0, (1, 275)), (2, (0, x)), (3, (0, y)), (4, (0, y4)), (5, (0, 1))], [(1, 275)], v1)) 1 rfl ?_
                refine e_Ok.getr (z := 276) rfl rfl rfl rfl ((j6 275 0 (by unfold mLv; omega)).trans (e_Has.eq hT rfl)) (by omega) ?_
                refine e_Ok.run (t' := (204, [(7, (0, z19)), (6, (0, 900 * a + z18)), (0, (1, 275)), (2, (0, x)), (3, (0, y)), (4, (0, y4)), (5, (0, 1))], [(1, 275), (1, 276)], v1)) 1 rfl ?_
                refine e_Ok.getf (z := 1260 * t + 416) rfl rfl rfl rfl ((j6 275 97 (by unfold mLv; omega)).trans h97) (by omega) ?_
                refine e_Ok.run (t' := (209, [(7, (0, z19)), (6, (0, 900 * a + z18)), (0, (1, 275)), (2, (0, x)), (3, (0, y)), (4, (0, y4)), (5, (0, 1))], [(0, 13), (0, 1260 * t + 416), (1, 276)], v1)) 1 rfl ?_
                refine e_Ok.add (z := 1260 * t + 429) rfl (by omega) (by omega) ?_
                refine e_Ok.run (t' := (211, [(7, (0, z19)), (6, (0, 900 * a + z18)), (0, (1, 275)), (2, (0, x)), (3, (0, y)), (4, (0, y4)), (5, (0, 1))], [(0, 1260 * t + 429), (1, 276), (0, 1260 * t + 429), (1, 276)], v1)) 1 rfl ?_
                refine e_Ok.ald (z := bs g1 + pi y4) rfl rfl rfl (by omega) hPn1 (by omega) ?_
                refine e_Ok.run (t' := (215, [(7, (0, z19)), (6, (0, 900 * a + z18)), (0, (1, 275)), (2, (0, x)), (3, (0, y)), (4, (0, y4)), (5, (0, 1))], [(0, 2), (0, z19), (0, bs g1 + pi y4), (0, 1260 * t + 429), (1, 276)], v1)) 2 rfl ?_
                refine e_Ok.if2 rfl (fun h22 => ?_) (fun h22 => ?_)
                · replace h22 : (z19 : Int) ≠ 2 := h22
                  exfalso; omega
                · replace h22 : (z19 : Int) = 2 := by have q : ¬ ((z19 : Int) ≠ 2) := h22; omega
                  refine e_Ok.run (t' := (223, [(7, (0, z19)), (6, (0, 900 * a + z18)), (0, (1, 275)), (2, (0, x)), (3, (0, y)), (4, (0, y4)), (5, (0, 1))], [(0, 1), (0, bs g1 + pi y4), (0, 1260 * t + 429), (1, 276)], v1)) 2 rfl ?_
                  refine e_Ok.sub' (z := bs g1 + pi y4 - 1) rfl (by omega) (by omega) ?_
                  refine e_Ok.ast rfl rfl rfl rfl (by omega) ?_
                  generalize hw23 : e_up v1 276 (1260 * t + 429) (bs g1 + pi y4 - 1) = w23
                  have f24 : e_fr (mLv t) w w23 := e_fr.up j6 hw23 (by unfold mLv; omega)
                  have hT25 : e_Has mTy w23 := e_Has.upr j7 hw23 (nR_PENDS (t := t) (by omega)) (by omega)
                  refine e_Ok.run (t' := (226, [(7, (0, z19)), (6, (0, 900 * a + z18)), (0, (1, 275)), (2, (0, x)), (3, (0, y)), (4, (0, y4)), (5, (0, 1))], [(1, 275)], w23)) 1 rfl ?_
                  refine e_Ok.getr (z := 331) rfl rfl rfl rfl (by rw [← hw23]; exact (e_up_ne _ _ (Or.inl (by omega))).trans ((j6 275 68 (by unfold mLv; omega)).trans (e_Has.eq hT rfl))) (by omega) ?_
                  refine e_Ok.run (t' := (231, [(7, (0, z19)), (6, (0, 900 * a + z18)), (0, (1, 275)), (2, (0, x)), (3, (0, y)), (4, (0, y4)), (5, (0, 1))], [(0, 900 * a + z18), (1, 331)], w23)) 1 rfl ?_
                  refine e_Ok.ald (z := w 331 (900 * a + z18)) rfl rfl rfl (by omega) (by rw [← hw23]; exact (e_up_ne _ _ (Or.inl (by omega))).trans ((j6 331 (900 * a + z18) (by unfold mLv; omega)).trans rfl)) (by omega) ?_
                  refine e_Ok.run (t' := (11, [(4, (0, w 331 (900 * a + z18))), (7, (0, z19)), (6, (0, 900 * a + z18)), (0, (1, 275)), (2, (0, x)), (3, (0, y)), (5, (0, 1))], [], w23)) 2 rfl ?_
                  refine e_Ok.sub eAlk (e_sub_of rfl ?_) (ih5 (w 331 (900 * a + z18)) w23 g1 ⟨f24, hT25, (runOk.to (w' := w23) (r' := w 331 (900 * a + z18)) hru1 (fun c k q1 q2 => (by rw [← hw23]; exact (e_up_ne _ _ (Or.inl (by omega))).trans rfl)) (fun i q1 q2 => ⟨(by rw [← hw23]; exact (e_up_ne _ _ (Or.inr (by omega))).trans rfl), (by rw [← hw23]; exact (e_up_ne _ _ (Or.inr (by omega))).trans rfl)⟩) (by rw [← hw23]; exact (e_up_ne _ _ (Or.inr (by omega))).trans rfl) (by have q : w23 276 (1260 * t + 429) = bs g1 + pi y4 - 1 := (by rw [← hw23]; exact e_up_eq _ _ _ _); omega) (fun k q1 q2 => (by rw [← hw23]; exact (e_up_ne _ _ (Or.inr (by omega))).trans rfl)) (by omega) (by omega) (by omega) (fun q q1 q2 q3 => by have := han2 z19 q (by omega) (by omega) q1; rwa [show 3 * z18 + z19 = y4 by omega] at this)), (Eq.trans (by rw [← hw23]; exact (e_up_ne _ _ (Or.inl (by omega))).trans rfl) j9), (Eq.trans (by rw [← hw23]; exact (e_up_ne _ _ (Or.inl (by omega))).trans rfl) j10), (Eq.trans (by rw [← hw23]; exact (e_up_ne _ _ (Or.inr (by omega))).trans rfl) j11), ⟨by omega, fun _ => by omega⟩, (fun e3 => by have q := hC.2.2.2.2.2.1 y4 y (j13 e3).2 (by omega) (by omega); rw [show y4 / 3 = z18 by omega] at q; exact ⟨(j13 e3).1, q.elim (fun q => by exfalso; omega) (fun q => q.2.2)⟩), by omega⟩ (by omega))
                  exact ⟨rfl, rfl, rfl, rfl, rfl, trivial⟩
              · replace h21 : (z19 : Int) < 2 := by have q : ¬ ((z19 : Int) ≥ 2) := h21; omega
                refine e_Ok.run (t' := (167, [(7, (0, z19)), (6, (0, 900 * a + z18)), (0, (1, 275)), (2, (0, x)), (3, (0, y)), (4, (0, y4)), (5, (0, 1))], [(1, 275)], v1)) 1 rfl ?_
                refine e_Ok.getr (z := 333) rfl rfl rfl rfl ((j6 275 70 (by unfold mLv; omega)).trans (e_Has.eq hT rfl)) (by omega) ?_
                refine e_Ok.run (t' := (172, [(7, (0, z19)), (6, (0, 900 * a + z18)), (0, (1, 275)), (2, (0, x)), (3, (0, y)), (4, (0, y4)), (5, (0, 1))], [(0, 900 * a + z18), (1, 333)], v1)) 1 rfl ?_
                have h26 := (e_Has.get hT (c := 333) (k := 900 * a + z18) (lo := (-2147483648)) (hi := 2147483647) rfl (by decide))
                refine e_Ok.ald (z := w 333 (900 * a + z18)) rfl rfl rfl (by omega) ((j6 333 (900 * a + z18) (by unfold mLv; omega)).trans rfl) (by omega) ?_
                refine e_Ok.if1 rfl (fun h27 => ?_) (fun h27 => ?_)
                · replace h27 : (w 333 (900 * a + z18) : Int) < 0 := h27
                  refine e_Ok.run (t' := (200, [(7, (0, z19)), (6, (0, 900 * a + z18)), (0, (1, 275)), (2, (0, x)), (3, (0, y)), (4, (0, y4)), (5, (0, 1))], [(1, 275)], v1)) 1 rfl ?_
                  refine e_Ok.getr (z := 276) rfl rfl rfl rfl ((j6 275 0 (by unfold mLv; omega)).trans (e_Has.eq hT rfl)) (by omega) ?_
                  refine e_Ok.run (t' := (204, [(7, (0, z19)), (6, (0, 900 * a + z18)), (0, (1, 275)), (2, (0, x)), (3, (0, y)), (4, (0, y4)), (5, (0, 1))], [(1, 275), (1, 276)], v1)) 1 rfl ?_
                  refine e_Ok.getf (z := 1260 * t + 416) rfl rfl rfl rfl ((j6 275 97 (by unfold mLv; omega)).trans h97) (by omega) ?_
                  refine e_Ok.run (t' := (209, [(7, (0, z19)), (6, (0, 900 * a + z18)), (0, (1, 275)), (2, (0, x)), (3, (0, y)), (4, (0, y4)), (5, (0, 1))], [(0, 13), (0, 1260 * t + 416), (1, 276)], v1)) 1 rfl ?_
                  refine e_Ok.add (z := 1260 * t + 429) rfl (by omega) (by omega) ?_
                  refine e_Ok.run (t' := (211, [(7, (0, z19)), (6, (0, 900 * a + z18)), (0, (1, 275)), (2, (0, x)), (3, (0, y)), (4, (0, y4)), (5, (0, 1))], [(0, 1260 * t + 429), (1, 276), (0, 1260 * t + 429), (1, 276)], v1)) 1 rfl ?_
                  refine e_Ok.ald (z := bs g1 + pi y4) rfl rfl rfl (by omega) hPn1 (by omega) ?_
                  refine e_Ok.run (t' := (215, [(7, (0, z19)), (6, (0, 900 * a + z18)), (0, (1, 275)), (2, (0, x)), (3, (0, y)), (4, (0, y4)), (5, (0, 1))], [(0, 2), (0, z19), (0, bs g1 + pi y4), (0, 1260 * t + 429), (1, 276)], v1)) 2 rfl ?_
                  refine e_Ok.if2 rfl (fun h28 => ?_) (fun h28 => ?_)
                  · replace h28 : (z19 : Int) ≠ 2 := h28
                    refine e_Ok.run (t' := (223, [(7, (0, z19)), (6, (0, 900 * a + z18)), (0, (1, 275)), (2, (0, x)), (3, (0, y)), (4, (0, y4)), (5, (0, 1))], [(0, 0), (0, bs g1 + pi y4), (0, 1260 * t + 429), (1, 276)], v1)) 1 rfl ?_
                    refine e_Ok.sub' (z := bs g1 + pi y4) rfl (by omega) (by omega) ?_
                    refine e_Ok.ast rfl rfl rfl rfl (by omega) ?_
                    generalize hw29 : e_up v1 276 (1260 * t + 429) (bs g1 + pi y4) = w29
                    have f30 : e_fr (mLv t) w w29 := e_fr.up j6 hw29 (by unfold mLv; omega)
                    have hT31 : e_Has mTy w29 := e_Has.upr j7 hw29 (nR_PENDS (t := t) (by omega)) (by omega)
                    refine e_Ok.run (t' := (226, [(7, (0, z19)), (6, (0, 900 * a + z18)), (0, (1, 275)), (2, (0, x)), (3, (0, y)), (4, (0, y4)), (5, (0, 1))], [(1, 275)], w29)) 1 rfl ?_
                    refine e_Ok.getr (z := 331) rfl rfl rfl rfl (by rw [← hw29]; exact (e_up_ne _ _ (Or.inl (by omega))).trans ((j6 275 68 (by unfold mLv; omega)).trans (e_Has.eq hT rfl))) (by omega) ?_
                    refine e_Ok.run (t' := (231, [(7, (0, z19)), (6, (0, 900 * a + z18)), (0, (1, 275)), (2, (0, x)), (3, (0, y)), (4, (0, y4)), (5, (0, 1))], [(0, 900 * a + z18), (1, 331)], w29)) 1 rfl ?_
                    refine e_Ok.ald (z := w 331 (900 * a + z18)) rfl rfl rfl (by omega) (by rw [← hw29]; exact (e_up_ne _ _ (Or.inl (by omega))).trans ((j6 331 (900 * a + z18) (by unfold mLv; omega)).trans rfl)) (by omega) ?_
                    refine e_Ok.run (t' := (11, [(4, (0, w 331 (900 * a + z18))), (7, (0, z19)), (6, (0, 900 * a + z18)), (0, (1, 275)), (2, (0, x)), (3, (0, y)), (5, (0, 1))], [], w29)) 2 rfl ?_
                    refine e_Ok.sub eAlk (e_sub_of rfl ?_) (ih5 (w 331 (900 * a + z18)) w29 g1 ⟨f30, hT31, (runOk.to (w' := w29) (r' := w 331 (900 * a + z18)) hru1 (fun c k q1 q2 => (by rw [← hw29]; exact (e_up_ne _ _ (Or.inl (by omega))).trans rfl)) (fun i q1 q2 => ⟨(by rw [← hw29]; exact (e_up_ne _ _ (Or.inr (by omega))).trans rfl), (by rw [← hw29]; exact (e_up_ne _ _ (Or.inr (by omega))).trans rfl)⟩) (by rw [← hw29]; exact (e_up_ne _ _ (Or.inr (by omega))).trans rfl) (by have q : w29 276 (1260 * t + 429) = bs g1 + pi y4 := (by rw [← hw29]; exact e_up_eq _ _ _ _); omega) (fun k q1 q2 => (by rw [← hw29]; exact (e_up_ne _ _ (Or.inr (by omega))).trans rfl)) (by omega) (by omega) (by omega) (fun q q1 q2 q3 => by have := han2 z19 q (by omega) (by omega) q1; rwa [show 3 * z18 + z19 = y4 by omega] at this)), (Eq.trans (by rw [← hw29]; exact (e_up_ne _ _ (Or.inl (by omega))).trans rfl) j9), (Eq.trans (by rw [← hw29]; exact (e_up_ne _ _ (Or.inl (by omega))).trans rfl) j10), (Eq.trans (by rw [← hw29]; exact (e_up_ne _ _ (Or.inr (by omega))).trans rfl) j11), ⟨by omega, fun _ => by omega⟩, (fun e3 => by have q := hC.2.2.2.2.2.1 y4 y (j13 e3).2 (by omega) (by omega); rw [show y4 / 3 = z18 by omega] at q; exact ⟨(j13 e3).1, q.elim (fun q => by exfalso; omega) (fun q => q.2.2)⟩), by omega⟩ (by omega))
                    exact ⟨rfl, rfl, rfl, rfl, rfl, trivial⟩
                  · replace h28 : (z19 : Int) = 2 := by have q : ¬ ((z19 : Int) ≠ 2) := h28; omega
                    exfalso; omega
                · replace h27 : (w 333 (900 * a + z18) : Int) ≥ 0 := by have q : ¬ ((w 333 (900 * a + z18) : Int) < 0) := h27; omega
                  have hf1 := hfin.resolve_left (by omega)
                  have hf2 := (hall.2.2.1 (by omega)).resolve_left (by omega)
                  have hp2 := hC.2.2.2.1.2.1 (3 * z18 + 2) (by omega) (by omega)
                  refine e_Ok.run (t' := (179, [(7, (0, z19)), (6, (0, 900 * a + z18)), (0, (1, 275)), (2, (0, x)), (3, (0, y)), (4, (0, y4)), (5, (0, 1))], [(0, y), (0, x), (1, 275)], v1)) 3 rfl ?_
                  refine e_Ok.callV rfl (by omega) rfl rfl rfl rfl (c_370 j7 (by omega) ((j6 275 97 (by unfold mLv; omega)).trans h97) (m := bs g1 + pi y4) (m1 := bs g1 + pi y4 + 1) (z := 1260 * t + 2 * bs g1 + 2 * pi y4 + 476) (z1 := 1260 * t + 2 * bs g1 + 2 * pi y4 + 477) hPn1 (by omega) (by omega) (by omega) (by omega)) (fun r32 w33 h34 => ?_)
                  obtain ⟨rfl, hw33⟩ := h34
                  generalize hw35 : e_up v1 276 (1260 * t + 2 * bs g1 + 2 * pi y4 + 476) x = w35 at hw33
                  have f36 : e_fr (mLv t) w w35 := e_fr.up j6 hw35 (by unfold mLv; omega)
                  have hT37 : e_Has mTy w35 := e_Has.upr j7 hw35 (nR_PEg t (by omega) (by omega)) (by omega)
                  generalize hw38 : e_up w35 276 (1260 * t + 2 * bs g1 + 2 * pi y4 + 477) y = w38 at hw33
                  have f39 : e_fr (mLv t) w w38 := e_fr.up f36 hw38 (by unfold mLv; omega)
                  have hT40 : e_Has mTy w38 := e_Has.upr hT37 hw38 (nR_PEg t (by omega) (by omega)) (by omega)
                  have f41 : e_fr (mLv t) w w33 := e_fr.up f39 hw33 (by unfold mLv; omega)
                  have hT42 : e_Has mTy w33 := e_Has.upr hT40 hw33 (nR_PENDS (t := t) (by omega)) (by omega)
                  show e_Ok 1 elay ecode eI (d + 1) 371 (182, [(7, (0, z19)), (6, (0, 900 * a + z18)), (0, (1, 275)), (2, (0, x)), (3, (0, y)), (4, (0, y4)), (5, (0, 1))], [], w33) _
                  refine e_Ok.run (t' := (184, [(7, (0, z19)), (6, (0, 900 * a + z18)), (0, (1, 275)), (2, (0, x)), (3, (0, y)), (4, (0, y4)), (5, (0, 1))], [(1, 275), (1, 275)], w33)) 2 rfl ?_
                  refine e_Ok.getr (z := 333) rfl rfl rfl rfl (by rw [← hw33]; exact (e_up_ne _ _ (Or.inl (by omega))).trans (by rw [← hw38]; exact (e_up_ne _ _ (Or.inl (by omega))).trans (by rw [← hw35]; exact (e_up_ne _ _ (Or.inl (by omega))).trans ((j6 275 70 (by unfold mLv; omega)).trans (e_Has.eq hT rfl))))) (by omega) ?_
                  refine e_Ok.run (t' := (189, [(7, (0, z19)), (6, (0, 900 * a + z18)), (0, (1, 275)), (2, (0, x)), (3, (0, y)), (4, (0, y4)), (5, (0, 1))], [(0, 900 * a + z18), (1, 333), (1, 275)], w33)) 1 rfl ?_
                  refine e_Ok.ald (z := w 333 (900 * a + z18)) rfl rfl rfl (by omega) (by rw [← hw33]; exact (e_up_ne _ _ (Or.inl (by omega))).trans (by rw [← hw38]; exact (e_up_ne _ _ (Or.inl (by omega))).trans (by rw [← hw35]; exact (e_up_ne _ _ (Or.inl (by omega))).trans ((j6 333 (900 * a + z18) (by unfold mLv; omega)).trans rfl)))) (by omega) ?_
                  refine e_Ok.callV rfl (by omega) rfl rfl rfl rfl (c_365 (by omega) hT42 (by omega) (by rw [← hw33]; exact (e_up_ne _ _ (Or.inl (by omega))).trans (by rw [← hw38]; exact (e_up_ne _ _ (Or.inl (by omega))).trans (by rw [← hw35]; exact (e_up_ne _ _ (Or.inl (by omega))).trans ((j6 275 97 (by unfold mLv; omega)).trans h97)))) (f := g1 + 1) (z := 1260 * t + 2 * g1 + 436) (by rw [← hw33]; exact (e_up_ne _ _ (Or.inr (by omega))).trans (by rw [← hw38]; exact (e_up_ne _ _ (Or.inr (by omega))).trans (by rw [← hw35]; exact (e_up_ne _ _ (Or.inr (by omega))).trans hF1))) (by omega) (by omega)) (fun r43 w44 h45 => ?_)
                  obtain ⟨rfl, hw44⟩ := h45
                  have f46 : e_fr (mLv t) w w44 := e_fr.up f41 hw44 (by unfold mLv; omega)
                  have hT47 : e_Has mTy w44 := e_Has.upr hT42 hw44 (nR_FRg t (g1) (by omega) (by omega) (by omega)) (by omega)
                  show e_Ok 1 elay ecode eI (d + 1) 371 (193, [(7, (0, z19)), (6, (0, 900 * a + z18)), (0, (1, 275)), (2, (0, x)), (3, (0, y)), (4, (0, y4)), (5, (0, 1))], [], w44) _
                  refine e_Ok.run (t' := (11, [(5, (0, 0)), (7, (0, z19)), (6, (0, 900 * a + z18)), (0, (1, 275)), (2, (0, x)), (3, (0, y)), (4, (0, y4))], [], w44)) 4 rfl ?_
                  refine e_Ok.run (t' := (13, [(5, (0, 0)), (7, (0, z19)), (6, (0, 900 * a + z18)), (0, (1, 275)), (2, (0, x)), (3, (0, y)), (4, (0, y4))], [(0, 0)], w44)) 1 rfl ?_
                  refine e_Ok.if1 rfl (fun h48 => ?_) (fun h48 => ?_)
                  · replace h48 : (0 : Int) = 0 := h48
                    refine e_Ok.rets rfl rfl ?_
                    have e49 : w44 276 5 = v1 276 5 := (by rw [← hw44]; exact (e_up_ne _ _ (Or.inr (by omega))).trans (by rw [← hw33]; exact (e_up_ne _ _ (Or.inr (by omega))).trans (by rw [← hw38]; exact (e_up_ne _ _ (Or.inr (by omega))).trans (by rw [← hw35]; exact (e_up_ne _ _ (Or.inr (by omega))).trans rfl))))
                    have hru := runOk.fin (w' := w44) (z := z18) (i := z19) (x := x) (y := y) hC1 hru1 (by omega) (by omega) (by omega) (fun c k q1 q2 => (by rw [← hw44]; exact (e_up_ne _ _ (Or.inl (by omega))).trans (by rw [← hw33]; exact (e_up_ne _ _ (Or.inl (by omega))).trans (by rw [← hw38]; exact (e_up_ne _ _ (Or.inl (by omega))).trans (by rw [← hw35]; exact (e_up_ne _ _ (Or.inl (by omega))).trans rfl))))) (fun i q1 q2 => ⟨(by rw [← hw44]; exact (e_up_ne _ _ (Or.inr (by omega))).trans (by rw [← hw33]; exact (e_up_ne _ _ (Or.inr (by omega))).trans (by rw [← hw38]; exact (e_up_ne _ _ (Or.inr (by omega))).trans (by rw [← hw35]; exact (e_up_ne _ _ (Or.inr (by omega))).trans rfl)))), (by rw [← hw44]; exact (e_up_ne _ _ (Or.inr (by omega))).trans (by rw [← hw33]; exact (e_up_ne _ _ (Or.inr (by omega))).trans (by rw [← hw38]; exact (e_up_ne _ _ (Or.inr (by omega))).trans (by rw [← hw35]; exact (e_up_ne _ _ (Or.inr (by omega))).trans rfl))))⟩) (by rw [← hw44]; exact (e_up_ne _ _ (Or.inr (by omega))).trans (by rw [← hw33]; exact (e_up_ne _ _ (Or.inr (by omega))).trans (by rw [← hw38]; exact (e_up_ne _ _ (Or.inr (by omega))).trans (by rw [← hw35]; exact (e_up_ne _ _ (Or.inr (by omega))).trans rfl)))) (by rw [← hw44]; exact (e_up_ne _ _ (Or.inr (by omega))).trans (by rw [← hw33]; exact e_up_eq _ _ _ _)) (fun k q1 q2 => (by rw [← hw44]; exact (e_up_ne _ _ (Or.inr (by omega))).trans (by rw [← hw33]; exact (e_up_ne _ _ (Or.inr (by omega))).trans (by rw [← hw38]; exact (e_up_ne _ _ (Or.inr (by omega))).trans (by rw [← hw35]; exact (e_up_ne _ _ (Or.inr (by omega))).trans rfl))))) (by rw [show 1260 * t + 2 * (bs g1 + pi y4) + 476 = 1260 * t + 2 * bs g1 + 2 * pi y4 + 476 by omega]; exact (by rw [← hw44]; exact (e_up_ne _ _ (Or.inr (by omega))).trans (by rw [← hw33]; exact (e_up_ne _ _ (Or.inr (by omega))).trans (by rw [← hw38]; exact (e_up_ne _ _ (Or.inr (by omega))).trans (by rw [← hw35]; exact e_up_eq _ _ _ _))))) (by rw [show 1260 * t + 2 * (bs g1 + pi y4) + 477 = 1260 * t + 2 * bs g1 + 2 * pi y4 + 477 by omega]; exact (by rw [← hw44]; exact (e_up_ne _ _ (Or.inr (by omega))).trans (by rw [← hw33]; exact (e_up_ne _ _ (Or.inr (by omega))).trans (by rw [← hw38]; exact e_up_eq _ _ _ _)))) (fun e3 => by have q := hC.2.2.2.2.2.1 y4 y (j13 e3).2 (by omega) (by omega); rw [show y4 / 3 = z18 by omega] at q; have q0 := hy3 e3; refine ⟨q0.1, q0.2.1, ?_⟩; rw [j6 331 _ (by unfold mLv; omega), j6 334 _ (by unfold mLv; omega), j6 336 _ (by unfold mLv; omega)]; exact q.elim (fun q => by exfalso; omega) (fun q => ⟨q.2.2, q.2.1⟩))
                    exact ⟨rfl, f46, hT47, by omega, (by rw [← hw44]; exact (e_up_ne _ _ (Or.inl (by omega))).trans (by rw [← hw33]; exact (e_up_ne _ _ (Or.inl (by omega))).trans (by rw [← hw38]; exact (e_up_ne _ _ (Or.inl (by omega))).trans (by rw [← hw35]; exact (e_up_ne _ _ (Or.inl (by omega))).trans j9)))), Or.inr ⟨(Eq.trans (by rw [← hw44]; exact (e_up_ne _ _ (Or.inl (by omega))).trans (by rw [← hw33]; exact (e_up_ne _ _ (Or.inl (by omega))).trans (by rw [← hw38]; exact (e_up_ne _ _ (Or.inl (by omega))).trans (by rw [← hw35]; exact (e_up_ne _ _ (Or.inl (by omega))).trans rfl)))) j10), g1, w 333 (900 * a + z18), bs, _, by omega, fun e => by omega, runOk.at hru (by omega) (by rw [← hw44]; exact e_up_eq _ _ _ _) ((show w44 330 (10000 * a + (w 333 (900 * a + z18))) = v1 330 (10000 * a + (w 333 (900 * a + z18))) from (by rw [← hw44]; exact (e_up_ne _ _ (Or.inl (by omega))).trans (by rw [← hw33]; exact (e_up_ne _ _ (Or.inl (by omega))).trans (by rw [← hw38]; exact (e_up_ne _ _ (Or.inl (by omega))).trans (by rw [← hw35]; exact (e_up_ne _ _ (Or.inl (by omega))).trans rfl))))).trans ((j6 330 (10000 * a + (w 333 (900 * a + z18))) (by unfold mLv; omega)).trans (by omega))), by omega, by omega⟩⟩
                  · replace h48 : (0 : Int) ≠ 0 := by have q : ¬ ((0 : Int) = 0) := h48; omega
                    exfalso; omega
            · replace h20 : (z19 : Int) = 0 := by have q : ¬ ((z19 : Int) ≠ 0) := h20; omega
              refine e_Ok.run (t' := (118, [(7, (0, z19)), (6, (0, 900 * a + z18)), (0, (1, 275)), (2, (0, x)), (3, (0, y)), (4, (0, y4)), (5, (0, 1))], [(0, 1), (0, x)], v1)) 2 rfl ?_
              refine e_Ok.if2 rfl (fun h50 => ?_) (fun h50 => ?_)
              · replace h50 : (x : Int) ≠ 1 := h50
                refine e_Ok.run (t' := (163, [(7, (0, z19)), (6, (0, 900 * a + z18)), (0, (1, 275)), (2, (0, x)), (3, (0, y)), (4, (0, y4)), (5, (0, 1))], [(0, 2), (0, z19)], v1)) 2 rfl ?_
                refine e_Ok.if2 rfl (fun h51 => ?_) (fun h51 => ?_)
                · replace h51 : (z19 : Int) ≥ 2 := h51
                  exfalso; omega
                · replace h51 : (z19 : Int) < 2 := by have q : ¬ ((z19 : Int) ≥ 2) := h51; omega
                  refine e_Ok.run (t' := (167, [(7, (0, z19)), (6, (0, 900 * a + z18)), (0, (1, 275)), (2, (0, x)), (3, (0, y)), (4, (0, y4)), (5, (0, 1))], [(1, 275)], v1)) 1 rfl ?_
                  refine e_Ok.getr (z := 333) rfl rfl rfl rfl ((j6 275 70 (by unfold mLv; omega)).trans (e_Has.eq hT rfl)) (by omega) ?_
                  refine e_Ok.run (t' := (172, [(7, (0, z19)), (6, (0, 900 * a + z18)), (0, (1, 275)), (2, (0, x)), (3, (0, y)), (4, (0, y4)), (5, (0, 1))], [(0, 900 * a + z18), (1, 333)], v1)) 1 rfl ?_
                  have h52 := (e_Has.get hT (c := 333) (k := 900 * a + z18) (lo := (-2147483648)) (hi := 2147483647) rfl (by decide))
                  refine e_Ok.ald (z := w 333 (900 * a + z18)) rfl rfl rfl (by omega) ((j6 333 (900 * a + z18) (by unfold mLv; omega)).trans rfl) (by omega) ?_
                  refine e_Ok.if1 rfl (fun h53 => ?_) (fun h53 => ?_)
                  · replace h53 : (w 333 (900 * a + z18) : Int) < 0 := h53
                    refine e_Ok.run (t' := (200, [(7, (0, z19)), (6, (0, 900 * a + z18)), (0, (1, 275)), (2, (0, x)), (3, (0, y)), (4, (0, y4)), (5, (0, 1))], [(1, 275)], v1)) 1 rfl ?_
                    refine e_Ok.getr (z := 276) rfl rfl rfl rfl ((j6 275 0 (by unfold mLv; omega)).trans (e_Has.eq hT rfl)) (by omega) ?_
                    refine e_Ok.run (t' := (204, [(7, (0, z19)), (6, (0, 900 * a + z18)), (0, (1, 275)), (2, (0, x)), (3, (0, y)), (4, (0, y4)), (5, (0, 1))], [(1, 275), (1, 276)], v1)) 1 rfl ?_
                    refine e_Ok.getf (z := 1260 * t + 416) rfl rfl rfl rfl ((j6 275 97 (by unfold mLv; omega)).trans h97) (by omega) ?_
                    refine e_Ok.run (t' := (209, [(7, (0, z19)), (6, (0, 900 * a + z18)), (0, (1, 275)), (2, (0, x)), (3, (0, y)), (4, (0, y4)), (5, (0, 1))], [(0, 13), (0, 1260 * t + 416), (1, 276)], v1)) 1 rfl ?_
                    refine e_Ok.add (z := 1260 * t + 429) rfl (by omega) (by omega) ?_
                    refine e_Ok.run (t' := (211, [(7, (0, z19)), (6, (0, 900 * a + z18)), (0, (1, 275)), (2, (0, x)), (3, (0, y)), (4, (0, y4)), (5, (0, 1))], [(0, 1260 * t + 429), (1, 276), (0, 1260 * t + 429), (1, 276)], v1)) 1 rfl ?_
                    refine e_Ok.ald (z := bs g1 + pi y4) rfl rfl rfl (by omega) hPn1 (by omega) ?_
                    refine e_Ok.run (t' := (215, [(7, (0, z19)), (6, (0, 900 * a + z18)), (0, (1, 275)), (2, (0, x)), (3, (0, y)), (4, (0, y4)), (5, (0, 1))], [(0, 2), (0, z19), (0, bs g1 + pi y4), (0, 1260 * t + 429), (1, 276)], v1)) 2 rfl ?_
                    refine e_Ok.if2 rfl (fun h54 => ?_) (fun h54 => ?_)
                    · replace h54 : (z19 : Int) ≠ 2 := h54
                      refine e_Ok.run (t' := (223, [(7, (0, z19)), (6, (0, 900 * a + z18)), (0, (1, 275)), (2, (0, x)), (3, (0, y)), (4, (0, y4)), (5, (0, 1))], [(0, 0), (0, bs g1 + pi y4), (0, 1260 * t + 429), (1, 276)], v1)) 1 rfl ?_
                      refine e_Ok.sub' (z := bs g1 + pi y4) rfl (by omega) (by omega) ?_
                      refine e_Ok.ast rfl rfl rfl rfl (by omega) ?_
                      generalize hw55 : e_up v1 276 (1260 * t + 429) (bs g1 + pi y4) = w55
                      have f56 : e_fr (mLv t) w w55 := e_fr.up j6 hw55 (by unfold mLv; omega)
                      have hT57 : e_Has mTy w55 := e_Has.upr j7 hw55 (nR_PENDS (t := t) (by omega)) (by omega)
                      refine e_Ok.run (t' := (226, [(7, (0, z19)), (6, (0, 900 * a + z18)), (0, (1, 275)), (2, (0, x)), (3, (0, y)), (4, (0, y4)), (5, (0, 1))], [(1, 275)], w55)) 1 rfl ?_
                      refine e_Ok.getr (z := 331) rfl rfl rfl rfl (by rw [← hw55]; exact (e_up_ne _ _ (Or.inl (by omega))).trans ((j6 275 68 (by unfold mLv; omega)).trans (e_Has.eq hT rfl))) (by omega) ?_
                      refine e_Ok.run (t' := (231, [(7, (0, z19)), (6, (0, 900 * a + z18)), (0, (1, 275)), (2, (0, x)), (3, (0, y)), (4, (0, y4)), (5, (0, 1))], [(0, 900 * a + z18), (1, 331)], w55)) 1 rfl ?_
                      refine e_Ok.ald (z := w 331 (900 * a + z18)) rfl rfl rfl (by omega) (by rw [← hw55]; exact (e_up_ne _ _ (Or.inl (by omega))).trans ((j6 331 (900 * a + z18) (by unfold mLv; omega)).trans rfl)) (by omega) ?_
                      refine e_Ok.run (t' := (11, [(4, (0, w 331 (900 * a + z18))), (7, (0, z19)), (6, (0, 900 * a + z18)), (0, (1, 275)), (2, (0, x)), (3, (0, y)), (5, (0, 1))], [], w55)) 2 rfl ?_
                      refine e_Ok.sub eAlk (e_sub_of rfl ?_) (ih5 (w 331 (900 * a + z18)) w55 g1 ⟨f56, hT57, (runOk.to (w' := w55) (r' := w 331 (900 * a + z18)) hru1 (fun c k q1 q2 => (by rw [← hw55]; exact (e_up_ne _ _ (Or.inl (by omega))).trans rfl)) (fun i q1 q2 => ⟨(by rw [← hw55]; exact (e_up_ne _ _ (Or.inr (by omega))).trans rfl), (by rw [← hw55]; exact (e_up_ne _ _ (Or.inr (by omega))).trans rfl)⟩) (by rw [← hw55]; exact (e_up_ne _ _ (Or.inr (by omega))).trans rfl) (by have q : w55 276 (1260 * t + 429) = bs g1 + pi y4 := (by rw [← hw55]; exact e_up_eq _ _ _ _); omega) (fun k q1 q2 => (by rw [← hw55]; exact (e_up_ne _ _ (Or.inr (by omega))).trans rfl)) (by omega) (by omega) (by omega) (fun q q1 q2 q3 => by have := han2 z19 q (by omega) (by omega) q1; rwa [show 3 * z18 + z19 = y4 by omega] at this)), (Eq.trans (by rw [← hw55]; exact (e_up_ne _ _ (Or.inl (by omega))).trans rfl) j9), (Eq.trans (by rw [← hw55]; exact (e_up_ne _ _ (Or.inl (by omega))).trans rfl) j10), (Eq.trans (by rw [← hw55]; exact (e_up_ne _ _ (Or.inr (by omega))).trans rfl) j11), ⟨by omega, fun _ => by omega⟩, (fun e3 => by have q := hC.2.2.2.2.2.1 y4 y (j13 e3).2 (by omega) (by omega); rw [show y4 / 3 = z18 by omega] at q; exact ⟨(j13 e3).1, q.elim (fun q => by exfalso; omega) (fun q => q.2.2)⟩), by omega⟩ (by omega))
                      exact ⟨rfl, rfl, rfl, rfl, rfl, trivial⟩
                    · replace h54 : (z19 : Int) = 2 := by have q : ¬ ((z19 : Int) ≠ 2) := h54; omega
                      exfalso; omega
                  · replace h53 : (w 333 (900 * a + z18) : Int) ≥ 0 := by have q : ¬ ((w 333 (900 * a + z18) : Int) < 0) := h53; omega
                    have hf1 := hfin.resolve_left (by omega)
                    have hf2 := (hall.2.2.1 (by omega)).resolve_left (by omega)
                    have hp2 := hC.2.2.2.1.2.1 (3 * z18 + 2) (by omega) (by omega)
                    refine e_Ok.run (t' := (179, [(7, (0, z19)), (6, (0, 900 * a + z18)), (0, (1, 275)), (2, (0, x)), (3, (0, y)), (4, (0, y4)), (5, (0, 1))], [(0, y), (0, x), (1, 275)], v1)) 3 rfl ?_
                    refine e_Ok.callV rfl (by omega) rfl rfl rfl rfl (c_370 j7 (by omega) ((j6 275 97 (by unfold mLv; omega)).trans h97) (m := bs g1 + pi y4) (m1 := bs g1 + pi y4 + 1) (z := 1260 * t + 2 * bs g1 + 2 * pi y4 + 476) (z1 := 1260 * t + 2 * bs g1 + 2 * pi y4 + 477) hPn1 (by omega) (by omega) (by omega) (by omega)) (fun r58 w59 h60 => ?_)
                    obtain ⟨rfl, hw59⟩ := h60
                    generalize hw61 : e_up v1 276 (1260 * t + 2 * bs g1 + 2 * pi y4 + 476) x = w61 at hw59
                    have f62 : e_fr (mLv t) w w61 := e_fr.up j6 hw61 (by unfold mLv; omega)
                    have hT63 : e_Has mTy w61 := e_Has.upr j7 hw61 (nR_PEg t (by omega) (by omega)) (by omega)
                    generalize hw64 : e_up w61 276 (1260 * t + 2 * bs g1 + 2 * pi y4 + 477) y = w64 at hw59
                    have f65 : e_fr (mLv t) w w64 := e_fr.up f62 hw64 (by unfold mLv; omega)
                    have hT66 : e_Has mTy w64 := e_Has.upr hT63 hw64 (nR_PEg t (by omega) (by omega)) (by omega)
                    have f67 : e_fr (mLv t) w w59 := e_fr.up f65 hw59 (by unfold mLv; omega)
                    have hT68 : e_Has mTy w59 := e_Has.upr hT66 hw59 (nR_PENDS (t := t) (by omega)) (by omega)
                    show e_Ok 1 elay ecode eI (d + 1) 371 (182, [(7, (0, z19)), (6, (0, 900 * a + z18)), (0, (1, 275)), (2, (0, x)), (3, (0, y)), (4, (0, y4)), (5, (0, 1))], [], w59) _
                    refine e_Ok.run (t' := (184, [(7, (0, z19)), (6, (0, 900 * a + z18)), (0, (1, 275)), (2, (0, x)), (3, (0, y)), (4, (0, y4)), (5, (0, 1))], [(1, 275), (1, 275)], w59)) 2 rfl ?_
                    refine e_Ok.getr (z := 333) rfl rfl rfl rfl (by rw [← hw59]; exact (e_up_ne _ _ (Or.inl (by omega))).trans (by rw [← hw64]; exact (e_up_ne _ _ (Or.inl (by omega))).trans (by rw [← hw61]; exact (e_up_ne _ _ (Or.inl (by omega))).trans ((j6 275 70 (by unfold mLv; omega)).trans (e_Has.eq hT rfl))))) (by omega) ?_
                    refine e_Ok.run (t' := (189, [(7, (0, z19)), (6, (0, 900 * a + z18)), (0, (1, 275)), (2, (0, x)), (3, (0, y)), (4, (0, y4)), (5, (0, 1))], [(0, 900 * a + z18), (1, 333), (1, 275)], w59)) 1 rfl ?_
                    refine e_Ok.ald (z := w 333 (900 * a + z18)) rfl rfl rfl (by omega) (by rw [← hw59]; exact (e_up_ne _ _ (Or.inl (by omega))).trans (by rw [← hw64]; exact (e_up_ne _ _ (Or.inl (by omega))).trans (by rw [← hw61]; exact (e_up_ne _ _ (Or.inl (by omega))).trans ((j6 333 (900 * a + z18) (by unfold mLv; omega)).trans rfl)))) (by omega) ?_
                    refine e_Ok.callV rfl (by omega) rfl rfl rfl rfl (c_365 (by omega) hT68 (by omega) (by rw [← hw59]; exact (e_up_ne _ _ (Or.inl (by omega))).trans (by rw [← hw64]; exact (e_up_ne _ _ (Or.inl (by omega))).trans (by rw [← hw61]; exact (e_up_ne _ _ (Or.inl (by omega))).trans ((j6 275 97 (by unfold mLv; omega)).trans h97)))) (f := g1 + 1) (z := 1260 * t + 2 * g1 + 436) (by rw [← hw59]; exact (e_up_ne _ _ (Or.inr (by omega))).trans (by rw [← hw64]; exact (e_up_ne _ _ (Or.inr (by omega))).trans (by rw [← hw61]; exact (e_up_ne _ _ (Or.inr (by omega))).trans hF1))) (by omega) (by omega)) (fun r69 w70 h71 => ?_)
                    obtain ⟨rfl, hw70⟩ := h71
                    have f72 : e_fr (mLv t) w w70 := e_fr.up f67 hw70 (by unfold mLv; omega)
                    have hT73 : e_Has mTy w70 := e_Has.upr hT68 hw70 (nR_FRg t (g1) (by omega) (by omega) (by omega)) (by omega)
                    show e_Ok 1 elay ecode eI (d + 1) 371 (193, [(7, (0, z19)), (6, (0, 900 * a + z18)), (0, (1, 275)), (2, (0, x)), (3, (0, y)), (4, (0, y4)), (5, (0, 1))], [], w70) _
                    refine e_Ok.run (t' := (11, [(5, (0, 0)), (7, (0, z19)), (6, (0, 900 * a + z18)), (0, (1, 275)), (2, (0, x)), (3, (0, y)), (4, (0, y4))], [], w70)) 4 rfl ?_
                    refine e_Ok.run (t' := (13, [(5, (0, 0)), (7, (0, z19)), (6, (0, 900 * a + z18)), (0, (1, 275)), (2, (0, x)), (3, (0, y)), (4, (0, y4))], [(0, 0)], w70)) 1 rfl ?_
                    refine e_Ok.if1 rfl (fun h74 => ?_) (fun h74 => ?_)
                    · replace h74 : (0 : Int) = 0 := h74
                      refine e_Ok.rets rfl rfl ?_
                      have e75 : w70 276 5 = v1 276 5 := (by rw [← hw70]; exact (e_up_ne _ _ (Or.inr (by omega))).trans (by rw [← hw59]; exact (e_up_ne _ _ (Or.inr (by omega))).trans (by rw [← hw64]; exact (e_up_ne _ _ (Or.inr (by omega))).trans (by rw [← hw61]; exact (e_up_ne _ _ (Or.inr (by omega))).trans rfl))))
                      have hru := runOk.fin (w' := w70) (z := z18) (i := z19) (x := x) (y := y) hC1 hru1 (by omega) (by omega) (by omega) (fun c k q1 q2 => (by rw [← hw70]; exact (e_up_ne _ _ (Or.inl (by omega))).trans (by rw [← hw59]; exact (e_up_ne _ _ (Or.inl (by omega))).trans (by rw [← hw64]; exact (e_up_ne _ _ (Or.inl (by omega))).trans (by rw [← hw61]; exact (e_up_ne _ _ (Or.inl (by omega))).trans rfl))))) (fun i q1 q2 => ⟨(by rw [← hw70]; exact (e_up_ne _ _ (Or.inr (by omega))).trans (by rw [← hw59]; exact (e_up_ne _ _ (Or.inr (by omega))).trans (by rw [← hw64]; exact (e_up_ne _ _ (Or.inr (by omega))).trans (by rw [← hw61]; exact (e_up_ne _ _ (Or.inr (by omega))).trans rfl)))), (by rw [← hw70]; exact (e_up_ne _ _ (Or.inr (by omega))).trans (by rw [← hw59]; exact (e_up_ne _ _ (Or.inr (by omega))).trans (by rw [← hw64]; exact (e_up_ne _ _ (Or.inr (by omega))).trans (by rw [← hw61]; exact (e_up_ne _ _ (Or.inr (by omega))).trans rfl))))⟩) (by rw [← hw70]; exact (e_up_ne _ _ (Or.inr (by omega))).trans (by rw [← hw59]; exact (e_up_ne _ _ (Or.inr (by omega))).trans (by rw [← hw64]; exact (e_up_ne _ _ (Or.inr (by omega))).trans (by rw [← hw61]; exact (e_up_ne _ _ (Or.inr (by omega))).trans rfl)))) (by rw [← hw70]; exact (e_up_ne _ _ (Or.inr (by omega))).trans (by rw [← hw59]; exact e_up_eq _ _ _ _)) (fun k q1 q2 => (by rw [← hw70]; exact (e_up_ne _ _ (Or.inr (by omega))).trans (by rw [← hw59]; exact (e_up_ne _ _ (Or.inr (by omega))).trans (by rw [← hw64]; exact (e_up_ne _ _ (Or.inr (by omega))).trans (by rw [← hw61]; exact (e_up_ne _ _ (Or.inr (by omega))).trans rfl))))) (by rw [show 1260 * t + 2 * (bs g1 + pi y4) + 476 = 1260 * t + 2 * bs g1 + 2 * pi y4 + 476 by omega]; exact (by rw [← hw70]; exact (e_up_ne _ _ (Or.inr (by omega))).trans (by rw [← hw59]; exact (e_up_ne _ _ (Or.inr (by omega))).trans (by rw [← hw64]; exact (e_up_ne _ _ (Or.inr (by omega))).trans (by rw [← hw61]; exact e_up_eq _ _ _ _))))) (by rw [show 1260 * t + 2 * (bs g1 + pi y4) + 477 = 1260 * t + 2 * bs g1 + 2 * pi y4 + 477 by omega]; exact (by rw [← hw70]; exact (e_up_ne _ _ (Or.inr (by omega))).trans (by rw [← hw59]; exact (e_up_ne _ _ (Or.inr (by omega))).trans (by rw [← hw64]; exact e_up_eq _ _ _ _)))) (fun e3 => by have q := hC.2.2.2.2.2.1 y4 y (j13 e3).2 (by omega) (by omega); rw [show y4 / 3 = z18 by omega] at q; have q0 := hy3 e3; refine ⟨q0.1, q0.2.1, ?_⟩; rw [j6 331 _ (by unfold mLv; omega), j6 334 _ (by unfold mLv; omega), j6 336 _ (by unfold mLv; omega)]; exact q.elim (fun q => by exfalso; omega) (fun q => ⟨q.2.2, q.2.1⟩))
                      exact ⟨rfl, f72, hT73, by omega, (by rw [← hw70]; exact (e_up_ne _ _ (Or.inl (by omega))).trans (by rw [← hw59]; exact (e_up_ne _ _ (Or.inl (by omega))).trans (by rw [← hw64]; exact (e_up_ne _ _ (Or.inl (by omega))).trans (by rw [← hw61]; exact (e_up_ne _ _ (Or.inl (by omega))).trans j9)))), Or.inr ⟨(Eq.trans (by rw [← hw70]; exact (e_up_ne _ _ (Or.inl (by omega))).trans (by rw [← hw59]; exact (e_up_ne _ _ (Or.inl (by omega))).trans (by rw [← hw64]; exact (e_up_ne _ _ (Or.inl (by omega))).trans (by rw [← hw61]; exact (e_up_ne _ _ (Or.inl (by omega))).trans rfl)))) j10), g1, w 333 (900 * a + z18), bs, _, by omega, fun e => by omega, runOk.at hru (by omega) (by rw [← hw70]; exact e_up_eq _ _ _ _) ((show w70 330 (10000 * a + (w 333 (900 * a + z18))) = v1 330 (10000 * a + (w 333 (900 * a + z18))) from (by rw [← hw70]; exact (e_up_ne _ _ (Or.inl (by omega))).trans (by rw [← hw59]; exact (e_up_ne _ _ (Or.inl (by omega))).trans (by rw [← hw64]; exact (e_up_ne _ _ (Or.inl (by omega))).trans (by rw [← hw61]; exact (e_up_ne _ _ (Or.inl (by omega))).trans rfl))))).trans ((j6 330 (10000 * a + (w 333 (900 * a + z18))) (by unfold mLv; omega)).trans (by omega))), by omega, by omega⟩⟩
                    · replace h74 : (0 : Int) ≠ 0 := by have q : ¬ ((0 : Int) = 0) := h74; omega
                      exfalso; omega
              · replace h50 : (x : Int) = 1 := by have q : ¬ ((x : Int) ≠ 1) := h50; omega
                refine e_Ok.run (t' := (122, [(7, (0, z19)), (6, (0, 900 * a + z18)), (0, (1, 275)), (2, (0, x)), (3, (0, y)), (4, (0, y4)), (5, (0, 1))], [(1, 275)], v1)) 1 rfl ?_
                refine e_Ok.getr (z := 332) rfl rfl rfl rfl ((j6 275 69 (by unfold mLv; omega)).trans (e_Has.eq hT rfl)) (by omega) ?_
                refine e_Ok.run (t' := (127, [(7, (0, z19)), (6, (0, 900 * a + z18)), (0, (1, 275)), (2, (0, x)), (3, (0, y)), (4, (0, y4)), (5, (0, 1))], [(0, 900 * a + z18), (1, 332)], v1)) 1 rfl ?_
                have h76 := (e_Has.get hT (c := 332) (k := 900 * a + z18) (lo := (-2147483648)) (hi := 2147483647) rfl (by decide))
                refine e_Ok.ald (z := w 332 (900 * a + z18)) rfl rfl rfl (by omega) ((j6 332 (900 * a + z18) (by unfold mLv; omega)).trans rfl) (by omega) ?_
                refine e_Ok.if1 rfl (fun h77 => ?_) (fun h77 => ?_)
                · replace h77 : (w 332 (900 * a + z18) : Int) < 0 := h77
                  refine e_Ok.run (t' := (163, [(7, (0, z19)), (6, (0, 900 * a + z18)), (0, (1, 275)), (2, (0, x)), (3, (0, y)), (4, (0, y4)), (5, (0, 1))], [(0, 2), (0, z19)], v1)) 2 rfl ?_
                  refine e_Ok.if2 rfl (fun h78 => ?_) (fun h78 => ?_)
                  · replace h78 : (z19 : Int) ≥ 2 := h78
                    exfalso; omega
                  · replace h78 : (z19 : Int) < 2 := by have q : ¬ ((z19 : Int) ≥ 2) := h78; omega
                    refine e_Ok.run (t' := (167, [(7, (0, z19)), (6, (0, 900 * a + z18)), (0, (1, 275)), (2, (0, x)), (3, (0, y)), (4, (0, y4)), (5, (0, 1))], [(1, 275)], v1)) 1 rfl ?_
                    refine e_Ok.getr (z := 333) rfl rfl rfl rfl ((j6 275 70 (by unfold mLv; omega)).trans (e_Has.eq hT rfl)) (by omega) ?_
                    refine e_Ok.run (t' := (172, [(7, (0, z19)), (6, (0, 900 * a + z18)), (0, (1, 275)), (2, (0, x)), (3, (0, y)), (4, (0, y4)), (5, (0, 1))], [(0, 900 * a + z18), (1, 333)], v1)) 1 rfl ?_
                    have h79 := (e_Has.get hT (c := 333) (k := 900 * a + z18) (lo := (-2147483648)) (hi := 2147483647) rfl (by decide))
                    refine e_Ok.ald (z := w 333 (900 * a + z18)) rfl rfl rfl (by omega) ((j6 333 (900 * a + z18) (by unfold mLv; omega)).trans rfl) (by omega) ?_
                    refine e_Ok.if1 rfl (fun h80 => ?_) (fun h80 => ?_)
                    · replace h80 : (w 333 (900 * a + z18) : Int) < 0 := h80
                      refine e_Ok.run (t' := (200, [(7, (0, z19)), (6, (0, 900 * a + z18)), (0, (1, 275)), (2, (0, x)), (3, (0, y)), (4, (0, y4)), (5, (0, 1))], [(1, 275)], v1)) 1 rfl ?_
                      refine e_Ok.getr (z := 276) rfl rfl rfl rfl ((j6 275 0 (by unfold mLv; omega)).trans (e_Has.eq hT rfl)) (by omega) ?_
                      refine e_Ok.run (t' := (204, [(7, (0, z19)), (6, (0, 900 * a + z18)), (0, (1, 275)), (2, (0, x)), (3, (0, y)), (4, (0, y4)), (5, (0, 1))], [(1, 275), (1, 276)], v1)) 1 rfl ?_
                      refine e_Ok.getf (z := 1260 * t + 416) rfl rfl rfl rfl ((j6 275 97 (by unfold mLv; omega)).trans h97) (by omega) ?_
                      refine e_Ok.run (t' := (209, [(7, (0, z19)), (6, (0, 900 * a + z18)), (0, (1, 275)), (2, (0, x)), (3, (0, y)), (4, (0, y4)), (5, (0, 1))], [(0, 13), (0, 1260 * t + 416), (1, 276)], v1)) 1 rfl ?_
                      refine e_Ok.add (z := 1260 * t + 429) rfl (by omega) (by omega) ?_
                      refine e_Ok.run (t' := (211, [(7, (0, z19)), (6, (0, 900 * a + z18)), (0, (1, 275)), (2, (0, x)), (3, (0, y)), (4, (0, y4)), (5, (0, 1))], [(0, 1260 * t + 429), (1, 276), (0, 1260 * t + 429), (1, 276)], v1)) 1 rfl ?_
                      refine e_Ok.ald (z := bs g1 + pi y4) rfl rfl rfl (by omega) hPn1 (by omega) ?_
                      refine e_Ok.run (t' := (215, [(7, (0, z19)), (6, (0, 900 * a + z18)), (0, (1, 275)), (2, (0, x)), (3, (0, y)), (4, (0, y4)), (5, (0, 1))], [(0, 2), (0, z19), (0, bs g1 + pi y4), (0, 1260 * t + 429), (1, 276)], v1)) 2 rfl ?_
                      refine e_Ok.if2 rfl (fun h81 => ?_) (fun h81 => ?_)
                      · replace h81 : (z19 : Int) ≠ 2 := h81
                        refine e_Ok.run (t' := (223, [(7, (0, z19)), (6, (0, 900 * a + z18)), (0, (1, 275)), (2, (0, x)), (3, (0, y)), (4, (0, y4)), (5, (0, 1))], [(0, 0), (0, bs g1 + pi y4), (0, 1260 * t + 429), (1, 276)], v1)) 1 rfl ?_
                        refine e_Ok.sub' (z := bs g1 + pi y4) rfl (by omega) (by omega) ?_
                        refine e_Ok.ast rfl rfl rfl rfl (by omega) ?_
                        generalize hw82 : e_up v1 276 (1260 * t + 429) (bs g1 + pi y4) = w82
                        have f83 : e_fr (mLv t) w w82 := e_fr.up j6 hw82 (by unfold mLv; omega)
                        have hT84 : e_Has mTy w82 := e_Has.upr j7 hw82 (nR_PENDS (t := t) (by omega)) (by omega)
                        refine e_Ok.run (t' := (226, [(7, (0, z19)), (6, (0, 900 * a + z18)), (0, (1, 275)), (2, (0, x)), (3, (0, y)), (4, (0, y4)), (5, (0, 1))], [(1, 275)], w82)) 1 rfl ?_
                        refine e_Ok.getr (z := 331) rfl rfl rfl rfl (by rw [← hw82]; exact (e_up_ne _ _ (Or.inl (by omega))).trans ((j6 275 68 (by unfold mLv; omega)).trans (e_Has.eq hT rfl))) (by omega) ?_
                        refine e_Ok.run (t' := (231, [(7, (0, z19)), (6, (0, 900 * a + z18)), (0, (1, 275)), (2, (0, x)), (3, (0, y)), (4, (0, y4)), (5, (0, 1))], [(0, 900 * a + z18), (1, 331)], w82)) 1 rfl ?_
                        refine e_Ok.ald (z := w 331 (900 * a + z18)) rfl rfl rfl (by omega) (by rw [← hw82]; exact (e_up_ne _ _ (Or.inl (by omega))).trans ((j6 331 (900 * a + z18) (by unfold mLv; omega)).trans rfl)) (by omega) ?_
                        refine e_Ok.run (t' := (11, [(4, (0, w 331 (900 * a + z18))), (7, (0, z19)), (6, (0, 900 * a + z18)), (0, (1, 275)), (2, (0, x)), (3, (0, y)), (5, (0, 1))], [], w82)) 2 rfl ?_
                        refine e_Ok.sub eAlk (e_sub_of rfl ?_) (ih5 (w 331 (900 * a + z18)) w82 g1 ⟨f83, hT84, (runOk.to (w' := w82) (r' := w 331 (900 * a + z18)) hru1 (fun c k q1 q2 => (by rw [← hw82]; exact (e_up_ne _ _ (Or.inl (by omega))).trans rfl)) (fun i q1 q2 => ⟨(by rw [← hw82]; exact (e_up_ne _ _ (Or.inr (by omega))).trans rfl), (by rw [← hw82]; exact (e_up_ne _ _ (Or.inr (by omega))).trans rfl)⟩) (by rw [← hw82]; exact (e_up_ne _ _ (Or.inr (by omega))).trans rfl) (by have q : w82 276 (1260 * t + 429) = bs g1 + pi y4 := (by rw [← hw82]; exact e_up_eq _ _ _ _); omega) (fun k q1 q2 => (by rw [← hw82]; exact (e_up_ne _ _ (Or.inr (by omega))).trans rfl)) (by omega) (by omega) (by omega) (fun q q1 q2 q3 => by have := han2 z19 q (by omega) (by omega) q1; rwa [show 3 * z18 + z19 = y4 by omega] at this)), (Eq.trans (by rw [← hw82]; exact (e_up_ne _ _ (Or.inl (by omega))).trans rfl) j9), (Eq.trans (by rw [← hw82]; exact (e_up_ne _ _ (Or.inl (by omega))).trans rfl) j10), (Eq.trans (by rw [← hw82]; exact (e_up_ne _ _ (Or.inr (by omega))).trans rfl) j11), ⟨by omega, fun _ => by omega⟩, (fun e3 => by have q := hC.2.2.2.2.2.1 y4 y (j13 e3).2 (by omega) (by omega); rw [show y4 / 3 = z18 by omega] at q; exact ⟨(j13 e3).1, q.elim (fun q => by exfalso; omega) (fun q => q.2.2)⟩), by omega⟩ (by omega))
                        exact ⟨rfl, rfl, rfl, rfl, rfl, trivial⟩
                      · replace h81 : (z19 : Int) = 2 := by have q : ¬ ((z19 : Int) ≠ 2) := h81; omega
                        exfalso; omega
                    · replace h80 : (w 333 (900 * a + z18) : Int) ≥ 0 := by have q : ¬ ((w 333 (900 * a + z18) : Int) < 0) := h80; omega
                      have hf1 := hfin.resolve_left (by omega)
                      have hf2 := (hall.2.2.1 (by omega)).resolve_left (by omega)
                      have hp2 := hC.2.2.2.1.2.1 (3 * z18 + 2) (by omega) (by omega)
                      refine e_Ok.run (t' := (179, [(7, (0, z19)), (6, (0, 900 * a + z18)), (0, (1, 275)), (2, (0, x)), (3, (0, y)), (4, (0, y4)), (5, (0, 1))], [(0, y), (0, x), (1, 275)], v1)) 3 rfl ?_
                      refine e_Ok.callV rfl (by omega) rfl rfl rfl rfl (c_370 j7 (by omega) ((j6 275 97 (by unfold mLv; omega)).trans h97) (m := bs g1 + pi y4) (m1 := bs g1 + pi y4 + 1) (z := 1260 * t + 2 * bs g1 + 2 * pi y4 + 476) (z1 := 1260 * t + 2 * bs g1 + 2 * pi y4 + 477) hPn1 (by omega) (by omega) (by omega) (by omega)) (fun r85 w86 h87 => ?_)
                      obtain ⟨rfl, hw86⟩ := h87
                      generalize hw88 : e_up v1 276 (1260 * t + 2 * bs g1 + 2 * pi y4 + 476) x = w88 at hw86
                      have f89 : e_fr (mLv t) w w88 := e_fr.up j6 hw88 (by unfold mLv; omega)
                      have hT90 : e_Has mTy w88 := e_Has.upr j7 hw88 (nR_PEg t (by omega) (by omega)) (by omega)
                      generalize hw91 : e_up w88 276 (1260 * t + 2 * bs g1 + 2 * pi y4 + 477) y = w91 at hw86
                      have f92 : e_fr (mLv t) w w91 := e_fr.up f89 hw91 (by unfold mLv; omega)
                      have hT93 : e_Has mTy w91 := e_Has.upr hT90 hw91 (nR_PEg t (by omega) (by omega)) (by omega)
                      have f94 : e_fr (mLv t) w w86 := e_fr.up f92 hw86 (by unfold mLv; omega)
                      have hT95 : e_Has mTy w86 := e_Has.upr hT93 hw86 (nR_PENDS (t := t) (by omega)) (by omega)
                      show e_Ok 1 elay ecode eI (d + 1) 371 (182, [(7, (0, z19)), (6, (0, 900 * a + z18)), (0, (1, 275)), (2, (0, x)), (3, (0, y)), (4, (0, y4)), (5, (0, 1))], [], w86) _
                      refine e_Ok.run (t' := (184, [(7, (0, z19)), (6, (0, 900 * a + z18)), (0, (1, 275)), (2, (0, x)), (3, (0, y)), (4, (0, y4)), (5, (0, 1))], [(1, 275), (1, 275)], w86)) 2 rfl ?_
                      refine e_Ok.getr (z := 333) rfl rfl rfl rfl (by rw [← hw86]; exact (e_up_ne _ _ (Or.inl (by omega))).trans (by rw [← hw91]; exact (e_up_ne _ _ (Or.inl (by omega))).trans (by rw [← hw88]; exact (e_up_ne _ _ (Or.inl (by omega))).trans ((j6 275 70 (by unfold mLv; omega)).trans (e_Has.eq hT rfl))))) (by omega) ?_
                      refine e_Ok.run (t' := (189, [(7, (0, z19)), (6, (0, 900 * a + z18)), (0, (1, 275)), (2, (0, x)), (3, (0, y)), (4, (0, y4)), (5, (0, 1))], [(0, 900 * a + z18), (1, 333), (1, 275)], w86)) 1 rfl ?_
                      refine e_Ok.ald (z := w 333 (900 * a + z18)) rfl rfl rfl (by omega) (by rw [← hw86]; exact (e_up_ne _ _ (Or.inl (by omega))).trans (by rw [← hw91]; exact (e_up_ne _ _ (Or.inl (by omega))).trans (by rw [← hw88]; exact (e_up_ne _ _ (Or.inl (by omega))).trans ((j6 333 (900 * a + z18) (by unfold mLv; omega)).trans rfl)))) (by omega) ?_
                      refine e_Ok.callV rfl (by omega) rfl rfl rfl rfl (c_365 (by omega) hT95 (by omega) (by rw [← hw86]; exact (e_up_ne _ _ (Or.inl (by omega))).trans (by rw [← hw91]; exact (e_up_ne _ _ (Or.inl (by omega))).trans (by rw [← hw88]; exact (e_up_ne _ _ (Or.inl (by omega))).trans ((j6 275 97 (by unfold mLv; omega)).trans h97)))) (f := g1 + 1) (z := 1260 * t + 2 * g1 + 436) (by rw [← hw86]; exact (e_up_ne _ _ (Or.inr (by omega))).trans (by rw [← hw91]; exact (e_up_ne _ _ (Or.inr (by omega))).trans (by rw [← hw88]; exact (e_up_ne _ _ (Or.inr (by omega))).trans hF1))) (by omega) (by omega)) (fun r96 w97 h98 => ?_)
                      obtain ⟨rfl, hw97⟩ := h98
                      have f99 : e_fr (mLv t) w w97 := e_fr.up f94 hw97 (by unfold mLv; omega)
                      have hT100 : e_Has mTy w97 := e_Has.upr hT95 hw97 (nR_FRg t (g1) (by omega) (by omega) (by omega)) (by omega)
                      show e_Ok 1 elay ecode eI (d + 1) 371 (193, [(7, (0, z19)), (6, (0, 900 * a + z18)), (0, (1, 275)), (2, (0, x)), (3, (0, y)), (4, (0, y4)), (5, (0, 1))], [], w97) _
                      refine e_Ok.run (t' := (11, [(5, (0, 0)), (7, (0, z19)), (6, (0, 900 * a + z18)), (0, (1, 275)), (2, (0, x)), (3, (0, y)), (4, (0, y4))], [], w97)) 4 rfl ?_
                      refine e_Ok.run (t' := (13, [(5, (0, 0)), (7, (0, z19)), (6, (0, 900 * a + z18)), (0, (1, 275)), (2, (0, x)), (3, (0, y)), (4, (0, y4))], [(0, 0)], w97)) 1 rfl ?_
                      refine e_Ok.if1 rfl (fun h101 => ?_) (fun h101 => ?_)
                      · replace h101 : (0 : Int) = 0 := h101
                        refine e_Ok.rets rfl rfl ?_
                        have e102 : w97 276 5 = v1 276 5 := (by rw [← hw97]; exact (e_up_ne _ _ (Or.inr (by omega))).trans (by rw [← hw86]; exact (e_up_ne _ _ (Or.inr (by omega))).trans (by rw [← hw91]; exact (e_up_ne _ _ (Or.inr (by omega))).trans (by rw [← hw88]; exact (e_up_ne _ _ (Or.inr (by omega))).trans rfl))))
                        have hru := runOk.fin (w' := w97) (z := z18) (i := z19) (x := x) (y := y) hC1 hru1 (by omega) (by omega) (by omega) (fun c k q1 q2 => (by rw [← hw97]; exact (e_up_ne _ _ (Or.inl (by omega))).trans (by rw [← hw86]; exact (e_up_ne _ _ (Or.inl (by omega))).trans (by rw [← hw91]; exact (e_up_ne _ _ (Or.inl (by omega))).trans (by rw [← hw88]; exact (e_up_ne _ _ (Or.inl (by omega))).trans rfl))))) (fun i q1 q2 => ⟨(by rw [← hw97]; exact (e_up_ne _ _ (Or.inr (by omega))).trans (by rw [← hw86]; exact (e_up_ne _ _ (Or.inr (by omega))).trans (by rw [← hw91]; exact (e_up_ne _ _ (Or.inr (by omega))).trans (by rw [← hw88]; exact (e_up_ne _ _ (Or.inr (by omega))).trans rfl)))), (by rw [← hw97]; exact (e_up_ne _ _ (Or.inr (by omega))).trans (by rw [← hw86]; exact (e_up_ne _ _ (Or.inr (by omega))).trans (by rw [← hw91]; exact (e_up_ne _ _ (Or.inr (by omega))).trans (by rw [← hw88]; exact (e_up_ne _ _ (Or.inr (by omega))).trans rfl))))⟩) (by rw [← hw97]; exact (e_up_ne _ _ (Or.inr (by omega))).trans (by rw [← hw86]; exact (e_up_ne _ _ (Or.inr (by omega))).trans (by rw [← hw91]; exact (e_up_ne _ _ (Or.inr (by omega))).trans (by rw [← hw88]; exact (e_up_ne _ _ (Or.inr (by omega))).trans rfl)))) (by rw [← hw97]; exact (e_up_ne _ _ (Or.inr (by omega))).trans (by rw [← hw86]; exact e_up_eq _ _ _ _)) (fun k q1 q2 => (by rw [← hw97]; exact (e_up_ne _ _ (Or.inr (by omega))).trans (by rw [← hw86]; exact (e_up_ne _ _ (Or.inr (by omega))).trans (by rw [← hw91]; exact (e_up_ne _ _ (Or.inr (by omega))).trans (by rw [← hw88]; exact (e_up_ne _ _ (Or.inr (by omega))).trans rfl))))) (by rw [show 1260 * t + 2 * (bs g1 + pi y4) + 476 = 1260 * t + 2 * bs g1 + 2 * pi y4 + 476 by omega]; exact (by rw [← hw97]; exact (e_up_ne _ _ (Or.inr (by omega))).trans (by rw [← hw86]; exact (e_up_ne _ _ (Or.inr (by omega))).trans (by rw [← hw91]; exact (e_up_ne _ _ (Or.inr (by omega))).trans (by rw [← hw88]; exact e_up_eq _ _ _ _))))) (by rw [show 1260 * t + 2 * (bs g1 + pi y4) + 477 = 1260 * t + 2 * bs g1 + 2 * pi y4 + 477 by omega]; exact (by rw [← hw97]; exact (e_up_ne _ _ (Or.inr (by omega))).trans (by rw [← hw86]; exact (e_up_ne _ _ (Or.inr (by omega))).trans (by rw [← hw91]; exact e_up_eq _ _ _ _)))) (fun e3 => by have q := hC.2.2.2.2.2.1 y4 y (j13 e3).2 (by omega) (by omega); rw [show y4 / 3 = z18 by omega] at q; have q0 := hy3 e3; refine ⟨q0.1, q0.2.1, ?_⟩; rw [j6 331 _ (by unfold mLv; omega), j6 334 _ (by unfold mLv; omega), j6 336 _ (by unfold mLv; omega)]; exact q.elim (fun q => by exfalso; omega) (fun q => ⟨q.2.2, q.2.1⟩))
                        exact ⟨rfl, f99, hT100, by omega, (by rw [← hw97]; exact (e_up_ne _ _ (Or.inl (by omega))).trans (by rw [← hw86]; exact (e_up_ne _ _ (Or.inl (by omega))).trans (by rw [← hw91]; exact (e_up_ne _ _ (Or.inl (by omega))).trans (by rw [← hw88]; exact (e_up_ne _ _ (Or.inl (by omega))).trans j9)))), Or.inr ⟨(Eq.trans (by rw [← hw97]; exact (e_up_ne _ _ (Or.inl (by omega))).trans (by rw [← hw86]; exact (e_up_ne _ _ (Or.inl (by omega))).trans (by rw [← hw91]; exact (e_up_ne _ _ (Or.inl (by omega))).trans (by rw [← hw88]; exact (e_up_ne _ _ (Or.inl (by omega))).trans rfl)))) j10), g1, w 333 (900 * a + z18), bs, _, by omega, fun e => by omega, runOk.at hru (by omega) (by rw [← hw97]; exact e_up_eq _ _ _ _) ((show w97 330 (10000 * a + (w 333 (900 * a + z18))) = v1 330 (10000 * a + (w 333 (900 * a + z18))) from (by rw [← hw97]; exact (e_up_ne _ _ (Or.inl (by omega))).trans (by rw [← hw86]; exact (e_up_ne _ _ (Or.inl (by omega))).trans (by rw [← hw91]; exact (e_up_ne _ _ (Or.inl (by omega))).trans (by rw [← hw88]; exact (e_up_ne _ _ (Or.inl (by omega))).trans rfl))))).trans ((j6 330 (10000 * a + (w 333 (900 * a + z18))) (by unfold mLv; omega)).trans (by omega))), by omega, by omega⟩⟩
                      · replace h101 : (0 : Int) ≠ 0 := by have q : ¬ ((0 : Int) = 0) := h101; omega
                        exfalso; omega
                · replace h77 : (w 332 (900 * a + z18) : Int) ≥ 0 := by have q : ¬ ((w 332 (900 * a + z18) : Int) < 0) := h77; omega
                  have hc1 := hcat.resolve_left (by omega)
                  have hc2 := (hall.2.1 (by omega)).resolve_left (by omega)
                  refine e_Ok.run (t' := (132, [(7, (0, z19)), (6, (0, 900 * a + z18)), (0, (1, 275)), (2, (0, x)), (3, (0, y)), (4, (0, y4)), (5, (0, 1))], [(1, 275)], v1)) 1 rfl ?_
                  refine e_Ok.getr (z := 276) rfl rfl rfl rfl ((j6 275 0 (by unfold mLv; omega)).trans (e_Has.eq hT rfl)) (by omega) ?_
                  refine e_Ok.run (t' := (136, [(7, (0, z19)), (6, (0, 900 * a + z18)), (0, (1, 275)), (2, (0, x)), (3, (0, y)), (4, (0, y4)), (5, (0, 1))], [(1, 275), (1, 276)], v1)) 1 rfl ?_
                  refine e_Ok.getf (z := 1260 * t + 416) rfl rfl rfl rfl ((j6 275 97 (by unfold mLv; omega)).trans h97) (by omega) ?_
                  refine e_Ok.run (t' := (140, [(7, (0, z19)), (6, (0, 900 * a + z18)), (0, (1, 275)), (2, (0, x)), (3, (0, y)), (4, (0, y4)), (5, (0, 1))], [(0, 3), (0, 1260 * t + 416), (1, 276)], v1)) 1 rfl ?_
                  refine e_Ok.add (z := 1260 * t + 419) rfl (by omega) (by omega) ?_
                  refine e_Ok.run (t' := (142, [(7, (0, z19)), (6, (0, 900 * a + z18)), (0, (1, 275)), (2, (0, x)), (3, (0, y)), (4, (0, y4)), (5, (0, 1))], [(0, y), (0, 1260 * t + 419), (1, 276)], v1)) 1 rfl ?_
                  refine e_Ok.ast rfl rfl rfl rfl (by omega) ?_
                  generalize hw103 : e_up v1 276 (1260 * t + 419) y = w103
                  have f104 : e_fr (mLv t) w w103 := e_fr.up j6 hw103 (by unfold mLv; omega)
                  have hT105 : e_Has mTy w103 := e_Has.upr j7 hw103 (nR_CAUGHT (t := t) (by omega)) (by omega)
                  refine e_Ok.run (t' := (145, [(7, (0, z19)), (6, (0, 900 * a + z18)), (0, (1, 275)), (2, (0, x)), (3, (0, y)), (4, (0, y4)), (5, (0, 1))], [(1, 275), (1, 275)], w103)) 2 rfl ?_
                  refine e_Ok.getr (z := 332) rfl rfl rfl rfl (by rw [← hw103]; exact (e_up_ne _ _ (Or.inl (by omega))).trans ((j6 275 69 (by unfold mLv; omega)).trans (e_Has.eq hT rfl))) (by omega) ?_
                  refine e_Ok.run (t' := (150, [(7, (0, z19)), (6, (0, 900 * a + z18)), (0, (1, 275)), (2, (0, x)), (3, (0, y)), (4, (0, y4)), (5, (0, 1))], [(0, 900 * a + z18), (1, 332), (1, 275)], w103)) 1 rfl ?_
                  refine e_Ok.ald (z := w 332 (900 * a + z18)) rfl rfl rfl (by omega) (by rw [← hw103]; exact (e_up_ne _ _ (Or.inl (by omega))).trans ((j6 332 (900 * a + z18) (by unfold mLv; omega)).trans rfl)) (by omega) ?_
                  refine e_Ok.callV rfl (by omega) rfl rfl rfl rfl (c_365 (by omega) hT105 (by omega) (by rw [← hw103]; exact (e_up_ne _ _ (Or.inl (by omega))).trans ((j6 275 97 (by unfold mLv; omega)).trans h97)) (f := g1 + 1) (z := 1260 * t + 2 * g1 + 436) (by rw [← hw103]; exact (e_up_ne _ _ (Or.inr (by omega))).trans hF1) (by omega) (by omega)) (fun r106 w107 h108 => ?_)
                  obtain ⟨rfl, hw107⟩ := h108
                  have f109 : e_fr (mLv t) w w107 := e_fr.up f104 hw107 (by unfold mLv; omega)
                  have hT110 : e_Has mTy w107 := e_Has.upr hT105 hw107 (nR_FRg t (g1) (by omega) (by omega) (by omega)) (by omega)
                  show e_Ok 1 elay ecode eI (d + 1) 371 (154, [(7, (0, z19)), (6, (0, 900 * a + z18)), (0, (1, 275)), (2, (0, x)), (3, (0, y)), (4, (0, y4)), (5, (0, 1))], [], w107) _
                  refine e_Ok.run (t' := (11, [(5, (0, 0)), (7, (0, z19)), (6, (0, 900 * a + z18)), (0, (1, 275)), (2, (0, x)), (3, (0, y)), (4, (0, y4))], [], w107)) 4 rfl ?_
                  refine e_Ok.run (t' := (13, [(5, (0, 0)), (7, (0, z19)), (6, (0, 900 * a + z18)), (0, (1, 275)), (2, (0, x)), (3, (0, y)), (4, (0, y4))], [(0, 0)], w107)) 1 rfl ?_
                  refine e_Ok.if1 rfl (fun h111 => ?_) (fun h111 => ?_)
                  · replace h111 : (0 : Int) = 0 := h111
                    refine e_Ok.rets rfl rfl ?_
                    have e112 : w107 276 5 = v1 276 5 := (by rw [← hw107]; exact (e_up_ne _ _ (Or.inr (by omega))).trans (by rw [← hw103]; exact (e_up_ne _ _ (Or.inr (by omega))).trans rfl))
                    have hru := runOk.to (w' := w107) (r' := 3 * z18 + 1) hru1 (fun c k q1 q2 => (by rw [← hw107]; exact (e_up_ne _ _ (Or.inl (by omega))).trans (by rw [← hw103]; exact (e_up_ne _ _ (Or.inl (by omega))).trans rfl))) (fun i q1 q2 => ⟨(by rw [← hw107]; exact (e_up_ne _ _ (Or.inr (by omega))).trans (by rw [← hw103]; exact (e_up_ne _ _ (Or.inr (by omega))).trans rfl)), (by rw [← hw107]; exact (e_up_ne _ _ (Or.inr (by omega))).trans (by rw [← hw103]; exact (e_up_ne _ _ (Or.inr (by omega))).trans rfl))⟩) (by rw [← hw107]; exact (e_up_ne _ _ (Or.inr (by omega))).trans (by rw [← hw103]; exact (e_up_ne _ _ (Or.inr (by omega))).trans rfl)) (by rw [(show w107 276 (1260 * t + 429) = v1 276 (1260 * t + 429) from (by rw [← hw107]; exact (e_up_ne _ _ (Or.inr (by omega))).trans (by rw [← hw103]; exact (e_up_ne _ _ (Or.inr (by omega))).trans rfl))), hPn1]; omega) (fun k q1 q2 => (by rw [← hw107]; exact (e_up_ne _ _ (Or.inr (by omega))).trans (by rw [← hw103]; exact (e_up_ne _ _ (Or.inr (by omega))).trans rfl))) (by omega) (by omega) (by omega) (fun q q1 q2 q3 => (han1 1 q (by omega) (by omega) q1).elim (fun e => by omega) (fun e => by have := han2 0 q (by omega) (by omega) e; rwa [show 3 * z18 + 0 = y4 by omega] at this))
                    exact ⟨rfl, f109, hT110, by omega, (by rw [← hw107]; exact (e_up_ne _ _ (Or.inl (by omega))).trans (by rw [← hw103]; exact (e_up_ne _ _ (Or.inl (by omega))).trans j9)), Or.inr ⟨(Eq.trans (by rw [← hw107]; exact (e_up_ne _ _ (Or.inl (by omega))).trans (by rw [← hw103]; exact (e_up_ne _ _ (Or.inl (by omega))).trans rfl)) j10), g1, w 332 (900 * a + z18), bs, ow, by omega, fun e => by omega, runOk.at hru (by omega) (by rw [← hw107]; exact e_up_eq _ _ _ _) ((show w107 330 (10000 * a + (w 332 (900 * a + z18))) = v1 330 (10000 * a + (w 332 (900 * a + z18))) from (by rw [← hw107]; exact (e_up_ne _ _ (Or.inl (by omega))).trans (by rw [← hw103]; exact (e_up_ne _ _ (Or.inl (by omega))).trans rfl))).trans ((j6 330 (10000 * a + (w 332 (900 * a + z18))) (by unfold mLv; omega)).trans (by omega))), by omega, by omega⟩⟩
                  · replace h111 : (0 : Int) ≠ 0 := by have q : ¬ ((0 : Int) = 0) := h111; omega
                    exfalso; omega
          · replace h17 : (y4 : Int) < 0 := by have q : ¬ ((y4 : Int) ≥ 0) := h17; omega
            refine e_Ok.run (t' := (69, [(0, (1, 275)), (2, (0, x)), (3, (0, y)), (4, (0, y4)), (5, (0, 1))], [(0, y), (0, x), (1, 275)], v1)) 3 rfl ?_
            refine e_Ok.callV rfl (by omega) rfl rfl rfl rfl (c_372 (by omega) j7 (by omega) (by omega) ((j6 275 96 (by unfold mLv; omega)).trans h96) ((j6 275 97 (by unfold mLv; omega)).trans h97) ((j6 275 98 (by unfold mLv; omega)).trans h98) hC1 (show runOk v1 a t g1 (-1) n nt nw dl sg pi an br bs ow by rw [← show y4 = -1 by omega]; exact hru1) (by omega) (by omega)) (fun r113 w114 h115 => ?_)
            obtain ⟨z116, rfl, q117, q117T, q117n, q117d, q117c⟩ := h115
            have f118 : e_fr (mLv t) w w114 := e_fr.trans j6 (e_fr.mono q117 (fun c k q => by exact q))
            obtain ⟨q117a, q117b, q117z, q117r, q117o, q117e⟩ | ⟨q117a, q117b, rfl, q117p, q117t, q117u, q117v, q117o, q117e⟩ | ⟨q117a, rfl, q117o, q117s⟩ := q117c
            · show e_Ok 1 elay ecode eI (d + 1) 371 (72, [(0, (1, 275)), (2, (0, x)), (3, (0, y)), (4, (0, y4)), (5, (0, 1))], [(0, z116)], w114) _
              have q117g := q117r.2.2.2.1
              refine e_Ok.run (t' := (77, [(4, (0, z116)), (0, (1, 275)), (2, (0, x)), (3, (0, y)), (5, (0, 1))], [(0, (-1)), (0, z116)], w114)) 3 rfl ?_
              refine e_Ok.if2 rfl (fun h119 => ?_) (fun h119 => ?_)
              · replace h119 : (z116 : Int) < (-1) := h119
                exfalso; omega
              · replace h119 : (z116 : Int) ≥ (-1) := by have q : ¬ ((z116 : Int) < (-1)) := h119; omega
                refine e_Ok.run (t' := (11, [(5, (0, 1)), (4, (0, z116)), (0, (1, 275)), (2, (0, x)), (3, (0, y))], [], w114)) 4 rfl ?_
                refine e_Ok.sub eAlk (e_sub_of rfl ?_) (ih5 z116 w114 (g1 - 1) ⟨f118, q117T, q117r, (by rw [q117d]; exact j9), (by rw [q117o]; exact j10), (by rw [q117e]; exact j11), ⟨by omega, fun _ => by omega⟩, (fun e3 => by exfalso; omega), by have := q117r.2.2.2.1; omega⟩ (by omega))
                exact ⟨rfl, rfl, rfl, rfl, rfl, trivial⟩
            · show e_Ok 1 elay ecode eI (d + 1) 371 (72, [(0, (1, 275)), (2, (0, x)), (3, (0, y)), (4, (0, y4)), (5, (0, 1))], [(0, (-2))], w114) _
              refine e_Ok.run (t' := (77, [(4, (0, (-2))), (0, (1, 275)), (2, (0, x)), (3, (0, y)), (5, (0, 1))], [(0, (-1)), (0, (-2))], w114)) 3 rfl ?_
              refine e_Ok.if2 rfl (fun h120 => ?_) (fun h120 => ?_)
              · replace h120 : ((-2) : Int) < (-1) := h120
                refine e_Ok.run (t' := (11, [(5, (0, 0)), (4, (0, (-2))), (0, (1, 275)), (2, (0, x)), (3, (0, y))], [], w114)) 3 rfl ?_
                refine e_Ok.run (t' := (13, [(5, (0, 0)), (4, (0, (-2))), (0, (1, 275)), (2, (0, x)), (3, (0, y))], [(0, 0)], w114)) 1 rfl ?_
                refine e_Ok.if1 rfl (fun h121 => ?_) (fun h121 => ?_)
                · replace h121 : (0 : Int) = 0 := h121
                  refine e_Ok.rets rfl rfl ?_
                  have e122 : w114 276 5 = w114 276 5 := rfl
                  exact ⟨rfl, f118, q117T, by omega, (Eq.trans q117d j9), Or.inr ⟨(by rw [q117o]; exact j10), g1 - 1, q117p, bs, ow, by omega, by omega, q117t, q117u, q117v⟩⟩
                · replace h121 : (0 : Int) ≠ 0 := by have q : ¬ ((0 : Int) = 0) := h121; omega
                  exfalso; omega
              · replace h120 : ((-2) : Int) ≥ (-1) := by have q : ¬ (((-2) : Int) < (-1)) := h120; omega
                exfalso; omega
            · show e_Ok 1 elay ecode eI (d + 1) 371 (72, [(0, (1, 275)), (2, (0, x)), (3, (0, y)), (4, (0, y4)), (5, (0, 1))], [(0, (-2))], w114) _
              refine e_Ok.run (t' := (77, [(4, (0, (-2))), (0, (1, 275)), (2, (0, x)), (3, (0, y)), (5, (0, 1))], [(0, (-1)), (0, (-2))], w114)) 3 rfl ?_
              refine e_Ok.if2 rfl (fun h123 => ?_) (fun h123 => ?_)
              · replace h123 : ((-2) : Int) < (-1) := h123
                refine e_Ok.run (t' := (11, [(5, (0, 0)), (4, (0, (-2))), (0, (1, 275)), (2, (0, x)), (3, (0, y))], [], w114)) 3 rfl ?_
                refine e_Ok.run (t' := (13, [(5, (0, 0)), (4, (0, (-2))), (0, (1, 275)), (2, (0, x)), (3, (0, y))], [(0, 0)], w114)) 1 rfl ?_
                refine e_Ok.if1 rfl (fun h124 => ?_) (fun h124 => ?_)
                · replace h124 : (0 : Int) = 0 := h124
                  refine e_Ok.rets rfl rfl ?_
                  have e125 : w114 276 5 = w114 276 5 := rfl
                  exact ⟨rfl, f118, q117T, by omega, (Eq.trans q117d j9), Or.inl ⟨q117o, q117s⟩⟩
                · replace h124 : (0 : Int) ≠ 0 := by have q : ¬ ((0 : Int) = 0) := h124; omega
                  exfalso; omega
              · replace h123 : ((-2) : Int) ≥ (-1) := by have q : ¬ (((-2) : Int) < (-1)) := h123; omega
                exfalso; omega
        · replace h16 : (x : Int) = 3 := by have q : ¬ ((x : Int) ≠ 3) := h16; omega
          have hyy := hy3 (by omega)
          refine e_Ok.run (t' := (24, [(0, (1, 275)), (2, (0, x)), (3, (0, y)), (4, (0, y4)), (5, (0, 1))], [(1, 275), (0, y4)], v1)) 2 rfl ?_
          refine e_Ok.getr (z := 335) rfl rfl rfl rfl ((j6 275 72 (by unfold mLv; omega)).trans (e_Has.eq hT rfl)) (by omega) ?_
          refine e_Ok.run (t' := (31, [(0, (1, 275)), (2, (0, x)), (3, (0, y)), (4, (0, y4)), (5, (0, 1))], [(1, 275), (0, 900), (1, 335), (0, y4)], v1)) 2 rfl ?_
          refine e_Ok.getf (z := a) rfl rfl rfl rfl ((j6 275 98 (by unfold mLv; omega)).trans h98) (by omega) ?_
          refine e_Ok.mul (z := 900 * a) rfl (by omega) (by omega) ?_
          refine e_Ok.run (t' := (36, [(0, (1, 275)), (2, (0, x)), (3, (0, y)), (4, (0, y4)), (5, (0, 1))], [(0, y), (0, 900 * a), (1, 335), (0, y4)], v1)) 1 rfl ?_
          refine e_Ok.add (z := 900 * a + y) rfl (by omega) (by omega) ?_
          have h126 := (e_Has.get hT (c := 335) (k := 900 * a + y) (lo := (-2147483648)) (hi := 2147483647) rfl (by decide))
          refine e_Ok.ald (z := w 335 (900 * a + y)) rfl rfl rfl (by omega) ((j6 335 (900 * a + y) (by unfold mLv; omega)).trans rfl) (by omega) ?_
          refine e_Ok.if2 rfl (fun h127 => ?_) (fun h127 => ?_)
          · replace h127 : (y4 : Int) ≠ w 335 (900 * a + y) := h127
            refine e_Ok.run (t' := (63, [(0, (1, 275)), (2, (0, x)), (3, (0, y)), (4, (0, y4)), (5, (0, 1))], [(0, y4)], v1)) 1 rfl ?_
            refine e_Ok.if1 rfl (fun h128 => ?_) (fun h128 => ?_)
            · replace h128 : (y4 : Int) ≥ 0 := h128
              refine e_Ok.run (t' := (94, [(0, (1, 275)), (2, (0, x)), (3, (0, y)), (4, (0, y4)), (5, (0, 1))], [(1, 275), (0, 900)], v1)) 2 rfl ?_
              refine e_Ok.getf (z := a) rfl rfl rfl rfl ((j6 275 98 (by unfold mLv; omega)).trans h98) (by omega) ?_
              refine e_Ok.mul (z := 900 * a) rfl (by omega) (by omega) ?_
              refine e_Ok.run (t' := (101, [(0, (1, 275)), (2, (0, x)), (3, (0, y)), (4, (0, y4)), (5, (0, 1))], [(0, 3), (0, y4), (0, 900 * a)], v1)) 2 rfl ?_
              refine e_Ok.divn (fun z129 hz129 => ?_) rfl (by omega) (by omega)
              replace hz129 : z129 = y4 / 3 := hz129
              have z129r : 0 ≤ z129 ∧ z129 ≤ 899 := by omega
              refine e_Ok.add (z := 900 * a + z129) rfl (by omega) (by omega) ?_
              refine e_Ok.run (t' := (108, [(6, (0, 900 * a + z129)), (0, (1, 275)), (2, (0, x)), (3, (0, y)), (4, (0, y4)), (5, (0, 1))], [(0, 3), (0, y4)], v1)) 3 rfl ?_
              refine e_Ok.remn (fun z130 hz130 => ?_) rfl (by omega) (by omega)
              replace hz130 : z130 = y4 % 3 := hz130
              have z130r : 0 ≤ z130 ∧ z130 ≤ 2 := by omega
              refine e_Ok.run (t' := (111, [(7, (0, z130)), (6, (0, 900 * a + z129)), (0, (1, 275)), (2, (0, x)), (3, (0, y)), (4, (0, y4)), (5, (0, 1))], [], v1)) 1 rfl ?_
              obtain ⟨hti, hpi3, hcat, hfin, hend, han1, han2⟩ := id (hC.2.2.1 z129 (by omega) (by omega))
              have hall := (hC.2.2.1 z129 (by omega) (by omega)).all (y := y4) (k := z130) (by omega) (by omega)
              unfold tgt at hcat hfin hend
              have hpz := hC.2.2.2.1.2.1 (w 331 (900 * a + z129)) (by omega) (by omega)
              refine e_Ok.run (t' := (113, [(7, (0, z130)), (6, (0, 900 * a + z129)), (0, (1, 275)), (2, (0, x)), (3, (0, y)), (4, (0, y4)), (5, (0, 1))], [(0, z130)], v1)) 1 rfl ?_
              refine e_Ok.if1 rfl (fun h131 => ?_) (fun h131 => ?_)
              · replace h131 : (z130 : Int) ≠ 0 := h131
                refine e_Ok.run (t' := (163, [(7, (0, z130)), (6, (0, 900 * a + z129)), (0, (1, 275)), (2, (0, x)), (3, (0, y)), (4, (0, y4)), (5, (0, 1))], [(0, 2), (0, z130)], v1)) 2 rfl ?_
                refine e_Ok.if2 rfl (fun h132 => ?_) (fun h132 => ?_)
                · replace h132 : (z130 : Int) ≥ 2 := h132
                  refine e_Ok.run (t' := (200, [(7, (0, z130)), (6, (0, 900 * a + z129)), (0, (1, 275)), (2, (0, x)), (3, (0, y)), (4, (0, y4)), (5, (0, 1))], [(1, 275)], v1)) 1 rfl ?_
                  refine e_Ok.getr (z := 276) rfl rfl rfl rfl ((j6 275 0 (by unfold mLv; omega)).trans (e_Has.eq hT rfl)) (by omega) ?_
                  refine e_Ok.run (t' := (204, [(7, (0, z130)), (6, (0, 900 * a + z129)), (0, (1, 275)), (2, (0, x)), (3, (0, y)), (4, (0, y4)), (5, (0, 1))], [(1, 275), (1, 276)], v1)) 1 rfl ?_
                  refine e_Ok.getf (z := 1260 * t + 416) rfl rfl rfl rfl ((j6 275 97 (by unfold mLv; omega)).trans h97) (by omega) ?_
                  refine e_Ok.run (t' := (209, [(7, (0, z130)), (6, (0, 900 * a + z129)), (0, (1, 275)), (2, (0, x)), (3, (0, y)), (4, (0, y4)), (5, (0, 1))], [(0, 13), (0, 1260 * t + 416), (1, 276)], v1)) 1 rfl ?_
                  refine e_Ok.add (z := 1260 * t + 429) rfl (by omega) (by omega) ?_
                  refine e_Ok.run (t' := (211, [(7, (0, z130)), (6, (0, 900 * a + z129)), (0, (1, 275)), (2, (0, x)), (3, (0, y)), (4, (0, y4)), (5, (0, 1))], [(0, 1260 * t + 429), (1, 276), (0, 1260 * t + 429), (1, 276)], v1)) 1 rfl ?_
                  refine e_Ok.ald (z := bs g1 + pi y4) rfl rfl rfl (by omega) hPn1 (by omega) ?_
                  refine e_Ok.run (t' := (215, [(7, (0, z130)), (6, (0, 900 * a + z129)), (0, (1, 275)), (2, (0, x)), (3, (0, y)), (4, (0, y4)), (5, (0, 1))], [(0, 2), (0, z130), (0, bs g1 + pi y4), (0, 1260 * t + 429), (1, 276)], v1)) 2 rfl ?_
                  refine e_Ok.if2 rfl (fun h133 => ?_) (fun h133 => ?_)
                  · replace h133 : (z130 : Int) ≠ 2 := h133
                    exfalso; omega
                  · replace h133 : (z130 : Int) = 2 := by have q : ¬ ((z130 : Int) ≠ 2) := h133; omega
                    refine e_Ok.run (t' := (223, [(7, (0, z130)), (6, (0, 900 * a + z129)), (0, (1, 275)), (2, (0, x)), (3, (0, y)), (4, (0, y4)), (5, (0, 1))], [(0, 1), (0, bs g1 + pi y4), (0, 1260 * t + 429), (1, 276)], v1)) 2 rfl ?_
                    refine e_Ok.sub' (z := bs g1 + pi y4 - 1) rfl (by omega) (by omega) ?_
                    refine e_Ok.ast rfl rfl rfl rfl (by omega) ?_
                    generalize hw134 : e_up v1 276 (1260 * t + 429) (bs g1 + pi y4 - 1) = w134
                    have f135 : e_fr (mLv t) w w134 := e_fr.up j6 hw134 (by unfold mLv; omega)
                    have hT136 : e_Has mTy w134 := e_Has.upr j7 hw134 (nR_PENDS (t := t) (by omega)) (by omega)
                    refine e_Ok.run (t' := (226, [(7, (0, z130)), (6, (0, 900 * a + z129)), (0, (1, 275)), (2, (0, x)), (3, (0, y)), (4, (0, y4)), (5, (0, 1))], [(1, 275)], w134)) 1 rfl ?_
                    refine e_Ok.getr (z := 331) rfl rfl rfl rfl (by rw [← hw134]; exact (e_up_ne _ _ (Or.inl (by omega))).trans ((j6 275 68 (by unfold mLv; omega)).trans (e_Has.eq hT rfl))) (by omega) ?_
                    refine e_Ok.run (t' := (231, [(7, (0, z130)), (6, (0, 900 * a + z129)), (0, (1, 275)), (2, (0, x)), (3, (0, y)), (4, (0, y4)), (5, (0, 1))], [(0, 900 * a + z129), (1, 331)], w134)) 1 rfl ?_
                    refine e_Ok.ald (z := w 331 (900 * a + z129)) rfl rfl rfl (by omega) (by rw [← hw134]; exact (e_up_ne _ _ (Or.inl (by omega))).trans ((j6 331 (900 * a + z129) (by unfold mLv; omega)).trans rfl)) (by omega) ?_
                    refine e_Ok.run (t' := (11, [(4, (0, w 331 (900 * a + z129))), (7, (0, z130)), (6, (0, 900 * a + z129)), (0, (1, 275)), (2, (0, x)), (3, (0, y)), (5, (0, 1))], [], w134)) 2 rfl ?_
                    refine e_Ok.sub eAlk (e_sub_of rfl ?_) (ih5 (w 331 (900 * a + z129)) w134 g1 ⟨f135, hT136, (runOk.to (w' := w134) (r' := w 331 (900 * a + z129)) hru1 (fun c k q1 q2 => (by rw [← hw134]; exact (e_up_ne _ _ (Or.inl (by omega))).trans rfl)) (fun i q1 q2 => ⟨(by rw [← hw134]; exact (e_up_ne _ _ (Or.inr (by omega))).trans rfl), (by rw [← hw134]; exact (e_up_ne _ _ (Or.inr (by omega))).trans rfl)⟩) (by rw [← hw134]; exact (e_up_ne _ _ (Or.inr (by omega))).trans rfl) (by have q : w134 276 (1260 * t + 429) = bs g1 + pi y4 - 1 := (by rw [← hw134]; exact e_up_eq _ _ _ _); omega) (fun k q1 q2 => (by rw [← hw134]; exact (e_up_ne _ _ (Or.inr (by omega))).trans rfl)) (by omega) (by omega) (by omega) (fun q q1 q2 q3 => by have := han2 z130 q (by omega) (by omega) q1; rwa [show 3 * z129 + z130 = y4 by omega] at this)), (Eq.trans (by rw [← hw134]; exact (e_up_ne _ _ (Or.inl (by omega))).trans rfl) j9), (Eq.trans (by rw [← hw134]; exact (e_up_ne _ _ (Or.inl (by omega))).trans rfl) j10), (Eq.trans (by rw [← hw134]; exact (e_up_ne _ _ (Or.inr (by omega))).trans rfl) j11), ⟨by omega, fun _ => by omega⟩, (fun e3 => by have q := hC.2.2.2.2.2.1 y4 y (j13 e3).2 (by omega) (by omega); rw [show y4 / 3 = z129 by omega] at q; exact ⟨(j13 e3).1, q.elim (fun q => by exfalso; omega) (fun q => q.2.2)⟩), by omega⟩ (by omega))
                    exact ⟨rfl, rfl, rfl, rfl, rfl, trivial⟩
                · replace h132 : (z130 : Int) < 2 := by have q : ¬ ((z130 : Int) ≥ 2) := h132; omega
                  refine e_Ok.run (t' := (167, [(7, (0, z130)), (6, (0, 900 * a + z129)), (0, (1, 275)), (2, (0, x)), (3, (0, y)), (4, (0, y4)), (5, (0, 1))], [(1, 275)], v1)) 1 rfl ?_
                  refine e_Ok.getr (z := 333) rfl rfl rfl rfl ((j6 275 70 (by unfold mLv; omega)).trans (e_Has.eq hT rfl)) (by omega) ?_
                  refine e_Ok.run (t' := (172, [(7, (0, z130)), (6, (0, 900 * a + z129)), (0, (1, 275)), (2, (0, x)), (3, (0, y)), (4, (0, y4)), (5, (0, 1))], [(0, 900 * a + z129), (1, 333)], v1)) 1 rfl ?_
                  have h137 := (e_Has.get hT (c := 333) (k := 900 * a + z129) (lo := (-2147483648)) (hi := 2147483647) rfl (by decide))
                  refine e_Ok.ald (z := w 333 (900 * a + z129)) rfl rfl rfl (by omega) ((j6 333 (900 * a + z129) (by unfold mLv; omega)).trans rfl) (by omega) ?_
                  refine e_Ok.if1 rfl (fun h138 => ?_) (fun h138 => ?_)
                  · replace h138 : (w 333 (900 * a + z129) : Int) < 0 := h138
                    refine e_Ok.run (t' := (200, [(7, (0, z130)), (6, (0, 900 * a + z129)), (0, (1, 275)), (2, (0, x)), (3, (0, y)), (4, (0, y4)), (5, (0, 1))], [(1, 275)], v1)) 1 rfl ?_
                    refine e_Ok.getr (z := 276) rfl rfl rfl rfl ((j6 275 0 (by unfold mLv; omega)).trans (e_Has.eq hT rfl)) (by omega) ?_
                    refine e_Ok.run (t' := (204, [(7, (0, z130)), (6, (0, 900 * a + z129)), (0, (1, 275)), (2, (0, x)), (3, (0, y)), (4, (0, y4)), (5, (0, 1))], [(1, 275), (1, 276)], v1)) 1 rfl ?_
                    refine e_Ok.getf (z := 1260 * t + 416) rfl rfl rfl rfl ((j6 275 97 (by unfold mLv; omega)).trans h97) (by omega) ?_
                    refine e_Ok.run (t' := (209, [(7, (0, z130)), (6, (0, 900 * a + z129)), (0, (1, 275)), (2, (0, x)), (3, (0, y)), (4, (0, y4)), (5, (0, 1))], [(0, 13), (0, 1260 * t + 416), (1, 276)], v1)) 1 rfl ?_
                    refine e_Ok.add (z := 1260 * t + 429) rfl (by omega) (by omega) ?_
                    refine e_Ok.run (t' := (211, [(7, (0, z130)), (6, (0, 900 * a + z129)), (0, (1, 275)), (2, (0, x)), (3, (0, y)), (4, (0, y4)), (5, (0, 1))], [(0, 1260 * t + 429), (1, 276), (0, 1260 * t + 429), (1, 276)], v1)) 1 rfl ?_
                    refine e_Ok.ald (z := bs g1 + pi y4) rfl rfl rfl (by omega) hPn1 (by omega) ?_
                    refine e_Ok.run (t' := (215, [(7, (0, z130)), (6, (0, 900 * a + z129)), (0, (1, 275)), (2, (0, x)), (3, (0, y)), (4, (0, y4)), (5, (0, 1))], [(0, 2), (0, z130), (0, bs g1 + pi y4), (0, 1260 * t + 429), (1, 276)], v1)) 2 rfl ?_
                    refine e_Ok.if2 rfl (fun h139 => ?_) (fun h139 => ?_)
                    · replace h139 : (z130 : Int) ≠ 2 := h139
                      refine e_Ok.run (t' := (223, [(7, (0, z130)), (6, (0, 900 * a + z129)), (0, (1, 275)), (2, (0, x)), (3, (0, y)), (4, (0, y4)), (5, (0, 1))], [(0, 0), (0, bs g1 + pi y4), (0, 1260 * t + 429), (1, 276)], v1)) 1 rfl ?_
                      refine e_Ok.sub' (z := bs g1 + pi y4) rfl (by omega) (by omega) ?_
                      refine e_Ok.ast rfl rfl rfl rfl (by omega) ?_
                      generalize hw140 : e_up v1 276 (1260 * t + 429) (bs g1 + pi y4) = w140
                      have f141 : e_fr (mLv t) w w140 := e_fr.up j6 hw140 (by unfold mLv; omega)
                      have hT142 : e_Has mTy w140 := e_Has.upr j7 hw140 (nR_PENDS (t := t) (by omega)) (by omega)
                      refine e_Ok.run (t' := (226, [(7, (0, z130)), (6, (0, 900 * a + z129)), (0, (1, 275)), (2, (0, x)), (3, (0, y)), (4, (0, y4)), (5, (0, 1))], [(1, 275)], w140)) 1 rfl ?_
                      refine e_Ok.getr (z := 331) rfl rfl rfl rfl (by rw [← hw140]; exact (e_up_ne _ _ (Or.inl (by omega))).trans ((j6 275 68 (by unfold mLv; omega)).trans (e_Has.eq hT rfl))) (by omega) ?_
                      refine e_Ok.run (t' := (231, [(7, (0, z130)), (6, (0, 900 * a + z129)), (0, (1, 275)), (2, (0, x)), (3, (0, y)), (4, (0, y4)), (5, (0, 1))], [(0, 900 * a + z129), (1, 331)], w140)) 1 rfl ?_
                      refine e_Ok.ald (z := w 331 (900 * a + z129)) rfl rfl rfl (by omega) (by rw [← hw140]; exact (e_up_ne _ _ (Or.inl (by omega))).trans ((j6 331 (900 * a + z129) (by unfold mLv; omega)).trans rfl)) (by omega) ?_
                      refine e_Ok.run (t' := (11, [(4, (0, w 331 (900 * a + z129))), (7, (0, z130)), (6, (0, 900 * a + z129)), (0, (1, 275)), (2, (0, x)), (3, (0, y)), (5, (0, 1))], [], w140)) 2 rfl ?_
                      refine e_Ok.sub eAlk (e_sub_of rfl ?_) (ih5 (w 331 (900 * a + z129)) w140 g1 ⟨f141, hT142, (runOk.to (w' := w140) (r' := w 331 (900 * a + z129)) hru1 (fun c k q1 q2 => (by rw [← hw140]; exact (e_up_ne _ _ (Or.inl (by omega))).trans rfl)) (fun i q1 q2 => ⟨(by rw [← hw140]; exact (e_up_ne _ _ (Or.inr (by omega))).trans rfl), (by rw [← hw140]; exact (e_up_ne _ _ (Or.inr (by omega))).trans rfl)⟩) (by rw [← hw140]; exact (e_up_ne _ _ (Or.inr (by omega))).trans rfl) (by have q : w140 276 (1260 * t + 429) = bs g1 + pi y4 := (by rw [← hw140]; exact e_up_eq _ _ _ _); omega) (fun k q1 q2 => (by rw [← hw140]; exact (e_up_ne _ _ (Or.inr (by omega))).trans rfl)) (by omega) (by omega) (by omega) (fun q q1 q2 q3 => by have := han2 z130 q (by omega) (by omega) q1; rwa [show 3 * z129 + z130 = y4 by omega] at this)), (Eq.trans (by rw [← hw140]; exact (e_up_ne _ _ (Or.inl (by omega))).trans rfl) j9), (Eq.trans (by rw [← hw140]; exact (e_up_ne _ _ (Or.inl (by omega))).trans rfl) j10), (Eq.trans (by rw [← hw140]; exact (e_up_ne _ _ (Or.inr (by omega))).trans rfl) j11), ⟨by omega, fun _ => by omega⟩, (fun e3 => by have q := hC.2.2.2.2.2.1 y4 y (j13 e3).2 (by omega) (by omega); rw [show y4 / 3 = z129 by omega] at q; exact ⟨(j13 e3).1, q.elim (fun q => by exfalso; omega) (fun q => q.2.2)⟩), by omega⟩ (by omega))
                      exact ⟨rfl, rfl, rfl, rfl, rfl, trivial⟩
                    · replace h139 : (z130 : Int) = 2 := by have q : ¬ ((z130 : Int) ≠ 2) := h139; omega
                      exfalso; omega
                  · replace h138 : (w 333 (900 * a + z129) : Int) ≥ 0 := by have q : ¬ ((w 333 (900 * a + z129) : Int) < 0) := h138; omega
                    have hf1 := hfin.resolve_left (by omega)
                    have hf2 := (hall.2.2.1 (by omega)).resolve_left (by omega)
                    have hp2 := hC.2.2.2.1.2.1 (3 * z129 + 2) (by omega) (by omega)
                    refine e_Ok.run (t' := (179, [(7, (0, z130)), (6, (0, 900 * a + z129)), (0, (1, 275)), (2, (0, x)), (3, (0, y)), (4, (0, y4)), (5, (0, 1))], [(0, y), (0, x), (1, 275)], v1)) 3 rfl ?_
                    refine e_Ok.callV rfl (by omega) rfl rfl rfl rfl (c_370 j7 (by omega) ((j6 275 97 (by unfold mLv; omega)).trans h97) (m := bs g1 + pi y4) (m1 := bs g1 + pi y4 + 1) (z := 1260 * t + 2 * bs g1 + 2 * pi y4 + 476) (z1 := 1260 * t + 2 * bs g1 + 2 * pi y4 + 477) hPn1 (by omega) (by omega) (by omega) (by omega)) (fun r143 w144 h145 => ?_)
                    obtain ⟨rfl, hw144⟩ := h145
                    generalize hw146 : e_up v1 276 (1260 * t + 2 * bs g1 + 2 * pi y4 + 476) x = w146 at hw144
                    have f147 : e_fr (mLv t) w w146 := e_fr.up j6 hw146 (by unfold mLv; omega)
                    have hT148 : e_Has mTy w146 := e_Has.upr j7 hw146 (nR_PEg t (by omega) (by omega)) (by omega)
                    generalize hw149 : e_up w146 276 (1260 * t + 2 * bs g1 + 2 * pi y4 + 477) y = w149 at hw144
                    have f150 : e_fr (mLv t) w w149 := e_fr.up f147 hw149 (by unfold mLv; omega)
                    have hT151 : e_Has mTy w149 := e_Has.upr hT148 hw149 (nR_PEg t (by omega) (by omega)) (by omega)
                    have f152 : e_fr (mLv t) w w144 := e_fr.up f150 hw144 (by unfold mLv; omega)
                    have hT153 : e_Has mTy w144 := e_Has.upr hT151 hw144 (nR_PENDS (t := t) (by omega)) (by omega)
                    show e_Ok 1 elay ecode eI (d + 1) 371 (182, [(7, (0, z130)), (6, (0, 900 * a + z129)), (0, (1, 275)), (2, (0, x)), (3, (0, y)), (4, (0, y4)), (5, (0, 1))], [], w144) _
                    refine e_Ok.run (t' := (184, [(7, (0, z130)), (6, (0, 900 * a + z129)), (0, (1, 275)), (2, (0, x)), (3, (0, y)), (4, (0, y4)), (5, (0, 1))], [(1, 275), (1, 275)], w144)) 2 rfl ?_
                    refine e_Ok.getr (z := 333) rfl rfl rfl rfl (by rw [← hw144]; exact (e_up_ne _ _ (Or.inl (by omega))).trans (by rw [← hw149]; exact (e_up_ne _ _ (Or.inl (by omega))).trans (by rw [← hw146]; exact (e_up_ne _ _ (Or.inl (by omega))).trans ((j6 275 70 (by unfold mLv; omega)).trans (e_Has.eq hT rfl))))) (by omega) ?_
                    refine e_Ok.run (t' := (189, [(7, (0, z130)), (6, (0, 900 * a + z129)), (0, (1, 275)), (2, (0, x)), (3, (0, y)), (4, (0, y4)), (5, (0, 1))], [(0, 900 * a + z129), (1, 333), (1, 275)], w144)) 1 rfl ?_
                    refine e_Ok.ald (z := w 333 (900 * a + z129)) rfl rfl rfl (by omega) (by rw [← hw144]; exact (e_up_ne _ _ (Or.inl (by omega))).trans (by rw [← hw149]; exact (e_up_ne _ _ (Or.inl (by omega))).trans (by rw [← hw146]; exact (e_up_ne _ _ (Or.inl (by omega))).trans ((j6 333 (900 * a + z129) (by unfold mLv; omega)).trans rfl)))) (by omega) ?_
                    refine e_Ok.callV rfl (by omega) rfl rfl rfl rfl (c_365 (by omega) hT153 (by omega) (by rw [← hw144]; exact (e_up_ne _ _ (Or.inl (by omega))).trans (by rw [← hw149]; exact (e_up_ne _ _ (Or.inl (by omega))).trans (by rw [← hw146]; exact (e_up_ne _ _ (Or.inl (by omega))).trans ((j6 275 97 (by unfold mLv; omega)).trans h97)))) (f := g1 + 1) (z := 1260 * t + 2 * g1 + 436) (by rw [← hw144]; exact (e_up_ne _ _ (Or.inr (by omega))).trans (by rw [← hw149]; exact (e_up_ne _ _ (Or.inr (by omega))).trans (by rw [← hw146]; exact (e_up_ne _ _ (Or.inr (by omega))).trans hF1))) (by omega) (by omega)) (fun r154 w155 h156 => ?_)
                    obtain ⟨rfl, hw155⟩ := h156
                    have f157 : e_fr (mLv t) w w155 := e_fr.up f152 hw155 (by unfold mLv; omega)
                    have hT158 : e_Has mTy w155 := e_Has.upr hT153 hw155 (nR_FRg t (g1) (by omega) (by omega) (by omega)) (by omega)
                    show e_Ok 1 elay ecode eI (d + 1) 371 (193, [(7, (0, z130)), (6, (0, 900 * a + z129)), (0, (1, 275)), (2, (0, x)), (3, (0, y)), (4, (0, y4)), (5, (0, 1))], [], w155) _
                    refine e_Ok.run (t' := (11, [(5, (0, 0)), (7, (0, z130)), (6, (0, 900 * a + z129)), (0, (1, 275)), (2, (0, x)), (3, (0, y)), (4, (0, y4))], [], w155)) 4 rfl ?_
                    refine e_Ok.run (t' := (13, [(5, (0, 0)), (7, (0, z130)), (6, (0, 900 * a + z129)), (0, (1, 275)), (2, (0, x)), (3, (0, y)), (4, (0, y4))], [(0, 0)], w155)) 1 rfl ?_
                    refine e_Ok.if1 rfl (fun h159 => ?_) (fun h159 => ?_)
                    · replace h159 : (0 : Int) = 0 := h159
                      refine e_Ok.rets rfl rfl ?_
                      have e160 : w155 276 5 = v1 276 5 := (by rw [← hw155]; exact (e_up_ne _ _ (Or.inr (by omega))).trans (by rw [← hw144]; exact (e_up_ne _ _ (Or.inr (by omega))).trans (by rw [← hw149]; exact (e_up_ne _ _ (Or.inr (by omega))).trans (by rw [← hw146]; exact (e_up_ne _ _ (Or.inr (by omega))).trans rfl))))
                      have hru := runOk.fin (w' := w155) (z := z129) (i := z130) (x := x) (y := y) hC1 hru1 (by omega) (by omega) (by omega) (fun c k q1 q2 => (by rw [← hw155]; exact (e_up_ne _ _ (Or.inl (by omega))).trans (by rw [← hw144]; exact (e_up_ne _ _ (Or.inl (by omega))).trans (by rw [← hw149]; exact (e_up_ne _ _ (Or.inl (by omega))).trans (by rw [← hw146]; exact (e_up_ne _ _ (Or.inl (by omega))).trans rfl))))) (fun i q1 q2 => ⟨(by rw [← hw155]; exact (e_up_ne _ _ (Or.inr (by omega))).trans (by rw [← hw144]; exact (e_up_ne _ _ (Or.inr (by omega))).trans (by rw [← hw149]; exact (e_up_ne _ _ (Or.inr (by omega))).trans (by rw [← hw146]; exact (e_up_ne _ _ (Or.inr (by omega))).trans rfl)))), (by rw [← hw155]; exact (e_up_ne _ _ (Or.inr (by omega))).trans (by rw [← hw144]; exact (e_up_ne _ _ (Or.inr (by omega))).trans (by rw [← hw149]; exact (e_up_ne _ _ (Or.inr (by omega))).trans (by rw [← hw146]; exact (e_up_ne _ _ (Or.inr (by omega))).trans rfl))))⟩) (by rw [← hw155]; exact (e_up_ne _ _ (Or.inr (by omega))).trans (by rw [← hw144]; exact (e_up_ne _ _ (Or.inr (by omega))).trans (by rw [← hw149]; exact (e_up_ne _ _ (Or.inr (by omega))).trans (by rw [← hw146]; exact (e_up_ne _ _ (Or.inr (by omega))).trans rfl)))) (by rw [← hw155]; exact (e_up_ne _ _ (Or.inr (by omega))).trans (by rw [← hw144]; exact e_up_eq _ _ _ _)) (fun k q1 q2 => (by rw [← hw155]; exact (e_up_ne _ _ (Or.inr (by omega))).trans (by rw [← hw144]; exact (e_up_ne _ _ (Or.inr (by omega))).trans (by rw [← hw149]; exact (e_up_ne _ _ (Or.inr (by omega))).trans (by rw [← hw146]; exact (e_up_ne _ _ (Or.inr (by omega))).trans rfl))))) (by rw [show 1260 * t + 2 * (bs g1 + pi y4) + 476 = 1260 * t + 2 * bs g1 + 2 * pi y4 + 476 by omega]; exact (by rw [← hw155]; exact (e_up_ne _ _ (Or.inr (by omega))).trans (by rw [← hw144]; exact (e_up_ne _ _ (Or.inr (by omega))).trans (by rw [← hw149]; exact (e_up_ne _ _ (Or.inr (by omega))).trans (by rw [← hw146]; exact e_up_eq _ _ _ _))))) (by rw [show 1260 * t + 2 * (bs g1 + pi y4) + 477 = 1260 * t + 2 * bs g1 + 2 * pi y4 + 477 by omega]; exact (by rw [← hw155]; exact (e_up_ne _ _ (Or.inr (by omega))).trans (by rw [← hw144]; exact (e_up_ne _ _ (Or.inr (by omega))).trans (by rw [← hw149]; exact e_up_eq _ _ _ _)))) (fun e3 => by have q := hC.2.2.2.2.2.1 y4 y (j13 e3).2 (by omega) (by omega); rw [show y4 / 3 = z129 by omega] at q; have q0 := hy3 e3; refine ⟨q0.1, q0.2.1, ?_⟩; rw [j6 331 _ (by unfold mLv; omega), j6 334 _ (by unfold mLv; omega), j6 336 _ (by unfold mLv; omega)]; exact q.elim (fun q => by exfalso; omega) (fun q => ⟨q.2.2, q.2.1⟩))
                      exact ⟨rfl, f157, hT158, by omega, (by rw [← hw155]; exact (e_up_ne _ _ (Or.inl (by omega))).trans (by rw [← hw144]; exact (e_up_ne _ _ (Or.inl (by omega))).trans (by rw [← hw149]; exact (e_up_ne _ _ (Or.inl (by omega))).trans (by rw [← hw146]; exact (e_up_ne _ _ (Or.inl (by omega))).trans j9)))), Or.inr ⟨(Eq.trans (by rw [← hw155]; exact (e_up_ne _ _ (Or.inl (by omega))).trans (by rw [← hw144]; exact (e_up_ne _ _ (Or.inl (by omega))).trans (by rw [← hw149]; exact (e_up_ne _ _ (Or.inl (by omega))).trans (by rw [← hw146]; exact (e_up_ne _ _ (Or.inl (by omega))).trans rfl)))) j10), g1, w 333 (900 * a + z129), bs, _, by omega, fun e => by omega, runOk.at hru (by omega) (by rw [← hw155]; exact e_up_eq _ _ _ _) ((show w155 330 (10000 * a + (w 333 (900 * a + z129))) = v1 330 (10000 * a + (w 333 (900 * a + z129))) from (by rw [← hw155]; exact (e_up_ne _ _ (Or.inl (by omega))).trans (by rw [← hw144]; exact (e_up_ne _ _ (Or.inl (by omega))).trans (by rw [← hw149]; exact (e_up_ne _ _ (Or.inl (by omega))).trans (by rw [← hw146]; exact (e_up_ne _ _ (Or.inl (by omega))).trans rfl))))).trans ((j6 330 (10000 * a + (w 333 (900 * a + z129))) (by unfold mLv; omega)).trans (by omega))), by omega, by omega⟩⟩
                    · replace h159 : (0 : Int) ≠ 0 := by have q : ¬ ((0 : Int) = 0) := h159; omega
                      exfalso; omega
              · replace h131 : (z130 : Int) = 0 := by have q : ¬ ((z130 : Int) ≠ 0) := h131; omega
                refine e_Ok.run (t' := (118, [(7, (0, z130)), (6, (0, 900 * a + z129)), (0, (1, 275)), (2, (0, x)), (3, (0, y)), (4, (0, y4)), (5, (0, 1))], [(0, 1), (0, x)], v1)) 2 rfl ?_
                refine e_Ok.if2 rfl (fun h161 => ?_) (fun h161 => ?_)
                · replace h161 : (x : Int) ≠ 1 := h161
                  refine e_Ok.run (t' := (163, [(7, (0, z130)), (6, (0, 900 * a + z129)), (0, (1, 275)), (2, (0, x)), (3, (0, y)), (4, (0, y4)), (5, (0, 1))], [(0, 2), (0, z130)], v1)) 2 rfl ?_
                  refine e_Ok.if2 rfl (fun h162 => ?_) (fun h162 => ?_)
                  · replace h162 : (z130 : Int) ≥ 2 := h162
                    exfalso; omega
                  · replace h162 : (z130 : Int) < 2 := by have q : ¬ ((z130 : Int) ≥ 2) := h162; omega
                    refine e_Ok.run (t' := (167, [(7, (0, z130)), (6, (0, 900 * a + z129)), (0, (1, 275)), (2, (0, x)), (3, (0, y)), (4, (0, y4)), (5, (0, 1))], [(1, 275)], v1)) 1 rfl ?_
                    refine e_Ok.getr (z := 333) rfl rfl rfl rfl ((j6 275 70 (by unfold mLv; omega)).trans (e_Has.eq hT rfl)) (by omega) ?_
                    refine e_Ok.run (t' := (172, [(7, (0, z130)), (6, (0, 900 * a + z129)), (0, (1, 275)), (2, (0, x)), (3, (0, y)), (4, (0, y4)), (5, (0, 1))], [(0, 900 * a + z129), (1, 333)], v1)) 1 rfl ?_
                    have h163 := (e_Has.get hT (c := 333) (k := 900 * a + z129) (lo := (-2147483648)) (hi := 2147483647) rfl (by decide))
                    refine e_Ok.ald (z := w 333 (900 * a + z129)) rfl rfl rfl (by omega) ((j6 333 (900 * a + z129) (by unfold mLv; omega)).trans rfl) (by omega) ?_
                    refine e_Ok.if1 rfl (fun h164 => ?_) (fun h164 => ?_)
                    · replace h164 : (w 333 (900 * a + z129) : Int) < 0 := h164
                      refine e_Ok.run (t' := (200, [(7, (0, z130)), (6, (0, 900 * a + z129)), (0, (1, 275)), (2, (0, x)), (3, (0, y)), (4, (0, y4)), (5, (0, 1))], [(1, 275)], v1)) 1 rfl ?_
                      refine e_Ok.getr (z := 276) rfl rfl rfl rfl ((j6 275 0 (by unfold mLv; omega)).trans (e_Has.eq hT rfl)) (by omega) ?_
                      refine e_Ok.run (t' := (204, [(7, (0, z130)), (6, (0, 900 * a + z129)), (0, (1, 275)), (2, (0, x)), (3, (0, y)), (4, (0, y4)), (5, (0, 1))], [(1, 275), (1, 276)], v1)) 1 rfl ?_
                      refine e_Ok.getf (z := 1260 * t + 416) rfl rfl rfl rfl ((j6 275 97 (by unfold mLv; omega)).trans h97) (by omega) ?_
                      refine e_Ok.run (t' := (209, [(7, (0, z130)), (6, (0, 900 * a + z129)), (0, (1, 275)), (2, (0, x)), (3, (0, y)), (4, (0, y4)), (5, (0, 1))], [(0, 13), (0, 1260 * t + 416), (1, 276)], v1)) 1 rfl ?_
                      refine e_Ok.add (z := 1260 * t + 429) rfl (by omega) (by omega) ?_
                      refine e_Ok.run (t' := (211, [(7, (0, z130)), (6, (0, 900 * a + z129)), (0, (1, 275)), (2, (0, x)), (3, (0, y)), (4, (0, y4)), (5, (0, 1))], [(0, 1260 * t + 429), (1, 276), (0, 1260 * t + 429), (1, 276)], v1)) 1 rfl ?_
                      refine e_Ok.ald (z := bs g1 + pi y4) rfl rfl rfl (by omega) hPn1 (by omega) ?_
                      refine e_Ok.run (t' := (215, [(7, (0, z130)), (6, (0, 900 * a + z129)), (0, (1, 275)), (2, (0, x)), (3, (0, y)), (4, (0, y4)), (5, (0, 1))], [(0, 2), (0, z130), (0, bs g1 + pi y4), (0, 1260 * t + 429), (1, 276)], v1)) 2 rfl ?_
                      refine e_Ok.if2 rfl (fun h165 => ?_) (fun h165 => ?_)
                      · replace h165 : (z130 : Int) ≠ 2 := h165
                        refine e_Ok.run (t' := (223, [(7, (0, z130)), (6, (0, 900 * a + z129)), (0, (1, 275)), (2, (0, x)), (3, (0, y)), (4, (0, y4)), (5, (0, 1))], [(0, 0), (0, bs g1 + pi y4), (0, 1260 * t + 429), (1, 276)], v1)) 1 rfl ?_
                        refine e_Ok.sub' (z := bs g1 + pi y4) rfl (by omega) (by omega) ?_
                        refine e_Ok.ast rfl rfl rfl rfl (by omega) ?_
                        generalize hw166 : e_up v1 276 (1260 * t + 429) (bs g1 + pi y4) = w166
                        have f167 : e_fr (mLv t) w w166 := e_fr.up j6 hw166 (by unfold mLv; omega)
                        have hT168 : e_Has mTy w166 := e_Has.upr j7 hw166 (nR_PENDS (t := t) (by omega)) (by omega)
                        refine e_Ok.run (t' := (226, [(7, (0, z130)), (6, (0, 900 * a + z129)), (0, (1, 275)), (2, (0, x)), (3, (0, y)), (4, (0, y4)), (5, (0, 1))], [(1, 275)], w166)) 1 rfl ?_
                        refine e_Ok.getr (z := 331) rfl rfl rfl rfl (by rw [← hw166]; exact (e_up_ne _ _ (Or.inl (by omega))).trans ((j6 275 68 (by unfold mLv; omega)).trans (e_Has.eq hT rfl))) (by omega) ?_
                        refine e_Ok.run (t' := (231, [(7, (0, z130)), (6, (0, 900 * a + z129)), (0, (1, 275)), (2, (0, x)), (3, (0, y)), (4, (0, y4)), (5, (0, 1))], [(0, 900 * a + z129), (1, 331)], w166)) 1 rfl ?_
                        refine e_Ok.ald (z := w 331 (900 * a + z129)) rfl rfl rfl (by omega) (by rw [← hw166]; exact (e_up_ne _ _ (Or.inl (by omega))).trans ((j6 331 (900 * a + z129) (by unfold mLv; omega)).trans rfl)) (by omega) ?_
                        refine e_Ok.run (t' := (11, [(4, (0, w 331 (900 * a + z129))), (7, (0, z130)), (6, (0, 900 * a + z129)), (0, (1, 275)), (2, (0, x)), (3, (0, y)), (5, (0, 1))], [], w166)) 2 rfl ?_
                        refine e_Ok.sub eAlk (e_sub_of rfl ?_) (ih5 (w 331 (900 * a + z129)) w166 g1 ⟨f167, hT168, (runOk.to (w' := w166) (r' := w 331 (900 * a + z129)) hru1 (fun c k q1 q2 => (by rw [← hw166]; exact (e_up_ne _ _ (Or.inl (by omega))).trans rfl)) (fun i q1 q2 => ⟨(by rw [← hw166]; exact (e_up_ne _ _ (Or.inr (by omega))).trans rfl), (by rw [← hw166]; exact (e_up_ne _ _ (Or.inr (by omega))).trans rfl)⟩) (by rw [← hw166]; exact (e_up_ne _ _ (Or.inr (by omega))).trans rfl) (by have q : w166 276 (1260 * t + 429) = bs g1 + pi y4 := (by rw [← hw166]; exact e_up_eq _ _ _ _); omega) (fun k q1 q2 => (by rw [← hw166]; exact (e_up_ne _ _ (Or.inr (by omega))).trans rfl)) (by omega) (by omega) (by omega) (fun q q1 q2 q3 => by have := han2 z130 q (by omega) (by omega) q1; rwa [show 3 * z129 + z130 = y4 by omega] at this)), (Eq.trans (by rw [← hw166]; exact (e_up_ne _ _ (Or.inl (by omega))).trans rfl) j9), (Eq.trans (by rw [← hw166]; exact (e_up_ne _ _ (Or.inl (by omega))).trans rfl) j10), (Eq.trans (by rw [← hw166]; exact (e_up_ne _ _ (Or.inr (by omega))).trans rfl) j11), ⟨by omega, fun _ => by omega⟩, (fun e3 => by have q := hC.2.2.2.2.2.1 y4 y (j13 e3).2 (by omega) (by omega); rw [show y4 / 3 = z129 by omega] at q; exact ⟨(j13 e3).1, q.elim (fun q => by exfalso; omega) (fun q => q.2.2)⟩), by omega⟩ (by omega))
                        exact ⟨rfl, rfl, rfl, rfl, rfl, trivial⟩
                      · replace h165 : (z130 : Int) = 2 := by have q : ¬ ((z130 : Int) ≠ 2) := h165; omega
                        exfalso; omega
                    · replace h164 : (w 333 (900 * a + z129) : Int) ≥ 0 := by have q : ¬ ((w 333 (900 * a + z129) : Int) < 0) := h164; omega
                      have hf1 := hfin.resolve_left (by omega)
                      have hf2 := (hall.2.2.1 (by omega)).resolve_left (by omega)
                      have hp2 := hC.2.2.2.1.2.1 (3 * z129 + 2) (by omega) (by omega)
                      refine e_Ok.run (t' := (179, [(7, (0, z130)), (6, (0, 900 * a + z129)), (0, (1, 275)), (2, (0, x)), (3, (0, y)), (4, (0, y4)), (5, (0, 1))], [(0, y), (0, x), (1, 275)], v1)) 3 rfl ?_
                      refine e_Ok.callV rfl (by omega) rfl rfl rfl rfl (c_370 j7 (by omega) ((j6 275 97 (by unfold mLv; omega)).trans h97) (m := bs g1 + pi y4) (m1 := bs g1 + pi y4 + 1) (z := 1260 * t + 2 * bs g1 + 2 * pi y4 + 476) (z1 := 1260 * t + 2 * bs g1 + 2 * pi y4 + 477) hPn1 (by omega) (by omega) (by omega) (by omega)) (fun r169 w170 h171 => ?_)
                      obtain ⟨rfl, hw170⟩ := h171
                      generalize hw172 : e_up v1 276 (1260 * t + 2 * bs g1 + 2 * pi y4 + 476) x = w172 at hw170
                      have f173 : e_fr (mLv t) w w172 := e_fr.up j6 hw172 (by unfold mLv; omega)
                      have hT174 : e_Has mTy w172 := e_Has.upr j7 hw172 (nR_PEg t (by omega) (by omega)) (by omega)
                      generalize hw175 : e_up w172 276 (1260 * t + 2 * bs g1 + 2 * pi y4 + 477) y = w175 at hw170
                      have f176 : e_fr (mLv t) w w175 := e_fr.up f173 hw175 (by unfold mLv; omega)
                      have hT177 : e_Has mTy w175 := e_Has.upr hT174 hw175 (nR_PEg t (by omega) (by omega)) (by omega)
                      have f178 : e_fr (mLv t) w w170 := e_fr.up f176 hw170 (by unfold mLv; omega)
                      have hT179 : e_Has mTy w170 := e_Has.upr hT177 hw170 (nR_PENDS (t := t) (by omega)) (by omega)
                      show e_Ok 1 elay ecode eI (d + 1) 371 (182, [(7, (0, z130)), (6, (0, 900 * a + z129)), (0, (1, 275)), (2, (0, x)), (3, (0, y)), (4, (0, y4)), (5, (0, 1))], [], w170) _
                      refine e_Ok.run (t' := (184, [(7, (0, z130)), (6, (0, 900 * a + z129)), (0, (1, 275)), (2, (0, x)), (3, (0, y)), (4, (0, y4)), (5, (0, 1))], [(1, 275), (1, 275)], w170)) 2 rfl ?_
                      refine e_Ok.getr (z := 333) rfl rfl rfl rfl (by rw [← hw170]; exact (e_up_ne _ _ (Or.inl (by omega))).trans (by rw [← hw175]; exact (e_up_ne _ _ (Or.inl (by omega))).trans (by rw [← hw172]; exact (e_up_ne _ _ (Or.inl (by omega))).trans ((j6 275 70 (by unfold mLv; omega)).trans (e_Has.eq hT rfl))))) (by omega) ?_
                      refine e_Ok.run (t' := (189, [(7, (0, z130)), (6, (0, 900 * a + z129)), (0, (1, 275)), (2, (0, x)), (3, (0, y)), (4, (0, y4)), (5, (0, 1))], [(0, 900 * a + z129), (1, 333), (1, 275)], w170)) 1 rfl ?_
                      refine e_Ok.ald (z := w 333 (900 * a + z129)) rfl rfl rfl (by omega) (by rw [← hw170]; exact (e_up_ne _ _ (Or.inl (by omega))).trans (by rw [← hw175]; exact (e_up_ne _ _ (Or.inl (by omega))).trans (by rw [← hw172]; exact (e_up_ne _ _ (Or.inl (by omega))).trans ((j6 333 (900 * a + z129) (by unfold mLv; omega)).trans rfl)))) (by omega) ?_
                      refine e_Ok.callV rfl (by omega) rfl rfl rfl rfl (c_365 (by omega) hT179 (by omega) (by rw [← hw170]; exact (e_up_ne _ _ (Or.inl (by omega))).trans (by rw [← hw175]; exact (e_up_ne _ _ (Or.inl (by omega))).trans (by rw [← hw172]; exact (e_up_ne _ _ (Or.inl (by omega))).trans ((j6 275 97 (by unfold mLv; omega)).trans h97)))) (f := g1 + 1) (z := 1260 * t + 2 * g1 + 436) (by rw [← hw170]; exact (e_up_ne _ _ (Or.inr (by omega))).trans (by rw [← hw175]; exact (e_up_ne _ _ (Or.inr (by omega))).trans (by rw [← hw172]; exact (e_up_ne _ _ (Or.inr (by omega))).trans hF1))) (by omega) (by omega)) (fun r180 w181 h182 => ?_)
                      obtain ⟨rfl, hw181⟩ := h182
                      have f183 : e_fr (mLv t) w w181 := e_fr.up f178 hw181 (by unfold mLv; omega)
                      have hT184 : e_Has mTy w181 := e_Has.upr hT179 hw181 (nR_FRg t (g1) (by omega) (by omega) (by omega)) (by omega)
                      show e_Ok 1 elay ecode eI (d + 1) 371 (193, [(7, (0, z130)), (6, (0, 900 * a + z129)), (0, (1, 275)), (2, (0, x)), (3, (0, y)), (4, (0, y4)), (5, (0, 1))], [], w181) _
                      refine e_Ok.run (t' := (11, [(5, (0, 0)), (7, (0, z130)), (6, (0, 900 * a + z129)), (0, (1, 275)), (2, (0, x)), (3, (0, y)), (4, (0, y4))], [], w181)) 4 rfl ?_
                      refine e_Ok.run (t' := (13, [(5, (0, 0)), (7, (0, z130)), (6, (0, 900 * a + z129)), (0, (1, 275)), (2, (0, x)), (3, (0, y)), (4, (0, y4))], [(0, 0)], w181)) 1 rfl ?_
                      refine e_Ok.if1 rfl (fun h185 => ?_) (fun h185 => ?_)
                      · replace h185 : (0 : Int) = 0 := h185
                        refine e_Ok.rets rfl rfl ?_
                        have e186 : w181 276 5 = v1 276 5 := (by rw [← hw181]; exact (e_up_ne _ _ (Or.inr (by omega))).trans (by rw [← hw170]; exact (e_up_ne _ _ (Or.inr (by omega))).trans (by rw [← hw175]; exact (e_up_ne _ _ (Or.inr (by omega))).trans (by rw [← hw172]; exact (e_up_ne _ _ (Or.inr (by omega))).trans rfl))))
                        have hru := runOk.fin (w' := w181) (z := z129) (i := z130) (x := x) (y := y) hC1 hru1 (by omega) (by omega) (by omega) (fun c k q1 q2 => (by rw [← hw181]; exact (e_up_ne _ _ (Or.inl (by omega))).trans (by rw [← hw170]; exact (e_up_ne _ _ (Or.inl (by omega))).trans (by rw [← hw175]; exact (e_up_ne _ _ (Or.inl (by omega))).trans (by rw [← hw172]; exact (e_up_ne _ _ (Or.inl (by omega))).trans rfl))))) (fun i q1 q2 => ⟨(by rw [← hw181]; exact (e_up_ne _ _ (Or.inr (by omega))).trans (by rw [← hw170]; exact (e_up_ne _ _ (Or.inr (by omega))).trans (by rw [← hw175]; exact (e_up_ne _ _ (Or.inr (by omega))).trans (by rw [← hw172]; exact (e_up_ne _ _ (Or.inr (by omega))).trans rfl)))), (by rw [← hw181]; exact (e_up_ne _ _ (Or.inr (by omega))).trans (by rw [← hw170]; exact (e_up_ne _ _ (Or.inr (by omega))).trans (by rw [← hw175]; exact (e_up_ne _ _ (Or.inr (by omega))).trans (by rw [← hw172]; exact (e_up_ne _ _ (Or.inr (by omega))).trans rfl))))⟩) (by rw [← hw181]; exact (e_up_ne _ _ (Or.inr (by omega))).trans (by rw [← hw170]; exact (e_up_ne _ _ (Or.inr (by omega))).trans (by rw [← hw175]; exact (e_up_ne _ _ (Or.inr (by omega))).trans (by rw [← hw172]; exact (e_up_ne _ _ (Or.inr (by omega))).trans rfl)))) (by rw [← hw181]; exact (e_up_ne _ _ (Or.inr (by omega))).trans (by rw [← hw170]; exact e_up_eq _ _ _ _)) (fun k q1 q2 => (by rw [← hw181]; exact (e_up_ne _ _ (Or.inr (by omega))).trans (by rw [← hw170]; exact (e_up_ne _ _ (Or.inr (by omega))).trans (by rw [← hw175]; exact (e_up_ne _ _ (Or.inr (by omega))).trans (by rw [← hw172]; exact (e_up_ne _ _ (Or.inr (by omega))).trans rfl))))) (by rw [show 1260 * t + 2 * (bs g1 + pi y4) + 476 = 1260 * t + 2 * bs g1 + 2 * pi y4 + 476 by omega]; exact (by rw [← hw181]; exact (e_up_ne _ _ (Or.inr (by omega))).trans (by rw [← hw170]; exact (e_up_ne _ _ (Or.inr (by omega))).trans (by rw [← hw175]; exact (e_up_ne _ _ (Or.inr (by omega))).trans (by rw [← hw172]; exact e_up_eq _ _ _ _))))) (by rw [show 1260 * t + 2 * (bs g1 + pi y4) + 477 = 1260 * t + 2 * bs g1 + 2 * pi y4 + 477 by omega]; exact (by rw [← hw181]; exact (e_up_ne _ _ (Or.inr (by omega))).trans (by rw [← hw170]; exact (e_up_ne _ _ (Or.inr (by omega))).trans (by rw [← hw175]; exact e_up_eq _ _ _ _)))) (fun e3 => by have q := hC.2.2.2.2.2.1 y4 y (j13 e3).2 (by omega) (by omega); rw [show y4 / 3 = z129 by omega] at q; have q0 := hy3 e3; refine ⟨q0.1, q0.2.1, ?_⟩; rw [j6 331 _ (by unfold mLv; omega), j6 334 _ (by unfold mLv; omega), j6 336 _ (by unfold mLv; omega)]; exact q.elim (fun q => by exfalso; omega) (fun q => ⟨q.2.2, q.2.1⟩))
                        exact ⟨rfl, f183, hT184, by omega, (by rw [← hw181]; exact (e_up_ne _ _ (Or.inl (by omega))).trans (by rw [← hw170]; exact (e_up_ne _ _ (Or.inl (by omega))).trans (by rw [← hw175]; exact (e_up_ne _ _ (Or.inl (by omega))).trans (by rw [← hw172]; exact (e_up_ne _ _ (Or.inl (by omega))).trans j9)))), Or.inr ⟨(Eq.trans (by rw [← hw181]; exact (e_up_ne _ _ (Or.inl (by omega))).trans (by rw [← hw170]; exact (e_up_ne _ _ (Or.inl (by omega))).trans (by rw [← hw175]; exact (e_up_ne _ _ (Or.inl (by omega))).trans (by rw [← hw172]; exact (e_up_ne _ _ (Or.inl (by omega))).trans rfl)))) j10), g1, w 333 (900 * a + z129), bs, _, by omega, fun e => by omega, runOk.at hru (by omega) (by rw [← hw181]; exact e_up_eq _ _ _ _) ((show w181 330 (10000 * a + (w 333 (900 * a + z129))) = v1 330 (10000 * a + (w 333 (900 * a + z129))) from (by rw [← hw181]; exact (e_up_ne _ _ (Or.inl (by omega))).trans (by rw [← hw170]; exact (e_up_ne _ _ (Or.inl (by omega))).trans (by rw [← hw175]; exact (e_up_ne _ _ (Or.inl (by omega))).trans (by rw [← hw172]; exact (e_up_ne _ _ (Or.inl (by omega))).trans rfl))))).trans ((j6 330 (10000 * a + (w 333 (900 * a + z129))) (by unfold mLv; omega)).trans (by omega))), by omega, by omega⟩⟩
                      · replace h185 : (0 : Int) ≠ 0 := by have q : ¬ ((0 : Int) = 0) := h185; omega
                        exfalso; omega
                · replace h161 : (x : Int) = 1 := by have q : ¬ ((x : Int) ≠ 1) := h161; omega
                  exfalso; omega
            · replace h128 : (y4 : Int) < 0 := by have q : ¬ ((y4 : Int) ≥ 0) := h128; omega
              refine e_Ok.run (t' := (69, [(0, (1, 275)), (2, (0, x)), (3, (0, y)), (4, (0, y4)), (5, (0, 1))], [(0, y), (0, x), (1, 275)], v1)) 3 rfl ?_
              refine e_Ok.callV rfl (by omega) rfl rfl rfl rfl (c_372 (by omega) j7 (by omega) (by omega) ((j6 275 96 (by unfold mLv; omega)).trans h96) ((j6 275 97 (by unfold mLv; omega)).trans h97) ((j6 275 98 (by unfold mLv; omega)).trans h98) hC1 (show runOk v1 a t g1 (-1) n nt nw dl sg pi an br bs ow by rw [← show y4 = -1 by omega]; exact hru1) (by omega) (by omega)) (fun r187 w188 h189 => ?_)
              obtain ⟨z190, rfl, q191, q191T, q191n, q191d, q191c⟩ := h189
              have f192 : e_fr (mLv t) w w188 := e_fr.trans j6 (e_fr.mono q191 (fun c k q => by exact q))
              obtain ⟨q191a, q191b, q191z, q191r, q191o, q191e⟩ | ⟨q191a, q191b, rfl, q191p, q191t, q191u, q191v, q191o, q191e⟩ | ⟨q191a, rfl, q191o, q191s⟩ := q191c
              · show e_Ok 1 elay ecode eI (d + 1) 371 (72, [(0, (1, 275)), (2, (0, x)), (3, (0, y)), (4, (0, y4)), (5, (0, 1))], [(0, z190)], w188) _
                have q191g := q191r.2.2.2.1
                refine e_Ok.run (t' := (77, [(4, (0, z190)), (0, (1, 275)), (2, (0, x)), (3, (0, y)), (5, (0, 1))], [(0, (-1)), (0, z190)], w188)) 3 rfl ?_
                refine e_Ok.if2 rfl (fun h193 => ?_) (fun h193 => ?_)
                · replace h193 : (z190 : Int) < (-1) := h193
                  exfalso; omega
                · replace h193 : (z190 : Int) ≥ (-1) := by have q : ¬ ((z190 : Int) < (-1)) := h193; omega
                  refine e_Ok.run (t' := (11, [(5, (0, 1)), (4, (0, z190)), (0, (1, 275)), (2, (0, x)), (3, (0, y))], [], w188)) 4 rfl ?_
                  refine e_Ok.sub eAlk (e_sub_of rfl ?_) (ih5 z190 w188 (g1 - 1) ⟨f192, q191T, q191r, (by rw [q191d]; exact j9), (by rw [q191o]; exact j10), (by rw [q191e]; exact j11), ⟨by omega, fun _ => by omega⟩, (fun e3 => by exfalso; omega), by have := q191r.2.2.2.1; omega⟩ (by omega))
                  exact ⟨rfl, rfl, rfl, rfl, rfl, trivial⟩
              · show e_Ok 1 elay ecode eI (d + 1) 371 (72, [(0, (1, 275)), (2, (0, x)), (3, (0, y)), (4, (0, y4)), (5, (0, 1))], [(0, (-2))], w188) _
                refine e_Ok.run (t' := (77, [(4, (0, (-2))), (0, (1, 275)), (2, (0, x)), (3, (0, y)), (5, (0, 1))], [(0, (-1)), (0, (-2))], w188)) 3 rfl ?_
                refine e_Ok.if2 rfl (fun h194 => ?_) (fun h194 => ?_)
                · replace h194 : ((-2) : Int) < (-1) := h194
                  refine e_Ok.run (t' := (11, [(5, (0, 0)), (4, (0, (-2))), (0, (1, 275)), (2, (0, x)), (3, (0, y))], [], w188)) 3 rfl ?_
                  refine e_Ok.run (t' := (13, [(5, (0, 0)), (4, (0, (-2))), (0, (1, 275)), (2, (0, x)), (3, (0, y))], [(0, 0)], w188)) 1 rfl ?_
                  refine e_Ok.if1 rfl (fun h195 => ?_) (fun h195 => ?_)
                  · replace h195 : (0 : Int) = 0 := h195
                    refine e_Ok.rets rfl rfl ?_
                    have e196 : w188 276 5 = w188 276 5 := rfl
                    exact ⟨rfl, f192, q191T, by omega, (Eq.trans q191d j9), Or.inr ⟨(by rw [q191o]; exact j10), g1 - 1, q191p, bs, ow, by omega, by omega, q191t, q191u, q191v⟩⟩
                  · replace h195 : (0 : Int) ≠ 0 := by have q : ¬ ((0 : Int) = 0) := h195; omega
                    exfalso; omega
                · replace h194 : ((-2) : Int) ≥ (-1) := by have q : ¬ (((-2) : Int) < (-1)) := h194; omega
                  exfalso; omega
              · show e_Ok 1 elay ecode eI (d + 1) 371 (72, [(0, (1, 275)), (2, (0, x)), (3, (0, y)), (4, (0, y4)), (5, (0, 1))], [(0, (-2))], w188) _
                refine e_Ok.run (t' := (77, [(4, (0, (-2))), (0, (1, 275)), (2, (0, x)), (3, (0, y)), (5, (0, 1))], [(0, (-1)), (0, (-2))], w188)) 3 rfl ?_
                refine e_Ok.if2 rfl (fun h197 => ?_) (fun h197 => ?_)
                · replace h197 : ((-2) : Int) < (-1) := h197
                  refine e_Ok.run (t' := (11, [(5, (0, 0)), (4, (0, (-2))), (0, (1, 275)), (2, (0, x)), (3, (0, y))], [], w188)) 3 rfl ?_
                  refine e_Ok.run (t' := (13, [(5, (0, 0)), (4, (0, (-2))), (0, (1, 275)), (2, (0, x)), (3, (0, y))], [(0, 0)], w188)) 1 rfl ?_
                  refine e_Ok.if1 rfl (fun h198 => ?_) (fun h198 => ?_)
                  · replace h198 : (0 : Int) = 0 := h198
                    refine e_Ok.rets rfl rfl ?_
                    have e199 : w188 276 5 = w188 276 5 := rfl
                    exact ⟨rfl, f192, q191T, by omega, (Eq.trans q191d j9), Or.inl ⟨q191o, q191s⟩⟩
                  · replace h198 : (0 : Int) ≠ 0 := by have q : ¬ ((0 : Int) = 0) := h198; omega
                    exfalso; omega
                · replace h197 : ((-2) : Int) ≥ (-1) := by have q : ¬ (((-2) : Int) < (-1)) := h197; omega
                  exfalso; omega
          · replace h127 : (y4 : Int) = w 335 (900 * a + y) := by have q : ¬ ((y4 : Int) ≠ w 335 (900 * a + y)) := h127; omega
            have hwh := hC.2.2.2.2.1 y (by omega) (by omega)
            unfold tgt at hwh
            refine e_Ok.run (t' := (43, [(0, (1, 275)), (2, (0, x)), (3, (0, y)), (4, (0, y4)), (5, (0, 1))], [(1, 275), (1, 275)], v1)) 2 rfl ?_
            refine e_Ok.getr (z := 336) rfl rfl rfl rfl ((j6 275 73 (by unfold mLv; omega)).trans (e_Has.eq hT rfl)) (by omega) ?_
            refine e_Ok.run (t' := (50, [(0, (1, 275)), (2, (0, x)), (3, (0, y)), (4, (0, y4)), (5, (0, 1))], [(1, 275), (0, 900), (1, 336), (1, 275)], v1)) 2 rfl ?_
            refine e_Ok.getf (z := a) rfl rfl rfl rfl ((j6 275 98 (by unfold mLv; omega)).trans h98) (by omega) ?_
            refine e_Ok.mul (z := 900 * a) rfl (by omega) (by omega) ?_
            refine e_Ok.run (t' := (55, [(0, (1, 275)), (2, (0, x)), (3, (0, y)), (4, (0, y4)), (5, (0, 1))], [(0, y), (0, 900 * a), (1, 336), (1, 275)], v1)) 1 rfl ?_
            refine e_Ok.add (z := 900 * a + y) rfl (by omega) (by omega) ?_
            have h200 := (e_Has.get hT (c := 336) (k := 900 * a + y) (lo := (-2147483648)) (hi := 2147483647) rfl (by decide))
            refine e_Ok.ald (z := w 336 (900 * a + y)) rfl rfl rfl (by omega) ((j6 336 (900 * a + y) (by unfold mLv; omega)).trans rfl) (by omega) ?_
            refine e_Ok.callV rfl (by omega) rfl rfl rfl rfl (c_365 (by omega) j7 (by omega) ((j6 275 97 (by unfold mLv; omega)).trans h97) (f := g1 + 1) (z := 1260 * t + 2 * g1 + 436) hF1 (by omega) (by omega)) (fun r201 w202 h203 => ?_)
            obtain ⟨rfl, hw202⟩ := h203
            have f204 : e_fr (mLv t) w w202 := e_fr.up j6 hw202 (by unfold mLv; omega)
            have hT205 : e_Has mTy w202 := e_Has.upr j7 hw202 (nR_FRg t (g1) (by omega) (by omega) (by omega)) (by omega)
            show e_Ok 1 elay ecode eI (d + 1) 371 (60, [(0, (1, 275)), (2, (0, x)), (3, (0, y)), (4, (0, y4)), (5, (0, 1))], [], w202) _
            refine e_Ok.rets rfl rfl ?_
            have e206 : w202 276 5 = v1 276 5 := (by rw [← hw202]; exact (e_up_ne _ _ (Or.inr (by omega))).trans rfl)
            have hru := runOk.to (w' := w202) (r' := y4) hru1 (fun c k q1 q2 => (by rw [← hw202]; exact (e_up_ne _ _ (Or.inl (by omega))).trans rfl)) (fun i q1 q2 => ⟨(by rw [← hw202]; exact (e_up_ne _ _ (Or.inr (by omega))).trans rfl), (by rw [← hw202]; exact (e_up_ne _ _ (Or.inr (by omega))).trans rfl)⟩) (by rw [← hw202]; exact (e_up_ne _ _ (Or.inr (by omega))).trans rfl) (Eq.trans (by rw [← hw202]; exact (e_up_ne _ _ (Or.inr (by omega))).trans rfl) hPn1) (fun k q1 q2 => (by rw [← hw202]; exact (e_up_ne _ _ (Or.inr (by omega))).trans rfl)) (by omega) (by omega) (by omega) (fun q q1 q2 q3 => q1)
            exact ⟨rfl, f204, hT205, by omega, (by rw [← hw202]; exact (e_up_ne _ _ (Or.inl (by omega))).trans j9), Or.inr ⟨(Eq.trans (by rw [← hw202]; exact (e_up_ne _ _ (Or.inl (by omega))).trans rfl) j10), g1, w 336 (900 * a + y), bs, ow, by omega, fun e => by omega, runOk.at hru (by omega) (by rw [← hw202]; exact e_up_eq _ _ _ _) ((show w202 330 (10000 * a + (w 336 (900 * a + y))) = v1 330 (10000 * a + (w 336 (900 * a + y))) from (by rw [← hw202]; exact (e_up_ne _ _ (Or.inl (by omega))).trans rfl)).trans ((j6 330 (10000 * a + (w 336 (900 * a + y))) (by unfold mLv; omega)).trans (by omega))), by omega, by omega⟩⟩
  refine e_Ok.sub eAlk (e_sub_of rfl ?_) (hL4 (3000 * g + r + 1 + 1 : Int).toNat r w1 g ⟨f2, hT3, (runOk.fr (fun c k q1 q2 => (by rw [← hw1]; exact (e_up_ne _ _ (Or.inl (by omega))).trans rfl)) (fun i q1 q2 => ⟨(by rw [← hw1]; exact (e_up_ne _ _ (Or.inl (by omega))).trans rfl), (by rw [← hw1]; exact (e_up_ne _ _ (Or.inl (by omega))).trans rfl)⟩) (by rw [← hw1]; exact (e_up_ne _ _ (Or.inl (by omega))).trans rfl) (by rw [← hw1]; exact (e_up_ne _ _ (Or.inl (by omega))).trans rfl) (fun k q1 q2 => (by rw [← hw1]; exact (e_up_ne _ _ (Or.inl (by omega))).trans rfl)) (by omega) hR), (by rw [← hw1]; exact e_up_eq _ _ _ _), (by rw [← hw1]; exact (e_up_ne _ _ (Or.inr (by omega))).trans rfl), (by rw [← hw1]; exact (e_up_ne _ _ (Or.inl (by omega))).trans rfl), ⟨by omega, fun _ => by omega⟩, (fun e3 => ⟨rfl, (hy3 e3).2.2.1⟩), by omega⟩ (by omega))
  exact ⟨rfl, rfl, rfl, rfl, rfl, trivial⟩
end
