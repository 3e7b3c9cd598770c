noncomputable section
set_option maxHeartbeats 4000000 in
theorem c_371 {d : Nat} (hd : 27 ≤ d) {w : eW} (hT : e_Has mTy w) {t a g : Int} (ht : 0 ≤ t ∧ t ≤ 15) (ha : 0 ≤ a ∧ a ≤ 3) (h96 : w 275 96 = t) (h97 : w 275 97 = 1260 * t + 416) (h98 : w 275 98 = a) {n nt nw : Int} {dl sg pi en : Int → Int} {an br : Int → Int → Prop} {bs ow : Int → Int} (hC : cOk w a n nt nw dl sg pi en an br) {r p x y : Int} (hR : runOk w a t g r n nt nw dl sg pi an br bs ow) (hp : 0 ≤ p ∧ p < en r) (hE : w 276 5 ≤ 2147483000) (hx : -2147483648 ≤ x ∧ x ≤ 2147483647) (hy : -2147483648 ≤ y ∧ y ≤ 2147483647) (hy3 : x = 3 → 0 ≤ y ∧ y < nw ∧ br r y ∧ p < w 336 (900 * a + y)) : e_Ok 20 elay ecode eI d 371 (0, [(0, (1, 275)), (1, (0, r)), (2, (0, x)), (3, (0, y))], [], w) (fun r' w' => r' = [] ∧ (e_fr (mLv t) w w' ∧ sRel w w') ∧ e_Has mTy w' ∧ (w 276 5 ≤ w' 276 5 ∧ w' 276 5 ≤ w 276 5 + 2) ∧ w' 275 102 = 0 ∧ ((w' 275 100 = 1 ∧ (w' 276 (1260 * t + 416) = 6 ∨ w' 276 (1260 * t + 416) = 7)) ∨ (w' 275 100 = w 275 100 ∧ ∃ (g' p' : Int) (bs' ow' : Int → Int), g' ≤ g ∧ (g' = g → p < p') ∧ topOk w' a t g' p' n nt nw dl sg pi an br bs' ow' ∧ dl p' = 0 ∧ sg p' = 0))) := by
  obtain ⟨d, rfl⟩ : ∃ e, d = e + 1 := ⟨d - 1, by omega⟩
  have hR0 := hR.1
  have hR4 := hR.2.2.2.1
  have hC1_ := hC.1
  have hpir := hC.2.2.2.1.2.1 r (by omega) (by omega)
  refine e_Ok.run (t' := (2, [(0, (1, 275)), (1, (0, r)), (2, (0, x)), (3, (0, y))], [(0, 0), (1, 275)], w)) 2 rfl ?_
  refine e_Ok.putf rfl rfl rfl rfl ?_
  generalize hw1 : e_up w 275 102 0 = w1
  have f2 : e_fr (mLv t) w w1 := e_fr.up (e_fr.refl w) hw1 (by unfold mLv; omega)
  have hT3 : e_Has mTy w1 := e_Has.ups hT hw1 rfl
  refine e_Ok.run (t' := (11, [(5, (0, 1)), (4, (0, r)), (0, (1, 275)), (1, (0, r)), (2, (0, x)), (3, (0, y))], [], w1)) 4 rfl ?_
  have hL4 : ∀ (nn : Nat) (y4 : Int) (v1 : eW) (g1 : Int), e_fr (mLv t) w v1 ∧ e_Has mTy v1 ∧ runOk v1 a t g1 y4 n nt nw dl sg pi an br bs ow ∧ v1 275 102 = 0 ∧ v1 275 100 = w 275 100 ∧ v1 276 5 = w 276 5 ∧ (g1 ≤ g ∧ (g1 = g → p < en y4)) ∧ ((x = 3 → g1 = g ∧ br y4 y)) ∧ (0 ≤ g1 ∧ -1 ≤ y4 ∧ y4 < 3 * nt) ∧ sRel w v1 → 3000 * g1 + y4 + 1 < nn → e_Ok 20 elay ecode eI (d + 1) 371 (11, [(0, (1, 275)), (2, (0, x)), (3, (0, y)), (4, (0, y4)), (5, (0, 1))], [], v1) (fun r' w' => r' = [] ∧ (e_fr (mLv t) w w' ∧ sRel w w') ∧ e_Has mTy w' ∧ (w 276 5 ≤ w' 276 5 ∧ w' 276 5 ≤ w 276 5 + 2) ∧ w' 275 102 = 0 ∧ ((w' 275 100 = 1 ∧ (w' 276 (1260 * t + 416) = 6 ∨ w' 276 (1260 * t + 416) = 7)) ∨ (w' 275 100 = w 275 100 ∧ ∃ (g' p' : Int) (bs' ow' : Int → Int), g' ≤ g ∧ (g' = g → p < p') ∧ topOk w' a t g' p' n nt nw dl sg pi an br bs' ow' ∧ dl p' = 0 ∧ sg p' = 0))) := by
    intro nn
    induction nn with
    | zero => intro y4 v1 g1 hj hm; obtain ⟨j6, j7, j8, j9, j10, j11, j12, j13, j14, j15⟩ := hj; exfalso; omega
    | succ nn ih5 =>
      intro y4 v1 g1 hj hm
      obtain ⟨j6, j7, j8, j9, j10, j11, j12, j13, j14, j15⟩ := hj
      have hru1 := j8
      obtain ⟨hg1, hF1, hlow1, hr1, hPn1, hch1, hpe1⟩ := id j8
      have hC1 := cOk.fr (fun c k q1 q2 => j6 c k (by unfold mLv; omega)) hC
      have hbs1 := hlow1.2.1 g1 (by omega) (by omega)
      have hpy4 := hC.2.2.2.1.2.1 y4 (by omega) (by omega)
      refine e_Ok.run (t' := (13, [(0, (1, 275)), (2, (0, x)), (3, (0, y)), (4, (0, y4)), (5, (0, 1))], [(0, 1)], v1)) 1 rfl ?_
      refine e_Ok.if1 rfl (fun h16 => ?_) (fun h16 => ?_)
      · replace h16 : (1 : Int) = 0 := h16
        exfalso; omega
      · replace h16 : (1 : Int) ≠ 0 := by have q : ¬ ((1 : Int) = 0) := h16; omega
        refine e_Ok.run (t' := (18, [(0, (1, 275)), (2, (0, x)), (3, (0, y)), (4, (0, y4)), (5, (0, 1))], [(0, 3), (0, x)], v1)) 2 rfl ?_
        refine e_Ok.if2 rfl (fun h17 => ?_) (fun h17 => ?_)
        · replace h17 : (x : Int) ≠ 3 := h17
          refine e_Ok.run (t' := (63, [(0, (1, 275)), (2, (0, x)), (3, (0, y)), (4, (0, y4)), (5, (0, 1))], [(0, y4)], v1)) 1 rfl ?_
          refine e_Ok.if1 rfl (fun h18 => ?_) (fun h18 => ?_)
          · replace h18 : (y4 : Int) ≥ 0 := h18
            refine e_Ok.run (t' := (94, [(0, (1, 275)), (2, (0, x)), (3, (0, y)), (4, (0, y4)), (5, (0, 1))], [(1, 275), (0, 900)], v1)) 2 rfl ?_
            refine e_Ok.getf (z := a) rfl rfl rfl rfl ((j6 275 98 (by unfold mLv; omega)).trans h98) (by omega) ?_
            refine e_Ok.mul (z := 900 * a) rfl (by omega) (by omega) ?_
            refine e_Ok.run (t' := (101, [(0, (1, 275)), (2, (0, x)), (3, (0, y)), (4, (0, y4)), (5, (0, 1))], [(0, 3), (0, y4), (0, 900 * a)], v1)) 2 rfl ?_
            refine e_Ok.divn (fun z19 hz19 => ?_) rfl (by omega) (by omega)
            replace hz19 : z19 = y4 / 3 := hz19
            have z19r : 0 ≤ z19 ∧ z19 ≤ 899 := by omega
            refine e_Ok.add (z := 900 * a + z19) rfl (by omega) (by omega) ?_
            refine e_Ok.run (t' := (108, [(6, (0, 900 * a + z19)), (0, (1, 275)), (2, (0, x)), (3, (0, y)), (4, (0, y4)), (5, (0, 1))], [(0, 3), (0, y4)], v1)) 3 rfl ?_
            refine e_Ok.remn (fun z20 hz20 => ?_) rfl (by omega) (by omega)
            replace hz20 : z20 = y4 % 3 := hz20
            have z20r : 0 ≤ z20 ∧ z20 ≤ 2 := by omega
            refine e_Ok.run (t' := (111, [(7, (0, z20)), (6, (0, 900 * a + z19)), (0, (1, 275)), (2, (0, x)), (3, (0, y)), (4, (0, y4)), (5, (0, 1))], [], v1)) 1 rfl ?_
            obtain ⟨hti, hpi3, hcat, hfin, hend, han1, han2⟩ := id (hC.2.2.1 z19 (by omega) (by omega))
            have hall := (hC.2.2.1 z19 (by omega) (by omega)).all (y := y4) (k := z20) (by omega) (by omega)
            unfold tgt at hcat hfin hend
            have hpz := hC.2.2.2.1.2.1 (w 331 (900 * a + z19)) (by omega) (by omega)
            refine e_Ok.run (t' := (113, [(7, (0, z20)), (6, (0, 900 * a + z19)), (0, (1, 275)), (2, (0, x)), (3, (0, y)), (4, (0, y4)), (5, (0, 1))], [(0, z20)], v1)) 1 rfl ?_
            refine e_Ok.if1 rfl (fun h21 => ?_) (fun h21 => ?_)
            · replace h21 : (z20 : Int) ≠ 0 := h21
              refine e_Ok.run (t' := (163, [(7, (0, z20)), (6, (0, 900 * a + z19)), (0, (1, 275)), (2, (0, x)), (3, (0, y)), (4, (0, y4)), (5, (0, 1))], [(0, 2), (0, z20)], v1)) 2 rfl ?_
              refine e_Ok.if2 rfl (fun h22 => ?_) (fun h22 => ?_)
              · replace h22 : (z20 : Int) ≥ 2 := h22
                refine e_Ok.run (t' := (200, [(7, (0, z20)), (6, (0, 900 * a + z19)), (0, (1, 275)), (2, (0, x)), (3, (0, y)), (4, (0, y4)), (5, (0, 1))], [(1, 275)], v1)) 1 rfl ?_
                refine e_Ok.getr (z := 276) rfl rfl rfl rfl ((j6 275 0 (by unfold mLv; omega)).trans (e_Has.eq hT rfl)) (by omega) ?_
                refine e_Ok.run (t' := (204, [(7, (0, z20)), (6, (0, 900 * a + z19)), (0, (1, 275)), (2, (0, x)), (3, (0, y)), (4, (0, y4)), (5, (0, 1))], [(1, 275), (1, 276)], v1)) 1 rfl ?_
                refine e_Ok.getf (z := 1260 * t + 416) rfl rfl rfl rfl ((j6 275 97 (by unfold mLv; omega)).trans h97) (by omega) ?_
                refine e_Ok.run (t' := (209, [(7, (0, z20)), (6, (0, 900 * a + z19)), (0, (1, 275)), (2, (0, x)), (3, (0, y)), (4, (0, y4)), (5, (0, 1))], [(0, 13), (0, 1260 * t + 416), (1, 276)], v1)) 1 rfl ?_
                refine e_Ok.add (z := 1260 * t + 429) rfl (by omega) (by omega) ?_
                refine e_Ok.run (t' := (211, [(7, (0, z20)), (6, (0, 900 * a + z19)), (0, (1, 275)), (2, (0, x)), (3, (0, y)), (4, (0, y4)), (5, (0, 1))], [(0, 1260 * t + 429), (1, 276), (0, 1260 * t + 429), (1, 276)], v1)) 1 rfl ?_
                refine e_Ok.ald (z := bs g1 + pi y4) rfl rfl rfl (by omega) hPn1 (by omega) ?_
                refine e_Ok.run (t' := (215, [(7, (0, z20)), (6, (0, 900 * a + z19)), (0, (1, 275)), (2, (0, x)), (3, (0, y)), (4, (0, y4)), (5, (0, 1))], [(0, 2), (0, z20), (0, bs g1 + pi y4), (0, 1260 * t + 429), (1, 276)], v1)) 2 rfl ?_
                refine e_Ok.if2 rfl (fun h23 => ?_) (fun h23 => ?_)
                · replace h23 : (z20 : Int) ≠ 2 := h23
                  exfalso; omega
                · replace h23 : (z20 : Int) = 2 := by have q : ¬ ((z20 : Int) ≠ 2) := h23; omega
                  refine e_Ok.run (t' := (223, [(7, (0, z20)), (6, (0, 900 * a + z19)), (0, (1, 275)), (2, (0, x)), (3, (0, y)), (4, (0, y4)), (5, (0, 1))], [(0, 1), (0, bs g1 + pi y4), (0, 1260 * t + 429), (1, 276)], v1)) 2 rfl ?_
                  refine e_Ok.sub' (z := bs g1 + pi y4 - 1) rfl (by omega) (by omega) ?_
                  refine e_Ok.ast rfl rfl rfl rfl (by omega) ?_
                  generalize hw24 : e_up v1 276 (1260 * t + 429) (bs g1 + pi y4 - 1) = w24
                  have f25 : e_fr (mLv t) w w24 := e_fr.up j6 hw24 (by unfold mLv; omega)
                  have hT26 : e_Has mTy w24 := e_Has.upr j7 hw24 (nR_PENDS (t := t) (by omega)) (by omega)
                  refine e_Ok.run (t' := (226, [(7, (0, z20)), (6, (0, 900 * a + z19)), (0, (1, 275)), (2, (0, x)), (3, (0, y)), (4, (0, y4)), (5, (0, 1))], [(1, 275)], w24)) 1 rfl ?_
                  refine e_Ok.getr (z := 331) rfl rfl rfl rfl (by rw [← hw24]; exact (e_up_ne _ _ (Or.inl (by omega))).trans ((j6 275 68 (by unfold mLv; omega)).trans (e_Has.eq hT rfl))) (by omega) ?_
                  refine e_Ok.run (t' := (231, [(7, (0, z20)), (6, (0, 900 * a + z19)), (0, (1, 275)), (2, (0, x)), (3, (0, y)), (4, (0, y4)), (5, (0, 1))], [(0, 900 * a + z19), (1, 331)], w24)) 1 rfl ?_
                  refine e_Ok.ald (z := w 331 (900 * a + z19)) rfl rfl rfl (by omega) (by rw [← hw24]; exact (e_up_ne _ _ (Or.inl (by omega))).trans ((j6 331 (900 * a + z19) (by unfold mLv; omega)).trans rfl)) (by omega) ?_
                  refine e_Ok.run (t' := (11, [(4, (0, w 331 (900 * a + z19))), (7, (0, z20)), (6, (0, 900 * a + z19)), (0, (1, 275)), (2, (0, x)), (3, (0, y)), (5, (0, 1))], [], w24)) 2 rfl ?_
                  refine e_Ok.sub eAlk (e_sub_of rfl ?_) (ih5 (w 331 (900 * a + z19)) w24 g1 ⟨f25, hT26, (runOk.to (w' := w24) (r' := w 331 (900 * a + z19)) hru1 (fun c k q1 q2 => (by rw [← hw24]; exact (e_up_ne _ _ (Or.inl (by omega))).trans rfl)) (fun i q1 q2 => ⟨(by rw [← hw24]; exact (e_up_ne _ _ (Or.inr (by omega))).trans rfl), (by rw [← hw24]; exact (e_up_ne _ _ (Or.inr (by omega))).trans rfl)⟩) (by rw [← hw24]; exact (e_up_ne _ _ (Or.inr (by omega))).trans rfl) (by have q : w24 276 (1260 * t + 429) = bs g1 + pi y4 - 1 := (by rw [← hw24]; exact e_up_eq _ _ _ _); omega) (fun k q1 q2 => (by rw [← hw24]; exact (e_up_ne _ _ (Or.inr (by omega))).trans rfl)) (by omega) (by omega) (by omega) (fun q q1 q2 q3 => by have := han2 z20 q (by omega) (by omega) q1; rwa [show 3 * z19 + z20 = y4 by omega] at this)), (Eq.trans (by rw [← hw24]; exact (e_up_ne _ _ (Or.inl (by omega))).trans rfl) j9), (Eq.trans (by rw [← hw24]; exact (e_up_ne _ _ (Or.inl (by omega))).trans rfl) j10), (Eq.trans (by rw [← hw24]; exact (e_up_ne _ _ (Or.inr (by omega))).trans rfl) j11), ⟨by omega, fun _ => by omega⟩, (fun e3 => by have q := hC.2.2.2.2.2.1 y4 y (j13 e3).2 (by omega) (by omega); rw [show y4 / 3 = z19 by omega] at q; exact ⟨(j13 e3).1, q.elim (fun q => by exfalso; omega) (fun q => q.2.2)⟩), by omega, (sRel.up j15 hw24 (fun q b g1 g2 => by omega))⟩ (by omega))
                  exact ⟨rfl, rfl, rfl, rfl, rfl, trivial⟩
              · replace h22 : (z20 : Int) < 2 := by have q : ¬ ((z20 : Int) ≥ 2) := h22; omega
                refine e_Ok.run (t' := (167, [(7, (0, z20)), (6, (0, 900 * a + z19)), (0, (1, 275)), (2, (0, x)), (3, (0, y)), (4, (0, y4)), (5, (0, 1))], [(1, 275)], v1)) 1 rfl ?_
                refine e_Ok.getr (z := 333) rfl rfl rfl rfl ((j6 275 70 (by unfold mLv; omega)).trans (e_Has.eq hT rfl)) (by omega) ?_
                refine e_Ok.run (t' := (172, [(7, (0, z20)), (6, (0, 900 * a + z19)), (0, (1, 275)), (2, (0, x)), (3, (0, y)), (4, (0, y4)), (5, (0, 1))], [(0, 900 * a + z19), (1, 333)], v1)) 1 rfl ?_
                have h27 := (e_Has.get hT (c := 333) (k := 900 * a + z19) (lo := (-2147483648)) (hi := 2147483647) rfl (by decide))
                refine e_Ok.ald (z := w 333 (900 * a + z19)) rfl rfl rfl (by omega) ((j6 333 (900 * a + z19) (by unfold mLv; omega)).trans rfl) (by omega) ?_
                refine e_Ok.if1 rfl (fun h28 => ?_) (fun h28 => ?_)
                · replace h28 : (w 333 (900 * a + z19) : Int) < 0 := h28
                  refine e_Ok.run (t' := (200, [(7, (0, z20)), (6, (0, 900 * a + z19)), (0, (1, 275)), (2, (0, x)), (3, (0, y)), (4, (0, y4)), (5, (0, 1))], [(1, 275)], v1)) 1 rfl ?_
                  refine e_Ok.getr (z := 276) rfl rfl rfl rfl ((j6 275 0 (by unfold mLv; omega)).trans (e_Has.eq hT rfl)) (by omega) ?_
                  refine e_Ok.run (t' := (204, [(7, (0, z20)), (6, (0, 900 * a + z19)), (0, (1, 275)), (2, (0, x)), (3, (0, y)), (4, (0, y4)), (5, (0, 1))], [(1, 275), (1, 276)], v1)) 1 rfl ?_
                  refine e_Ok.getf (z := 1260 * t + 416) rfl rfl rfl rfl ((j6 275 97 (by unfold mLv; omega)).trans h97) (by omega) ?_
                  refine e_Ok.run (t' := (209, [(7, (0, z20)), (6, (0, 900 * a + z19)), (0, (1, 275)), (2, (0, x)), (3, (0, y)), (4, (0, y4)), (5, (0, 1))], [(0, 13), (0, 1260 * t + 416), (1, 276)], v1)) 1 rfl ?_
                  refine e_Ok.add (z := 1260 * t + 429) rfl (by omega) (by omega) ?_
                  refine e_Ok.run (t' := (211, [(7, (0, z20)), (6, (0, 900 * a + z19)), (0, (1, 275)), (2, (0, x)), (3, (0, y)), (4, (0, y4)), (5, (0, 1))], [(0, 1260 * t + 429), (1, 276), (0, 1260 * t + 429), (1, 276)], v1)) 1 rfl ?_
                  refine e_Ok.ald (z := bs g1 + pi y4) rfl rfl rfl (by omega) hPn1 (by omega) ?_
                  refine e_Ok.run (t' := (215, [(7, (0, z20)), (6, (0, 900 * a + z19)), (0, (1, 275)), (2, (0, x)), (3, (0, y)), (4, (0, y4)), (5, (0, 1))], [(0, 2), (0, z20), (0, bs g1 + pi y4), (0, 1260 * t + 429), (1, 276)], v1)) 2 rfl ?_
                  refine e_Ok.if2 rfl (fun h29 => ?_) (fun h29 => ?_)
                  · replace h29 : (z20 : Int) ≠ 2 := h29
                    refine e_Ok.run (t' := (223, [(7, (0, z20)), (6, (0, 900 * a + z19)), (0, (1, 275)), (2, (0, x)), (3, (0, y)), (4, (0, y4)), (5, (0, 1))], [(0, 0), (0, bs g1 + pi y4), (0, 1260 * t + 429), (1, 276)], v1)) 1 rfl ?_
                    refine e_Ok.sub' (z := bs g1 + pi y4) rfl (by omega) (by omega) ?_
                    refine e_Ok.ast rfl rfl rfl rfl (by omega) ?_
                    generalize hw30 : e_up v1 276 (1260 * t + 429) (bs g1 + pi y4) = w30
                    have f31 : e_fr (mLv t) w w30 := e_fr.up j6 hw30 (by unfold mLv; omega)
                    have hT32 : e_Has mTy w30 := e_Has.upr j7 hw30 (nR_PENDS (t := t) (by omega)) (by omega)
                    refine e_Ok.run (t' := (226, [(7, (0, z20)), (6, (0, 900 * a + z19)), (0, (1, 275)), (2, (0, x)), (3, (0, y)), (4, (0, y4)), (5, (0, 1))], [(1, 275)], w30)) 1 rfl ?_
                    refine e_Ok.getr (z := 331) rfl rfl rfl rfl (by rw [← hw30]; exact (e_up_ne _ _ (Or.inl (by omega))).trans ((j6 275 68 (by unfold mLv; omega)).trans (e_Has.eq hT rfl))) (by omega) ?_
                    refine e_Ok.run (t' := (231, [(7, (0, z20)), (6, (0, 900 * a + z19)), (0, (1, 275)), (2, (0, x)), (3, (0, y)), (4, (0, y4)), (5, (0, 1))], [(0, 900 * a + z19), (1, 331)], w30)) 1 rfl ?_
                    refine e_Ok.ald (z := w 331 (900 * a + z19)) rfl rfl rfl (by omega) (by rw [← hw30]; exact (e_up_ne _ _ (Or.inl (by omega))).trans ((j6 331 (900 * a + z19) (by unfold mLv; omega)).trans rfl)) (by omega) ?_
                    refine e_Ok.run (t' := (11, [(4, (0, w 331 (900 * a + z19))), (7, (0, z20)), (6, (0, 900 * a + z19)), (0, (1, 275)), (2, (0, x)), (3, (0, y)), (5, (0, 1))], [], w30)) 2 rfl ?_
                    refine e_Ok.sub eAlk (e_sub_of rfl ?_) (ih5 (w 331 (900 * a + z19)) w30 g1 ⟨f31, hT32, (runOk.to (w' := w30) (r' := w 331 (900 * a + z19)) hru1 (fun c k q1 q2 => (by rw [← hw30]; exact (e_up_ne _ _ (Or.inl (by omega))).trans rfl)) (fun i q1 q2 => ⟨(by rw [← hw30]; exact (e_up_ne _ _ (Or.inr (by omega))).trans rfl), (by rw [← hw30]; exact (e_up_ne _ _ (Or.inr (by omega))).trans rfl)⟩) (by rw [← hw30]; exact (e_up_ne _ _ (Or.inr (by omega))).trans rfl) (by have q : w30 276 (1260 * t + 429) = bs g1 + pi y4 := (by rw [← hw30]; exact e_up_eq _ _ _ _); omega) (fun k q1 q2 => (by rw [← hw30]; exact (e_up_ne _ _ (Or.inr (by omega))).trans rfl)) (by omega) (by omega) (by omega) (fun q q1 q2 q3 => by have := han2 z20 q (by omega) (by omega) q1; rwa [show 3 * z19 + z20 = y4 by omega] at this)), (Eq.trans (by rw [← hw30]; exact (e_up_ne _ _ (Or.inl (by omega))).trans rfl) j9), (Eq.trans (by rw [← hw30]; exact (e_up_ne _ _ (Or.inl (by omega))).trans rfl) j10), (Eq.trans (by rw [← hw30]; exact (e_up_ne _ _ (Or.inr (by omega))).trans rfl) j11), ⟨by omega, fun _ => by omega⟩, (fun e3 => by have q := hC.2.2.2.2.2.1 y4 y (j13 e3).2 (by omega) (by omega); rw [show y4 / 3 = z19 by omega] at q; exact ⟨(j13 e3).1, q.elim (fun q => by exfalso; omega) (fun q => q.2.2)⟩), by omega, (sRel.up j15 hw30 (fun q b g1 g2 => by omega))⟩ (by omega))
                    exact ⟨rfl, rfl, rfl, rfl, rfl, trivial⟩
                  · replace h29 : (z20 : Int) = 2 := by have q : ¬ ((z20 : Int) ≠ 2) := h29; omega
                    exfalso; omega
                · replace h28 : (w 333 (900 * a + z19) : Int) ≥ 0 := by have q : ¬ ((w 333 (900 * a + z19) : Int) < 0) := h28; omega
                  have hf1 := hfin.resolve_left (by omega)
                  have hf2 := (hall.2.2.1 (by omega)).resolve_left (by omega)
                  have hp2 := hC.2.2.2.1.2.1 (3 * z19 + 2) (by omega) (by omega)
                  refine e_Ok.run (t' := (179, [(7, (0, z20)), (6, (0, 900 * a + z19)), (0, (1, 275)), (2, (0, x)), (3, (0, y)), (4, (0, y4)), (5, (0, 1))], [(0, y), (0, x), (1, 275)], v1)) 3 rfl ?_
                  refine e_Ok.callV rfl (by omega) rfl rfl rfl rfl (c_370 j7 (by omega) ((j6 275 97 (by unfold mLv; omega)).trans h97) (m := bs g1 + pi y4) (m1 := bs g1 + pi y4 + 1) (z := 1260 * t + 2 * bs g1 + 2 * pi y4 + 476) (z1 := 1260 * t + 2 * bs g1 + 2 * pi y4 + 477) hPn1 (by omega) (by omega) (by omega) (by omega)) (fun r33 w34 h35 => ?_)
                  obtain ⟨rfl, hw34⟩ := h35
                  generalize hw36 : e_up v1 276 (1260 * t + 2 * bs g1 + 2 * pi y4 + 476) x = w36 at hw34
                  have f37 : e_fr (mLv t) w w36 := e_fr.up j6 hw36 (by unfold mLv; omega)
                  have hT38 : e_Has mTy w36 := e_Has.upr j7 hw36 (nR_PEg t (by omega) (by omega)) (by omega)
                  generalize hw39 : e_up w36 276 (1260 * t + 2 * bs g1 + 2 * pi y4 + 477) y = w39 at hw34
                  have f40 : e_fr (mLv t) w w39 := e_fr.up f37 hw39 (by unfold mLv; omega)
                  have hT41 : e_Has mTy w39 := e_Has.upr hT38 hw39 (nR_PEg t (by omega) (by omega)) (by omega)
                  have f42 : e_fr (mLv t) w w34 := e_fr.up f40 hw34 (by unfold mLv; omega)
                  have hT43 : e_Has mTy w34 := e_Has.upr hT41 hw34 (nR_PENDS (t := t) (by omega)) (by omega)
                  show e_Ok 20 elay ecode eI (d + 1) 371 (182, [(7, (0, z20)), (6, (0, 900 * a + z19)), (0, (1, 275)), (2, (0, x)), (3, (0, y)), (4, (0, y4)), (5, (0, 1))], [], w34) _
                  refine e_Ok.run (t' := (184, [(7, (0, z20)), (6, (0, 900 * a + z19)), (0, (1, 275)), (2, (0, x)), (3, (0, y)), (4, (0, y4)), (5, (0, 1))], [(1, 275), (1, 275)], w34)) 2 rfl ?_
                  refine e_Ok.getr (z := 333) rfl rfl rfl rfl (by rw [← hw34]; exact (e_up_ne _ _ (Or.inl (by omega))).trans (by rw [← hw39]; exact (e_up_ne _ _ (Or.inl (by omega))).trans (by rw [← hw36]; exact (e_up_ne _ _ (Or.inl (by omega))).trans ((j6 275 70 (by unfold mLv; omega)).trans (e_Has.eq hT rfl))))) (by omega) ?_
                  refine e_Ok.run (t' := (189, [(7, (0, z20)), (6, (0, 900 * a + z19)), (0, (1, 275)), (2, (0, x)), (3, (0, y)), (4, (0, y4)), (5, (0, 1))], [(0, 900 * a + z19), (1, 333), (1, 275)], w34)) 1 rfl ?_
                  refine e_Ok.ald (z := w 333 (900 * a + z19)) rfl rfl rfl (by omega) (by rw [← hw34]; exact (e_up_ne _ _ (Or.inl (by omega))).trans (by rw [← hw39]; exact (e_up_ne _ _ (Or.inl (by omega))).trans (by rw [← hw36]; exact (e_up_ne _ _ (Or.inl (by omega))).trans ((j6 333 (900 * a + z19) (by unfold mLv; omega)).trans rfl)))) (by omega) ?_
                  refine e_Ok.callV rfl (by omega) rfl rfl rfl rfl (c_365 (by omega) hT43 (by omega) (by rw [← hw34]; exact (e_up_ne _ _ (Or.inl (by omega))).trans (by rw [← hw39]; exact (e_up_ne _ _ (Or.inl (by omega))).trans (by rw [← hw36]; exact (e_up_ne _ _ (Or.inl (by omega))).trans ((j6 275 97 (by unfold mLv; omega)).trans h97)))) (f := g1 + 1) (z := 1260 * t + 2 * g1 + 436) (by rw [← hw34]; exact (e_up_ne _ _ (Or.inr (by omega))).trans (by rw [← hw39]; exact (e_up_ne _ _ (Or.inr (by omega))).trans (by rw [← hw36]; exact (e_up_ne _ _ (Or.inr (by omega))).trans hF1))) (by omega) (by omega)) (fun r44 w45 h46 => ?_)
                  obtain ⟨rfl, hw45⟩ := h46
                  have f47 : e_fr (mLv t) w w45 := e_fr.up f42 hw45 (by unfold mLv; omega)
                  have hT48 : e_Has mTy w45 := e_Has.upr hT43 hw45 (nR_FRg t (g1) (by omega) (by omega) (by omega)) (by omega)
                  show e_Ok 20 elay ecode eI (d + 1) 371 (193, [(7, (0, z20)), (6, (0, 900 * a + z19)), (0, (1, 275)), (2, (0, x)), (3, (0, y)), (4, (0, y4)), (5, (0, 1))], [], w45) _
                  refine e_Ok.run (t' := (11, [(5, (0, 0)), (7, (0, z20)), (6, (0, 900 * a + z19)), (0, (1, 275)), (2, (0, x)), (3, (0, y)), (4, (0, y4))], [], w45)) 4 rfl ?_
                  refine e_Ok.run (t' := (13, [(5, (0, 0)), (7, (0, z20)), (6, (0, 900 * a + z19)), (0, (1, 275)), (2, (0, x)), (3, (0, y)), (4, (0, y4))], [(0, 0)], w45)) 1 rfl ?_
                  refine e_Ok.if1 rfl (fun h49 => ?_) (fun h49 => ?_)
                  · replace h49 : (0 : Int) = 0 := h49
                    refine e_Ok.rets rfl rfl ?_
                    have e50 : w45 276 5 = v1 276 5 := (by rw [← hw45]; exact (e_up_ne _ _ (Or.inr (by omega))).trans (by rw [← hw34]; exact (e_up_ne _ _ (Or.inr (by omega))).trans (by rw [← hw39]; exact (e_up_ne _ _ (Or.inr (by omega))).trans (by rw [← hw36]; exact (e_up_ne _ _ (Or.inr (by omega))).trans rfl))))
                    have hru := runOk.fin (w' := w45) (z := z19) (i := z20) (x := x) (y := y) hC1 hru1 (by omega) (by omega) (by omega) (fun c k q1 q2 => (by rw [← hw45]; exact (e_up_ne _ _ (Or.inl (by omega))).trans (by rw [← hw34]; exact (e_up_ne _ _ (Or.inl (by omega))).trans (by rw [← hw39]; exact (e_up_ne _ _ (Or.inl (by omega))).trans (by rw [← hw36]; exact (e_up_ne _ _ (Or.inl (by omega))).trans rfl))))) (fun i q1 q2 => ⟨(by rw [← hw45]; exact (e_up_ne _ _ (Or.inr (by omega))).trans (by rw [← hw34]; exact (e_up_ne _ _ (Or.inr (by omega))).trans (by rw [← hw39]; exact (e_up_ne _ _ (Or.inr (by omega))).trans (by rw [← hw36]; exact (e_up_ne _ _ (Or.inr (by omega))).trans rfl)))), (by rw [← hw45]; exact (e_up_ne _ _ (Or.inr (by omega))).trans (by rw [← hw34]; exact (e_up_ne _ _ (Or.inr (by omega))).trans (by rw [← hw39]; exact (e_up_ne _ _ (Or.inr (by omega))).trans (by rw [← hw36]; exact (e_up_ne _ _ (Or.inr (by omega))).trans rfl))))⟩) (by rw [← hw45]; exact (e_up_ne _ _ (Or.inr (by omega))).trans (by rw [← hw34]; exact (e_up_ne _ _ (Or.inr (by omega))).trans (by rw [← hw39]; exact (e_up_ne _ _ (Or.inr (by omega))).trans (by rw [← hw36]; exact (e_up_ne _ _ (Or.inr (by omega))).trans rfl)))) (by rw [← hw45]; exact (e_up_ne _ _ (Or.inr (by omega))).trans (by rw [← hw34]; exact e_up_eq _ _ _ _)) (fun k q1 q2 => (by rw [← hw45]; exact (e_up_ne _ _ (Or.inr (by omega))).trans (by rw [← hw34]; exact (e_up_ne _ _ (Or.inr (by omega))).trans (by rw [← hw39]; exact (e_up_ne _ _ (Or.inr (by omega))).trans (by rw [← hw36]; exact (e_up_ne _ _ (Or.inr (by omega))).trans rfl))))) (by rw [show 1260 * t + 2 * (bs g1 + pi y4) + 476 = 1260 * t + 2 * bs g1 + 2 * pi y4 + 476 by omega]; exact (by rw [← hw45]; exact (e_up_ne _ _ (Or.inr (by omega))).trans (by rw [← hw34]; exact (e_up_ne _ _ (Or.inr (by omega))).trans (by rw [← hw39]; exact (e_up_ne _ _ (Or.inr (by omega))).trans (by rw [← hw36]; exact e_up_eq _ _ _ _))))) (by rw [show 1260 * t + 2 * (bs g1 + pi y4) + 477 = 1260 * t + 2 * bs g1 + 2 * pi y4 + 477 by omega]; exact (by rw [← hw45]; exact (e_up_ne _ _ (Or.inr (by omega))).trans (by rw [← hw34]; exact (e_up_ne _ _ (Or.inr (by omega))).trans (by rw [← hw39]; exact e_up_eq _ _ _ _)))) (fun e3 => by have q := hC.2.2.2.2.2.1 y4 y (j13 e3).2 (by omega) (by omega); rw [show y4 / 3 = z19 by omega] at q; have q0 := hy3 e3; refine ⟨q0.1, q0.2.1, ?_⟩; rw [j6 331 _ (by unfold mLv; omega), j6 334 _ (by unfold mLv; omega), j6 336 _ (by unfold mLv; omega)]; exact q.elim (fun q => by exfalso; omega) (fun q => ⟨q.2.2, q.2.1⟩))
                    exact ⟨rfl, ⟨f47, (sRel.up (sRel.up (sRel.up (sRel.up j15 hw36 (fun q b g1 g2 => by omega)) hw39 (fun q b g1 g2 => by omega)) hw34 (fun q b g1 g2 => by omega)) hw45 (fun q b g1 g2 => by omega))⟩, hT48, by omega, (by rw [← hw45]; exact (e_up_ne _ _ (Or.inl (by omega))).trans (by rw [← hw34]; exact (e_up_ne _ _ (Or.inl (by omega))).trans (by rw [← hw39]; exact (e_up_ne _ _ (Or.inl (by omega))).trans (by rw [← hw36]; exact (e_up_ne _ _ (Or.inl (by omega))).trans j9)))), Or.inr ⟨(Eq.trans (by rw [← hw45]; exact (e_up_ne _ _ (Or.inl (by omega))).trans (by rw [← hw34]; exact (e_up_ne _ _ (Or.inl (by omega))).trans (by rw [← hw39]; exact (e_up_ne _ _ (Or.inl (by omega))).trans (by rw [← hw36]; exact (e_up_ne _ _ (Or.inl (by omega))).trans rfl)))) j10), g1, w 333 (900 * a + z19), bs, _, by omega, fun e => by omega, runOk.at hru (by omega) (by rw [← hw45]; exact e_up_eq _ _ _ _) ((show w45 330 (10000 * a + (w 333 (900 * a + z19))) = v1 330 (10000 * a + (w 333 (900 * a + z19))) from (by rw [← hw45]; exact (e_up_ne _ _ (Or.inl (by omega))).trans (by rw [← hw34]; exact (e_up_ne _ _ (Or.inl (by omega))).trans (by rw [← hw39]; exact (e_up_ne _ _ (Or.inl (by omega))).trans (by rw [← hw36]; exact (e_up_ne _ _ (Or.inl (by omega))).trans rfl))))).trans ((j6 330 (10000 * a + (w 333 (900 * a + z19))) (by unfold mLv; omega)).trans (by omega))), by omega, by omega⟩⟩
                  · replace h49 : (0 : Int) ≠ 0 := by have q : ¬ ((0 : Int) = 0) := h49; omega
                    exfalso; omega
            · replace h21 : (z20 : Int) = 0 := by have q : ¬ ((z20 : Int) ≠ 0) := h21; omega
              refine e_Ok.run (t' := (118, [(7, (0, z20)), (6, (0, 900 * a + z19)), (0, (1, 275)), (2, (0, x)), (3, (0, y)), (4, (0, y4)), (5, (0, 1))], [(0, 1), (0, x)], v1)) 2 rfl ?_
              refine e_Ok.if2 rfl (fun h51 => ?_) (fun h51 => ?_)
              · replace h51 : (x : Int) ≠ 1 := h51
                refine e_Ok.run (t' := (163, [(7, (0, z20)), (6, (0, 900 * a + z19)), (0, (1, 275)), (2, (0, x)), (3, (0, y)), (4, (0, y4)), (5, (0, 1))], [(0, 2), (0, z20)], v1)) 2 rfl ?_
                refine e_Ok.if2 rfl (fun h52 => ?_) (fun h52 => ?_)
                · replace h52 : (z20 : Int) ≥ 2 := h52
                  exfalso; omega
                · replace h52 : (z20 : Int) < 2 := by have q : ¬ ((z20 : Int) ≥ 2) := h52; omega
                  refine e_Ok.run (t' := (167, [(7, (0, z20)), (6, (0, 900 * a + z19)), (0, (1, 275)), (2, (0, x)), (3, (0, y)), (4, (0, y4)), (5, (0, 1))], [(1, 275)], v1)) 1 rfl ?_
                  refine e_Ok.getr (z := 333) rfl rfl rfl rfl ((j6 275 70 (by unfold mLv; omega)).trans (e_Has.eq hT rfl)) (by omega) ?_
                  refine e_Ok.run (t' := (172, [(7, (0, z20)), (6, (0, 900 * a + z19)), (0, (1, 275)), (2, (0, x)), (3, (0, y)), (4, (0, y4)), (5, (0, 1))], [(0, 900 * a + z19), (1, 333)], v1)) 1 rfl ?_
                  have h53 := (e_Has.get hT (c := 333) (k := 900 * a + z19) (lo := (-2147483648)) (hi := 2147483647) rfl (by decide))
                  refine e_Ok.ald (z := w 333 (900 * a + z19)) rfl rfl rfl (by omega) ((j6 333 (900 * a + z19) (by unfold mLv; omega)).trans rfl) (by omega) ?_
                  refine e_Ok.if1 rfl (fun h54 => ?_) (fun h54 => ?_)
                  · replace h54 : (w 333 (900 * a + z19) : Int) < 0 := h54
                    refine e_Ok.run (t' := (200, [(7, (0, z20)), (6, (0, 900 * a + z19)), (0, (1, 275)), (2, (0, x)), (3, (0, y)), (4, (0, y4)), (5, (0, 1))], [(1, 275)], v1)) 1 rfl ?_
                    refine e_Ok.getr (z := 276) rfl rfl rfl rfl ((j6 275 0 (by unfold mLv; omega)).trans (e_Has.eq hT rfl)) (by omega) ?_
                    refine e_Ok.run (t' := (204, [(7, (0, z20)), (6, (0, 900 * a + z19)), (0, (1, 275)), (2, (0, x)), (3, (0, y)), (4, (0, y4)), (5, (0, 1))], [(1, 275), (1, 276)], v1)) 1 rfl ?_
                    refine e_Ok.getf (z := 1260 * t + 416) rfl rfl rfl rfl ((j6 275 97 (by unfold mLv; omega)).trans h97) (by omega) ?_
                    refine e_Ok.run (t' := (209, [(7, (0, z20)), (6, (0, 900 * a + z19)), (0, (1, 275)), (2, (0, x)), (3, (0, y)), (4, (0, y4)), (5, (0, 1))], [(0, 13), (0, 1260 * t + 416), (1, 276)], v1)) 1 rfl ?_
                    refine e_Ok.add (z := 1260 * t + 429) rfl (by omega) (by omega) ?_
                    refine e_Ok.run (t' := (211, [(7, (0, z20)), (6, (0, 900 * a + z19)), (0, (1, 275)), (2, (0, x)), (3, (0, y)), (4, (0, y4)), (5, (0, 1))], [(0, 1260 * t + 429), (1, 276), (0, 1260 * t + 429), (1, 276)], v1)) 1 rfl ?_
                    refine e_Ok.ald (z := bs g1 + pi y4) rfl rfl rfl (by omega) hPn1 (by omega) ?_
                    refine e_Ok.run (t' := (215, [(7, (0, z20)), (6, (0, 900 * a + z19)), (0, (1, 275)), (2, (0, x)), (3, (0, y)), (4, (0, y4)), (5, (0, 1))], [(0, 2), (0, z20), (0, bs g1 + pi y4), (0, 1260 * t + 429), (1, 276)], v1)) 2 rfl ?_
                    refine e_Ok.if2 rfl (fun h55 => ?_) (fun h55 => ?_)
                    · replace h55 : (z20 : Int) ≠ 2 := h55
                      refine e_Ok.run (t' := (223, [(7, (0, z20)), (6, (0, 900 * a + z19)), (0, (1, 275)), (2, (0, x)), (3, (0, y)), (4, (0, y4)), (5, (0, 1))], [(0, 0), (0, bs g1 + pi y4), (0, 1260 * t + 429), (1, 276)], v1)) 1 rfl ?_
                      refine e_Ok.sub' (z := bs g1 + pi y4) rfl (by omega) (by omega) ?_
                      refine e_Ok.ast rfl rfl rfl rfl (by omega) ?_
                      generalize hw56 : e_up v1 276 (1260 * t + 429) (bs g1 + pi y4) = w56
                      have f57 : e_fr (mLv t) w w56 := e_fr.up j6 hw56 (by unfold mLv; omega)
                      have hT58 : e_Has mTy w56 := e_Has.upr j7 hw56 (nR_PENDS (t := t) (by omega)) (by omega)
                      refine e_Ok.run (t' := (226, [(7, (0, z20)), (6, (0, 900 * a + z19)), (0, (1, 275)), (2, (0, x)), (3, (0, y)), (4, (0, y4)), (5, (0, 1))], [(1, 275)], w56)) 1 rfl ?_
                      refine e_Ok.getr (z := 331) rfl rfl rfl rfl (by rw [← hw56]; exact (e_up_ne _ _ (Or.inl (by omega))).trans ((j6 275 68 (by unfold mLv; omega)).trans (e_Has.eq hT rfl))) (by omega) ?_
                      refine e_Ok.run (t' := (231, [(7, (0, z20)), (6, (0, 900 * a + z19)), (0, (1, 275)), (2, (0, x)), (3, (0, y)), (4, (0, y4)), (5, (0, 1))], [(0, 900 * a + z19), (1, 331)], w56)) 1 rfl ?_
                      refine e_Ok.ald (z := w 331 (900 * a + z19)) rfl rfl rfl (by omega) (by rw [← hw56]; exact (e_up_ne _ _ (Or.inl (by omega))).trans ((j6 331 (900 * a + z19) (by unfold mLv; omega)).trans rfl)) (by omega) ?_
                      refine e_Ok.run (t' := (11, [(4, (0, w 331 (900 * a + z19))), (7, (0, z20)), (6, (0, 900 * a + z19)), (0, (1, 275)), (2, (0, x)), (3, (0, y)), (5, (0, 1))], [], w56)) 2 rfl ?_
                      refine e_Ok.sub eAlk (e_sub_of rfl ?_) (ih5 (w 331 (900 * a + z19)) w56 g1 ⟨f57, hT58, (runOk.to (w' := w56) (r' := w 331 (900 * a + z19)) hru1 (fun c k q1 q2 => (by rw [← hw56]; exact (e_up_ne _ _ (Or.inl (by omega))).trans rfl)) (fun i q1 q2 => ⟨(by rw [← hw56]; exact (e_up_ne _ _ (Or.inr (by omega))).trans rfl), (by rw [← hw56]; exact (e_up_ne _ _ (Or.inr (by omega))).trans rfl)⟩) (by rw [← hw56]; exact (e_up_ne _ _ (Or.inr (by omega))).trans rfl) (by have q : w56 276 (1260 * t + 429) = bs g1 + pi y4 := (by rw [← hw56]; exact e_up_eq _ _ _ _); omega) (fun k q1 q2 => (by rw [← hw56]; exact (e_up_ne _ _ (Or.inr (by omega))).trans rfl)) (by omega) (by omega) (by omega) (fun q q1 q2 q3 => by have := han2 z20 q (by omega) (by omega) q1; rwa [show 3 * z19 + z20 = y4 by omega] at this)), (Eq.trans (by rw [← hw56]; exact (e_up_ne _ _ (Or.inl (by omega))).trans rfl) j9), (Eq.trans (by rw [← hw56]; exact (e_up_ne _ _ (Or.inl (by omega))).trans rfl) j10), (Eq.trans (by rw [← hw56]; exact (e_up_ne _ _ (Or.inr (by omega))).trans rfl) j11), ⟨by omega, fun _ => by omega⟩, (fun e3 => by have q := hC.2.2.2.2.2.1 y4 y (j13 e3).2 (by omega) (by omega); rw [show y4 / 3 = z19 by omega] at q; exact ⟨(j13 e3).1, q.elim (fun q => by exfalso; omega) (fun q => q.2.2)⟩), by omega, (sRel.up j15 hw56 (fun q b g1 g2 => by omega))⟩ (by omega))
                      exact ⟨rfl, rfl, rfl, rfl, rfl, trivial⟩
                    · replace h55 : (z20 : Int) = 2 := by have q : ¬ ((z20 : Int) ≠ 2) := h55; omega
                      exfalso; omega
                  · replace h54 : (w 333 (900 * a + z19) : Int) ≥ 0 := by have q : ¬ ((w 333 (900 * a + z19) : Int) < 0) := h54; omega
                    have hf1 := hfin.resolve_left (by omega)
                    have hf2 := (hall.2.2.1 (by omega)).resolve_left (by omega)
                    have hp2 := hC.2.2.2.1.2.1 (3 * z19 + 2) (by omega) (by omega)
                    refine e_Ok.run (t' := (179, [(7, (0, z20)), (6, (0, 900 * a + z19)), (0, (1, 275)), (2, (0, x)), (3, (0, y)), (4, (0, y4)), (5, (0, 1))], [(0, y), (0, x), (1, 275)], v1)) 3 rfl ?_
                    refine e_Ok.callV rfl (by omega) rfl rfl rfl rfl (c_370 j7 (by omega) ((j6 275 97 (by unfold mLv; omega)).trans h97) (m := bs g1 + pi y4) (m1 := bs g1 + pi y4 + 1) (z := 1260 * t + 2 * bs g1 + 2 * pi y4 + 476) (z1 := 1260 * t + 2 * bs g1 + 2 * pi y4 + 477) hPn1 (by omega) (by omega) (by omega) (by omega)) (fun r59 w60 h61 => ?_)
                    obtain ⟨rfl, hw60⟩ := h61
                    generalize hw62 : e_up v1 276 (1260 * t + 2 * bs g1 + 2 * pi y4 + 476) x = w62 at hw60
                    have f63 : e_fr (mLv t) w w62 := e_fr.up j6 hw62 (by unfold mLv; omega)
                    have hT64 : e_Has mTy w62 := e_Has.upr j7 hw62 (nR_PEg t (by omega) (by omega)) (by omega)
                    generalize hw65 : e_up w62 276 (1260 * t + 2 * bs g1 + 2 * pi y4 + 477) y = w65 at hw60
                    have f66 : e_fr (mLv t) w w65 := e_fr.up f63 hw65 (by unfold mLv; omega)
                    have hT67 : e_Has mTy w65 := e_Has.upr hT64 hw65 (nR_PEg t (by omega) (by omega)) (by omega)
                    have f68 : e_fr (mLv t) w w60 := e_fr.up f66 hw60 (by unfold mLv; omega)
                    have hT69 : e_Has mTy w60 := e_Has.upr hT67 hw60 (nR_PENDS (t := t) (by omega)) (by omega)
                    show e_Ok 20 elay ecode eI (d + 1) 371 (182, [(7, (0, z20)), (6, (0, 900 * a + z19)), (0, (1, 275)), (2, (0, x)), (3, (0, y)), (4, (0, y4)), (5, (0, 1))], [], w60) _
                    refine e_Ok.run (t' := (184, [(7, (0, z20)), (6, (0, 900 * a + z19)), (0, (1, 275)), (2, (0, x)), (3, (0, y)), (4, (0, y4)), (5, (0, 1))], [(1, 275), (1, 275)], w60)) 2 rfl ?_
                    refine e_Ok.getr (z := 333) rfl rfl rfl rfl (by rw [← hw60]; exact (e_up_ne _ _ (Or.inl (by omega))).trans (by rw [← hw65]; exact (e_up_ne _ _ (Or.inl (by omega))).trans (by rw [← hw62]; exact (e_up_ne _ _ (Or.inl (by omega))).trans ((j6 275 70 (by unfold mLv; omega)).trans (e_Has.eq hT rfl))))) (by omega) ?_
                    refine e_Ok.run (t' := (189, [(7, (0, z20)), (6, (0, 900 * a + z19)), (0, (1, 275)), (2, (0, x)), (3, (0, y)), (4, (0, y4)), (5, (0, 1))], [(0, 900 * a + z19), (1, 333), (1, 275)], w60)) 1 rfl ?_
                    refine e_Ok.ald (z := w 333 (900 * a + z19)) rfl rfl rfl (by omega) (by rw [← hw60]; exact (e_up_ne _ _ (Or.inl (by omega))).trans (by rw [← hw65]; exact (e_up_ne _ _ (Or.inl (by omega))).trans (by rw [← hw62]; exact (e_up_ne _ _ (Or.inl (by omega))).trans ((j6 333 (900 * a + z19) (by unfold mLv; omega)).trans rfl)))) (by omega) ?_
                    refine e_Ok.callV rfl (by omega) rfl rfl rfl rfl (c_365 (by omega) hT69 (by omega) (by rw [← hw60]; exact (e_up_ne _ _ (Or.inl (by omega))).trans (by rw [← hw65]; exact (e_up_ne _ _ (Or.inl (by omega))).trans (by rw [← hw62]; exact (e_up_ne _ _ (Or.inl (by omega))).trans ((j6 275 97 (by unfold mLv; omega)).trans h97)))) (f := g1 + 1) (z := 1260 * t + 2 * g1 + 436) (by rw [← hw60]; exact (e_up_ne _ _ (Or.inr (by omega))).trans (by rw [← hw65]; exact (e_up_ne _ _ (Or.inr (by omega))).trans (by rw [← hw62]; exact (e_up_ne _ _ (Or.inr (by omega))).trans hF1))) (by omega) (by omega)) (fun r70 w71 h72 => ?_)
                    obtain ⟨rfl, hw71⟩ := h72
                    have f73 : e_fr (mLv t) w w71 := e_fr.up f68 hw71 (by unfold mLv; omega)
                    have hT74 : e_Has mTy w71 := e_Has.upr hT69 hw71 (nR_FRg t (g1) (by omega) (by omega) (by omega)) (by omega)
                    show e_Ok 20 elay ecode eI (d + 1) 371 (193, [(7, (0, z20)), (6, (0, 900 * a + z19)), (0, (1, 275)), (2, (0, x)), (3, (0, y)), (4, (0, y4)), (5, (0, 1))], [], w71) _
                    refine e_Ok.run (t' := (11, [(5, (0, 0)), (7, (0, z20)), (6, (0, 900 * a + z19)), (0, (1, 275)), (2, (0, x)), (3, (0, y)), (4, (0, y4))], [], w71)) 4 rfl ?_
                    refine e_Ok.run (t' := (13, [(5, (0, 0)), (7, (0, z20)), (6, (0, 900 * a + z19)), (0, (1, 275)), (2, (0, x)), (3, (0, y)), (4, (0, y4))], [(0, 0)], w71)) 1 rfl ?_
                    refine e_Ok.if1 rfl (fun h75 => ?_) (fun h75 => ?_)
                    · replace h75 : (0 : Int) = 0 := h75
                      refine e_Ok.rets rfl rfl ?_
                      have e76 : w71 276 5 = v1 276 5 := (by rw [← hw71]; exact (e_up_ne _ _ (Or.inr (by omega))).trans (by rw [← hw60]; exact (e_up_ne _ _ (Or.inr (by omega))).trans (by rw [← hw65]; exact (e_up_ne _ _ (Or.inr (by omega))).trans (by rw [← hw62]; exact (e_up_ne _ _ (Or.inr (by omega))).trans rfl))))
                      have hru := runOk.fin (w' := w71) (z := z19) (i := z20) (x := x) (y := y) hC1 hru1 (by omega) (by omega) (by omega) (fun c k q1 q2 => (by rw [← hw71]; exact (e_up_ne _ _ (Or.inl (by omega))).trans (by rw [← hw60]; exact (e_up_ne _ _ (Or.inl (by omega))).trans (by rw [← hw65]; exact (e_up_ne _ _ (Or.inl (by omega))).trans (by rw [← hw62]; exact (e_up_ne _ _ (Or.inl (by omega))).trans rfl))))) (fun i q1 q2 => ⟨(by rw [← hw71]; exact (e_up_ne _ _ (Or.inr (by omega))).trans (by rw [← hw60]; exact (e_up_ne _ _ (Or.inr (by omega))).trans (by rw [← hw65]; exact (e_up_ne _ _ (Or.inr (by omega))).trans (by rw [← hw62]; exact (e_up_ne _ _ (Or.inr (by omega))).trans rfl)))), (by rw [← hw71]; exact (e_up_ne _ _ (Or.inr (by omega))).trans (by rw [← hw60]; exact (e_up_ne _ _ (Or.inr (by omega))).trans (by rw [← hw65]; exact (e_up_ne _ _ (Or.inr (by omega))).trans (by rw [← hw62]; exact (e_up_ne _ _ (Or.inr (by omega))).trans rfl))))⟩) (by rw [← hw71]; exact (e_up_ne _ _ (Or.inr (by omega))).trans (by rw [← hw60]; exact (e_up_ne _ _ (Or.inr (by omega))).trans (by rw [← hw65]; exact (e_up_ne _ _ (Or.inr (by omega))).trans (by rw [← hw62]; exact (e_up_ne _ _ (Or.inr (by omega))).trans rfl)))) (by rw [← hw71]; exact (e_up_ne _ _ (Or.inr (by omega))).trans (by rw [← hw60]; exact e_up_eq _ _ _ _)) (fun k q1 q2 => (by rw [← hw71]; exact (e_up_ne _ _ (Or.inr (by omega))).trans (by rw [← hw60]; exact (e_up_ne _ _ (Or.inr (by omega))).trans (by rw [← hw65]; exact (e_up_ne _ _ (Or.inr (by omega))).trans (by rw [← hw62]; exact (e_up_ne _ _ (Or.inr (by omega))).trans rfl))))) (by rw [show 1260 * t + 2 * (bs g1 + pi y4) + 476 = 1260 * t + 2 * bs g1 + 2 * pi y4 + 476 by omega]; exact (by rw [← hw71]; exact (e_up_ne _ _ (Or.inr (by omega))).trans (by rw [← hw60]; exact (e_up_ne _ _ (Or.inr (by omega))).trans (by rw [← hw65]; exact (e_up_ne _ _ (Or.inr (by omega))).trans (by rw [← hw62]; exact e_up_eq _ _ _ _))))) (by rw [show 1260 * t + 2 * (bs g1 + pi y4) + 477 = 1260 * t + 2 * bs g1 + 2 * pi y4 + 477 by omega]; exact (by rw [← hw71]; exact (e_up_ne _ _ (Or.inr (by omega))).trans (by rw [← hw60]; exact (e_up_ne _ _ (Or.inr (by omega))).trans (by rw [← hw65]; exact e_up_eq _ _ _ _)))) (fun e3 => by have q := hC.2.2.2.2.2.1 y4 y (j13 e3).2 (by omega) (by omega); rw [show y4 / 3 = z19 by omega] at q; have q0 := hy3 e3; refine ⟨q0.1, q0.2.1, ?_⟩; rw [j6 331 _ (by unfold mLv; omega), j6 334 _ (by unfold mLv; omega), j6 336 _ (by unfold mLv; omega)]; exact q.elim (fun q => by exfalso; omega) (fun q => ⟨q.2.2, q.2.1⟩))
                      exact ⟨rfl, ⟨f73, (sRel.up (sRel.up (sRel.up (sRel.up j15 hw62 (fun q b g1 g2 => by omega)) hw65 (fun q b g1 g2 => by omega)) hw60 (fun q b g1 g2 => by omega)) hw71 (fun q b g1 g2 => by omega))⟩, hT74, by omega, (by rw [← hw71]; exact (e_up_ne _ _ (Or.inl (by omega))).trans (by rw [← hw60]; exact (e_up_ne _ _ (Or.inl (by omega))).trans (by rw [← hw65]; exact (e_up_ne _ _ (Or.inl (by omega))).trans (by rw [← hw62]; exact (e_up_ne _ _ (Or.inl (by omega))).trans j9)))), Or.inr ⟨(Eq.trans (by rw [← hw71]; exact (e_up_ne _ _ (Or.inl (by omega))).trans (by rw [← hw60]; exact (e_up_ne _ _ (Or.inl (by omega))).trans (by rw [← hw65]; exact (e_up_ne _ _ (Or.inl (by omega))).trans (by rw [← hw62]; exact (e_up_ne _ _ (Or.inl (by omega))).trans rfl)))) j10), g1, w 333 (900 * a + z19), bs, _, by omega, fun e => by omega, runOk.at hru (by omega) (by rw [← hw71]; exact e_up_eq _ _ _ _) ((show w71 330 (10000 * a + (w 333 (900 * a + z19))) = v1 330 (10000 * a + (w 333 (900 * a + z19))) from (by rw [← hw71]; exact (e_up_ne _ _ (Or.inl (by omega))).trans (by rw [← hw60]; exact (e_up_ne _ _ (Or.inl (by omega))).trans (by rw [← hw65]; exact (e_up_ne _ _ (Or.inl (by omega))).trans (by rw [← hw62]; exact (e_up_ne _ _ (Or.inl (by omega))).trans rfl))))).trans ((j6 330 (10000 * a + (w 333 (900 * a + z19))) (by unfold mLv; omega)).trans (by omega))), by omega, by omega⟩⟩
                    · replace h75 : (0 : Int) ≠ 0 := by have q : ¬ ((0 : Int) = 0) := h75; omega
                      exfalso; omega
              · replace h51 : (x : Int) = 1 := by have q : ¬ ((x : Int) ≠ 1) := h51; omega
                refine e_Ok.run (t' := (122, [(7, (0, z20)), (6, (0, 900 * a + z19)), (0, (1, 275)), (2, (0, x)), (3, (0, y)), (4, (0, y4)), (5, (0, 1))], [(1, 275)], v1)) 1 rfl ?_
                refine e_Ok.getr (z := 332) rfl rfl rfl rfl ((j6 275 69 (by unfold mLv; omega)).trans (e_Has.eq hT rfl)) (by omega) ?_
                refine e_Ok.run (t' := (127, [(7, (0, z20)), (6, (0, 900 * a + z19)), (0, (1, 275)), (2, (0, x)), (3, (0, y)), (4, (0, y4)), (5, (0, 1))], [(0, 900 * a + z19), (1, 332)], v1)) 1 rfl ?_
                have h77 := (e_Has.get hT (c := 332) (k := 900 * a + z19) (lo := (-2147483648)) (hi := 2147483647) rfl (by decide))
                refine e_Ok.ald (z := w 332 (900 * a + z19)) rfl rfl rfl (by omega) ((j6 332 (900 * a + z19) (by unfold mLv; omega)).trans rfl) (by omega) ?_
                refine e_Ok.if1 rfl (fun h78 => ?_) (fun h78 => ?_)
                · replace h78 : (w 332 (900 * a + z19) : Int) < 0 := h78
                  refine e_Ok.run (t' := (163, [(7, (0, z20)), (6, (0, 900 * a + z19)), (0, (1, 275)), (2, (0, x)), (3, (0, y)), (4, (0, y4)), (5, (0, 1))], [(0, 2), (0, z20)], v1)) 2 rfl ?_
                  refine e_Ok.if2 rfl (fun h79 => ?_) (fun h79 => ?_)
                  · replace h79 : (z20 : Int) ≥ 2 := h79
                    exfalso; omega
                  · replace h79 : (z20 : Int) < 2 := by have q : ¬ ((z20 : Int) ≥ 2) := h79; omega
                    refine e_Ok.run (t' := (167, [(7, (0, z20)), (6, (0, 900 * a + z19)), (0, (1, 275)), (2, (0, x)), (3, (0, y)), (4, (0, y4)), (5, (0, 1))], [(1, 275)], v1)) 1 rfl ?_
                    refine e_Ok.getr (z := 333) rfl rfl rfl rfl ((j6 275 70 (by unfold mLv; omega)).trans (e_Has.eq hT rfl)) (by omega) ?_
                    refine e_Ok.run (t' := (172, [(7, (0, z20)), (6, (0, 900 * a + z19)), (0, (1, 275)), (2, (0, x)), (3, (0, y)), (4, (0, y4)), (5, (0, 1))], [(0, 900 * a + z19), (1, 333)], v1)) 1 rfl ?_
                    have h80 := (e_Has.get hT (c := 333) (k := 900 * a + z19) (lo := (-2147483648)) (hi := 2147483647) rfl (by decide))
                    refine e_Ok.ald (z := w 333 (900 * a + z19)) rfl rfl rfl (by omega) ((j6 333 (900 * a + z19) (by unfold mLv; omega)).trans rfl) (by omega) ?_
                    refine e_Ok.if1 rfl (fun h81 => ?_) (fun h81 => ?_)
                    · replace h81 : (w 333 (900 * a + z19) : Int) < 0 := h81
                      refine e_Ok.run (t' := (200, [(7, (0, z20)), (6, (0, 900 * a + z19)), (0, (1, 275)), (2, (0, x)), (3, (0, y)), (4, (0, y4)), (5, (0, 1))], [(1, 275)], v1)) 1 rfl ?_
                      refine e_Ok.getr (z := 276) rfl rfl rfl rfl ((j6 275 0 (by unfold mLv; omega)).trans (e_Has.eq hT rfl)) (by omega) ?_
                      refine e_Ok.run (t' := (204, [(7, (0, z20)), (6, (0, 900 * a + z19)), (0, (1, 275)), (2, (0, x)), (3, (0, y)), (4, (0, y4)), (5, (0, 1))], [(1, 275), (1, 276)], v1)) 1 rfl ?_
                      refine e_Ok.getf (z := 1260 * t + 416) rfl rfl rfl rfl ((j6 275 97 (by unfold mLv; omega)).trans h97) (by omega) ?_
                      refine e_Ok.run (t' := (209, [(7, (0, z20)), (6, (0, 900 * a + z19)), (0, (1, 275)), (2, (0, x)), (3, (0, y)), (4, (0, y4)), (5, (0, 1))], [(0, 13), (0, 1260 * t + 416), (1, 276)], v1)) 1 rfl ?_
                      refine e_Ok.add (z := 1260 * t + 429) rfl (by omega) (by omega) ?_
                      refine e_Ok.run (t' := (211, [(7, (0, z20)), (6, (0, 900 * a + z19)), (0, (1, 275)), (2, (0, x)), (3, (0, y)), (4, (0, y4)), (5, (0, 1))], [(0, 1260 * t + 429), (1, 276), (0, 1260 * t + 429), (1, 276)], v1)) 1 rfl ?_
                      refine e_Ok.ald (z := bs g1 + pi y4) rfl rfl rfl (by omega) hPn1 (by omega) ?_
                      refine e_Ok.run (t' := (215, [(7, (0, z20)), (6, (0, 900 * a + z19)), (0, (1, 275)), (2, (0, x)), (3, (0, y)), (4, (0, y4)), (5, (0, 1))], [(0, 2), (0, z20), (0, bs g1 + pi y4), (0, 1260 * t + 429), (1, 276)], v1)) 2 rfl ?_
                      refine e_Ok.if2 rfl (fun h82 => ?_) (fun h82 => ?_)
                      · replace h82 : (z20 : Int) ≠ 2 := h82
                        refine e_Ok.run (t' := (223, [(7, (0, z20)), (6, (0, 900 * a + z19)), (0, (1, 275)), (2, (0, x)), (3, (0, y)), (4, (0, y4)), (5, (0, 1))], [(0, 0), (0, bs g1 + pi y4), (0, 1260 * t + 429), (1, 276)], v1)) 1 rfl ?_
                        refine e_Ok.sub' (z := bs g1 + pi y4) rfl (by omega) (by omega) ?_
                        refine e_Ok.ast rfl rfl rfl rfl (by omega) ?_
                        generalize hw83 : e_up v1 276 (1260 * t + 429) (bs g1 + pi y4) = w83
                        have f84 : e_fr (mLv t) w w83 := e_fr.up j6 hw83 (by unfold mLv; omega)
                        have hT85 : e_Has mTy w83 := e_Has.upr j7 hw83 (nR_PENDS (t := t) (by omega)) (by omega)
                        refine e_Ok.run (t' := (226, [(7, (0, z20)), (6, (0, 900 * a + z19)), (0, (1, 275)), (2, (0, x)), (3, (0, y)), (4, (0, y4)), (5, (0, 1))], [(1, 275)], w83)) 1 rfl ?_
                        refine e_Ok.getr (z := 331) rfl rfl rfl rfl (by rw [← hw83]; exact (e_up_ne _ _ (Or.inl (by omega))).trans ((j6 275 68 (by unfold mLv; omega)).trans (e_Has.eq hT rfl))) (by omega) ?_
                        refine e_Ok.run (t' := (231, [(7, (0, z20)), (6, (0, 900 * a + z19)), (0, (1, 275)), (2, (0, x)), (3, (0, y)), (4, (0, y4)), (5, (0, 1))], [(0, 900 * a + z19), (1, 331)], w83)) 1 rfl ?_
                        refine e_Ok.ald (z := w 331 (900 * a + z19)) rfl rfl rfl (by omega) (by rw [← hw83]; exact (e_up_ne _ _ (Or.inl (by omega))).trans ((j6 331 (900 * a + z19) (by unfold mLv; omega)).trans rfl)) (by omega) ?_
                        refine e_Ok.run (t' := (11, [(4, (0, w 331 (900 * a + z19))), (7, (0, z20)), (6, (0, 900 * a + z19)), (0, (1, 275)), (2, (0, x)), (3, (0, y)), (5, (0, 1))], [], w83)) 2 rfl ?_
                        refine e_Ok.sub eAlk (e_sub_of rfl ?_) (ih5 (w 331 (900 * a + z19)) w83 g1 ⟨f84, hT85, (runOk.to (w' := w83) (r' := w 331 (900 * a + z19)) hru1 (fun c k q1 q2 => (by rw [← hw83]; exact (e_up_ne _ _ (Or.inl (by omega))).trans rfl)) (fun i q1 q2 => ⟨(by rw [← hw83]; exact (e_up_ne _ _ (Or.inr (by omega))).trans rfl), (by rw [← hw83]; exact (e_up_ne _ _ (Or.inr (by omega))).trans rfl)⟩) (by rw [← hw83]; exact (e_up_ne _ _ (Or.inr (by omega))).trans rfl) (by have q : w83 276 (1260 * t + 429) = bs g1 + pi y4 := (by rw [← hw83]; exact e_up_eq _ _ _ _); omega) (fun k q1 q2 => (by rw [← hw83]; exact (e_up_ne _ _ (Or.inr (by omega))).trans rfl)) (by omega) (by omega) (by omega) (fun q q1 q2 q3 => by have := han2 z20 q (by omega) (by omega) q1; rwa [show 3 * z19 + z20 = y4 by omega] at this)), (Eq.trans (by rw [← hw83]; exact (e_up_ne _ _ (Or.inl (by omega))).trans rfl) j9), (Eq.trans (by rw [← hw83]; exact (e_up_ne _ _ (Or.inl (by omega))).trans rfl) j10), (Eq.trans (by rw [← hw83]; exact (e_up_ne _ _ (Or.inr (by omega))).trans rfl) j11), ⟨by omega, fun _ => by omega⟩, (fun e3 => by have q := hC.2.2.2.2.2.1 y4 y (j13 e3).2 (by omega) (by omega); rw [show y4 / 3 = z19 by omega] at q; exact ⟨(j13 e3).1, q.elim (fun q => by exfalso; omega) (fun q => q.2.2)⟩), by omega, (sRel.up j15 hw83 (fun q b g1 g2 => by omega))⟩ (by omega))
                        exact ⟨rfl, rfl, rfl, rfl, rfl, trivial⟩
                      · replace h82 : (z20 : Int) = 2 := by have q : ¬ ((z20 : Int) ≠ 2) := h82; omega
                        exfalso; omega
                    · replace h81 : (w 333 (900 * a + z19) : Int) ≥ 0 := by have q : ¬ ((w 333 (900 * a + z19) : Int) < 0) := h81; omega
                      have hf1 := hfin.resolve_left (by omega)
                      have hf2 := (hall.2.2.1 (by omega)).resolve_left (by omega)
                      have hp2 := hC.2.2.2.1.2.1 (3 * z19 + 2) (by omega) (by omega)
                      refine e_Ok.run (t' := (179, [(7, (0, z20)), (6, (0, 900 * a + z19)), (0, (1, 275)), (2, (0, x)), (3, (0, y)), (4, (0, y4)), (5, (0, 1))], [(0, y), (0, x), (1, 275)], v1)) 3 rfl ?_
                      refine e_Ok.callV rfl (by omega) rfl rfl rfl rfl (c_370 j7 (by omega) ((j6 275 97 (by unfold mLv; omega)).trans h97) (m := bs g1 + pi y4) (m1 := bs g1 + pi y4 + 1) (z := 1260 * t + 2 * bs g1 + 2 * pi y4 + 476) (z1 := 1260 * t + 2 * bs g1 + 2 * pi y4 + 477) hPn1 (by omega) (by omega) (by omega) (by omega)) (fun r86 w87 h88 => ?_)
                      obtain ⟨rfl, hw87⟩ := h88
                      generalize hw89 : e_up v1 276 (1260 * t + 2 * bs g1 + 2 * pi y4 + 476) x = w89 at hw87
                      have f90 : e_fr (mLv t) w w89 := e_fr.up j6 hw89 (by unfold mLv; omega)
                      have hT91 : e_Has mTy w89 := e_Has.upr j7 hw89 (nR_PEg t (by omega) (by omega)) (by omega)
                      generalize hw92 : e_up w89 276 (1260 * t + 2 * bs g1 + 2 * pi y4 + 477) y = w92 at hw87
                      have f93 : e_fr (mLv t) w w92 := e_fr.up f90 hw92 (by unfold mLv; omega)
                      have hT94 : e_Has mTy w92 := e_Has.upr hT91 hw92 (nR_PEg t (by omega) (by omega)) (by omega)
                      have f95 : e_fr (mLv t) w w87 := e_fr.up f93 hw87 (by unfold mLv; omega)
                      have hT96 : e_Has mTy w87 := e_Has.upr hT94 hw87 (nR_PENDS (t := t) (by omega)) (by omega)
                      show e_Ok 20 elay ecode eI (d + 1) 371 (182, [(7, (0, z20)), (6, (0, 900 * a + z19)), (0, (1, 275)), (2, (0, x)), (3, (0, y)), (4, (0, y4)), (5, (0, 1))], [], w87) _
                      refine e_Ok.run (t' := (184, [(7, (0, z20)), (6, (0, 900 * a + z19)), (0, (1, 275)), (2, (0, x)), (3, (0, y)), (4, (0, y4)), (5, (0, 1))], [(1, 275), (1, 275)], w87)) 2 rfl ?_
                      refine e_Ok.getr (z := 333) rfl rfl rfl rfl (by rw [← hw87]; exact (e_up_ne _ _ (Or.inl (by omega))).trans (by rw [← hw92]; exact (e_up_ne _ _ (Or.inl (by omega))).trans (by rw [← hw89]; exact (e_up_ne _ _ (Or.inl (by omega))).trans ((j6 275 70 (by unfold mLv; omega)).trans (e_Has.eq hT rfl))))) (by omega) ?_
                      refine e_Ok.run (t' := (189, [(7, (0, z20)), (6, (0, 900 * a + z19)), (0, (1, 275)), (2, (0, x)), (3, (0, y)), (4, (0, y4)), (5, (0, 1))], [(0, 900 * a + z19), (1, 333), (1, 275)], w87)) 1 rfl ?_
                      refine e_Ok.ald (z := w 333 (900 * a + z19)) rfl rfl rfl (by omega) (by rw [← hw87]; exact (e_up_ne _ _ (Or.inl (by omega))).trans (by rw [← hw92]; exact (e_up_ne _ _ (Or.inl (by omega))).trans (by rw [← hw89]; exact (e_up_ne _ _ (Or.inl (by omega))).trans ((j6 333 (900 * a + z19) (by unfold mLv; omega)).trans rfl)))) (by omega) ?_
                      refine e_Ok.callV rfl (by omega) rfl rfl rfl rfl (c_365 (by omega) hT96 (by omega) (by rw [← hw87]; exact (e_up_ne _ _ (Or.inl (by omega))).trans (by rw [← hw92]; exact (e_up_ne _ _ (Or.inl (by omega))).trans (by rw [← hw89]; exact (e_up_ne _ _ (Or.inl (by omega))).trans ((j6 275 97 (by unfold mLv; omega)).trans h97)))) (f := g1 + 1) (z := 1260 * t + 2 * g1 + 436) (by rw [← hw87]; exact (e_up_ne _ _ (Or.inr (by omega))).trans (by rw [← hw92]; exact (e_up_ne _ _ (Or.inr (by omega))).trans (by rw [← hw89]; exact (e_up_ne _ _ (Or.inr (by omega))).trans hF1))) (by omega) (by omega)) (fun r97 w98 h99 => ?_)
                      obtain ⟨rfl, hw98⟩ := h99
                      have f100 : e_fr (mLv t) w w98 := e_fr.up f95 hw98 (by unfold mLv; omega)
                      have hT101 : e_Has mTy w98 := e_Has.upr hT96 hw98 (nR_FRg t (g1) (by omega) (by omega) (by omega)) (by omega)
                      show e_Ok 20 elay ecode eI (d + 1) 371 (193, [(7, (0, z20)), (6, (0, 900 * a + z19)), (0, (1, 275)), (2, (0, x)), (3, (0, y)), (4, (0, y4)), (5, (0, 1))], [], w98) _
                      refine e_Ok.run (t' := (11, [(5, (0, 0)), (7, (0, z20)), (6, (0, 900 * a + z19)), (0, (1, 275)), (2, (0, x)), (3, (0, y)), (4, (0, y4))], [], w98)) 4 rfl ?_
                      refine e_Ok.run (t' := (13, [(5, (0, 0)), (7, (0, z20)), (6, (0, 900 * a + z19)), (0, (1, 275)), (2, (0, x)), (3, (0, y)), (4, (0, y4))], [(0, 0)], w98)) 1 rfl ?_
                      refine e_Ok.if1 rfl (fun h102 => ?_) (fun h102 => ?_)
                      · replace h102 : (0 : Int) = 0 := h102
                        refine e_Ok.rets rfl rfl ?_
                        have e103 : w98 276 5 = v1 276 5 := (by rw [← hw98]; exact (e_up_ne _ _ (Or.inr (by omega))).trans (by rw [← hw87]; exact (e_up_ne _ _ (Or.inr (by omega))).trans (by rw [← hw92]; exact (e_up_ne _ _ (Or.inr (by omega))).trans (by rw [← hw89]; exact (e_up_ne _ _ (Or.inr (by omega))).trans rfl))))
                        have hru := runOk.fin (w' := w98) (z := z19) (i := z20) (x := x) (y := y) hC1 hru1 (by omega) (by omega) (by omega) (fun c k q1 q2 => (by rw [← hw98]; exact (e_up_ne _ _ (Or.inl (by omega))).trans (by rw [← hw87]; exact (e_up_ne _ _ (Or.inl (by omega))).trans (by rw [← hw92]; exact (e_up_ne _ _ (Or.inl (by omega))).trans (by rw [← hw89]; exact (e_up_ne _ _ (Or.inl (by omega))).trans rfl))))) (fun i q1 q2 => ⟨(by rw [← hw98]; exact (e_up_ne _ _ (Or.inr (by omega))).trans (by rw [← hw87]; exact (e_up_ne _ _ (Or.inr (by omega))).trans (by rw [← hw92]; exact (e_up_ne _ _ (Or.inr (by omega))).trans (by rw [← hw89]; exact (e_up_ne _ _ (Or.inr (by omega))).trans rfl)))), (by rw [← hw98]; exact (e_up_ne _ _ (Or.inr (by omega))).trans (by rw [← hw87]; exact (e_up_ne _ _ (Or.inr (by omega))).trans (by rw [← hw92]; exact (e_up_ne _ _ (Or.inr (by omega))).trans (by rw [← hw89]; exact (e_up_ne _ _ (Or.inr (by omega))).trans rfl))))⟩) (by rw [← hw98]; exact (e_up_ne _ _ (Or.inr (by omega))).trans (by rw [← hw87]; exact (e_up_ne _ _ (Or.inr (by omega))).trans (by rw [← hw92]; exact (e_up_ne _ _ (Or.inr (by omega))).trans (by rw [← hw89]; exact (e_up_ne _ _ (Or.inr (by omega))).trans rfl)))) (by rw [← hw98]; exact (e_up_ne _ _ (Or.inr (by omega))).trans (by rw [← hw87]; exact e_up_eq _ _ _ _)) (fun k q1 q2 => (by rw [← hw98]; exact (e_up_ne _ _ (Or.inr (by omega))).trans (by rw [← hw87]; exact (e_up_ne _ _ (Or.inr (by omega))).trans (by rw [← hw92]; exact (e_up_ne _ _ (Or.inr (by omega))).trans (by rw [← hw89]; exact (e_up_ne _ _ (Or.inr (by omega))).trans rfl))))) (by rw [show 1260 * t + 2 * (bs g1 + pi y4) + 476 = 1260 * t + 2 * bs g1 + 2 * pi y4 + 476 by omega]; exact (by rw [← hw98]; exact (e_up_ne _ _ (Or.inr (by omega))).trans (by rw [← hw87]; exact (e_up_ne _ _ (Or.inr (by omega))).trans (by rw [← hw92]; exact (e_up_ne _ _ (Or.inr (by omega))).trans (by rw [← hw89]; exact e_up_eq _ _ _ _))))) (by rw [show 1260 * t + 2 * (bs g1 + pi y4) + 477 = 1260 * t + 2 * bs g1 + 2 * pi y4 + 477 by omega]; exact (by rw [← hw98]; exact (e_up_ne _ _ (Or.inr (by omega))).trans (by rw [← hw87]; exact (e_up_ne _ _ (Or.inr (by omega))).trans (by rw [← hw92]; exact e_up_eq _ _ _ _)))) (fun e3 => by have q := hC.2.2.2.2.2.1 y4 y (j13 e3).2 (by omega) (by omega); rw [show y4 / 3 = z19 by omega] at q; have q0 := hy3 e3; refine ⟨q0.1, q0.2.1, ?_⟩; rw [j6 331 _ (by unfold mLv; omega), j6 334 _ (by unfold mLv; omega), j6 336 _ (by unfold mLv; omega)]; exact q.elim (fun q => by exfalso; omega) (fun q => ⟨q.2.2, q.2.1⟩))
                        exact ⟨rfl, ⟨f100, (sRel.up (sRel.up (sRel.up (sRel.up j15 hw89 (fun q b g1 g2 => by omega)) hw92 (fun q b g1 g2 => by omega)) hw87 (fun q b g1 g2 => by omega)) hw98 (fun q b g1 g2 => by omega))⟩, hT101, by omega, (by rw [← hw98]; exact (e_up_ne _ _ (Or.inl (by omega))).trans (by rw [← hw87]; exact (e_up_ne _ _ (Or.inl (by omega))).trans (by rw [← hw92]; exact (e_up_ne _ _ (Or.inl (by omega))).trans (by rw [← hw89]; exact (e_up_ne _ _ (Or.inl (by omega))).trans j9)))), Or.inr ⟨(Eq.trans (by rw [← hw98]; exact (e_up_ne _ _ (Or.inl (by omega))).trans (by rw [← hw87]; exact (e_up_ne _ _ (Or.inl (by omega))).trans (by rw [← hw92]; exact (e_up_ne _ _ (Or.inl (by omega))).trans (by rw [← hw89]; exact (e_up_ne _ _ (Or.inl (by omega))).trans rfl)))) j10), g1, w 333 (900 * a + z19), bs, _, by omega, fun e => by omega, runOk.at hru (by omega) (by rw [← hw98]; exact e_up_eq _ _ _ _) ((show w98 330 (10000 * a + (w 333 (900 * a + z19))) = v1 330 (10000 * a + (w 333 (900 * a + z19))) from (by rw [← hw98]; exact (e_up_ne _ _ (Or.inl (by omega))).trans (by rw [← hw87]; exact (e_up_ne _ _ (Or.inl (by omega))).trans (by rw [← hw92]; exact (e_up_ne _ _ (Or.inl (by omega))).trans (by rw [← hw89]; exact (e_up_ne _ _ (Or.inl (by omega))).trans rfl))))).trans ((j6 330 (10000 * a + (w 333 (900 * a + z19))) (by unfold mLv; omega)).trans (by omega))), by omega, by omega⟩⟩
                      · replace h102 : (0 : Int) ≠ 0 := by have q : ¬ ((0 : Int) = 0) := h102; omega
                        exfalso; omega
                · replace h78 : (w 332 (900 * a + z19) : Int) ≥ 0 := by have q : ¬ ((w 332 (900 * a + z19) : Int) < 0) := h78; omega
                  have hc1 := hcat.resolve_left (by omega)
                  have hc2 := (hall.2.1 (by omega)).resolve_left (by omega)
                  refine e_Ok.run (t' := (132, [(7, (0, z20)), (6, (0, 900 * a + z19)), (0, (1, 275)), (2, (0, x)), (3, (0, y)), (4, (0, y4)), (5, (0, 1))], [(1, 275)], v1)) 1 rfl ?_
                  refine e_Ok.getr (z := 276) rfl rfl rfl rfl ((j6 275 0 (by unfold mLv; omega)).trans (e_Has.eq hT rfl)) (by omega) ?_
                  refine e_Ok.run (t' := (136, [(7, (0, z20)), (6, (0, 900 * a + z19)), (0, (1, 275)), (2, (0, x)), (3, (0, y)), (4, (0, y4)), (5, (0, 1))], [(1, 275), (1, 276)], v1)) 1 rfl ?_
                  refine e_Ok.getf (z := 1260 * t + 416) rfl rfl rfl rfl ((j6 275 97 (by unfold mLv; omega)).trans h97) (by omega) ?_
                  refine e_Ok.run (t' := (140, [(7, (0, z20)), (6, (0, 900 * a + z19)), (0, (1, 275)), (2, (0, x)), (3, (0, y)), (4, (0, y4)), (5, (0, 1))], [(0, 3), (0, 1260 * t + 416), (1, 276)], v1)) 1 rfl ?_
                  refine e_Ok.add (z := 1260 * t + 419) rfl (by omega) (by omega) ?_
                  refine e_Ok.run (t' := (142, [(7, (0, z20)), (6, (0, 900 * a + z19)), (0, (1, 275)), (2, (0, x)), (3, (0, y)), (4, (0, y4)), (5, (0, 1))], [(0, y), (0, 1260 * t + 419), (1, 276)], v1)) 1 rfl ?_
                  refine e_Ok.ast rfl rfl rfl rfl (by omega) ?_
                  generalize hw104 : e_up v1 276 (1260 * t + 419) y = w104
                  have f105 : e_fr (mLv t) w w104 := e_fr.up j6 hw104 (by unfold mLv; omega)
                  have hT106 : e_Has mTy w104 := e_Has.upr j7 hw104 (nR_CAUGHT (t := t) (by omega)) (by omega)
                  refine e_Ok.run (t' := (145, [(7, (0, z20)), (6, (0, 900 * a + z19)), (0, (1, 275)), (2, (0, x)), (3, (0, y)), (4, (0, y4)), (5, (0, 1))], [(1, 275), (1, 275)], w104)) 2 rfl ?_
                  refine e_Ok.getr (z := 332) rfl rfl rfl rfl (by rw [← hw104]; exact (e_up_ne _ _ (Or.inl (by omega))).trans ((j6 275 69 (by unfold mLv; omega)).trans (e_Has.eq hT rfl))) (by omega) ?_
                  refine e_Ok.run (t' := (150, [(7, (0, z20)), (6, (0, 900 * a + z19)), (0, (1, 275)), (2, (0, x)), (3, (0, y)), (4, (0, y4)), (5, (0, 1))], [(0, 900 * a + z19), (1, 332), (1, 275)], w104)) 1 rfl ?_
                  refine e_Ok.ald (z := w 332 (900 * a + z19)) rfl rfl rfl (by omega) (by rw [← hw104]; exact (e_up_ne _ _ (Or.inl (by omega))).trans ((j6 332 (900 * a + z19) (by unfold mLv; omega)).trans rfl)) (by omega) ?_
                  refine e_Ok.callV rfl (by omega) rfl rfl rfl rfl (c_365 (by omega) hT106 (by omega) (by rw [← hw104]; exact (e_up_ne _ _ (Or.inl (by omega))).trans ((j6 275 97 (by unfold mLv; omega)).trans h97)) (f := g1 + 1) (z := 1260 * t + 2 * g1 + 436) (by rw [← hw104]; exact (e_up_ne _ _ (Or.inr (by omega))).trans hF1) (by omega) (by omega)) (fun r107 w108 h109 => ?_)
                  obtain ⟨rfl, hw108⟩ := h109
                  have f110 : e_fr (mLv t) w w108 := e_fr.up f105 hw108 (by unfold mLv; omega)
                  have hT111 : e_Has mTy w108 := e_Has.upr hT106 hw108 (nR_FRg t (g1) (by omega) (by omega) (by omega)) (by omega)
                  show e_Ok 20 elay ecode eI (d + 1) 371 (154, [(7, (0, z20)), (6, (0, 900 * a + z19)), (0, (1, 275)), (2, (0, x)), (3, (0, y)), (4, (0, y4)), (5, (0, 1))], [], w108) _
                  refine e_Ok.run (t' := (11, [(5, (0, 0)), (7, (0, z20)), (6, (0, 900 * a + z19)), (0, (1, 275)), (2, (0, x)), (3, (0, y)), (4, (0, y4))], [], w108)) 4 rfl ?_
                  refine e_Ok.run (t' := (13, [(5, (0, 0)), (7, (0, z20)), (6, (0, 900 * a + z19)), (0, (1, 275)), (2, (0, x)), (3, (0, y)), (4, (0, y4))], [(0, 0)], w108)) 1 rfl ?_
                  refine e_Ok.if1 rfl (fun h112 => ?_) (fun h112 => ?_)
                  · replace h112 : (0 : Int) = 0 := h112
                    refine e_Ok.rets rfl rfl ?_
                    have e113 : w108 276 5 = v1 276 5 := (by rw [← hw108]; exact (e_up_ne _ _ (Or.inr (by omega))).trans (by rw [← hw104]; exact (e_up_ne _ _ (Or.inr (by omega))).trans rfl))
                    have hru := runOk.to (w' := w108) (r' := 3 * z19 + 1) hru1 (fun c k q1 q2 => (by rw [← hw108]; exact (e_up_ne _ _ (Or.inl (by omega))).trans (by rw [← hw104]; exact (e_up_ne _ _ (Or.inl (by omega))).trans rfl))) (fun i q1 q2 => ⟨(by rw [← hw108]; exact (e_up_ne _ _ (Or.inr (by omega))).trans (by rw [← hw104]; exact (e_up_ne _ _ (Or.inr (by omega))).trans rfl)), (by rw [← hw108]; exact (e_up_ne _ _ (Or.inr (by omega))).trans (by rw [← hw104]; exact (e_up_ne _ _ (Or.inr (by omega))).trans rfl))⟩) (by rw [← hw108]; exact (e_up_ne _ _ (Or.inr (by omega))).trans (by rw [← hw104]; exact (e_up_ne _ _ (Or.inr (by omega))).trans rfl)) (by rw [(show w108 276 (1260 * t + 429) = v1 276 (1260 * t + 429) from (by rw [← hw108]; exact (e_up_ne _ _ (Or.inr (by omega))).trans (by rw [← hw104]; exact (e_up_ne _ _ (Or.inr (by omega))).trans rfl))), hPn1]; omega) (fun k q1 q2 => (by rw [← hw108]; exact (e_up_ne _ _ (Or.inr (by omega))).trans (by rw [← hw104]; exact (e_up_ne _ _ (Or.inr (by omega))).trans rfl))) (by omega) (by omega) (by omega) (fun q q1 q2 q3 => (han1 1 q (by omega) (by omega) q1).elim (fun e => by omega) (fun e => by have := han2 0 q (by omega) (by omega) e; rwa [show 3 * z19 + 0 = y4 by omega] at this))
                    exact ⟨rfl, ⟨f110, (sRel.up (sRel.up j15 hw104 (fun q b g1 g2 => by omega)) hw108 (fun q b g1 g2 => by omega))⟩, hT111, by omega, (by rw [← hw108]; exact (e_up_ne _ _ (Or.inl (by omega))).trans (by rw [← hw104]; exact (e_up_ne _ _ (Or.inl (by omega))).trans j9)), Or.inr ⟨(Eq.trans (by rw [← hw108]; exact (e_up_ne _ _ (Or.inl (by omega))).trans (by rw [← hw104]; exact (e_up_ne _ _ (Or.inl (by omega))).trans rfl)) j10), g1, w 332 (900 * a + z19), bs, ow, by omega, fun e => by omega, runOk.at hru (by omega) (by rw [← hw108]; exact e_up_eq _ _ _ _) ((show w108 330 (10000 * a + (w 332 (900 * a + z19))) = v1 330 (10000 * a + (w 332 (900 * a + z19))) from (by rw [← hw108]; exact (e_up_ne _ _ (Or.inl (by omega))).trans (by rw [← hw104]; exact (e_up_ne _ _ (Or.inl (by omega))).trans rfl))).trans ((j6 330 (10000 * a + (w 332 (900 * a + z19))) (by unfold mLv; omega)).trans (by omega))), by omega, by omega⟩⟩
                  · replace h112 : (0 : Int) ≠ 0 := by have q : ¬ ((0 : Int) = 0) := h112; omega
                    exfalso; omega
          · replace h18 : (y4 : Int) < 0 := by have q : ¬ ((y4 : Int) ≥ 0) := h18; omega
            refine e_Ok.run (t' := (69, [(0, (1, 275)), (2, (0, x)), (3, (0, y)), (4, (0, y4)), (5, (0, 1))], [(0, y), (0, x), (1, 275)], v1)) 3 rfl ?_
            refine e_Ok.callV rfl (by omega) rfl rfl rfl rfl (c_372 (by omega) j7 (by omega) (by omega) ((j6 275 96 (by unfold mLv; omega)).trans h96) ((j6 275 97 (by unfold mLv; omega)).trans h97) ((j6 275 98 (by unfold mLv; omega)).trans h98) hC1 (show runOk v1 a t g1 (-1) n nt nw dl sg pi an br bs ow by rw [← show y4 = -1 by omega]; exact hru1) (by omega) (by omega)) (fun r114 w115 h116 => ?_)
            obtain ⟨z117, rfl, ⟨q118, q118S⟩, q118T, q118n, q118d, q118c⟩ := h116
            have f119 : e_fr (mLv t) w w115 := e_fr.trans j6 (e_fr.mono q118 (fun c k q => by exact q))
            obtain ⟨q118a, q118b, q118z, q118r, q118o, q118e⟩ | ⟨q118a, q118b, rfl, q118p, q118t, q118u, q118v, q118o, q118e⟩ | ⟨q118a, rfl, q118o, q118s⟩ := q118c
            · show e_Ok 20 elay ecode eI (d + 1) 371 (72, [(0, (1, 275)), (2, (0, x)), (3, (0, y)), (4, (0, y4)), (5, (0, 1))], [(0, z117)], w115) _
              have q118g := q118r.2.2.2.1
              refine e_Ok.run (t' := (77, [(4, (0, z117)), (0, (1, 275)), (2, (0, x)), (3, (0, y)), (5, (0, 1))], [(0, (-1)), (0, z117)], w115)) 3 rfl ?_
              refine e_Ok.if2 rfl (fun h120 => ?_) (fun h120 => ?_)
              · replace h120 : (z117 : Int) < (-1) := h120
                exfalso; omega
              · replace h120 : (z117 : Int) ≥ (-1) := by have q : ¬ ((z117 : Int) < (-1)) := h120; omega
                refine e_Ok.run (t' := (11, [(5, (0, 1)), (4, (0, z117)), (0, (1, 275)), (2, (0, x)), (3, (0, y))], [], w115)) 4 rfl ?_
                refine e_Ok.sub eAlk (e_sub_of rfl ?_) (ih5 z117 w115 (g1 - 1) ⟨f119, q118T, q118r, (by rw [q118d]; exact j9), (by rw [q118o]; exact j10), (by rw [q118e]; exact j11), ⟨by omega, fun _ => by omega⟩, (fun e3 => by exfalso; omega), by have := q118r.2.2.2.1; omega, (sRel.trans j15 q118S)⟩ (by omega))
                exact ⟨rfl, rfl, rfl, rfl, rfl, trivial⟩
            · show e_Ok 20 elay ecode eI (d + 1) 371 (72, [(0, (1, 275)), (2, (0, x)), (3, (0, y)), (4, (0, y4)), (5, (0, 1))], [(0, (-2))], w115) _
              refine e_Ok.run (t' := (77, [(4, (0, (-2))), (0, (1, 275)), (2, (0, x)), (3, (0, y)), (5, (0, 1))], [(0, (-1)), (0, (-2))], w115)) 3 rfl ?_
              refine e_Ok.if2 rfl (fun h121 => ?_) (fun h121 => ?_)
              · replace h121 : ((-2) : Int) < (-1) := h121
                refine e_Ok.run (t' := (11, [(5, (0, 0)), (4, (0, (-2))), (0, (1, 275)), (2, (0, x)), (3, (0, y))], [], w115)) 3 rfl ?_
                refine e_Ok.run (t' := (13, [(5, (0, 0)), (4, (0, (-2))), (0, (1, 275)), (2, (0, x)), (3, (0, y))], [(0, 0)], w115)) 1 rfl ?_
                refine e_Ok.if1 rfl (fun h122 => ?_) (fun h122 => ?_)
                · replace h122 : (0 : Int) = 0 := h122
                  refine e_Ok.rets rfl rfl ?_
                  have e123 : w115 276 5 = w115 276 5 := rfl
                  exact ⟨rfl, ⟨f119, (sRel.trans j15 q118S)⟩, q118T, by omega, (Eq.trans q118d j9), Or.inr ⟨(by rw [q118o]; exact j10), g1 - 1, q118p, bs, ow, by omega, by omega, q118t, q118u, q118v⟩⟩
                · replace h122 : (0 : Int) ≠ 0 := by have q : ¬ ((0 : Int) = 0) := h122; omega
                  exfalso; omega
              · replace h121 : ((-2) : Int) ≥ (-1) := by have q : ¬ (((-2) : Int) < (-1)) := h121; omega
                exfalso; omega
            · show e_Ok 20 elay ecode eI (d + 1) 371 (72, [(0, (1, 275)), (2, (0, x)), (3, (0, y)), (4, (0, y4)), (5, (0, 1))], [(0, (-2))], w115) _
              refine e_Ok.run (t' := (77, [(4, (0, (-2))), (0, (1, 275)), (2, (0, x)), (3, (0, y)), (5, (0, 1))], [(0, (-1)), (0, (-2))], w115)) 3 rfl ?_
              refine e_Ok.if2 rfl (fun h124 => ?_) (fun h124 => ?_)
              · replace h124 : ((-2) : Int) < (-1) := h124
                refine e_Ok.run (t' := (11, [(5, (0, 0)), (4, (0, (-2))), (0, (1, 275)), (2, (0, x)), (3, (0, y))], [], w115)) 3 rfl ?_
                refine e_Ok.run (t' := (13, [(5, (0, 0)), (4, (0, (-2))), (0, (1, 275)), (2, (0, x)), (3, (0, y))], [(0, 0)], w115)) 1 rfl ?_
                refine e_Ok.if1 rfl (fun h125 => ?_) (fun h125 => ?_)
                · replace h125 : (0 : Int) = 0 := h125
                  refine e_Ok.rets rfl rfl ?_
                  have e126 : w115 276 5 = w115 276 5 := rfl
                  exact ⟨rfl, ⟨f119, (sRel.trans j15 q118S)⟩, q118T, by omega, (Eq.trans q118d j9), Or.inl ⟨q118o, q118s⟩⟩
                · replace h125 : (0 : Int) ≠ 0 := by have q : ¬ ((0 : Int) = 0) := h125; omega
                  exfalso; omega
              · replace h124 : ((-2) : Int) ≥ (-1) := by have q : ¬ (((-2) : Int) < (-1)) := h124; omega
                exfalso; omega
        · replace h17 : (x : Int) = 3 := by have q : ¬ ((x : Int) ≠ 3) := h17; omega
          have hyy := hy3 (by omega)
          refine e_Ok.run (t' := (24, [(0, (1, 275)), (2, (0, x)), (3, (0, y)), (4, (0, y4)), (5, (0, 1))], [(1, 275), (0, y4)], v1)) 2 rfl ?_
          refine e_Ok.getr (z := 335) rfl rfl rfl rfl ((j6 275 72 (by unfold mLv; omega)).trans (e_Has.eq hT rfl)) (by omega) ?_
          refine e_Ok.run (t' := (31, [(0, (1, 275)), (2, (0, x)), (3, (0, y)), (4, (0, y4)), (5, (0, 1))], [(1, 275), (0, 900), (1, 335), (0, y4)], v1)) 2 rfl ?_
          refine e_Ok.getf (z := a) rfl rfl rfl rfl ((j6 275 98 (by unfold mLv; omega)).trans h98) (by omega) ?_
          refine e_Ok.mul (z := 900 * a) rfl (by omega) (by omega) ?_
          refine e_Ok.run (t' := (36, [(0, (1, 275)), (2, (0, x)), (3, (0, y)), (4, (0, y4)), (5, (0, 1))], [(0, y), (0, 900 * a), (1, 335), (0, y4)], v1)) 1 rfl ?_
          refine e_Ok.add (z := 900 * a + y) rfl (by omega) (by omega) ?_
          have h127 := (e_Has.get hT (c := 335) (k := 900 * a + y) (lo := (-2147483648)) (hi := 2147483647) rfl (by decide))
          refine e_Ok.ald (z := w 335 (900 * a + y)) rfl rfl rfl (by omega) ((j6 335 (900 * a + y) (by unfold mLv; omega)).trans rfl) (by omega) ?_
          refine e_Ok.if2 rfl (fun h128 => ?_) (fun h128 => ?_)
          · replace h128 : (y4 : Int) ≠ w 335 (900 * a + y) := h128
            refine e_Ok.run (t' := (63, [(0, (1, 275)), (2, (0, x)), (3, (0, y)), (4, (0, y4)), (5, (0, 1))], [(0, y4)], v1)) 1 rfl ?_
            refine e_Ok.if1 rfl (fun h129 => ?_) (fun h129 => ?_)
            · replace h129 : (y4 : Int) ≥ 0 := h129
              refine e_Ok.run (t' := (94, [(0, (1, 275)), (2, (0, x)), (3, (0, y)), (4, (0, y4)), (5, (0, 1))], [(1, 275), (0, 900)], v1)) 2 rfl ?_
              refine e_Ok.getf (z := a) rfl rfl rfl rfl ((j6 275 98 (by unfold mLv; omega)).trans h98) (by omega) ?_
              refine e_Ok.mul (z := 900 * a) rfl (by omega) (by omega) ?_
              refine e_Ok.run (t' := (101, [(0, (1, 275)), (2, (0, x)), (3, (0, y)), (4, (0, y4)), (5, (0, 1))], [(0, 3), (0, y4), (0, 900 * a)], v1)) 2 rfl ?_
              refine e_Ok.divn (fun z130 hz130 => ?_) rfl (by omega) (by omega)
              replace hz130 : z130 = y4 / 3 := hz130
              have z130r : 0 ≤ z130 ∧ z130 ≤ 899 := by omega
              refine e_Ok.add (z := 900 * a + z130) rfl (by omega) (by omega) ?_
              refine e_Ok.run (t' := (108, [(6, (0, 900 * a + z130)), (0, (1, 275)), (2, (0, x)), (3, (0, y)), (4, (0, y4)), (5, (0, 1))], [(0, 3), (0, y4)], v1)) 3 rfl ?_
              refine e_Ok.remn (fun z131 hz131 => ?_) rfl (by omega) (by omega)
              replace hz131 : z131 = y4 % 3 := hz131
              have z131r : 0 ≤ z131 ∧ z131 ≤ 2 := by omega
              refine e_Ok.run (t' := (111, [(7, (0, z131)), (6, (0, 900 * a + z130)), (0, (1, 275)), (2, (0, x)), (3, (0, y)), (4, (0, y4)), (5, (0, 1))], [], v1)) 1 rfl ?_
              obtain ⟨hti, hpi3, hcat, hfin, hend, han1, han2⟩ := id (hC.2.2.1 z130 (by omega) (by omega))
              have hall := (hC.2.2.1 z130 (by omega) (by omega)).all (y := y4) (k := z131) (by omega) (by omega)
              unfold tgt at hcat hfin hend
              have hpz := hC.2.2.2.1.2.1 (w 331 (900 * a + z130)) (by omega) (by omega)
              refine e_Ok.run (t' := (113, [(7, (0, z131)), (6, (0, 900 * a + z130)), (0, (1, 275)), (2, (0, x)), (3, (0, y)), (4, (0, y4)), (5, (0, 1))], [(0, z131)], v1)) 1 rfl ?_
              refine e_Ok.if1 rfl (fun h132 => ?_) (fun h132 => ?_)
              · replace h132 : (z131 : Int) ≠ 0 := h132
                refine e_Ok.run (t' := (163, [(7, (0, z131)), (6, (0, 900 * a + z130)), (0, (1, 275)), (2, (0, x)), (3, (0, y)), (4, (0, y4)), (5, (0, 1))], [(0, 2), (0, z131)], v1)) 2 rfl ?_
                refine e_Ok.if2 rfl (fun h133 => ?_) (fun h133 => ?_)
                · replace h133 : (z131 : Int) ≥ 2 := h133
                  refine e_Ok.run (t' := (200, [(7, (0, z131)), (6, (0, 900 * a + z130)), (0, (1, 275)), (2, (0, x)), (3, (0, y)), (4, (0, y4)), (5, (0, 1))], [(1, 275)], v1)) 1 rfl ?_
                  refine e_Ok.getr (z := 276) rfl rfl rfl rfl ((j6 275 0 (by unfold mLv; omega)).trans (e_Has.eq hT rfl)) (by omega) ?_
                  refine e_Ok.run (t' := (204, [(7, (0, z131)), (6, (0, 900 * a + z130)), (0, (1, 275)), (2, (0, x)), (3, (0, y)), (4, (0, y4)), (5, (0, 1))], [(1, 275), (1, 276)], v1)) 1 rfl ?_
                  refine e_Ok.getf (z := 1260 * t + 416) rfl rfl rfl rfl ((j6 275 97 (by unfold mLv; omega)).trans h97) (by omega) ?_
                  refine e_Ok.run (t' := (209, [(7, (0, z131)), (6, (0, 900 * a + z130)), (0, (1, 275)), (2, (0, x)), (3, (0, y)), (4, (0, y4)), (5, (0, 1))], [(0, 13), (0, 1260 * t + 416), (1, 276)], v1)) 1 rfl ?_
                  refine e_Ok.add (z := 1260 * t + 429) rfl (by omega) (by omega) ?_
                  refine e_Ok.run (t' := (211, [(7, (0, z131)), (6, (0, 900 * a + z130)), (0, (1, 275)), (2, (0, x)), (3, (0, y)), (4, (0, y4)), (5, (0, 1))], [(0, 1260 * t + 429), (1, 276), (0, 1260 * t + 429), (1, 276)], v1)) 1 rfl ?_
                  refine e_Ok.ald (z := bs g1 + pi y4) rfl rfl rfl (by omega) hPn1 (by omega) ?_
                  refine e_Ok.run (t' := (215, [(7, (0, z131)), (6, (0, 900 * a + z130)), (0, (1, 275)), (2, (0, x)), (3, (0, y)), (4, (0, y4)), (5, (0, 1))], [(0, 2), (0, z131), (0, bs g1 + pi y4), (0, 1260 * t + 429), (1, 276)], v1)) 2 rfl ?_
                  refine e_Ok.if2 rfl (fun h134 => ?_) (fun h134 => ?_)
                  · replace h134 : (z131 : Int) ≠ 2 := h134
                    exfalso; omega
                  · replace h134 : (z131 : Int) = 2 := by have q : ¬ ((z131 : Int) ≠ 2) := h134; omega
                    refine e_Ok.run (t' := (223, [(7, (0, z131)), (6, (0, 900 * a + z130)), (0, (1, 275)), (2, (0, x)), (3, (0, y)), (4, (0, y4)), (5, (0, 1))], [(0, 1), (0, bs g1 + pi y4), (0, 1260 * t + 429), (1, 276)], v1)) 2 rfl ?_
                    refine e_Ok.sub' (z := bs g1 + pi y4 - 1) rfl (by omega) (by omega) ?_
                    refine e_Ok.ast rfl rfl rfl rfl (by omega) ?_
                    generalize hw135 : e_up v1 276 (1260 * t + 429) (bs g1 + pi y4 - 1) = w135
                    have f136 : e_fr (mLv t) w w135 := e_fr.up j6 hw135 (by unfold mLv; omega)
                    have hT137 : e_Has mTy w135 := e_Has.upr j7 hw135 (nR_PENDS (t := t) (by omega)) (by omega)
                    refine e_Ok.run (t' := (226, [(7, (0, z131)), (6, (0, 900 * a + z130)), (0, (1, 275)), (2, (0, x)), (3, (0, y)), (4, (0, y4)), (5, (0, 1))], [(1, 275)], w135)) 1 rfl ?_
                    refine e_Ok.getr (z := 331) rfl rfl rfl rfl (by rw [← hw135]; exact (e_up_ne _ _ (Or.inl (by omega))).trans ((j6 275 68 (by unfold mLv; omega)).trans (e_Has.eq hT rfl))) (by omega) ?_
                    refine e_Ok.run (t' := (231, [(7, (0, z131)), (6, (0, 900 * a + z130)), (0, (1, 275)), (2, (0, x)), (3, (0, y)), (4, (0, y4)), (5, (0, 1))], [(0, 900 * a + z130), (1, 331)], w135)) 1 rfl ?_
                    refine e_Ok.ald (z := w 331 (900 * a + z130)) rfl rfl rfl (by omega) (by rw [← hw135]; exact (e_up_ne _ _ (Or.inl (by omega))).trans ((j6 331 (900 * a + z130) (by unfold mLv; omega)).trans rfl)) (by omega) ?_
                    refine e_Ok.run (t' := (11, [(4, (0, w 331 (900 * a + z130))), (7, (0, z131)), (6, (0, 900 * a + z130)), (0, (1, 275)), (2, (0, x)), (3, (0, y)), (5, (0, 1))], [], w135)) 2 rfl ?_
                    refine e_Ok.sub eAlk (e_sub_of rfl ?_) (ih5 (w 331 (900 * a + z130)) w135 g1 ⟨f136, hT137, (runOk.to (w' := w135) (r' := w 331 (900 * a + z130)) hru1 (fun c k q1 q2 => (by rw [← hw135]; exact (e_up_ne _ _ (Or.inl (by omega))).trans rfl)) (fun i q1 q2 => ⟨(by rw [← hw135]; exact (e_up_ne _ _ (Or.inr (by omega))).trans rfl), (by rw [← hw135]; exact (e_up_ne _ _ (Or.inr (by omega))).trans rfl)⟩) (by rw [← hw135]; exact (e_up_ne _ _ (Or.inr (by omega))).trans rfl) (by have q : w135 276 (1260 * t + 429) = bs g1 + pi y4 - 1 := (by rw [← hw135]; exact e_up_eq _ _ _ _); omega) (fun k q1 q2 => (by rw [← hw135]; exact (e_up_ne _ _ (Or.inr (by omega))).trans rfl)) (by omega) (by omega) (by omega) (fun q q1 q2 q3 => by have := han2 z131 q (by omega) (by omega) q1; rwa [show 3 * z130 + z131 = y4 by omega] at this)), (Eq.trans (by rw [← hw135]; exact (e_up_ne _ _ (Or.inl (by omega))).trans rfl) j9), (Eq.trans (by rw [← hw135]; exact (e_up_ne _ _ (Or.inl (by omega))).trans rfl) j10), (Eq.trans (by rw [← hw135]; exact (e_up_ne _ _ (Or.inr (by omega))).trans rfl) j11), ⟨by omega, fun _ => by omega⟩, (fun e3 => by have q := hC.2.2.2.2.2.1 y4 y (j13 e3).2 (by omega) (by omega); rw [show y4 / 3 = z130 by omega] at q; exact ⟨(j13 e3).1, q.elim (fun q => by exfalso; omega) (fun q => q.2.2)⟩), by omega, (sRel.up j15 hw135 (fun q b g1 g2 => by omega))⟩ (by omega))
                    exact ⟨rfl, rfl, rfl, rfl, rfl, trivial⟩
                · replace h133 : (z131 : Int) < 2 := by have q : ¬ ((z131 : Int) ≥ 2) := h133; omega
                  refine e_Ok.run (t' := (167, [(7, (0, z131)), (6, (0, 900 * a + z130)), (0, (1, 275)), (2, (0, x)), (3, (0, y)), (4, (0, y4)), (5, (0, 1))], [(1, 275)], v1)) 1 rfl ?_
                  refine e_Ok.getr (z := 333) rfl rfl rfl rfl ((j6 275 70 (by unfold mLv; omega)).trans (e_Has.eq hT rfl)) (by omega) ?_
                  refine e_Ok.run (t' := (172, [(7, (0, z131)), (6, (0, 900 * a + z130)), (0, (1, 275)), (2, (0, x)), (3, (0, y)), (4, (0, y4)), (5, (0, 1))], [(0, 900 * a + z130), (1, 333)], v1)) 1 rfl ?_
                  have h138 := (e_Has.get hT (c := 333) (k := 900 * a + z130) (lo := (-2147483648)) (hi := 2147483647) rfl (by decide))
                  refine e_Ok.ald (z := w 333 (900 * a + z130)) rfl rfl rfl (by omega) ((j6 333 (900 * a + z130) (by unfold mLv; omega)).trans rfl) (by omega) ?_
                  refine e_Ok.if1 rfl (fun h139 => ?_) (fun h139 => ?_)
                  · replace h139 : (w 333 (900 * a + z130) : Int) < 0 := h139
                    refine e_Ok.run (t' := (200, [(7, (0, z131)), (6, (0, 900 * a + z130)), (0, (1, 275)), (2, (0, x)), (3, (0, y)), (4, (0, y4)), (5, (0, 1))], [(1, 275)], v1)) 1 rfl ?_
                    refine e_Ok.getr (z := 276) rfl rfl rfl rfl ((j6 275 0 (by unfold mLv; omega)).trans (e_Has.eq hT rfl)) (by omega) ?_
                    refine e_Ok.run (t' := (204, [(7, (0, z131)), (6, (0, 900 * a + z130)), (0, (1, 275)), (2, (0, x)), (3, (0, y)), (4, (0, y4)), (5, (0, 1))], [(1, 275), (1, 276)], v1)) 1 rfl ?_
                    refine e_Ok.getf (z := 1260 * t + 416) rfl rfl rfl rfl ((j6 275 97 (by unfold mLv; omega)).trans h97) (by omega) ?_
                    refine e_Ok.run (t' := (209, [(7, (0, z131)), (6, (0, 900 * a + z130)), (0, (1, 275)), (2, (0, x)), (3, (0, y)), (4, (0, y4)), (5, (0, 1))], [(0, 13), (0, 1260 * t + 416), (1, 276)], v1)) 1 rfl ?_
                    refine e_Ok.add (z := 1260 * t + 429) rfl (by omega) (by omega) ?_
                    refine e_Ok.run (t' := (211, [(7, (0, z131)), (6, (0, 900 * a + z130)), (0, (1, 275)), (2, (0, x)), (3, (0, y)), (4, (0, y4)), (5, (0, 1))], [(0, 1260 * t + 429), (1, 276), (0, 1260 * t + 429), (1, 276)], v1)) 1 rfl ?_
                    refine e_Ok.ald (z := bs g1 + pi y4) rfl rfl rfl (by omega) hPn1 (by omega) ?_
                    refine e_Ok.run (t' := (215, [(7, (0, z131)), (6, (0, 900 * a + z130)), (0, (1, 275)), (2, (0, x)), (3, (0, y)), (4, (0, y4)), (5, (0, 1))], [(0, 2), (0, z131), (0, bs g1 + pi y4), (0, 1260 * t + 429), (1, 276)], v1)) 2 rfl ?_
                    refine e_Ok.if2 rfl (fun h140 => ?_) (fun h140 => ?_)
                    · replace h140 : (z131 : Int) ≠ 2 := h140
                      refine e_Ok.run (t' := (223, [(7, (0, z131)), (6, (0, 900 * a + z130)), (0, (1, 275)), (2, (0, x)), (3, (0, y)), (4, (0, y4)), (5, (0, 1))], [(0, 0), (0, bs g1 + pi y4), (0, 1260 * t + 429), (1, 276)], v1)) 1 rfl ?_
                      refine e_Ok.sub' (z := bs g1 + pi y4) rfl (by omega) (by omega) ?_
                      refine e_Ok.ast rfl rfl rfl rfl (by omega) ?_
                      generalize hw141 : e_up v1 276 (1260 * t + 429) (bs g1 + pi y4) = w141
                      have f142 : e_fr (mLv t) w w141 := e_fr.up j6 hw141 (by unfold mLv; omega)
                      have hT143 : e_Has mTy w141 := e_Has.upr j7 hw141 (nR_PENDS (t := t) (by omega)) (by omega)
                      refine e_Ok.run (t' := (226, [(7, (0, z131)), (6, (0, 900 * a + z130)), (0, (1, 275)), (2, (0, x)), (3, (0, y)), (4, (0, y4)), (5, (0, 1))], [(1, 275)], w141)) 1 rfl ?_
                      refine e_Ok.getr (z := 331) rfl rfl rfl rfl (by rw [← hw141]; exact (e_up_ne _ _ (Or.inl (by omega))).trans ((j6 275 68 (by unfold mLv; omega)).trans (e_Has.eq hT rfl))) (by omega) ?_
                      refine e_Ok.run (t' := (231, [(7, (0, z131)), (6, (0, 900 * a + z130)), (0, (1, 275)), (2, (0, x)), (3, (0, y)), (4, (0, y4)), (5, (0, 1))], [(0, 900 * a + z130), (1, 331)], w141)) 1 rfl ?_
                      refine e_Ok.ald (z := w 331 (900 * a + z130)) rfl rfl rfl (by omega) (by rw [← hw141]; exact (e_up_ne _ _ (Or.inl (by omega))).trans ((j6 331 (900 * a + z130) (by unfold mLv; omega)).trans rfl)) (by omega) ?_
                      refine e_Ok.run (t' := (11, [(4, (0, w 331 (900 * a + z130))), (7, (0, z131)), (6, (0, 900 * a + z130)), (0, (1, 275)), (2, (0, x)), (3, (0, y)), (5, (0, 1))], [], w141)) 2 rfl ?_
                      refine e_Ok.sub eAlk (e_sub_of rfl ?_) (ih5 (w 331 (900 * a + z130)) w141 g1 ⟨f142, hT143, (runOk.to (w' := w141) (r' := w 331 (900 * a + z130)) hru1 (fun c k q1 q2 => (by rw [← hw141]; exact (e_up_ne _ _ (Or.inl (by omega))).trans rfl)) (fun i q1 q2 => ⟨(by rw [← hw141]; exact (e_up_ne _ _ (Or.inr (by omega))).trans rfl), (by rw [← hw141]; exact (e_up_ne _ _ (Or.inr (by omega))).trans rfl)⟩) (by rw [← hw141]; exact (e_up_ne _ _ (Or.inr (by omega))).trans rfl) (by have q : w141 276 (1260 * t + 429) = bs g1 + pi y4 := (by rw [← hw141]; exact e_up_eq _ _ _ _); omega) (fun k q1 q2 => (by rw [← hw141]; exact (e_up_ne _ _ (Or.inr (by omega))).trans rfl)) (by omega) (by omega) (by omega) (fun q q1 q2 q3 => by have := han2 z131 q (by omega) (by omega) q1; rwa [show 3 * z130 + z131 = y4 by omega] at this)), (Eq.trans (by rw [← hw141]; exact (e_up_ne _ _ (Or.inl (by omega))).trans rfl) j9), (Eq.trans (by rw [← hw141]; exact (e_up_ne _ _ (Or.inl (by omega))).trans rfl) j10), (Eq.trans (by rw [← hw141]; exact (e_up_ne _ _ (Or.inr (by omega))).trans rfl) j11), ⟨by omega, fun _ => by omega⟩, (fun e3 => by have q := hC.2.2.2.2.2.1 y4 y (j13 e3).2 (by omega) (by omega); rw [show y4 / 3 = z130 by omega] at q; exact ⟨(j13 e3).1, q.elim (fun q => by exfalso; omega) (fun q => q.2.2)⟩), by omega, (sRel.up j15 hw141 (fun q b g1 g2 => by omega))⟩ (by omega))
                      exact ⟨rfl, rfl, rfl, rfl, rfl, trivial⟩
                    · replace h140 : (z131 : Int) = 2 := by have q : ¬ ((z131 : Int) ≠ 2) := h140; omega
                      exfalso; omega
                  · replace h139 : (w 333 (900 * a + z130) : Int) ≥ 0 := by have q : ¬ ((w 333 (900 * a + z130) : Int) < 0) := h139; omega
                    have hf1 := hfin.resolve_left (by omega)
                    have hf2 := (hall.2.2.1 (by omega)).resolve_left (by omega)
                    have hp2 := hC.2.2.2.1.2.1 (3 * z130 + 2) (by omega) (by omega)
                    refine e_Ok.run (t' := (179, [(7, (0, z131)), (6, (0, 900 * a + z130)), (0, (1, 275)), (2, (0, x)), (3, (0, y)), (4, (0, y4)), (5, (0, 1))], [(0, y), (0, x), (1, 275)], v1)) 3 rfl ?_
                    refine e_Ok.callV rfl (by omega) rfl rfl rfl rfl (c_370 j7 (by omega) ((j6 275 97 (by unfold mLv; omega)).trans h97) (m := bs g1 + pi y4) (m1 := bs g1 + pi y4 + 1) (z := 1260 * t + 2 * bs g1 + 2 * pi y4 + 476) (z1 := 1260 * t + 2 * bs g1 + 2 * pi y4 + 477) hPn1 (by omega) (by omega) (by omega) (by omega)) (fun r144 w145 h146 => ?_)
                    obtain ⟨rfl, hw145⟩ := h146
                    generalize hw147 : e_up v1 276 (1260 * t + 2 * bs g1 + 2 * pi y4 + 476) x = w147 at hw145
                    have f148 : e_fr (mLv t) w w147 := e_fr.up j6 hw147 (by unfold mLv; omega)
                    have hT149 : e_Has mTy w147 := e_Has.upr j7 hw147 (nR_PEg t (by omega) (by omega)) (by omega)
                    generalize hw150 : e_up w147 276 (1260 * t + 2 * bs g1 + 2 * pi y4 + 477) y = w150 at hw145
                    have f151 : e_fr (mLv t) w w150 := e_fr.up f148 hw150 (by unfold mLv; omega)
                    have hT152 : e_Has mTy w150 := e_Has.upr hT149 hw150 (nR_PEg t (by omega) (by omega)) (by omega)
                    have f153 : e_fr (mLv t) w w145 := e_fr.up f151 hw145 (by unfold mLv; omega)
                    have hT154 : e_Has mTy w145 := e_Has.upr hT152 hw145 (nR_PENDS (t := t) (by omega)) (by omega)
                    show e_Ok 20 elay ecode eI (d + 1) 371 (182, [(7, (0, z131)), (6, (0, 900 * a + z130)), (0, (1, 275)), (2, (0, x)), (3, (0, y)), (4, (0, y4)), (5, (0, 1))], [], w145) _
                    refine e_Ok.run (t' := (184, [(7, (0, z131)), (6, (0, 900 * a + z130)), (0, (1, 275)), (2, (0, x)), (3, (0, y)), (4, (0, y4)), (5, (0, 1))], [(1, 275), (1, 275)], w145)) 2 rfl ?_
                    refine e_Ok.getr (z := 333) rfl rfl rfl rfl (by rw [← hw145]; exact (e_up_ne _ _ (Or.inl (by omega))).trans (by rw [← hw150]; exact (e_up_ne _ _ (Or.inl (by omega))).trans (by rw [← hw147]; exact (e_up_ne _ _ (Or.inl (by omega))).trans ((j6 275 70 (by unfold mLv; omega)).trans (e_Has.eq hT rfl))))) (by omega) ?_
                    refine e_Ok.run (t' := (189, [(7, (0, z131)), (6, (0, 900 * a + z130)), (0, (1, 275)), (2, (0, x)), (3, (0, y)), (4, (0, y4)), (5, (0, 1))], [(0, 900 * a + z130), (1, 333), (1, 275)], w145)) 1 rfl ?_
                    refine e_Ok.ald (z := w 333 (900 * a + z130)) rfl rfl rfl (by omega) (by rw [← hw145]; exact (e_up_ne _ _ (Or.inl (by omega))).trans (by rw [← hw150]; exact (e_up_ne _ _ (Or.inl (by omega))).trans (by rw [← hw147]; exact (e_up_ne _ _ (Or.inl (by omega))).trans ((j6 333 (900 * a + z130) (by unfold mLv; omega)).trans rfl)))) (by omega) ?_
                    refine e_Ok.callV rfl (by omega) rfl rfl rfl rfl (c_365 (by omega) hT154 (by omega) (by rw [← hw145]; exact (e_up_ne _ _ (Or.inl (by omega))).trans (by rw [← hw150]; exact (e_up_ne _ _ (Or.inl (by omega))).trans (by rw [← hw147]; exact (e_up_ne _ _ (Or.inl (by omega))).trans ((j6 275 97 (by unfold mLv; omega)).trans h97)))) (f := g1 + 1) (z := 1260 * t + 2 * g1 + 436) (by rw [← hw145]; exact (e_up_ne _ _ (Or.inr (by omega))).trans (by rw [← hw150]; exact (e_up_ne _ _ (Or.inr (by omega))).trans (by rw [← hw147]; exact (e_up_ne _ _ (Or.inr (by omega))).trans hF1))) (by omega) (by omega)) (fun r155 w156 h157 => ?_)
                    obtain ⟨rfl, hw156⟩ := h157
                    have f158 : e_fr (mLv t) w w156 := e_fr.up f153 hw156 (by unfold mLv; omega)
                    have hT159 : e_Has mTy w156 := e_Has.upr hT154 hw156 (nR_FRg t (g1) (by omega) (by omega) (by omega)) (by omega)
                    show e_Ok 20 elay ecode eI (d + 1) 371 (193, [(7, (0, z131)), (6, (0, 900 * a + z130)), (0, (1, 275)), (2, (0, x)), (3, (0, y)), (4, (0, y4)), (5, (0, 1))], [], w156) _
                    refine e_Ok.run (t' := (11, [(5, (0, 0)), (7, (0, z131)), (6, (0, 900 * a + z130)), (0, (1, 275)), (2, (0, x)), (3, (0, y)), (4, (0, y4))], [], w156)) 4 rfl ?_
                    refine e_Ok.run (t' := (13, [(5, (0, 0)), (7, (0, z131)), (6, (0, 900 * a + z130)), (0, (1, 275)), (2, (0, x)), (3, (0, y)), (4, (0, y4))], [(0, 0)], w156)) 1 rfl ?_
                    refine e_Ok.if1 rfl (fun h160 => ?_) (fun h160 => ?_)
                    · replace h160 : (0 : Int) = 0 := h160
                      refine e_Ok.rets rfl rfl ?_
                      have e161 : w156 276 5 = v1 276 5 := (by rw [← hw156]; exact (e_up_ne _ _ (Or.inr (by omega))).trans (by rw [← hw145]; exact (e_up_ne _ _ (Or.inr (by omega))).trans (by rw [← hw150]; exact (e_up_ne _ _ (Or.inr (by omega))).trans (by rw [← hw147]; exact (e_up_ne _ _ (Or.inr (by omega))).trans rfl))))
                      have hru := runOk.fin (w' := w156) (z := z130) (i := z131) (x := x) (y := y) hC1 hru1 (by omega) (by omega) (by omega) (fun c k q1 q2 => (by rw [← hw156]; exact (e_up_ne _ _ (Or.inl (by omega))).trans (by rw [← hw145]; exact (e_up_ne _ _ (Or.inl (by omega))).trans (by rw [← hw150]; exact (e_up_ne _ _ (Or.inl (by omega))).trans (by rw [← hw147]; exact (e_up_ne _ _ (Or.inl (by omega))).trans rfl))))) (fun i q1 q2 => ⟨(by rw [← hw156]; exact (e_up_ne _ _ (Or.inr (by omega))).trans (by rw [← hw145]; exact (e_up_ne _ _ (Or.inr (by omega))).trans (by rw [← hw150]; exact (e_up_ne _ _ (Or.inr (by omega))).trans (by rw [← hw147]; exact (e_up_ne _ _ (Or.inr (by omega))).trans rfl)))), (by rw [← hw156]; exact (e_up_ne _ _ (Or.inr (by omega))).trans (by rw [← hw145]; exact (e_up_ne _ _ (Or.inr (by omega))).trans (by rw [← hw150]; exact (e_up_ne _ _ (Or.inr (by omega))).trans (by rw [← hw147]; exact (e_up_ne _ _ (Or.inr (by omega))).trans rfl))))⟩) (by rw [← hw156]; exact (e_up_ne _ _ (Or.inr (by omega))).trans (by rw [← hw145]; exact (e_up_ne _ _ (Or.inr (by omega))).trans (by rw [← hw150]; exact (e_up_ne _ _ (Or.inr (by omega))).trans (by rw [← hw147]; exact (e_up_ne _ _ (Or.inr (by omega))).trans rfl)))) (by rw [← hw156]; exact (e_up_ne _ _ (Or.inr (by omega))).trans (by rw [← hw145]; exact e_up_eq _ _ _ _)) (fun k q1 q2 => (by rw [← hw156]; exact (e_up_ne _ _ (Or.inr (by omega))).trans (by rw [← hw145]; exact (e_up_ne _ _ (Or.inr (by omega))).trans (by rw [← hw150]; exact (e_up_ne _ _ (Or.inr (by omega))).trans (by rw [← hw147]; exact (e_up_ne _ _ (Or.inr (by omega))).trans rfl))))) (by rw [show 1260 * t + 2 * (bs g1 + pi y4) + 476 = 1260 * t + 2 * bs g1 + 2 * pi y4 + 476 by omega]; exact (by rw [← hw156]; exact (e_up_ne _ _ (Or.inr (by omega))).trans (by rw [← hw145]; exact (e_up_ne _ _ (Or.inr (by omega))).trans (by rw [← hw150]; exact (e_up_ne _ _ (Or.inr (by omega))).trans (by rw [← hw147]; exact e_up_eq _ _ _ _))))) (by rw [show 1260 * t + 2 * (bs g1 + pi y4) + 477 = 1260 * t + 2 * bs g1 + 2 * pi y4 + 477 by omega]; exact (by rw [← hw156]; exact (e_up_ne _ _ (Or.inr (by omega))).trans (by rw [← hw145]; exact (e_up_ne _ _ (Or.inr (by omega))).trans (by rw [← hw150]; exact e_up_eq _ _ _ _)))) (fun e3 => by have q := hC.2.2.2.2.2.1 y4 y (j13 e3).2 (by omega) (by omega); rw [show y4 / 3 = z130 by omega] at q; have q0 := hy3 e3; refine ⟨q0.1, q0.2.1, ?_⟩; rw [j6 331 _ (by unfold mLv; omega), j6 334 _ (by unfold mLv; omega), j6 336 _ (by unfold mLv; omega)]; exact q.elim (fun q => by exfalso; omega) (fun q => ⟨q.2.2, q.2.1⟩))
                      exact ⟨rfl, ⟨f158, (sRel.up (sRel.up (sRel.up (sRel.up j15 hw147 (fun q b g1 g2 => by omega)) hw150 (fun q b g1 g2 => by omega)) hw145 (fun q b g1 g2 => by omega)) hw156 (fun q b g1 g2 => by omega))⟩, hT159, by omega, (by rw [← hw156]; exact (e_up_ne _ _ (Or.inl (by omega))).trans (by rw [← hw145]; exact (e_up_ne _ _ (Or.inl (by omega))).trans (by rw [← hw150]; exact (e_up_ne _ _ (Or.inl (by omega))).trans (by rw [← hw147]; exact (e_up_ne _ _ (Or.inl (by omega))).trans j9)))), Or.inr ⟨(Eq.trans (by rw [← hw156]; exact (e_up_ne _ _ (Or.inl (by omega))).trans (by rw [← hw145]; exact (e_up_ne _ _ (Or.inl (by omega))).trans (by rw [← hw150]; exact (e_up_ne _ _ (Or.inl (by omega))).trans (by rw [← hw147]; exact (e_up_ne _ _ (Or.inl (by omega))).trans rfl)))) j10), g1, w 333 (900 * a + z130), bs, _, by omega, fun e => by omega, runOk.at hru (by omega) (by rw [← hw156]; exact e_up_eq _ _ _ _) ((show w156 330 (10000 * a + (w 333 (900 * a + z130))) = v1 330 (10000 * a + (w 333 (900 * a + z130))) from (by rw [← hw156]; exact (e_up_ne _ _ (Or.inl (by omega))).trans (by rw [← hw145]; exact (e_up_ne _ _ (Or.inl (by omega))).trans (by rw [← hw150]; exact (e_up_ne _ _ (Or.inl (by omega))).trans (by rw [← hw147]; exact (e_up_ne _ _ (Or.inl (by omega))).trans rfl))))).trans ((j6 330 (10000 * a + (w 333 (900 * a + z130))) (by unfold mLv; omega)).trans (by omega))), by omega, by omega⟩⟩
                    · replace h160 : (0 : Int) ≠ 0 := by have q : ¬ ((0 : Int) = 0) := h160; omega
                      exfalso; omega
              · replace h132 : (z131 : Int) = 0 := by have q : ¬ ((z131 : Int) ≠ 0) := h132; omega
                refine e_Ok.run (t' := (118, [(7, (0, z131)), (6, (0, 900 * a + z130)), (0, (1, 275)), (2, (0, x)), (3, (0, y)), (4, (0, y4)), (5, (0, 1))], [(0, 1), (0, x)], v1)) 2 rfl ?_
                refine e_Ok.if2 rfl (fun h162 => ?_) (fun h162 => ?_)
                · replace h162 : (x : Int) ≠ 1 := h162
                  refine e_Ok.run (t' := (163, [(7, (0, z131)), (6, (0, 900 * a + z130)), (0, (1, 275)), (2, (0, x)), (3, (0, y)), (4, (0, y4)), (5, (0, 1))], [(0, 2), (0, z131)], v1)) 2 rfl ?_
                  refine e_Ok.if2 rfl (fun h163 => ?_) (fun h163 => ?_)
                  · replace h163 : (z131 : Int) ≥ 2 := h163
                    exfalso; omega
                  · replace h163 : (z131 : Int) < 2 := by have q : ¬ ((z131 : Int) ≥ 2) := h163; omega
                    refine e_Ok.run (t' := (167, [(7, (0, z131)), (6, (0, 900 * a + z130)), (0, (1, 275)), (2, (0, x)), (3, (0, y)), (4, (0, y4)), (5, (0, 1))], [(1, 275)], v1)) 1 rfl ?_
                    refine e_Ok.getr (z := 333) rfl rfl rfl rfl ((j6 275 70 (by unfold mLv; omega)).trans (e_Has.eq hT rfl)) (by omega) ?_
                    refine e_Ok.run (t' := (172, [(7, (0, z131)), (6, (0, 900 * a + z130)), (0, (1, 275)), (2, (0, x)), (3, (0, y)), (4, (0, y4)), (5, (0, 1))], [(0, 900 * a + z130), (1, 333)], v1)) 1 rfl ?_
                    have h164 := (e_Has.get hT (c := 333) (k := 900 * a + z130) (lo := (-2147483648)) (hi := 2147483647) rfl (by decide))
                    refine e_Ok.ald (z := w 333 (900 * a + z130)) rfl rfl rfl (by omega) ((j6 333 (900 * a + z130) (by unfold mLv; omega)).trans rfl) (by omega) ?_
                    refine e_Ok.if1 rfl (fun h165 => ?_) (fun h165 => ?_)
                    · replace h165 : (w 333 (900 * a + z130) : Int) < 0 := h165
                      refine e_Ok.run (t' := (200, [(7, (0, z131)), (6, (0, 900 * a + z130)), (0, (1, 275)), (2, (0, x)), (3, (0, y)), (4, (0, y4)), (5, (0, 1))], [(1, 275)], v1)) 1 rfl ?_
                      refine e_Ok.getr (z := 276) rfl rfl rfl rfl ((j6 275 0 (by unfold mLv; omega)).trans (e_Has.eq hT rfl)) (by omega) ?_
                      refine e_Ok.run (t' := (204, [(7, (0, z131)), (6, (0, 900 * a + z130)), (0, (1, 275)), (2, (0, x)), (3, (0, y)), (4, (0, y4)), (5, (0, 1))], [(1, 275), (1, 276)], v1)) 1 rfl ?_
                      refine e_Ok.getf (z := 1260 * t + 416) rfl rfl rfl rfl ((j6 275 97 (by unfold mLv; omega)).trans h97) (by omega) ?_
                      refine e_Ok.run (t' := (209, [(7, (0, z131)), (6, (0, 900 * a + z130)), (0, (1, 275)), (2, (0, x)), (3, (0, y)), (4, (0, y4)), (5, (0, 1))], [(0, 13), (0, 1260 * t + 416), (1, 276)], v1)) 1 rfl ?_
                      refine e_Ok.add (z := 1260 * t + 429) rfl (by omega) (by omega) ?_
                      refine e_Ok.run (t' := (211, [(7, (0, z131)), (6, (0, 900 * a + z130)), (0, (1, 275)), (2, (0, x)), (3, (0, y)), (4, (0, y4)), (5, (0, 1))], [(0, 1260 * t + 429), (1, 276), (0, 1260 * t + 429), (1, 276)], v1)) 1 rfl ?_
                      refine e_Ok.ald (z := bs g1 + pi y4) rfl rfl rfl (by omega) hPn1 (by omega) ?_
                      refine e_Ok.run (t' := (215, [(7, (0, z131)), (6, (0, 900 * a + z130)), (0, (1, 275)), (2, (0, x)), (3, (0, y)), (4, (0, y4)), (5, (0, 1))], [(0, 2), (0, z131), (0, bs g1 + pi y4), (0, 1260 * t + 429), (1, 276)], v1)) 2 rfl ?_
                      refine e_Ok.if2 rfl (fun h166 => ?_) (fun h166 => ?_)
                      · replace h166 : (z131 : Int) ≠ 2 := h166
                        refine e_Ok.run (t' := (223, [(7, (0, z131)), (6, (0, 900 * a + z130)), (0, (1, 275)), (2, (0, x)), (3, (0, y)), (4, (0, y4)), (5, (0, 1))], [(0, 0), (0, bs g1 + pi y4), (0, 1260 * t + 429), (1, 276)], v1)) 1 rfl ?_
                        refine e_Ok.sub' (z := bs g1 + pi y4) rfl (by omega) (by omega) ?_
                        refine e_Ok.ast rfl rfl rfl rfl (by omega) ?_
                        generalize hw167 : e_up v1 276 (1260 * t + 429) (bs g1 + pi y4) = w167
                        have f168 : e_fr (mLv t) w w167 := e_fr.up j6 hw167 (by unfold mLv; omega)
                        have hT169 : e_Has mTy w167 := e_Has.upr j7 hw167 (nR_PENDS (t := t) (by omega)) (by omega)
                        refine e_Ok.run (t' := (226, [(7, (0, z131)), (6, (0, 900 * a + z130)), (0, (1, 275)), (2, (0, x)), (3, (0, y)), (4, (0, y4)), (5, (0, 1))], [(1, 275)], w167)) 1 rfl ?_
                        refine e_Ok.getr (z := 331) rfl rfl rfl rfl (by rw [← hw167]; exact (e_up_ne _ _ (Or.inl (by omega))).trans ((j6 275 68 (by unfold mLv; omega)).trans (e_Has.eq hT rfl))) (by omega) ?_
                        refine e_Ok.run (t' := (231, [(7, (0, z131)), (6, (0, 900 * a + z130)), (0, (1, 275)), (2, (0, x)), (3, (0, y)), (4, (0, y4)), (5, (0, 1))], [(0, 900 * a + z130), (1, 331)], w167)) 1 rfl ?_
                        refine e_Ok.ald (z := w 331 (900 * a + z130)) rfl rfl rfl (by omega) (by rw [← hw167]; exact (e_up_ne _ _ (Or.inl (by omega))).trans ((j6 331 (900 * a + z130) (by unfold mLv; omega)).trans rfl)) (by omega) ?_
                        refine e_Ok.run (t' := (11, [(4, (0, w 331 (900 * a + z130))), (7, (0, z131)), (6, (0, 900 * a + z130)), (0, (1, 275)), (2, (0, x)), (3, (0, y)), (5, (0, 1))], [], w167)) 2 rfl ?_
                        refine e_Ok.sub eAlk (e_sub_of rfl ?_) (ih5 (w 331 (900 * a + z130)) w167 g1 ⟨f168, hT169, (runOk.to (w' := w167) (r' := w 331 (900 * a + z130)) hru1 (fun c k q1 q2 => (by rw [← hw167]; exact (e_up_ne _ _ (Or.inl (by omega))).trans rfl)) (fun i q1 q2 => ⟨(by rw [← hw167]; exact (e_up_ne _ _ (Or.inr (by omega))).trans rfl), (by rw [← hw167]; exact (e_up_ne _ _ (Or.inr (by omega))).trans rfl)⟩) (by rw [← hw167]; exact (e_up_ne _ _ (Or.inr (by omega))).trans rfl) (by have q : w167 276 (1260 * t + 429) = bs g1 + pi y4 := (by rw [← hw167]; exact e_up_eq _ _ _ _); omega) (fun k q1 q2 => (by rw [← hw167]; exact (e_up_ne _ _ (Or.inr (by omega))).trans rfl)) (by omega) (by omega) (by omega) (fun q q1 q2 q3 => by have := han2 z131 q (by omega) (by omega) q1; rwa [show 3 * z130 + z131 = y4 by omega] at this)), (Eq.trans (by rw [← hw167]; exact (e_up_ne _ _ (Or.inl (by omega))).trans rfl) j9), (Eq.trans (by rw [← hw167]; exact (e_up_ne _ _ (Or.inl (by omega))).trans rfl) j10), (Eq.trans (by rw [← hw167]; exact (e_up_ne _ _ (Or.inr (by omega))).trans rfl) j11), ⟨by omega, fun _ => by omega⟩, (fun e3 => by have q := hC.2.2.2.2.2.1 y4 y (j13 e3).2 (by omega) (by omega); rw [show y4 / 3 = z130 by omega] at q; exact ⟨(j13 e3).1, q.elim (fun q => by exfalso; omega) (fun q => q.2.2)⟩), by omega, (sRel.up j15 hw167 (fun q b g1 g2 => by omega))⟩ (by omega))
                        exact ⟨rfl, rfl, rfl, rfl, rfl, trivial⟩
                      · replace h166 : (z131 : Int) = 2 := by have q : ¬ ((z131 : Int) ≠ 2) := h166; omega
                        exfalso; omega
                    · replace h165 : (w 333 (900 * a + z130) : Int) ≥ 0 := by have q : ¬ ((w 333 (900 * a + z130) : Int) < 0) := h165; omega
                      have hf1 := hfin.resolve_left (by omega)
                      have hf2 := (hall.2.2.1 (by omega)).resolve_left (by omega)
                      have hp2 := hC.2.2.2.1.2.1 (3 * z130 + 2) (by omega) (by omega)
                      refine e_Ok.run (t' := (179, [(7, (0, z131)), (6, (0, 900 * a + z130)), (0, (1, 275)), (2, (0, x)), (3, (0, y)), (4, (0, y4)), (5, (0, 1))], [(0, y), (0, x), (1, 275)], v1)) 3 rfl ?_
                      refine e_Ok.callV rfl (by omega) rfl rfl rfl rfl (c_370 j7 (by omega) ((j6 275 97 (by unfold mLv; omega)).trans h97) (m := bs g1 + pi y4) (m1 := bs g1 + pi y4 + 1) (z := 1260 * t + 2 * bs g1 + 2 * pi y4 + 476) (z1 := 1260 * t + 2 * bs g1 + 2 * pi y4 + 477) hPn1 (by omega) (by omega) (by omega) (by omega)) (fun r170 w171 h172 => ?_)
                      obtain ⟨rfl, hw171⟩ := h172
                      generalize hw173 : e_up v1 276 (1260 * t + 2 * bs g1 + 2 * pi y4 + 476) x = w173 at hw171
                      have f174 : e_fr (mLv t) w w173 := e_fr.up j6 hw173 (by unfold mLv; omega)
                      have hT175 : e_Has mTy w173 := e_Has.upr j7 hw173 (nR_PEg t (by omega) (by omega)) (by omega)
                      generalize hw176 : e_up w173 276 (1260 * t + 2 * bs g1 + 2 * pi y4 + 477) y = w176 at hw171
                      have f177 : e_fr (mLv t) w w176 := e_fr.up f174 hw176 (by unfold mLv; omega)
                      have hT178 : e_Has mTy w176 := e_Has.upr hT175 hw176 (nR_PEg t (by omega) (by omega)) (by omega)
                      have f179 : e_fr (mLv t) w w171 := e_fr.up f177 hw171 (by unfold mLv; omega)
                      have hT180 : e_Has mTy w171 := e_Has.upr hT178 hw171 (nR_PENDS (t := t) (by omega)) (by omega)
                      show e_Ok 20 elay ecode eI (d + 1) 371 (182, [(7, (0, z131)), (6, (0, 900 * a + z130)), (0, (1, 275)), (2, (0, x)), (3, (0, y)), (4, (0, y4)), (5, (0, 1))], [], w171) _
                      refine e_Ok.run (t' := (184, [(7, (0, z131)), (6, (0, 900 * a + z130)), (0, (1, 275)), (2, (0, x)), (3, (0, y)), (4, (0, y4)), (5, (0, 1))], [(1, 275), (1, 275)], w171)) 2 rfl ?_
                      refine e_Ok.getr (z := 333) rfl rfl rfl rfl (by rw [← hw171]; exact (e_up_ne _ _ (Or.inl (by omega))).trans (by rw [← hw176]; exact (e_up_ne _ _ (Or.inl (by omega))).trans (by rw [← hw173]; exact (e_up_ne _ _ (Or.inl (by omega))).trans ((j6 275 70 (by unfold mLv; omega)).trans (e_Has.eq hT rfl))))) (by omega) ?_
                      refine e_Ok.run (t' := (189, [(7, (0, z131)), (6, (0, 900 * a + z130)), (0, (1, 275)), (2, (0, x)), (3, (0, y)), (4, (0, y4)), (5, (0, 1))], [(0, 900 * a + z130), (1, 333), (1, 275)], w171)) 1 rfl ?_
                      refine e_Ok.ald (z := w 333 (900 * a + z130)) rfl rfl rfl (by omega) (by rw [← hw171]; exact (e_up_ne _ _ (Or.inl (by omega))).trans (by rw [← hw176]; exact (e_up_ne _ _ (Or.inl (by omega))).trans (by rw [← hw173]; exact (e_up_ne _ _ (Or.inl (by omega))).trans ((j6 333 (900 * a + z130) (by unfold mLv; omega)).trans rfl)))) (by omega) ?_
                      refine e_Ok.callV rfl (by omega) rfl rfl rfl rfl (c_365 (by omega) hT180 (by omega) (by rw [← hw171]; exact (e_up_ne _ _ (Or.inl (by omega))).trans (by rw [← hw176]; exact (e_up_ne _ _ (Or.inl (by omega))).trans (by rw [← hw173]; exact (e_up_ne _ _ (Or.inl (by omega))).trans ((j6 275 97 (by unfold mLv; omega)).trans h97)))) (f := g1 + 1) (z := 1260 * t + 2 * g1 + 436) (by rw [← hw171]; exact (e_up_ne _ _ (Or.inr (by omega))).trans (by rw [← hw176]; exact (e_up_ne _ _ (Or.inr (by omega))).trans (by rw [← hw173]; exact (e_up_ne _ _ (Or.inr (by omega))).trans hF1))) (by omega) (by omega)) (fun r181 w182 h183 => ?_)
                      obtain ⟨rfl, hw182⟩ := h183
                      have f184 : e_fr (mLv t) w w182 := e_fr.up f179 hw182 (by unfold mLv; omega)
                      have hT185 : e_Has mTy w182 := e_Has.upr hT180 hw182 (nR_FRg t (g1) (by omega) (by omega) (by omega)) (by omega)
                      show e_Ok 20 elay ecode eI (d + 1) 371 (193, [(7, (0, z131)), (6, (0, 900 * a + z130)), (0, (1, 275)), (2, (0, x)), (3, (0, y)), (4, (0, y4)), (5, (0, 1))], [], w182) _
                      refine e_Ok.run (t' := (11, [(5, (0, 0)), (7, (0, z131)), (6, (0, 900 * a + z130)), (0, (1, 275)), (2, (0, x)), (3, (0, y)), (4, (0, y4))], [], w182)) 4 rfl ?_
                      refine e_Ok.run (t' := (13, [(5, (0, 0)), (7, (0, z131)), (6, (0, 900 * a + z130)), (0, (1, 275)), (2, (0, x)), (3, (0, y)), (4, (0, y4))], [(0, 0)], w182)) 1 rfl ?_
                      refine e_Ok.if1 rfl (fun h186 => ?_) (fun h186 => ?_)
                      · replace h186 : (0 : Int) = 0 := h186
                        refine e_Ok.rets rfl rfl ?_
                        have e187 : w182 276 5 = v1 276 5 := (by rw [← hw182]; exact (e_up_ne _ _ (Or.inr (by omega))).trans (by rw [← hw171]; exact (e_up_ne _ _ (Or.inr (by omega))).trans (by rw [← hw176]; exact (e_up_ne _ _ (Or.inr (by omega))).trans (by rw [← hw173]; exact (e_up_ne _ _ (Or.inr (by omega))).trans rfl))))
                        have hru := runOk.fin (w' := w182) (z := z130) (i := z131) (x := x) (y := y) hC1 hru1 (by omega) (by omega) (by omega) (fun c k q1 q2 => (by rw [← hw182]; exact (e_up_ne _ _ (Or.inl (by omega))).trans (by rw [← hw171]; exact (e_up_ne _ _ (Or.inl (by omega))).trans (by rw [← hw176]; exact (e_up_ne _ _ (Or.inl (by omega))).trans (by rw [← hw173]; exact (e_up_ne _ _ (Or.inl (by omega))).trans rfl))))) (fun i q1 q2 => ⟨(by rw [← hw182]; exact (e_up_ne _ _ (Or.inr (by omega))).trans (by rw [← hw171]; exact (e_up_ne _ _ (Or.inr (by omega))).trans (by rw [← hw176]; exact (e_up_ne _ _ (Or.inr (by omega))).trans (by rw [← hw173]; exact (e_up_ne _ _ (Or.inr (by omega))).trans rfl)))), (by rw [← hw182]; exact (e_up_ne _ _ (Or.inr (by omega))).trans (by rw [← hw171]; exact (e_up_ne _ _ (Or.inr (by omega))).trans (by rw [← hw176]; exact (e_up_ne _ _ (Or.inr (by omega))).trans (by rw [← hw173]; exact (e_up_ne _ _ (Or.inr (by omega))).trans rfl))))⟩) (by rw [← hw182]; exact (e_up_ne _ _ (Or.inr (by omega))).trans (by rw [← hw171]; exact (e_up_ne _ _ (Or.inr (by omega))).trans (by rw [← hw176]; exact (e_up_ne _ _ (Or.inr (by omega))).trans (by rw [← hw173]; exact (e_up_ne _ _ (Or.inr (by omega))).trans rfl)))) (by rw [← hw182]; exact (e_up_ne _ _ (Or.inr (by omega))).trans (by rw [← hw171]; exact e_up_eq _ _ _ _)) (fun k q1 q2 => (by rw [← hw182]; exact (e_up_ne _ _ (Or.inr (by omega))).trans (by rw [← hw171]; exact (e_up_ne _ _ (Or.inr (by omega))).trans (by rw [← hw176]; exact (e_up_ne _ _ (Or.inr (by omega))).trans (by rw [← hw173]; exact (e_up_ne _ _ (Or.inr (by omega))).trans rfl))))) (by rw [show 1260 * t + 2 * (bs g1 + pi y4) + 476 = 1260 * t + 2 * bs g1 + 2 * pi y4 + 476 by omega]; exact (by rw [← hw182]; exact (e_up_ne _ _ (Or.inr (by omega))).trans (by rw [← hw171]; exact (e_up_ne _ _ (Or.inr (by omega))).trans (by rw [← hw176]; exact (e_up_ne _ _ (Or.inr (by omega))).trans (by rw [← hw173]; exact e_up_eq _ _ _ _))))) (by rw [show 1260 * t + 2 * (bs g1 + pi y4) + 477 = 1260 * t + 2 * bs g1 + 2 * pi y4 + 477 by omega]; exact (by rw [← hw182]; exact (e_up_ne _ _ (Or.inr (by omega))).trans (by rw [← hw171]; exact (e_up_ne _ _ (Or.inr (by omega))).trans (by rw [← hw176]; exact e_up_eq _ _ _ _)))) (fun e3 => by have q := hC.2.2.2.2.2.1 y4 y (j13 e3).2 (by omega) (by omega); rw [show y4 / 3 = z130 by omega] at q; have q0 := hy3 e3; refine ⟨q0.1, q0.2.1, ?_⟩; rw [j6 331 _ (by unfold mLv; omega), j6 334 _ (by unfold mLv; omega), j6 336 _ (by unfold mLv; omega)]; exact q.elim (fun q => by exfalso; omega) (fun q => ⟨q.2.2, q.2.1⟩))
                        exact ⟨rfl, ⟨f184, (sRel.up (sRel.up (sRel.up (sRel.up j15 hw173 (fun q b g1 g2 => by omega)) hw176 (fun q b g1 g2 => by omega)) hw171 (fun q b g1 g2 => by omega)) hw182 (fun q b g1 g2 => by omega))⟩, hT185, by omega, (by rw [← hw182]; exact (e_up_ne _ _ (Or.inl (by omega))).trans (by rw [← hw171]; exact (e_up_ne _ _ (Or.inl (by omega))).trans (by rw [← hw176]; exact (e_up_ne _ _ (Or.inl (by omega))).trans (by rw [← hw173]; exact (e_up_ne _ _ (Or.inl (by omega))).trans j9)))), Or.inr ⟨(Eq.trans (by rw [← hw182]; exact (e_up_ne _ _ (Or.inl (by omega))).trans (by rw [← hw171]; exact (e_up_ne _ _ (Or.inl (by omega))).trans (by rw [← hw176]; exact (e_up_ne _ _ (Or.inl (by omega))).trans (by rw [← hw173]; exact (e_up_ne _ _ (Or.inl (by omega))).trans rfl)))) j10), g1, w 333 (900 * a + z130), bs, _, by omega, fun e => by omega, runOk.at hru (by omega) (by rw [← hw182]; exact e_up_eq _ _ _ _) ((show w182 330 (10000 * a + (w 333 (900 * a + z130))) = v1 330 (10000 * a + (w 333 (900 * a + z130))) from (by rw [← hw182]; exact (e_up_ne _ _ (Or.inl (by omega))).trans (by rw [← hw171]; exact (e_up_ne _ _ (Or.inl (by omega))).trans (by rw [← hw176]; exact (e_up_ne _ _ (Or.inl (by omega))).trans (by rw [← hw173]; exact (e_up_ne _ _ (Or.inl (by omega))).trans rfl))))).trans ((j6 330 (10000 * a + (w 333 (900 * a + z130))) (by unfold mLv; omega)).trans (by omega))), by omega, by omega⟩⟩
                      · replace h186 : (0 : Int) ≠ 0 := by have q : ¬ ((0 : Int) = 0) := h186; omega
                        exfalso; omega
                · replace h162 : (x : Int) = 1 := by have q : ¬ ((x : Int) ≠ 1) := h162; omega
                  exfalso; omega
            · replace h129 : (y4 : Int) < 0 := by have q : ¬ ((y4 : Int) ≥ 0) := h129; omega
              refine e_Ok.run (t' := (69, [(0, (1, 275)), (2, (0, x)), (3, (0, y)), (4, (0, y4)), (5, (0, 1))], [(0, y), (0, x), (1, 275)], v1)) 3 rfl ?_
              refine e_Ok.callV rfl (by omega) rfl rfl rfl rfl (c_372 (by omega) j7 (by omega) (by omega) ((j6 275 96 (by unfold mLv; omega)).trans h96) ((j6 275 97 (by unfold mLv; omega)).trans h97) ((j6 275 98 (by unfold mLv; omega)).trans h98) hC1 (show runOk v1 a t g1 (-1) n nt nw dl sg pi an br bs ow by rw [← show y4 = -1 by omega]; exact hru1) (by omega) (by omega)) (fun r188 w189 h190 => ?_)
              obtain ⟨z191, rfl, ⟨q192, q192S⟩, q192T, q192n, q192d, q192c⟩ := h190
              have f193 : e_fr (mLv t) w w189 := e_fr.trans j6 (e_fr.mono q192 (fun c k q => by exact q))
              obtain ⟨q192a, q192b, q192z, q192r, q192o, q192e⟩ | ⟨q192a, q192b, rfl, q192p, q192t, q192u, q192v, q192o, q192e⟩ | ⟨q192a, rfl, q192o, q192s⟩ := q192c
              · show e_Ok 20 elay ecode eI (d + 1) 371 (72, [(0, (1, 275)), (2, (0, x)), (3, (0, y)), (4, (0, y4)), (5, (0, 1))], [(0, z191)], w189) _
                have q192g := q192r.2.2.2.1
                refine e_Ok.run (t' := (77, [(4, (0, z191)), (0, (1, 275)), (2, (0, x)), (3, (0, y)), (5, (0, 1))], [(0, (-1)), (0, z191)], w189)) 3 rfl ?_
                refine e_Ok.if2 rfl (fun h194 => ?_) (fun h194 => ?_)
                · replace h194 : (z191 : Int) < (-1) := h194
                  exfalso; omega
                · replace h194 : (z191 : Int) ≥ (-1) := by have q : ¬ ((z191 : Int) < (-1)) := h194; omega
                  refine e_Ok.run (t' := (11, [(5, (0, 1)), (4, (0, z191)), (0, (1, 275)), (2, (0, x)), (3, (0, y))], [], w189)) 4 rfl ?_
                  refine e_Ok.sub eAlk (e_sub_of rfl ?_) (ih5 z191 w189 (g1 - 1) ⟨f193, q192T, q192r, (by rw [q192d]; exact j9), (by rw [q192o]; exact j10), (by rw [q192e]; exact j11), ⟨by omega, fun _ => by omega⟩, (fun e3 => by exfalso; omega), by have := q192r.2.2.2.1; omega, (sRel.trans j15 q192S)⟩ (by omega))
                  exact ⟨rfl, rfl, rfl, rfl, rfl, trivial⟩
              · show e_Ok 20 elay ecode eI (d + 1) 371 (72, [(0, (1, 275)), (2, (0, x)), (3, (0, y)), (4, (0, y4)), (5, (0, 1))], [(0, (-2))], w189) _
                refine e_Ok.run (t' := (77, [(4, (0, (-2))), (0, (1, 275)), (2, (0, x)), (3, (0, y)), (5, (0, 1))], [(0, (-1)), (0, (-2))], w189)) 3 rfl ?_
                refine e_Ok.if2 rfl (fun h195 => ?_) (fun h195 => ?_)
                · replace h195 : ((-2) : Int) < (-1) := h195
                  refine e_Ok.run (t' := (11, [(5, (0, 0)), (4, (0, (-2))), (0, (1, 275)), (2, (0, x)), (3, (0, y))], [], w189)) 3 rfl ?_
                  refine e_Ok.run (t' := (13, [(5, (0, 0)), (4, (0, (-2))), (0, (1, 275)), (2, (0, x)), (3, (0, y))], [(0, 0)], w189)) 1 rfl ?_
                  refine e_Ok.if1 rfl (fun h196 => ?_) (fun h196 => ?_)
                  · replace h196 : (0 : Int) = 0 := h196
                    refine e_Ok.rets rfl rfl ?_
                    have e197 : w189 276 5 = w189 276 5 := rfl
                    exact ⟨rfl, ⟨f193, (sRel.trans j15 q192S)⟩, q192T, by omega, (Eq.trans q192d j9), Or.inr ⟨(by rw [q192o]; exact j10), g1 - 1, q192p, bs, ow, by omega, by omega, q192t, q192u, q192v⟩⟩
                  · replace h196 : (0 : Int) ≠ 0 := by have q : ¬ ((0 : Int) = 0) := h196; omega
                    exfalso; omega
                · replace h195 : ((-2) : Int) ≥ (-1) := by have q : ¬ (((-2) : Int) < (-1)) := h195; omega
                  exfalso; omega
              · show e_Ok 20 elay ecode eI (d + 1) 371 (72, [(0, (1, 275)), (2, (0, x)), (3, (0, y)), (4, (0, y4)), (5, (0, 1))], [(0, (-2))], w189) _
                refine e_Ok.run (t' := (77, [(4, (0, (-2))), (0, (1, 275)), (2, (0, x)), (3, (0, y)), (5, (0, 1))], [(0, (-1)), (0, (-2))], w189)) 3 rfl ?_
                refine e_Ok.if2 rfl (fun h198 => ?_) (fun h198 => ?_)
                · replace h198 : ((-2) : Int) < (-1) := h198
                  refine e_Ok.run (t' := (11, [(5, (0, 0)), (4, (0, (-2))), (0, (1, 275)), (2, (0, x)), (3, (0, y))], [], w189)) 3 rfl ?_
                  refine e_Ok.run (t' := (13, [(5, (0, 0)), (4, (0, (-2))), (0, (1, 275)), (2, (0, x)), (3, (0, y))], [(0, 0)], w189)) 1 rfl ?_
                  refine e_Ok.if1 rfl (fun h199 => ?_) (fun h199 => ?_)
                  · replace h199 : (0 : Int) = 0 := h199
                    refine e_Ok.rets rfl rfl ?_
                    have e200 : w189 276 5 = w189 276 5 := rfl
                    exact ⟨rfl, ⟨f193, (sRel.trans j15 q192S)⟩, q192T, by omega, (Eq.trans q192d j9), Or.inl ⟨q192o, q192s⟩⟩
                  · replace h199 : (0 : Int) ≠ 0 := by have q : ¬ ((0 : Int) = 0) := h199; omega
                    exfalso; omega
                · replace h198 : ((-2) : Int) ≥ (-1) := by have q : ¬ (((-2) : Int) < (-1)) := h198; omega
                  exfalso; omega
          · replace h128 : (y4 : Int) = w 335 (900 * a + y) := by have q : ¬ ((y4 : Int) ≠ w 335 (900 * a + y)) := h128; omega
            have hwh := hC.2.2.2.2.1 y (by omega) (by omega)
            unfold tgt at hwh
            refine e_Ok.run (t' := (43, [(0, (1, 275)), (2, (0, x)), (3, (0, y)), (4, (0, y4)), (5, (0, 1))], [(1, 275), (1, 275)], v1)) 2 rfl ?_
            refine e_Ok.getr (z := 336) rfl rfl rfl rfl ((j6 275 73 (by unfold mLv; omega)).trans (e_Has.eq hT rfl)) (by omega) ?_
            refine e_Ok.run (t' := (50, [(0, (1, 275)), (2, (0, x)), (3, (0, y)), (4, (0, y4)), (5, (0, 1))], [(1, 275), (0, 900), (1, 336), (1, 275)], v1)) 2 rfl ?_
            refine e_Ok.getf (z := a) rfl rfl rfl rfl ((j6 275 98 (by unfold mLv; omega)).trans h98) (by omega) ?_
            refine e_Ok.mul (z := 900 * a) rfl (by omega) (by omega) ?_
            refine e_Ok.run (t' := (55, [(0, (1, 275)), (2, (0, x)), (3, (0, y)), (4, (0, y4)), (5, (0, 1))], [(0, y), (0, 900 * a), (1, 336), (1, 275)], v1)) 1 rfl ?_
            refine e_Ok.add (z := 900 * a + y) rfl (by omega) (by omega) ?_
            have h201 := (e_Has.get hT (c := 336) (k := 900 * a + y) (lo := (-2147483648)) (hi := 2147483647) rfl (by decide))
            refine e_Ok.ald (z := w 336 (900 * a + y)) rfl rfl rfl (by omega) ((j6 336 (900 * a + y) (by unfold mLv; omega)).trans rfl) (by omega) ?_
            refine e_Ok.callV rfl (by omega) rfl rfl rfl rfl (c_365 (by omega) j7 (by omega) ((j6 275 97 (by unfold mLv; omega)).trans h97) (f := g1 + 1) (z := 1260 * t + 2 * g1 + 436) hF1 (by omega) (by omega)) (fun r202 w203 h204 => ?_)
            obtain ⟨rfl, hw203⟩ := h204
            have f205 : e_fr (mLv t) w w203 := e_fr.up j6 hw203 (by unfold mLv; omega)
            have hT206 : e_Has mTy w203 := e_Has.upr j7 hw203 (nR_FRg t (g1) (by omega) (by omega) (by omega)) (by omega)
            show e_Ok 20 elay ecode eI (d + 1) 371 (60, [(0, (1, 275)), (2, (0, x)), (3, (0, y)), (4, (0, y4)), (5, (0, 1))], [], w203) _
            refine e_Ok.rets rfl rfl ?_
            have e207 : w203 276 5 = v1 276 5 := (by rw [← hw203]; exact (e_up_ne _ _ (Or.inr (by omega))).trans rfl)
            have hru := runOk.to (w' := w203) (r' := y4) hru1 (fun c k q1 q2 => (by rw [← hw203]; exact (e_up_ne _ _ (Or.inl (by omega))).trans rfl)) (fun i q1 q2 => ⟨(by rw [← hw203]; exact (e_up_ne _ _ (Or.inr (by omega))).trans rfl), (by rw [← hw203]; exact (e_up_ne _ _ (Or.inr (by omega))).trans rfl)⟩) (by rw [← hw203]; exact (e_up_ne _ _ (Or.inr (by omega))).trans rfl) (Eq.trans (by rw [← hw203]; exact (e_up_ne _ _ (Or.inr (by omega))).trans rfl) hPn1) (fun k q1 q2 => (by rw [← hw203]; exact (e_up_ne _ _ (Or.inr (by omega))).trans rfl)) (by omega) (by omega) (by omega) (fun q q1 q2 q3 => q1)
            exact ⟨rfl, ⟨f205, (sRel.up j15 hw203 (fun q b g1 g2 => by omega))⟩, hT206, by omega, (by rw [← hw203]; exact (e_up_ne _ _ (Or.inl (by omega))).trans j9), Or.inr ⟨(Eq.trans (by rw [← hw203]; exact (e_up_ne _ _ (Or.inl (by omega))).trans rfl) j10), g1, w 336 (900 * a + y), bs, ow, by omega, fun e => by omega, runOk.at hru (by omega) (by rw [← hw203]; exact e_up_eq _ _ _ _) ((show w203 330 (10000 * a + (w 336 (900 * a + y))) = v1 330 (10000 * a + (w 336 (900 * a + y))) from (by rw [← hw203]; exact (e_up_ne _ _ (Or.inl (by omega))).trans rfl)).trans ((j6 330 (10000 * a + (w 336 (900 * a + y))) (by unfold mLv; omega)).trans (by omega))), by omega, by omega⟩⟩
  refine e_Ok.sub eAlk (e_sub_of rfl ?_) (hL4 (3000 * g + r + 1 + 1 : Int).toNat r w1 g ⟨f2, hT3, (runOk.fr (fun c k q1 q2 => (by rw [← hw1]; exact (e_up_ne _ _ (Or.inl (by omega))).trans rfl)) (fun i q1 q2 => ⟨(by rw [← hw1]; exact (e_up_ne _ _ (Or.inl (by omega))).trans rfl), (by rw [← hw1]; exact (e_up_ne _ _ (Or.inl (by omega))).trans rfl)⟩) (by rw [← hw1]; exact (e_up_ne _ _ (Or.inl (by omega))).trans rfl) (by rw [← hw1]; exact (e_up_ne _ _ (Or.inl (by omega))).trans rfl) (fun k q1 q2 => (by rw [← hw1]; exact (e_up_ne _ _ (Or.inl (by omega))).trans rfl)) (by omega) hR), (by rw [← hw1]; exact e_up_eq _ _ _ _), (by rw [← hw1]; exact (e_up_ne _ _ (Or.inr (by omega))).trans rfl), (by rw [← hw1]; exact (e_up_ne _ _ (Or.inl (by omega))).trans rfl), ⟨by omega, fun _ => by omega⟩, (fun e3 => ⟨rfl, (hy3 e3).2.2.1⟩), by omega, (sRel.up sRel.refl hw1 (fun q b g1 g2 => by omega))⟩ (by omega))
  exact ⟨rfl, rfl, rfl, rfl, rfl, trivial⟩
end
