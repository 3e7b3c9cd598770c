noncomputable section
theorem no_60_0 {t : Int} : ¬ mLv t 275 98 := by unfold mLv; omega
theorem no_60_1 {t : Int} : ¬ mLv t 275 0 := by unfold mLv; omega
theorem no_60_2 {t : Int} : ¬ mLv t 275 97 := by unfold mLv; omega
theorem no_60_3 {t : Int} : ¬ mLv t 275 68 := by unfold mLv; omega
theorem no_60_4 {t : Int} {k : Int} : ¬ mLv t 331 k := by unfold mLv; omega
theorem no_60_5 {t : Int} : ¬ mLv t 275 70 := by unfold mLv; omega
theorem no_60_6 {t : Int} {k : Int} : ¬ mLv t 333 k := by unfold mLv; omega
theorem no_60_7 {t : Int} {k : Int} : ¬ mLv t 334 k := by unfold mLv; omega
theorem no_60_8 {t : Int} {k : Int} : ¬ mLv t 336 k := by unfold mLv; omega
theorem no_60_9 {t : Int} {k : Int} : ¬ mLv t 330 k := by unfold mLv; omega
theorem no_60_10 {t : Int} : ¬ mLv t 275 69 := by unfold mLv; omega
theorem no_60_11 {t : Int} {k : Int} : ¬ mLv t 332 k := by unfold mLv; omega
theorem no_60_12 {t : Int} : ¬ mLv t 275 96 := by unfold mLv; omega
theorem no_60_13 {t : Int} : ¬ mLv t 275 72 := by unfold mLv; omega
theorem no_60_14 {t : Int} {k : Int} : ¬ mLv t 335 k := by unfold mLv; omega
theorem no_60_15 {t : Int} : ¬ mLv t 275 73 := by unfold mLv; omega
set_option maxHeartbeats 4000000 in
theorem c_371 {d : Nat} (hd : 27 ≤ d) {w : eW} (hT : e_Has mTy w) {t a g : Int} (ht : 0 ≤ t ∧ t ≤ 15) (ha : 0 ≤ a ∧ a ≤ 3) (h96 : w 275 96 = t) (h97 : w 275 97 = 1260 * t + 416) (h98 : w 275 98 = a) {n nt nw : Int} {dl sg pi en : Int → Int} {an br : Int → Int → Prop} {bs ow : Int → Int} (hC : cOk w a n nt nw dl sg pi en an br) {r p x y : Int} (hR : runOk w a t g r n nt nw dl sg pi an br bs ow) (hp : 0 ≤ p ∧ p < en r) (hE : w 276 5 ≤ 2147483000) (hx : -2147483648 ≤ x ∧ x ≤ 2147483647) (hy : -2147483648 ≤ y ∧ y ≤ 2147483647) (hy3 : x = 3 → 0 ≤ y ∧ y < nw ∧ br r y ∧ p < w 336 (900 * a + y)) : e_Ok 20 elay ecode eI d 371 (0, [(0, (1, 275)), (1, (0, r)), (2, (0, x)), (3, (0, y))], [], w) (fun r' w' => r' = [] ∧ (e_fr (mLv t) w w' ∧ sRel w w') ∧ e_Has mTy w' ∧ (w 276 5 ≤ w' 276 5 ∧ w' 276 5 ≤ w 276 5 + 2) ∧ w' 275 102 = 0 ∧ ((w' 275 100 = 1 ∧ (w' 276 (1260 * t + 416) = 6 ∨ w' 276 (1260 * t + 416) = 7)) ∨ (w' 275 100 = w 275 100 ∧ w' 276 (1260 * t + 416) = w 276 (1260 * t + 416) ∧ w' 276 5 = w 276 5 ∧ ∃ (g' p' : Int) (bs' ow' : Int → Int), g' ≤ g ∧ (g' = g → p < p') ∧ topOk w' a t g' p' n nt nw dl sg pi an br bs' ow' ∧ dl p' = 0 ∧ sg p' = 0))) := by
  obtain ⟨d, rfl⟩ : ∃ e, d = e + 1 := ⟨d - 1, by omega⟩
  have hR0 := hR.1
  have hR4 := hR.2.2.2.1
  have hC1_ := hC.1
  have hpir := hC.2.2.2.1.2.1 r (by omega) (by omega)
  refine e_Ok.run (t' := (2, [(0, (1, 275)), (1, (0, r)), (2, (0, x)), (3, (0, y))], [(0, 0), (1, 275)], w)) 2 rfl ?_
  refine e_Ok.putf rfl (el_o rfl) rfl (ef_o rfl) ?_
  generalize hw1 : e_up w 275 102 0 = w1
  have hT3 : e_Has mTy w1 := e_Has.ups hT hw1 (mt_o rfl)
  refine e_Ok.run (t' := (11, [(5, (0, 1)), (4, (0, r)), (0, (1, 275)), (1, (0, r)), (2, (0, x)), (3, (0, y))], [], w1)) 4 rfl ?_
  have hL4 : ∀ (nn : Nat) (y4 : Int) (v1 : eW) (g1 : Int), e_fr (mLv t) w v1 ∧ e_Has mTy v1 ∧ runOk v1 a t g1 y4 n nt nw dl sg pi an br bs ow ∧ v1 275 102 = 0 ∧ v1 275 100 = w 275 100 ∧ v1 276 5 = w 276 5 ∧ (g1 ≤ g ∧ (g1 = g → p < en y4)) ∧ ((x = 3 → g1 = g ∧ br y4 y)) ∧ (0 ≤ g1 ∧ -1 ≤ y4 ∧ y4 < 3 * nt) ∧ sRel w v1 ∧ v1 276 (1260 * t + 416) = w 276 (1260 * t + 416) → 3000 * g1 + y4 + 1 < nn → e_Ok 20 elay ecode eI (d + 1) 371 (11, [(0, (1, 275)), (2, (0, x)), (3, (0, y)), (4, (0, y4)), (5, (0, 1))], [], v1) (fun r' w' => r' = [] ∧ (e_fr (mLv t) w w' ∧ sRel w w') ∧ e_Has mTy w' ∧ (w 276 5 ≤ w' 276 5 ∧ w' 276 5 ≤ w 276 5 + 2) ∧ w' 275 102 = 0 ∧ ((w' 275 100 = 1 ∧ (w' 276 (1260 * t + 416) = 6 ∨ w' 276 (1260 * t + 416) = 7)) ∨ (w' 275 100 = w 275 100 ∧ w' 276 (1260 * t + 416) = w 276 (1260 * t + 416) ∧ w' 276 5 = w 276 5 ∧ ∃ (g' p' : Int) (bs' ow' : Int → Int), g' ≤ g ∧ (g' = g → p < p') ∧ topOk w' a t g' p' n nt nw dl sg pi an br bs' ow' ∧ dl p' = 0 ∧ sg p' = 0))) := by
    intro nn
    induction nn with
    | zero => intro y4 v1 g1 hj hm; obtain ⟨j6, j7, j8, j9, j10, j11, j12, j13, j14, j15, j16⟩ := hj; exfalso; omega
    | succ nn ih5 =>
      intro y4 v1 g1 hj hm
      obtain ⟨j6, j7, j8, j9, j10, j11, j12, j13, j14, j15, j16⟩ := hj
      have hru1 := j8
      obtain ⟨hg1, hF1, hlow1, hr1, hPn1, hch1, hpe1⟩ := id j8
      have hC1 := cOk.fr (fun c k q1 q2 => j6 c k (by unfold mLv; omega)) hC
      have hbs1 := hlow1.2.1 g1 (by omega) (by omega)
      have hpy4 := hC.2.2.2.1.2.1 y4 (by omega) (by omega)
      refine e_Ok.run (t' := (13, [(0, (1, 275)), (2, (0, x)), (3, (0, y)), (4, (0, y4)), (5, (0, 1))], [(0, 1)], v1)) 1 rfl ?_
      refine e_Ok.if1 rfl (fun h17 => ?_) (fun h17 => ?_)
      · replace h17 : (1 : Int) = 0 := h17
        exfalso; omega
      · replace h17 : (1 : Int) ≠ 0 := (show ¬ ((1 : Int) = 0) from h17)
        refine e_Ok.ps2 (x := (0, 3)) (y := (0, x)) (q := 18) 2 rfl ?_
        refine e_Ok.if2 rfl (fun h18 => ?_) (fun h18 => ?_)
        · replace h18 : (x : Int) ≠ 3 := h18
          refine e_Ok.ps1 (x := (0, y4)) (q := 63) 1 rfl ?_
          refine e_Ok.if1 rfl (fun h19 => ?_) (fun h19 => ?_)
          · replace h19 : (y4 : Int) ≥ 0 := h19
            refine e_Ok.ps2 (x := (1, 275)) (y := (0, 900)) (q := 94) 2 rfl ?_
            refine e_Ok.getf (z := a) rfl (el_o rfl) rfl (ef_o rfl) ((j6 275 98 (by first | exact no_60_0 | (unfold mLv; omega))).trans h98) (by omega) ?_
            refine e_Ok.mul (z := 900 * a) rfl rfl (by omega) ?_
            refine e_Ok.ps2 (x := (0, 3)) (y := (0, y4)) (q := 101) 2 rfl ?_
            refine e_Ok.divn (fun z20 hz20 => ?_) rfl (by omega) (by omega)
            replace hz20 : z20 = y4 / 3 := hz20
            have z20r : 0 ≤ z20 ∧ z20 ≤ 899 := by omega
            refine e_Ok.add (z := 900 * a + z20) rfl (by omega) (by omega) ?_
            refine e_Ok.run (t' := (108, [(6, (0, 900 * a + z20)), (0, (1, 275)), (2, (0, x)), (3, (0, y)), (4, (0, y4)), (5, (0, 1))], [(0, 3), (0, y4)], v1)) 3 rfl ?_
            refine e_Ok.remn (fun z21 hz21 => ?_) rfl (by omega) (by omega)
            replace hz21 : z21 = y4 % 3 := hz21
            have z21r : 0 ≤ z21 ∧ z21 ≤ 2 := by omega
            refine e_Ok.run (t' := (111, [(7, (0, z21)), (6, (0, 900 * a + z20)), (0, (1, 275)), (2, (0, x)), (3, (0, y)), (4, (0, y4)), (5, (0, 1))], [], v1)) 1 rfl ?_
            obtain ⟨hti, hpi3, hcat, hfin, hend, han1, han2⟩ := id (hC.2.2.1 z20 (by omega) (by omega))
            have hall := (hC.2.2.1 z20 (by omega) (by omega)).all (y := y4) (k := z21) (by omega) (by omega)
            unfold tgt at hcat hfin hend
            have hpz := hC.2.2.2.1.2.1 (w 331 (900 * a + z20)) (by omega) (by omega)
            refine e_Ok.ps1 (x := (0, z21)) (q := 113) 1 rfl ?_
            have hC160 : e_Ok 20 elay ecode eI (d + 1) 371 (160, [(0, (1, 275)), (2, (0, x)), (3, (0, y)), (4, (0, y4)), (5, (0, 1)), (6, (0, 900 * a + z20)), (7, (0, z21))], [], v1) (fun r' w' => r' = [] ∧ (e_fr (mLv t) w w' ∧ sRel w w') ∧ e_Has mTy w' ∧ (w 276 5 ≤ w' 276 5 ∧ w' 276 5 ≤ w 276 5 + 2) ∧ w' 275 102 = 0 ∧ ((w' 275 100 = 1 ∧ (w' 276 (1260 * t + 416) = 6 ∨ w' 276 (1260 * t + 416) = 7)) ∨ (w' 275 100 = w 275 100 ∧ w' 276 (1260 * t + 416) = w 276 (1260 * t + 416) ∧ w' 276 5 = w 276 5 ∧ ∃ (g' p' : Int) (bs' ow' : Int → Int), g' ≤ g ∧ (g' = g → p < p') ∧ topOk w' a t g' p' n nt nw dl sg pi an br bs' ow' ∧ dl p' = 0 ∧ sg p' = 0))) := by
              refine e_Ok.run (t' := (163, [(0, (1, 275)), (2, (0, x)), (3, (0, y)), (4, (0, y4)), (5, (0, 1)), (6, (0, 900 * a + z20)), (7, (0, z21))], [(0, 2), (0, z21)], v1)) 2 rfl ?_
              refine e_Ok.if2 rfl (fun h22 => ?_) (fun h22 => ?_)
              · replace h22 : (z21 : Int) ≥ 2 := h22
                refine e_Ok.ps1 (x := (1, 275)) (q := 200) 1 rfl ?_
                refine e_Ok.getr (z := 276) rfl (el_o rfl) rfl (ef_o rfl) ((j6 275 0 (by first | exact no_60_1 | (unfold mLv; omega))).trans (e_Has.eq hT (mt_o rfl))) ⟨by decide, by decide⟩ ?_
                refine e_Ok.ps1 (x := (1, 275)) (q := 204) 1 rfl ?_
                refine e_Ok.getf (z := 1260 * t + 416) rfl (el_o rfl) rfl (ef_o rfl) ((j6 275 97 (by first | exact no_60_2 | (unfold mLv; omega))).trans h97) (by omega) ?_
                refine e_Ok.ps1 (x := (0, 13)) (q := 209) 1 rfl ?_
                refine e_Ok.add (z := 1260 * t + 429) rfl (e_adl (by decide)) (by omega) ?_
                refine e_Ok.ps2 (x := (0, 1260 * t + 429)) (y := (1, 276)) (q := 211) 1 rfl ?_
                refine e_Ok.ald (z := bs g1 + pi y4) rfl (el_o rfl) rfl (by omega) hPn1 (by omega) ?_
                refine e_Ok.ps2 (x := (0, 2)) (y := (0, z21)) (q := 215) 2 rfl ?_
                refine e_Ok.if2 rfl (fun h23 => ?_) (fun h23 => ?_)
                · replace h23 : (z21 : Int) ≠ 2 := h23
                  exfalso; omega
                · replace h23 : (z21 : Int) = 2 := Classical.not_not.mp (show ¬ ((z21 : Int) ≠ 2) from h23)
                  refine e_Ok.ps1 (x := (0, 1)) (q := 223) 2 rfl ?_
                  refine e_Ok.sub' (z := bs g1 + pi y4 - 1) rfl rfl (by omega) ?_
                  refine e_Ok.ast rfl (el_o rfl) rfl rfl (by omega) ?_
                  generalize hw24 : e_up v1 276 (1260 * t + 429) (bs g1 + pi y4 - 1) = w24
                  have hT26 : e_Has mTy w24 := e_Has.upr j7 hw24 (nR_PENDS (t := t) (by omega)) (by omega)
                  refine e_Ok.ps1 (x := (1, 275)) (q := 226) 1 rfl ?_
                  refine e_Ok.getr (z := 331) rfl (el_o rfl) rfl (ef_o rfl) (e_uq hw24 (Or.inl (by decide)) ((j6 275 68 (by first | exact no_60_3 | (unfold mLv; omega))).trans (e_Has.eq hT (mt_o rfl)))) ⟨by decide, by decide⟩ ?_
                  refine e_Ok.ps1 (x := (0, 900 * a + z20)) (q := 231) 1 rfl ?_
                  refine e_Ok.ald (z := w 331 (900 * a + z20)) rfl (el_o rfl) rfl (by omega) (e_uq hw24 (Or.inl (by decide)) ((j6 331 (900 * a + z20) (by first | exact no_60_4 | (unfold mLv; omega))).trans rfl)) (by omega) ?_
                  refine e_Ok.run (t' := (11, [(4, (0, w 331 (900 * a + z20))), (0, (1, 275)), (2, (0, x)), (3, (0, y)), (5, (0, 1)), (6, (0, 900 * a + z20)), (7, (0, z21))], [], w24)) 2 rfl ?_
                  refine e_Ok.sub eAlk (e_sub_of rfl ?_) (ih5 (w 331 (900 * a + z20)) w24 g1 ⟨(show e_fr (mLv t) w w24 from e_fr.up j6 hw24 (by first | exact Or.inr ⟨rfl, Or.inr (Or.inr (Or.inr (Or.inr (Or.inr (Or.inr (Or.inr (Or.inr (Or.inl ⟨(by omega), (by omega)⟩))))))))⟩ | (unfold mLv; omega))), hT26, (runOk.to (w' := w24) (r' := w 331 (900 * a + z20)) hru1 (fun c k q1 q2 => (e_uq hw24 (Or.inl (by omega)) rfl)) (fun i q1 q2 => ⟨(e_uq hw24 (Or.inr (by omega)) rfl), (e_uq hw24 (Or.inr (by omega)) rfl)⟩) (e_uq hw24 (Or.inr (by omega)) rfl) (by have q : w24 276 (1260 * t + 429) = bs g1 + pi y4 - 1 := (e_ue hw24); omega) (fun k q1 q2 => (e_uq hw24 (Or.inr (by omega)) rfl)) (by omega) (by omega) (by omega) (fun q q1 q2 q3 => by have := han2 z21 q (by omega) (by omega) q1; rwa [show 3 * z20 + z21 = y4 by omega] at this)), (Eq.trans (e_uq hw24 (Or.inl (by omega)) rfl) j9), (Eq.trans (e_uq hw24 (Or.inl (by omega)) rfl) j10), (Eq.trans (e_uq hw24 (Or.inr (by omega)) rfl) j11), ⟨by omega, fun _ => by omega⟩, (fun e3 => by have q := hC.2.2.2.2.2.1 y4 y (j13 e3).2 (by omega) (by omega); rw [show y4 / 3 = z20 by omega] at q; exact ⟨(j13 e3).1, q.elim (fun q => by exfalso; omega) (fun q => q.2.2)⟩), by omega, (sRel.up j15 hw24 (fun q b g1 g2 => by omega)), (Eq.trans (e_uq hw24 (Or.inr (by omega)) rfl) j16)⟩ (by omega))
                  exact ⟨rfl, rfl, rfl, rfl, rfl, trivial⟩
              · replace h22 : (z21 : Int) < 2 := Int.not_le.mp (show ¬ ((z21 : Int) ≥ 2) from h22)
                refine e_Ok.ps1 (x := (1, 275)) (q := 167) 1 rfl ?_
                refine e_Ok.getr (z := 333) rfl (el_o rfl) rfl (ef_o rfl) ((j6 275 70 (by first | exact no_60_5 | (unfold mLv; omega))).trans (e_Has.eq hT (mt_o rfl))) ⟨by decide, by decide⟩ ?_
                refine e_Ok.ps1 (x := (0, 900 * a + z20)) (q := 172) 1 rfl ?_
                have h27 := (e_Has.get hT (c := 333) (k := 900 * a + z20) (lo := (-2147483648)) (hi := 2147483647) (mt_o rfl) (by decide))
                refine e_Ok.ald (z := w 333 (900 * a + z20)) rfl (el_o rfl) rfl (by omega) ((j6 333 (900 * a + z20) (by first | exact no_60_6 | (unfold mLv; omega))).trans rfl) (e_bq h27 (by decide) (by decide)) ?_
                refine e_Ok.if1 rfl (fun h28 => ?_) (fun h28 => ?_)
                · replace h28 : (w 333 (900 * a + z20) : Int) < 0 := h28
                  refine e_Ok.ps1 (x := (1, 275)) (q := 200) 1 rfl ?_
                  refine e_Ok.getr (z := 276) rfl (el_o rfl) rfl (ef_o rfl) ((j6 275 0 (by first | exact no_60_1 | (unfold mLv; omega))).trans (e_Has.eq hT (mt_o rfl))) ⟨by decide, by decide⟩ ?_
                  refine e_Ok.ps1 (x := (1, 275)) (q := 204) 1 rfl ?_
                  refine e_Ok.getf (z := 1260 * t + 416) rfl (el_o rfl) rfl (ef_o rfl) ((j6 275 97 (by first | exact no_60_2 | (unfold mLv; omega))).trans h97) (by omega) ?_
                  refine e_Ok.ps1 (x := (0, 13)) (q := 209) 1 rfl ?_
                  refine e_Ok.add (z := 1260 * t + 429) rfl (e_adl (by decide)) (by omega) ?_
                  refine e_Ok.ps2 (x := (0, 1260 * t + 429)) (y := (1, 276)) (q := 211) 1 rfl ?_
                  refine e_Ok.ald (z := bs g1 + pi y4) rfl (el_o rfl) rfl (by omega) hPn1 (by omega) ?_
                  refine e_Ok.ps2 (x := (0, 2)) (y := (0, z21)) (q := 215) 2 rfl ?_
                  refine e_Ok.if2 rfl (fun h29 => ?_) (fun h29 => ?_)
                  · replace h29 : (z21 : Int) ≠ 2 := h29
                    refine e_Ok.ps1 (x := (0, 0)) (q := 223) 1 rfl ?_
                    refine e_Ok.sub' (z := bs g1 + pi y4) rfl (by omega) (by omega) ?_
                    refine e_Ok.ast rfl (el_o rfl) rfl rfl (by omega) ?_
                    generalize hw30 : e_up v1 276 (1260 * t + 429) (bs g1 + pi y4) = w30
                    have hT32 : e_Has mTy w30 := e_Has.upr j7 hw30 (nR_PENDS (t := t) (by omega)) (by omega)
                    refine e_Ok.ps1 (x := (1, 275)) (q := 226) 1 rfl ?_
                    refine e_Ok.getr (z := 331) rfl (el_o rfl) rfl (ef_o rfl) (e_uq hw30 (Or.inl (by decide)) ((j6 275 68 (by first | exact no_60_3 | (unfold mLv; omega))).trans (e_Has.eq hT (mt_o rfl)))) ⟨by decide, by decide⟩ ?_
                    refine e_Ok.ps1 (x := (0, 900 * a + z20)) (q := 231) 1 rfl ?_
                    refine e_Ok.ald (z := w 331 (900 * a + z20)) rfl (el_o rfl) rfl (by omega) (e_uq hw30 (Or.inl (by decide)) ((j6 331 (900 * a + z20) (by first | exact no_60_4 | (unfold mLv; omega))).trans rfl)) (by omega) ?_
                    refine e_Ok.run (t' := (11, [(4, (0, w 331 (900 * a + z20))), (0, (1, 275)), (2, (0, x)), (3, (0, y)), (5, (0, 1)), (6, (0, 900 * a + z20)), (7, (0, z21))], [], w30)) 2 rfl ?_
                    refine e_Ok.sub eAlk (e_sub_of rfl ?_) (ih5 (w 331 (900 * a + z20)) w30 g1 ⟨(show e_fr (mLv t) w w30 from e_fr.up j6 hw30 (by first | exact Or.inr ⟨rfl, Or.inr (Or.inr (Or.inr (Or.inr (Or.inr (Or.inr (Or.inr (Or.inr (Or.inl ⟨(by omega), (by omega)⟩))))))))⟩ | (unfold mLv; omega))), hT32, (runOk.to (w' := w30) (r' := w 331 (900 * a + z20)) hru1 (fun c k q1 q2 => (e_uq hw30 (Or.inl (by omega)) rfl)) (fun i q1 q2 => ⟨(e_uq hw30 (Or.inr (by omega)) rfl), (e_uq hw30 (Or.inr (by omega)) rfl)⟩) (e_uq hw30 (Or.inr (by omega)) rfl) (by have q : w30 276 (1260 * t + 429) = bs g1 + pi y4 := (e_ue hw30); omega) (fun k q1 q2 => (e_uq hw30 (Or.inr (by omega)) rfl)) (by omega) (by omega) (by omega) (fun q q1 q2 q3 => by have := han2 z21 q (by omega) (by omega) q1; rwa [show 3 * z20 + z21 = y4 by omega] at this)), (Eq.trans (e_uq hw30 (Or.inl (by omega)) rfl) j9), (Eq.trans (e_uq hw30 (Or.inl (by omega)) rfl) j10), (Eq.trans (e_uq hw30 (Or.inr (by omega)) rfl) j11), ⟨by omega, fun _ => by omega⟩, (fun e3 => by have q := hC.2.2.2.2.2.1 y4 y (j13 e3).2 (by omega) (by omega); rw [show y4 / 3 = z20 by omega] at q; exact ⟨(j13 e3).1, q.elim (fun q => by exfalso; omega) (fun q => q.2.2)⟩), by omega, (sRel.up j15 hw30 (fun q b g1 g2 => by omega)), (Eq.trans (e_uq hw30 (Or.inr (by omega)) rfl) j16)⟩ (by omega))
                    exact ⟨rfl, rfl, rfl, rfl, rfl, trivial⟩
                  · replace h29 : (z21 : Int) = 2 := Classical.not_not.mp (show ¬ ((z21 : Int) ≠ 2) from h29)
                    exfalso; omega
                · replace h28 : (w 333 (900 * a + z20) : Int) ≥ 0 := Int.not_lt.mp (show ¬ ((w 333 (900 * a + z20) : Int) < 0) from h28)
                  have hf1 := hfin.resolve_left (by omega)
                  have hf2 := (hall.2.2.1 (by omega)).resolve_left (by omega)
                  have hp2 := hC.2.2.2.1.2.1 (3 * z20 + 2) (by omega) (by omega)
                  refine e_Ok.ps3 (x := (0, y)) (y := (0, x)) (z := (1, 275)) (q := 179) 3 rfl ?_
                  refine e_Ok.callV rfl (e_dq hd rfl) rfl rfl rfl rfl (c_370 j7 (by omega) ((j6 275 97 (by first | exact no_60_2 | (unfold mLv; omega))).trans h97) (m := bs g1 + pi y4) (m1 := bs g1 + pi y4 + 1) (z := 1260 * t + 2 * bs g1 + 2 * pi y4 + 476) (z1 := 1260 * t + 2 * bs g1 + 2 * pi y4 + 477) hPn1 (by omega) (by omega) (by omega) (by omega)) (fun r33 w34 h35 => ?_)
                  obtain ⟨rfl, hw34⟩ := h35
                  generalize hw36 : e_up v1 276 (1260 * t + 2 * bs g1 + 2 * pi y4 + 476) x = w36 at hw34
                  have hT38 : e_Has mTy w36 := e_Has.upr j7 hw36 (nR_PEg t (by omega) (by omega)) (by omega)
                  generalize hw40 : e_up w36 276 (1260 * t + 2 * bs g1 + 2 * pi y4 + 477) y = w40 at hw34
                  have hT42 : e_Has mTy w40 := e_Has.upr hT38 hw40 (nR_PEg t (by omega) (by omega)) (by omega)
                  have hT44 : e_Has mTy w34 := e_Has.upr hT42 hw34 (nR_PENDS (t := t) (by omega)) (by omega)
                  refine e_Ok.nrm (q := 182) (st' := []) rfl rfl ?_
                  refine e_Ok.ps2 (x := (1, 275)) (y := (1, 275)) (q := 184) 2 rfl ?_
                  refine e_Ok.getr (z := 333) rfl (el_o rfl) rfl (ef_o rfl) (e_uq hw34 (Or.inl (by omega)) (e_uq hw40 (Or.inl (by omega)) (e_uq hw36 (Or.inl (by omega)) ((j6 275 70 (by first | exact no_60_5 | (unfold mLv; omega))).trans (e_Has.eq hT (mt_o rfl)))))) ⟨by decide, by decide⟩ ?_
                  refine e_Ok.ps1 (x := (0, 900 * a + z20)) (q := 189) 1 rfl ?_
                  refine e_Ok.ald (z := w 333 (900 * a + z20)) rfl (el_o rfl) rfl (by omega) (e_uq hw34 (Or.inl (by omega)) (e_uq hw40 (Or.inl (by omega)) (e_uq hw36 (Or.inl (by omega)) ((j6 333 (900 * a + z20) (by first | exact no_60_6 | (unfold mLv; omega))).trans rfl)))) (by omega) ?_
                  refine e_Ok.callV rfl (e_dq hd rfl) rfl rfl rfl rfl (c_365 (e_dq hd rfl) hT44 (by omega) (e_uq hw34 (Or.inl (by first | decide | omega)) (e_uq hw40 (Or.inl (by first | decide | omega)) (e_uq hw36 (Or.inl (by first | decide | omega)) ((j6 275 97 (by first | exact no_60_2 | (unfold mLv; omega))).trans h97)))) (f := g1 + 1) (z := 1260 * t + 2 * g1 + 436) (e_uq hw34 (Or.inr (by omega)) (e_uq hw40 (Or.inr (by omega)) (e_uq hw36 (Or.inr (by omega)) hF1))) (by omega) (by omega)) (fun r45 w46 h47 => ?_)
                  obtain ⟨rfl, hw46⟩ := h47
                  have hT49 : e_Has mTy w46 := e_Has.upr hT44 hw46 (nR_FRg t (g1) (by omega) (by omega) (by omega)) (by omega)
                  refine e_Ok.nrm (q := 193) (st' := []) rfl rfl ?_
                  refine e_Ok.run (t' := (11, [(5, (0, 0)), (0, (1, 275)), (2, (0, x)), (3, (0, y)), (4, (0, y4)), (6, (0, 900 * a + z20)), (7, (0, z21))], [], w46)) 4 rfl ?_
                  refine e_Ok.ps1 (x := (0, 0)) (q := 13) 1 rfl ?_
                  refine e_Ok.if1 rfl (fun h50 => ?_) (fun h50 => ?_)
                  · replace h50 : (0 : Int) = 0 := h50
                    refine e_Ok.rets rfl rfl ?_
                    have e51 : w46 276 5 = v1 276 5 := (e_uq hw46 (Or.inr (by omega)) (e_uq hw34 (Or.inr (by omega)) (e_uq hw40 (Or.inr (by omega)) (e_uq hw36 (Or.inr (by omega)) rfl))))
                    have hru := runOk.fin (w' := w46) (z := z20) (i := z21) (x := x) (y := y) hC1 hru1 (by omega) (by omega) (by omega) (fun c k q1 q2 => (e_uq hw46 (Or.inl (by omega)) (e_uq hw34 (Or.inl (by omega)) (e_uq hw40 (Or.inl (by omega)) (e_uq hw36 (Or.inl (by omega)) rfl))))) (fun i q1 q2 => ⟨(e_uq hw46 (Or.inr (by omega)) (e_uq hw34 (Or.inr (by omega)) (e_uq hw40 (Or.inr (by omega)) (e_uq hw36 (Or.inr (by omega)) rfl)))), (e_uq hw46 (Or.inr (by omega)) (e_uq hw34 (Or.inr (by omega)) (e_uq hw40 (Or.inr (by omega)) (e_uq hw36 (Or.inr (by omega)) rfl))))⟩) (e_uq hw46 (Or.inr (by omega)) (e_uq hw34 (Or.inr (by omega)) (e_uq hw40 (Or.inr (by omega)) (e_uq hw36 (Or.inr (by omega)) rfl)))) (e_uq hw46 (Or.inr (by omega)) (e_ue hw34)) (fun k q1 q2 => (e_uq hw46 (Or.inr (by omega)) (e_uq hw34 (Or.inr (by omega)) (e_uq hw40 (Or.inr (by omega)) (e_uq hw36 (Or.inr (by omega)) rfl))))) (by rw [show 1260 * t + 2 * (bs g1 + pi y4) + 476 = 1260 * t + 2 * bs g1 + 2 * pi y4 + 476 by omega]; exact (e_uq hw46 (Or.inr (by omega)) (e_uq hw34 (Or.inr (by omega)) (e_uq hw40 (Or.inr (by omega)) (e_ue hw36))))) (by rw [show 1260 * t + 2 * (bs g1 + pi y4) + 477 = 1260 * t + 2 * bs g1 + 2 * pi y4 + 477 by omega]; exact (e_uq hw46 (Or.inr (by omega)) (e_uq hw34 (Or.inr (by omega)) (e_ue hw40)))) (fun e3 => by have q := hC.2.2.2.2.2.1 y4 y (j13 e3).2 (by omega) (by omega); rw [show y4 / 3 = z20 by omega] at q; have q0 := hy3 e3; refine ⟨q0.1, q0.2.1, ?_⟩; rw [j6 331 _ (by first | exact no_60_4 | (unfold mLv; omega)), j6 334 _ (by first | exact no_60_7 | (unfold mLv; omega)), j6 336 _ (by first | exact no_60_8 | (unfold mLv; omega))]; exact q.elim (fun q => by exfalso; omega) (fun q => ⟨q.2.2, q.2.1⟩))
                    exact ⟨rfl, ⟨(show e_fr (mLv t) w w46 from e_fr.up (show e_fr (mLv t) w w34 from e_fr.up (show e_fr (mLv t) w w40 from e_fr.up (show e_fr (mLv t) w w36 from e_fr.up j6 hw36 (by first | exact Or.inr ⟨rfl, Or.inr (Or.inr (Or.inr (Or.inr (Or.inr (Or.inr (Or.inr (Or.inr (Or.inr ⟨(by omega), (by omega)⟩))))))))⟩ | (unfold mLv; omega))) hw40 (by first | exact Or.inr ⟨rfl, Or.inr (Or.inr (Or.inr (Or.inr (Or.inr (Or.inr (Or.inr (Or.inr (Or.inr ⟨(by omega), (by omega)⟩))))))))⟩ | (unfold mLv; omega))) hw34 (by first | exact Or.inr ⟨rfl, Or.inr (Or.inr (Or.inr (Or.inr (Or.inr (Or.inr (Or.inr (Or.inr (Or.inl ⟨(by omega), (by omega)⟩))))))))⟩ | (unfold mLv; omega))) hw46 (by first | exact Or.inr ⟨rfl, Or.inr (Or.inr (Or.inr (Or.inr (Or.inr (Or.inr (Or.inr (Or.inr (Or.inr ⟨(by omega), (by omega)⟩))))))))⟩ | (unfold mLv; omega))), (sRel.up (sRel.up (sRel.up (sRel.up j15 hw36 (fun q b g1 g2 => by omega)) hw40 (fun q b g1 g2 => by omega)) hw34 (fun q b g1 g2 => by omega)) hw46 (fun q b g1 g2 => by omega))⟩, hT49, by omega, (e_uq hw46 (Or.inl (by omega)) (e_uq hw34 (Or.inl (by omega)) (e_uq hw40 (Or.inl (by omega)) (e_uq hw36 (Or.inl (by omega)) j9)))), Or.inr ⟨(Eq.trans (e_uq hw46 (Or.inl (by omega)) (e_uq hw34 (Or.inl (by omega)) (e_uq hw40 (Or.inl (by omega)) (e_uq hw36 (Or.inl (by omega)) rfl)))) j10), (Eq.trans (e_uq hw46 (Or.inr (by omega)) (e_uq hw34 (Or.inr (by omega)) (e_uq hw40 (Or.inr (by omega)) (e_uq hw36 (Or.inr (by omega)) rfl)))) j16), by omega, g1, w 333 (900 * a + z20), bs, _, by omega, fun e => by omega, runOk.at hru (by omega) (e_ue hw46) ((show w46 330 (10000 * a + (w 333 (900 * a + z20))) = v1 330 (10000 * a + (w 333 (900 * a + z20))) from (e_uq hw46 (Or.inl (by omega)) (e_uq hw34 (Or.inl (by omega)) (e_uq hw40 (Or.inl (by omega)) (e_uq hw36 (Or.inl (by omega)) rfl))))).trans ((j6 330 (10000 * a + (w 333 (900 * a + z20))) (by first | exact no_60_9 | (unfold mLv; omega))).trans (by omega))), by omega, by omega⟩⟩
                  · replace h50 : (0 : Int) ≠ 0 := (show ¬ ((0 : Int) = 0) from h50)
                    exfalso; omega
            refine e_Ok.if1 rfl (fun h52 => ?_) (fun h52 => ?_)
            · replace h52 : (z21 : Int) ≠ 0 := h52
              refine e_Ok.sub eAlk (e_sub_of rfl ?_) hC160
              exact ⟨rfl, rfl, rfl, rfl, rfl, rfl, rfl, trivial⟩
            · replace h52 : (z21 : Int) = 0 := Classical.not_not.mp (show ¬ ((z21 : Int) ≠ 0) from h52)
              refine e_Ok.run (t' := (118, [(7, (0, z21)), (6, (0, 900 * a + z20)), (0, (1, 275)), (2, (0, x)), (3, (0, y)), (4, (0, y4)), (5, (0, 1))], [(0, 1), (0, x)], v1)) 2 rfl ?_
              refine e_Ok.if2 rfl (fun h53 => ?_) (fun h53 => ?_)
              · replace h53 : (x : Int) ≠ 1 := h53
                refine e_Ok.sub eAlk (e_sub_of rfl ?_) hC160
                exact ⟨rfl, rfl, rfl, rfl, rfl, rfl, rfl, trivial⟩
              · replace h53 : (x : Int) = 1 := Classical.not_not.mp (show ¬ ((x : Int) ≠ 1) from h53)
                refine e_Ok.ps1 (x := (1, 275)) (q := 122) 1 rfl ?_
                refine e_Ok.getr (z := 332) rfl (el_o rfl) rfl (ef_o rfl) ((j6 275 69 (by first | exact no_60_10 | (unfold mLv; omega))).trans (e_Has.eq hT (mt_o rfl))) ⟨by decide, by decide⟩ ?_
                refine e_Ok.ps1 (x := (0, 900 * a + z20)) (q := 127) 1 rfl ?_
                have h54 := (e_Has.get hT (c := 332) (k := 900 * a + z20) (lo := (-2147483648)) (hi := 2147483647) (mt_o rfl) (by decide))
                refine e_Ok.ald (z := w 332 (900 * a + z20)) rfl (el_o rfl) rfl (by omega) ((j6 332 (900 * a + z20) (by first | exact no_60_11 | (unfold mLv; omega))).trans rfl) (e_bq h54 (by decide) (by decide)) ?_
                refine e_Ok.if1 rfl (fun h55 => ?_) (fun h55 => ?_)
                · replace h55 : (w 332 (900 * a + z20) : Int) < 0 := h55
                  refine e_Ok.sub eAlk (e_sub_of rfl ?_) hC160
                  exact ⟨rfl, rfl, rfl, rfl, rfl, rfl, rfl, trivial⟩
                · replace h55 : (w 332 (900 * a + z20) : Int) ≥ 0 := Int.not_lt.mp (show ¬ ((w 332 (900 * a + z20) : Int) < 0) from h55)
                  have hc1 := hcat.resolve_left (by omega)
                  have hc2 := (hall.2.1 (by omega)).resolve_left (by omega)
                  refine e_Ok.ps1 (x := (1, 275)) (q := 132) 1 rfl ?_
                  refine e_Ok.getr (z := 276) rfl (el_o rfl) rfl (ef_o rfl) ((j6 275 0 (by first | exact no_60_1 | (unfold mLv; omega))).trans (e_Has.eq hT (mt_o rfl))) ⟨by decide, by decide⟩ ?_
                  refine e_Ok.ps1 (x := (1, 275)) (q := 136) 1 rfl ?_
                  refine e_Ok.getf (z := 1260 * t + 416) rfl (el_o rfl) rfl (ef_o rfl) ((j6 275 97 (by first | exact no_60_2 | (unfold mLv; omega))).trans h97) (by omega) ?_
                  refine e_Ok.ps1 (x := (0, 3)) (q := 140) 1 rfl ?_
                  refine e_Ok.add (z := 1260 * t + 419) rfl (e_adl (by decide)) (by omega) ?_
                  refine e_Ok.ps1 (x := (0, y)) (q := 142) 1 rfl ?_
                  refine e_Ok.ast rfl (el_o rfl) rfl rfl (by omega) ?_
                  generalize hw56 : e_up v1 276 (1260 * t + 419) y = w56
                  have hT58 : e_Has mTy w56 := e_Has.upr j7 hw56 (nR_CAUGHT (t := t) (by omega)) (by omega)
                  refine e_Ok.ps2 (x := (1, 275)) (y := (1, 275)) (q := 145) 2 rfl ?_
                  refine e_Ok.getr (z := 332) rfl (el_o rfl) rfl (ef_o rfl) (e_uq hw56 (Or.inl (by decide)) ((j6 275 69 (by first | exact no_60_10 | (unfold mLv; omega))).trans (e_Has.eq hT (mt_o rfl)))) ⟨by decide, by decide⟩ ?_
                  refine e_Ok.ps1 (x := (0, 900 * a + z20)) (q := 150) 1 rfl ?_
                  refine e_Ok.ald (z := w 332 (900 * a + z20)) rfl (el_o rfl) rfl (by omega) (e_uq hw56 (Or.inl (by decide)) ((j6 332 (900 * a + z20) (by first | exact no_60_11 | (unfold mLv; omega))).trans rfl)) (by omega) ?_
                  refine e_Ok.callV rfl (e_dq hd rfl) rfl rfl rfl rfl (c_365 (e_dq hd rfl) hT58 (by omega) (e_uq hw56 (Or.inl (by first | decide | omega)) ((j6 275 97 (by first | exact no_60_2 | (unfold mLv; omega))).trans h97)) (f := g1 + 1) (z := 1260 * t + 2 * g1 + 436) (e_uq hw56 (Or.inr (by omega)) hF1) (by omega) (by omega)) (fun r59 w60 h61 => ?_)
                  obtain ⟨rfl, hw60⟩ := h61
                  have hT63 : e_Has mTy w60 := e_Has.upr hT58 hw60 (nR_FRg t (g1) (by omega) (by omega) (by omega)) (by omega)
                  refine e_Ok.nrm (q := 154) (st' := []) rfl rfl ?_
                  refine e_Ok.run (t' := (11, [(5, (0, 0)), (7, (0, z21)), (6, (0, 900 * a + z20)), (0, (1, 275)), (2, (0, x)), (3, (0, y)), (4, (0, y4))], [], w60)) 4 rfl ?_
                  refine e_Ok.ps1 (x := (0, 0)) (q := 13) 1 rfl ?_
                  refine e_Ok.if1 rfl (fun h64 => ?_) (fun h64 => ?_)
                  · replace h64 : (0 : Int) = 0 := h64
                    refine e_Ok.rets rfl rfl ?_
                    have e65 : w60 276 5 = v1 276 5 := (e_uq hw60 (Or.inr (by omega)) (e_uq hw56 (Or.inr (by omega)) rfl))
                    have hru := runOk.to (w' := w60) (r' := 3 * z20 + 1) hru1 (fun c k q1 q2 => (e_uq hw60 (Or.inl (by omega)) (e_uq hw56 (Or.inl (by omega)) rfl))) (fun i q1 q2 => ⟨(e_uq hw60 (Or.inr (by omega)) (e_uq hw56 (Or.inr (by omega)) rfl)), (e_uq hw60 (Or.inr (by omega)) (e_uq hw56 (Or.inr (by omega)) rfl))⟩) (e_uq hw60 (Or.inr (by omega)) (e_uq hw56 (Or.inr (by omega)) rfl)) (by rw [(show w60 276 (1260 * t + 429) = v1 276 (1260 * t + 429) from (e_uq hw60 (Or.inr (by omega)) (e_uq hw56 (Or.inr (by omega)) rfl))), hPn1]; omega) (fun k q1 q2 => (e_uq hw60 (Or.inr (by omega)) (e_uq hw56 (Or.inr (by omega)) rfl))) (by omega) (by omega) (by omega) (fun q q1 q2 q3 => (han1 1 q (by omega) (by omega) q1).elim (fun e => by omega) (fun e => by have := han2 0 q (by omega) (by omega) e; rwa [show 3 * z20 + 0 = y4 by omega] at this))
                    exact ⟨rfl, ⟨(show e_fr (mLv t) w w60 from e_fr.up (show e_fr (mLv t) w w56 from e_fr.up j6 hw56 (by first | exact Or.inr ⟨rfl, Or.inr (Or.inr (Or.inr (Or.inr (Or.inr (Or.inr (Or.inr (Or.inl (by omega))))))))⟩ | (unfold mLv; omega))) hw60 (by first | exact Or.inr ⟨rfl, Or.inr (Or.inr (Or.inr (Or.inr (Or.inr (Or.inr (Or.inr (Or.inr (Or.inr ⟨(by omega), (by omega)⟩))))))))⟩ | (unfold mLv; omega))), (sRel.up (sRel.up j15 hw56 (fun q b g1 g2 => by omega)) hw60 (fun q b g1 g2 => by omega))⟩, hT63, by omega, (e_uq hw60 (Or.inl (by omega)) (e_uq hw56 (Or.inl (by omega)) j9)), Or.inr ⟨(Eq.trans (e_uq hw60 (Or.inl (by omega)) (e_uq hw56 (Or.inl (by omega)) rfl)) j10), (Eq.trans (e_uq hw60 (Or.inr (by omega)) (e_uq hw56 (Or.inr (by omega)) rfl)) j16), by omega, g1, w 332 (900 * a + z20), bs, ow, by omega, fun e => by omega, runOk.at hru (by omega) (e_ue hw60) ((show w60 330 (10000 * a + (w 332 (900 * a + z20))) = v1 330 (10000 * a + (w 332 (900 * a + z20))) from (e_uq hw60 (Or.inl (by omega)) (e_uq hw56 (Or.inl (by omega)) rfl))).trans ((j6 330 (10000 * a + (w 332 (900 * a + z20))) (by first | exact no_60_9 | (unfold mLv; omega))).trans (by omega))), by omega, by omega⟩⟩
                  · replace h64 : (0 : Int) ≠ 0 := (show ¬ ((0 : Int) = 0) from h64)
                    exfalso; omega
          · replace h19 : (y4 : Int) < 0 := Int.not_le.mp (show ¬ ((y4 : Int) ≥ 0) from h19)
            refine e_Ok.ps3 (x := (0, y)) (y := (0, x)) (z := (1, 275)) (q := 69) 3 rfl ?_
            refine e_Ok.callV rfl (e_dq hd rfl) rfl rfl rfl rfl (c_372 (e_dq hd rfl) j7 (by omega) (by omega) ((j6 275 96 (by first | exact no_60_12 | (unfold mLv; omega))).trans h96) ((j6 275 97 (by first | exact no_60_2 | (unfold mLv; omega))).trans h97) ((j6 275 98 (by first | exact no_60_0 | (unfold mLv; omega))).trans h98) hC1 (show runOk v1 a t g1 (-1) n nt nw dl sg pi an br bs ow by rw [← show y4 = -1 by omega]; exact hru1) (by omega) (by omega)) (fun r66 w67 h68 => ?_)
            obtain ⟨z69, rfl, ⟨q70, q70S⟩, q70T, q70n, q70d, q70c⟩ := h68
            have f71 : e_fr (mLv t) w w67 := e_fr.trans j6 (e_fr.mono q70 (fun c k q => by exact q))
            obtain ⟨q70a, q70b, q70z, q70r, q70o, q70e, q70x⟩ | ⟨q70a, q70b, rfl, q70p, q70t, q70u, q70v, q70o, q70e, q70x⟩ | ⟨q70a, rfl, q70o, q70s⟩ := q70c
            · refine e_Ok.nrm (q := 72) (st' := [(0, z69)]) rfl rfl ?_
              have q70g := q70r.2.2.2.1
              refine e_Ok.run (t' := (77, [(4, (0, z69)), (0, (1, 275)), (2, (0, x)), (3, (0, y)), (5, (0, 1))], [(0, (-1)), (0, z69)], w67)) 3 rfl ?_
              refine e_Ok.if2 rfl (fun h72 => ?_) (fun h72 => ?_)
              · replace h72 : (z69 : Int) < (-1) := h72
                exfalso; omega
              · replace h72 : (z69 : Int) ≥ (-1) := Int.not_lt.mp (show ¬ ((z69 : Int) < (-1)) from h72)
                refine e_Ok.run (t' := (11, [(5, (0, 1)), (4, (0, z69)), (0, (1, 275)), (2, (0, x)), (3, (0, y))], [], w67)) 4 rfl ?_
                refine e_Ok.sub eAlk (e_sub_of rfl ?_) (ih5 z69 w67 (g1 - 1) ⟨f71, q70T, q70r, (by rw [q70d]; exact j9), (by rw [q70o]; exact j10), (by rw [q70e]; exact j11), ⟨by omega, fun _ => by omega⟩, (fun e3 => by exfalso; omega), by have := q70r.2.2.2.1; omega, (sRel.trans j15 q70S), (Eq.trans q70x j16)⟩ (by omega))
                exact ⟨rfl, rfl, rfl, rfl, rfl, trivial⟩
            · refine e_Ok.nrm (q := 72) (st' := [(0, (-2))]) rfl rfl ?_
              refine e_Ok.run (t' := (77, [(4, (0, (-2))), (0, (1, 275)), (2, (0, x)), (3, (0, y)), (5, (0, 1))], [(0, (-1)), (0, (-2))], w67)) 3 rfl ?_
              refine e_Ok.if2 rfl (fun h73 => ?_) (fun h73 => ?_)
              · replace h73 : ((-2) : Int) < (-1) := h73
                refine e_Ok.run (t' := (11, [(5, (0, 0)), (4, (0, (-2))), (0, (1, 275)), (2, (0, x)), (3, (0, y))], [], w67)) 3 rfl ?_
                refine e_Ok.ps1 (x := (0, 0)) (q := 13) 1 rfl ?_
                refine e_Ok.if1 rfl (fun h74 => ?_) (fun h74 => ?_)
                · replace h74 : (0 : Int) = 0 := h74
                  refine e_Ok.rets rfl rfl ?_
                  have e75 : w67 276 5 = w67 276 5 := rfl
                  exact ⟨rfl, ⟨f71, (sRel.trans j15 q70S)⟩, q70T, by omega, (Eq.trans q70d j9), Or.inr ⟨(by rw [q70o]; exact j10), Eq.trans q70x j16, by omega, g1 - 1, q70p, bs, ow, by omega, by omega, q70t, q70u, q70v⟩⟩
                · replace h74 : (0 : Int) ≠ 0 := (show ¬ ((0 : Int) = 0) from h74)
                  exfalso; omega
              · replace h73 : ((-2) : Int) ≥ (-1) := Int.not_lt.mp (show ¬ (((-2) : Int) < (-1)) from h73)
                exfalso; omega
            · refine e_Ok.nrm (q := 72) (st' := [(0, (-2))]) rfl rfl ?_
              refine e_Ok.run (t' := (77, [(4, (0, (-2))), (0, (1, 275)), (2, (0, x)), (3, (0, y)), (5, (0, 1))], [(0, (-1)), (0, (-2))], w67)) 3 rfl ?_
              refine e_Ok.if2 rfl (fun h76 => ?_) (fun h76 => ?_)
              · replace h76 : ((-2) : Int) < (-1) := h76
                refine e_Ok.run (t' := (11, [(5, (0, 0)), (4, (0, (-2))), (0, (1, 275)), (2, (0, x)), (3, (0, y))], [], w67)) 3 rfl ?_
                refine e_Ok.ps1 (x := (0, 0)) (q := 13) 1 rfl ?_
                refine e_Ok.if1 rfl (fun h77 => ?_) (fun h77 => ?_)
                · replace h77 : (0 : Int) = 0 := h77
                  refine e_Ok.rets rfl rfl ?_
                  have e78 : w67 276 5 = w67 276 5 := rfl
                  exact ⟨rfl, ⟨f71, (sRel.trans j15 q70S)⟩, q70T, by omega, (Eq.trans q70d j9), Or.inl ⟨q70o, q70s⟩⟩
                · replace h77 : (0 : Int) ≠ 0 := (show ¬ ((0 : Int) = 0) from h77)
                  exfalso; omega
              · replace h76 : ((-2) : Int) ≥ (-1) := Int.not_lt.mp (show ¬ (((-2) : Int) < (-1)) from h76)
                exfalso; omega
        · replace h18 : (x : Int) = 3 := Classical.not_not.mp (show ¬ ((x : Int) ≠ 3) from h18)
          have hyy := hy3 (by omega)
          refine e_Ok.ps2 (x := (1, 275)) (y := (0, y4)) (q := 24) 2 rfl ?_
          refine e_Ok.getr (z := 335) rfl (el_o rfl) rfl (ef_o rfl) ((j6 275 72 (by first | exact no_60_13 | (unfold mLv; omega))).trans (e_Has.eq hT (mt_o rfl))) ⟨by decide, by decide⟩ ?_
          refine e_Ok.ps2 (x := (1, 275)) (y := (0, 900)) (q := 31) 2 rfl ?_
          refine e_Ok.getf (z := a) rfl (el_o rfl) rfl (ef_o rfl) ((j6 275 98 (by first | exact no_60_0 | (unfold mLv; omega))).trans h98) (by omega) ?_
          refine e_Ok.mul (z := 900 * a) rfl rfl (by omega) ?_
          refine e_Ok.ps1 (x := (0, y)) (q := 36) 1 rfl ?_
          refine e_Ok.add (z := 900 * a + y) rfl rfl (by omega) ?_
          have h79 := (e_Has.get hT (c := 335) (k := 900 * a + y) (lo := (-2147483648)) (hi := 2147483647) (mt_o rfl) (by decide))
          refine e_Ok.ald (z := w 335 (900 * a + y)) rfl (el_o rfl) rfl (by omega) ((j6 335 (900 * a + y) (by first | exact no_60_14 | (unfold mLv; omega))).trans rfl) (e_bq h79 (by decide) (by decide)) ?_
          refine e_Ok.if2 rfl (fun h80 => ?_) (fun h80 => ?_)
          · replace h80 : (y4 : Int) ≠ w 335 (900 * a + y) := h80
            refine e_Ok.ps1 (x := (0, y4)) (q := 63) 1 rfl ?_
            refine e_Ok.if1 rfl (fun h81 => ?_) (fun h81 => ?_)
            · replace h81 : (y4 : Int) ≥ 0 := h81
              refine e_Ok.ps2 (x := (1, 275)) (y := (0, 900)) (q := 94) 2 rfl ?_
              refine e_Ok.getf (z := a) rfl (el_o rfl) rfl (ef_o rfl) ((j6 275 98 (by first | exact no_60_0 | (unfold mLv; omega))).trans h98) (by omega) ?_
              refine e_Ok.mul (z := 900 * a) rfl rfl (by omega) ?_
              refine e_Ok.ps2 (x := (0, 3)) (y := (0, y4)) (q := 101) 2 rfl ?_
              refine e_Ok.divn (fun z82 hz82 => ?_) rfl (by omega) (by omega)
              replace hz82 : z82 = y4 / 3 := hz82
              have z82r : 0 ≤ z82 ∧ z82 ≤ 899 := by omega
              refine e_Ok.add (z := 900 * a + z82) rfl (by omega) (by omega) ?_
              refine e_Ok.run (t' := (108, [(6, (0, 900 * a + z82)), (0, (1, 275)), (2, (0, x)), (3, (0, y)), (4, (0, y4)), (5, (0, 1))], [(0, 3), (0, y4)], v1)) 3 rfl ?_
              refine e_Ok.remn (fun z83 hz83 => ?_) rfl (by omega) (by omega)
              replace hz83 : z83 = y4 % 3 := hz83
              have z83r : 0 ≤ z83 ∧ z83 ≤ 2 := by omega
              refine e_Ok.run (t' := (111, [(7, (0, z83)), (6, (0, 900 * a + z82)), (0, (1, 275)), (2, (0, x)), (3, (0, y)), (4, (0, y4)), (5, (0, 1))], [], v1)) 1 rfl ?_
              obtain ⟨hti, hpi3, hcat, hfin, hend, han1, han2⟩ := id (hC.2.2.1 z82 (by omega) (by omega))
              have hall := (hC.2.2.1 z82 (by omega) (by omega)).all (y := y4) (k := z83) (by omega) (by omega)
              unfold tgt at hcat hfin hend
              have hpz := hC.2.2.2.1.2.1 (w 331 (900 * a + z82)) (by omega) (by omega)
              refine e_Ok.ps1 (x := (0, z83)) (q := 113) 1 rfl ?_
              have hC160 : e_Ok 20 elay ecode eI (d + 1) 371 (160, [(0, (1, 275)), (2, (0, x)), (3, (0, y)), (4, (0, y4)), (5, (0, 1)), (6, (0, 900 * a + z82)), (7, (0, z83))], [], v1) (fun r' w' => r' = [] ∧ (e_fr (mLv t) w w' ∧ sRel w w') ∧ e_Has mTy w' ∧ (w 276 5 ≤ w' 276 5 ∧ w' 276 5 ≤ w 276 5 + 2) ∧ w' 275 102 = 0 ∧ ((w' 275 100 = 1 ∧ (w' 276 (1260 * t + 416) = 6 ∨ w' 276 (1260 * t + 416) = 7)) ∨ (w' 275 100 = w 275 100 ∧ w' 276 (1260 * t + 416) = w 276 (1260 * t + 416) ∧ w' 276 5 = w 276 5 ∧ ∃ (g' p' : Int) (bs' ow' : Int → Int), g' ≤ g ∧ (g' = g → p < p') ∧ topOk w' a t g' p' n nt nw dl sg pi an br bs' ow' ∧ dl p' = 0 ∧ sg p' = 0))) := by
                refine e_Ok.run (t' := (163, [(0, (1, 275)), (2, (0, x)), (3, (0, y)), (4, (0, y4)), (5, (0, 1)), (6, (0, 900 * a + z82)), (7, (0, z83))], [(0, 2), (0, z83)], v1)) 2 rfl ?_
                refine e_Ok.if2 rfl (fun h84 => ?_) (fun h84 => ?_)
                · replace h84 : (z83 : Int) ≥ 2 := h84
                  refine e_Ok.ps1 (x := (1, 275)) (q := 200) 1 rfl ?_
                  refine e_Ok.getr (z := 276) rfl (el_o rfl) rfl (ef_o rfl) ((j6 275 0 (by first | exact no_60_1 | (unfold mLv; omega))).trans (e_Has.eq hT (mt_o rfl))) ⟨by decide, by decide⟩ ?_
                  refine e_Ok.ps1 (x := (1, 275)) (q := 204) 1 rfl ?_
                  refine e_Ok.getf (z := 1260 * t + 416) rfl (el_o rfl) rfl (ef_o rfl) ((j6 275 97 (by first | exact no_60_2 | (unfold mLv; omega))).trans h97) (by omega) ?_
                  refine e_Ok.ps1 (x := (0, 13)) (q := 209) 1 rfl ?_
                  refine e_Ok.add (z := 1260 * t + 429) rfl (e_adl (by decide)) (by omega) ?_
                  refine e_Ok.ps2 (x := (0, 1260 * t + 429)) (y := (1, 276)) (q := 211) 1 rfl ?_
                  refine e_Ok.ald (z := bs g1 + pi y4) rfl (el_o rfl) rfl (by omega) hPn1 (by omega) ?_
                  refine e_Ok.ps2 (x := (0, 2)) (y := (0, z83)) (q := 215) 2 rfl ?_
                  refine e_Ok.if2 rfl (fun h85 => ?_) (fun h85 => ?_)
                  · replace h85 : (z83 : Int) ≠ 2 := h85
                    exfalso; omega
                  · replace h85 : (z83 : Int) = 2 := Classical.not_not.mp (show ¬ ((z83 : Int) ≠ 2) from h85)
                    refine e_Ok.ps1 (x := (0, 1)) (q := 223) 2 rfl ?_
                    refine e_Ok.sub' (z := bs g1 + pi y4 - 1) rfl rfl (by omega) ?_
                    refine e_Ok.ast rfl (el_o rfl) rfl rfl (by omega) ?_
                    generalize hw86 : e_up v1 276 (1260 * t + 429) (bs g1 + pi y4 - 1) = w86
                    have hT88 : e_Has mTy w86 := e_Has.upr j7 hw86 (nR_PENDS (t := t) (by omega)) (by omega)
                    refine e_Ok.ps1 (x := (1, 275)) (q := 226) 1 rfl ?_
                    refine e_Ok.getr (z := 331) rfl (el_o rfl) rfl (ef_o rfl) (e_uq hw86 (Or.inl (by decide)) ((j6 275 68 (by first | exact no_60_3 | (unfold mLv; omega))).trans (e_Has.eq hT (mt_o rfl)))) ⟨by decide, by decide⟩ ?_
                    refine e_Ok.ps1 (x := (0, 900 * a + z82)) (q := 231) 1 rfl ?_
                    refine e_Ok.ald (z := w 331 (900 * a + z82)) rfl (el_o rfl) rfl (by omega) (e_uq hw86 (Or.inl (by decide)) ((j6 331 (900 * a + z82) (by first | exact no_60_4 | (unfold mLv; omega))).trans rfl)) (by omega) ?_
                    refine e_Ok.run (t' := (11, [(4, (0, w 331 (900 * a + z82))), (0, (1, 275)), (2, (0, x)), (3, (0, y)), (5, (0, 1)), (6, (0, 900 * a + z82)), (7, (0, z83))], [], w86)) 2 rfl ?_
                    refine e_Ok.sub eAlk (e_sub_of rfl ?_) (ih5 (w 331 (900 * a + z82)) w86 g1 ⟨(show e_fr (mLv t) w w86 from e_fr.up j6 hw86 (by first | exact Or.inr ⟨rfl, Or.inr (Or.inr (Or.inr (Or.inr (Or.inr (Or.inr (Or.inr (Or.inr (Or.inl ⟨(by omega), (by omega)⟩))))))))⟩ | (unfold mLv; omega))), hT88, (runOk.to (w' := w86) (r' := w 331 (900 * a + z82)) hru1 (fun c k q1 q2 => (e_uq hw86 (Or.inl (by omega)) rfl)) (fun i q1 q2 => ⟨(e_uq hw86 (Or.inr (by omega)) rfl), (e_uq hw86 (Or.inr (by omega)) rfl)⟩) (e_uq hw86 (Or.inr (by omega)) rfl) (by have q : w86 276 (1260 * t + 429) = bs g1 + pi y4 - 1 := (e_ue hw86); omega) (fun k q1 q2 => (e_uq hw86 (Or.inr (by omega)) rfl)) (by omega) (by omega) (by omega) (fun q q1 q2 q3 => by have := han2 z83 q (by omega) (by omega) q1; rwa [show 3 * z82 + z83 = y4 by omega] at this)), (Eq.trans (e_uq hw86 (Or.inl (by omega)) rfl) j9), (Eq.trans (e_uq hw86 (Or.inl (by omega)) rfl) j10), (Eq.trans (e_uq hw86 (Or.inr (by omega)) rfl) j11), ⟨by omega, fun _ => by omega⟩, (fun e3 => by have q := hC.2.2.2.2.2.1 y4 y (j13 e3).2 (by omega) (by omega); rw [show y4 / 3 = z82 by omega] at q; exact ⟨(j13 e3).1, q.elim (fun q => by exfalso; omega) (fun q => q.2.2)⟩), by omega, (sRel.up j15 hw86 (fun q b g1 g2 => by omega)), (Eq.trans (e_uq hw86 (Or.inr (by omega)) rfl) j16)⟩ (by omega))
                    exact ⟨rfl, rfl, rfl, rfl, rfl, trivial⟩
                · replace h84 : (z83 : Int) < 2 := Int.not_le.mp (show ¬ ((z83 : Int) ≥ 2) from h84)
                  refine e_Ok.ps1 (x := (1, 275)) (q := 167) 1 rfl ?_
                  refine e_Ok.getr (z := 333) rfl (el_o rfl) rfl (ef_o rfl) ((j6 275 70 (by first | exact no_60_5 | (unfold mLv; omega))).trans (e_Has.eq hT (mt_o rfl))) ⟨by decide, by decide⟩ ?_
                  refine e_Ok.ps1 (x := (0, 900 * a + z82)) (q := 172) 1 rfl ?_
                  have h89 := (e_Has.get hT (c := 333) (k := 900 * a + z82) (lo := (-2147483648)) (hi := 2147483647) (mt_o rfl) (by decide))
                  refine e_Ok.ald (z := w 333 (900 * a + z82)) rfl (el_o rfl) rfl (by omega) ((j6 333 (900 * a + z82) (by first | exact no_60_6 | (unfold mLv; omega))).trans rfl) (e_bq h89 (by decide) (by decide)) ?_
                  refine e_Ok.if1 rfl (fun h90 => ?_) (fun h90 => ?_)
                  · replace h90 : (w 333 (900 * a + z82) : Int) < 0 := h90
                    refine e_Ok.ps1 (x := (1, 275)) (q := 200) 1 rfl ?_
                    refine e_Ok.getr (z := 276) rfl (el_o rfl) rfl (ef_o rfl) ((j6 275 0 (by first | exact no_60_1 | (unfold mLv; omega))).trans (e_Has.eq hT (mt_o rfl))) ⟨by decide, by decide⟩ ?_
                    refine e_Ok.ps1 (x := (1, 275)) (q := 204) 1 rfl ?_
                    refine e_Ok.getf (z := 1260 * t + 416) rfl (el_o rfl) rfl (ef_o rfl) ((j6 275 97 (by first | exact no_60_2 | (unfold mLv; omega))).trans h97) (by omega) ?_
                    refine e_Ok.ps1 (x := (0, 13)) (q := 209) 1 rfl ?_
                    refine e_Ok.add (z := 1260 * t + 429) rfl (e_adl (by decide)) (by omega) ?_
                    refine e_Ok.ps2 (x := (0, 1260 * t + 429)) (y := (1, 276)) (q := 211) 1 rfl ?_
                    refine e_Ok.ald (z := bs g1 + pi y4) rfl (el_o rfl) rfl (by omega) hPn1 (by omega) ?_
                    refine e_Ok.ps2 (x := (0, 2)) (y := (0, z83)) (q := 215) 2 rfl ?_
                    refine e_Ok.if2 rfl (fun h91 => ?_) (fun h91 => ?_)
                    · replace h91 : (z83 : Int) ≠ 2 := h91
                      refine e_Ok.ps1 (x := (0, 0)) (q := 223) 1 rfl ?_
                      refine e_Ok.sub' (z := bs g1 + pi y4) rfl (by omega) (by omega) ?_
                      refine e_Ok.ast rfl (el_o rfl) rfl rfl (by omega) ?_
                      generalize hw92 : e_up v1 276 (1260 * t + 429) (bs g1 + pi y4) = w92
                      have hT94 : e_Has mTy w92 := e_Has.upr j7 hw92 (nR_PENDS (t := t) (by omega)) (by omega)
                      refine e_Ok.ps1 (x := (1, 275)) (q := 226) 1 rfl ?_
                      refine e_Ok.getr (z := 331) rfl (el_o rfl) rfl (ef_o rfl) (e_uq hw92 (Or.inl (by decide)) ((j6 275 68 (by first | exact no_60_3 | (unfold mLv; omega))).trans (e_Has.eq hT (mt_o rfl)))) ⟨by decide, by decide⟩ ?_
                      refine e_Ok.ps1 (x := (0, 900 * a + z82)) (q := 231) 1 rfl ?_
                      refine e_Ok.ald (z := w 331 (900 * a + z82)) rfl (el_o rfl) rfl (by omega) (e_uq hw92 (Or.inl (by decide)) ((j6 331 (900 * a + z82) (by first | exact no_60_4 | (unfold mLv; omega))).trans rfl)) (by omega) ?_
                      refine e_Ok.run (t' := (11, [(4, (0, w 331 (900 * a + z82))), (0, (1, 275)), (2, (0, x)), (3, (0, y)), (5, (0, 1)), (6, (0, 900 * a + z82)), (7, (0, z83))], [], w92)) 2 rfl ?_
                      refine e_Ok.sub eAlk (e_sub_of rfl ?_) (ih5 (w 331 (900 * a + z82)) w92 g1 ⟨(show e_fr (mLv t) w w92 from e_fr.up j6 hw92 (by first | exact Or.inr ⟨rfl, Or.inr (Or.inr (Or.inr (Or.inr (Or.inr (Or.inr (Or.inr (Or.inr (Or.inl ⟨(by omega), (by omega)⟩))))))))⟩ | (unfold mLv; omega))), hT94, (runOk.to (w' := w92) (r' := w 331 (900 * a + z82)) hru1 (fun c k q1 q2 => (e_uq hw92 (Or.inl (by omega)) rfl)) (fun i q1 q2 => ⟨(e_uq hw92 (Or.inr (by omega)) rfl), (e_uq hw92 (Or.inr (by omega)) rfl)⟩) (e_uq hw92 (Or.inr (by omega)) rfl) (by have q : w92 276 (1260 * t + 429) = bs g1 + pi y4 := (e_ue hw92); omega) (fun k q1 q2 => (e_uq hw92 (Or.inr (by omega)) rfl)) (by omega) (by omega) (by omega) (fun q q1 q2 q3 => by have := han2 z83 q (by omega) (by omega) q1; rwa [show 3 * z82 + z83 = y4 by omega] at this)), (Eq.trans (e_uq hw92 (Or.inl (by omega)) rfl) j9), (Eq.trans (e_uq hw92 (Or.inl (by omega)) rfl) j10), (Eq.trans (e_uq hw92 (Or.inr (by omega)) rfl) j11), ⟨by omega, fun _ => by omega⟩, (fun e3 => by have q := hC.2.2.2.2.2.1 y4 y (j13 e3).2 (by omega) (by omega); rw [show y4 / 3 = z82 by omega] at q; exact ⟨(j13 e3).1, q.elim (fun q => by exfalso; omega) (fun q => q.2.2)⟩), by omega, (sRel.up j15 hw92 (fun q b g1 g2 => by omega)), (Eq.trans (e_uq hw92 (Or.inr (by omega)) rfl) j16)⟩ (by omega))
                      exact ⟨rfl, rfl, rfl, rfl, rfl, trivial⟩
                    · replace h91 : (z83 : Int) = 2 := Classical.not_not.mp (show ¬ ((z83 : Int) ≠ 2) from h91)
                      exfalso; omega
                  · replace h90 : (w 333 (900 * a + z82) : Int) ≥ 0 := Int.not_lt.mp (show ¬ ((w 333 (900 * a + z82) : Int) < 0) from h90)
                    have hf1 := hfin.resolve_left (by omega)
                    have hf2 := (hall.2.2.1 (by omega)).resolve_left (by omega)
                    have hp2 := hC.2.2.2.1.2.1 (3 * z82 + 2) (by omega) (by omega)
                    refine e_Ok.ps3 (x := (0, y)) (y := (0, x)) (z := (1, 275)) (q := 179) 3 rfl ?_
                    refine e_Ok.callV rfl (e_dq hd rfl) rfl rfl rfl rfl (c_370 j7 (by omega) ((j6 275 97 (by first | exact no_60_2 | (unfold mLv; omega))).trans h97) (m := bs g1 + pi y4) (m1 := bs g1 + pi y4 + 1) (z := 1260 * t + 2 * bs g1 + 2 * pi y4 + 476) (z1 := 1260 * t + 2 * bs g1 + 2 * pi y4 + 477) hPn1 (by omega) (by omega) (by omega) (by omega)) (fun r95 w101 h103 => ?_)
                    obtain ⟨rfl, hw101⟩ := h103
                    generalize hw104 : e_up v1 276 (1260 * t + 2 * bs g1 + 2 * pi y4 + 476) x = w104 at hw101
                    have hT106 : e_Has mTy w104 := e_Has.upr j7 hw104 (nR_PEg t (by omega) (by omega)) (by omega)
                    generalize hw107 : e_up w104 276 (1260 * t + 2 * bs g1 + 2 * pi y4 + 477) y = w107 at hw101
                    have hT109 : e_Has mTy w107 := e_Has.upr hT106 hw107 (nR_PEg t (by omega) (by omega)) (by omega)
                    have hT111 : e_Has mTy w101 := e_Has.upr hT109 hw101 (nR_PENDS (t := t) (by omega)) (by omega)
                    refine e_Ok.nrm (q := 182) (st' := []) rfl rfl ?_
                    refine e_Ok.ps2 (x := (1, 275)) (y := (1, 275)) (q := 184) 2 rfl ?_
                    refine e_Ok.getr (z := 333) rfl (el_o rfl) rfl (ef_o rfl) (e_uq hw101 (Or.inl (by omega)) (e_uq hw107 (Or.inl (by omega)) (e_uq hw104 (Or.inl (by omega)) ((j6 275 70 (by first | exact no_60_5 | (unfold mLv; omega))).trans (e_Has.eq hT (mt_o rfl)))))) ⟨by decide, by decide⟩ ?_
                    refine e_Ok.ps1 (x := (0, 900 * a + z82)) (q := 189) 1 rfl ?_
                    refine e_Ok.ald (z := w 333 (900 * a + z82)) rfl (el_o rfl) rfl (by omega) (e_uq hw101 (Or.inl (by omega)) (e_uq hw107 (Or.inl (by omega)) (e_uq hw104 (Or.inl (by omega)) ((j6 333 (900 * a + z82) (by first | exact no_60_6 | (unfold mLv; omega))).trans rfl)))) (by omega) ?_
                    refine e_Ok.callV rfl (e_dq hd rfl) rfl rfl rfl rfl (c_365 (e_dq hd rfl) hT111 (by omega) (e_uq hw101 (Or.inl (by first | decide | omega)) (e_uq hw107 (Or.inl (by first | decide | omega)) (e_uq hw104 (Or.inl (by first | decide | omega)) ((j6 275 97 (by first | exact no_60_2 | (unfold mLv; omega))).trans h97)))) (f := g1 + 1) (z := 1260 * t + 2 * g1 + 436) (e_uq hw101 (Or.inr (by omega)) (e_uq hw107 (Or.inr (by omega)) (e_uq hw104 (Or.inr (by omega)) hF1))) (by omega) (by omega)) (fun r112 w113 h114 => ?_)
                    obtain ⟨rfl, hw113⟩ := h114
                    have hT116 : e_Has mTy w113 := e_Has.upr hT111 hw113 (nR_FRg t (g1) (by omega) (by omega) (by omega)) (by omega)
                    refine e_Ok.nrm (q := 193) (st' := []) rfl rfl ?_
                    refine e_Ok.run (t' := (11, [(5, (0, 0)), (0, (1, 275)), (2, (0, x)), (3, (0, y)), (4, (0, y4)), (6, (0, 900 * a + z82)), (7, (0, z83))], [], w113)) 4 rfl ?_
                    refine e_Ok.ps1 (x := (0, 0)) (q := 13) 1 rfl ?_
                    refine e_Ok.if1 rfl (fun h117 => ?_) (fun h117 => ?_)
                    · replace h117 : (0 : Int) = 0 := h117
                      refine e_Ok.rets rfl rfl ?_
                      have e118 : w113 276 5 = v1 276 5 := (e_uq hw113 (Or.inr (by omega)) (e_uq hw101 (Or.inr (by omega)) (e_uq hw107 (Or.inr (by omega)) (e_uq hw104 (Or.inr (by omega)) rfl))))
                      have hru := runOk.fin (w' := w113) (z := z82) (i := z83) (x := x) (y := y) hC1 hru1 (by omega) (by omega) (by omega) (fun c k q1 q2 => (e_uq hw113 (Or.inl (by omega)) (e_uq hw101 (Or.inl (by omega)) (e_uq hw107 (Or.inl (by omega)) (e_uq hw104 (Or.inl (by omega)) rfl))))) (fun i q1 q2 => ⟨(e_uq hw113 (Or.inr (by omega)) (e_uq hw101 (Or.inr (by omega)) (e_uq hw107 (Or.inr (by omega)) (e_uq hw104 (Or.inr (by omega)) rfl)))), (e_uq hw113 (Or.inr (by omega)) (e_uq hw101 (Or.inr (by omega)) (e_uq hw107 (Or.inr (by omega)) (e_uq hw104 (Or.inr (by omega)) rfl))))⟩) (e_uq hw113 (Or.inr (by omega)) (e_uq hw101 (Or.inr (by omega)) (e_uq hw107 (Or.inr (by omega)) (e_uq hw104 (Or.inr (by omega)) rfl)))) (e_uq hw113 (Or.inr (by omega)) (e_ue hw101)) (fun k q1 q2 => (e_uq hw113 (Or.inr (by omega)) (e_uq hw101 (Or.inr (by omega)) (e_uq hw107 (Or.inr (by omega)) (e_uq hw104 (Or.inr (by omega)) rfl))))) (by rw [show 1260 * t + 2 * (bs g1 + pi y4) + 476 = 1260 * t + 2 * bs g1 + 2 * pi y4 + 476 by omega]; exact (e_uq hw113 (Or.inr (by omega)) (e_uq hw101 (Or.inr (by omega)) (e_uq hw107 (Or.inr (by omega)) (e_ue hw104))))) (by rw [show 1260 * t + 2 * (bs g1 + pi y4) + 477 = 1260 * t + 2 * bs g1 + 2 * pi y4 + 477 by omega]; exact (e_uq hw113 (Or.inr (by omega)) (e_uq hw101 (Or.inr (by omega)) (e_ue hw107)))) (fun e3 => by have q := hC.2.2.2.2.2.1 y4 y (j13 e3).2 (by omega) (by omega); rw [show y4 / 3 = z82 by omega] at q; have q0 := hy3 e3; refine ⟨q0.1, q0.2.1, ?_⟩; rw [j6 331 _ (by first | exact no_60_4 | (unfold mLv; omega)), j6 334 _ (by first | exact no_60_7 | (unfold mLv; omega)), j6 336 _ (by first | exact no_60_8 | (unfold mLv; omega))]; exact q.elim (fun q => by exfalso; omega) (fun q => ⟨q.2.2, q.2.1⟩))
                      exact ⟨rfl, ⟨(show e_fr (mLv t) w w113 from e_fr.up (show e_fr (mLv t) w w101 from e_fr.up (show e_fr (mLv t) w w107 from e_fr.up (show e_fr (mLv t) w w104 from e_fr.up j6 hw104 (by first | exact Or.inr ⟨rfl, Or.inr (Or.inr (Or.inr (Or.inr (Or.inr (Or.inr (Or.inr (Or.inr (Or.inr ⟨(by omega), (by omega)⟩))))))))⟩ | (unfold mLv; omega))) hw107 (by first | exact Or.inr ⟨rfl, Or.inr (Or.inr (Or.inr (Or.inr (Or.inr (Or.inr (Or.inr (Or.inr (Or.inr ⟨(by omega), (by omega)⟩))))))))⟩ | (unfold mLv; omega))) hw101 (by first | exact Or.inr ⟨rfl, Or.inr (Or.inr (Or.inr (Or.inr (Or.inr (Or.inr (Or.inr (Or.inr (Or.inl ⟨(by omega), (by omega)⟩))))))))⟩ | (unfold mLv; omega))) hw113 (by first | exact Or.inr ⟨rfl, Or.inr (Or.inr (Or.inr (Or.inr (Or.inr (Or.inr (Or.inr (Or.inr (Or.inr ⟨(by omega), (by omega)⟩))))))))⟩ | (unfold mLv; omega))), (sRel.up (sRel.up (sRel.up (sRel.up j15 hw104 (fun q b g1 g2 => by omega)) hw107 (fun q b g1 g2 => by omega)) hw101 (fun q b g1 g2 => by omega)) hw113 (fun q b g1 g2 => by omega))⟩, hT116, by omega, (e_uq hw113 (Or.inl (by omega)) (e_uq hw101 (Or.inl (by omega)) (e_uq hw107 (Or.inl (by omega)) (e_uq hw104 (Or.inl (by omega)) j9)))), Or.inr ⟨(Eq.trans (e_uq hw113 (Or.inl (by omega)) (e_uq hw101 (Or.inl (by omega)) (e_uq hw107 (Or.inl (by omega)) (e_uq hw104 (Or.inl (by omega)) rfl)))) j10), (Eq.trans (e_uq hw113 (Or.inr (by omega)) (e_uq hw101 (Or.inr (by omega)) (e_uq hw107 (Or.inr (by omega)) (e_uq hw104 (Or.inr (by omega)) rfl)))) j16), by omega, g1, w 333 (900 * a + z82), bs, _, by omega, fun e => by omega, runOk.at hru (by omega) (e_ue hw113) ((show w113 330 (10000 * a + (w 333 (900 * a + z82))) = v1 330 (10000 * a + (w 333 (900 * a + z82))) from (e_uq hw113 (Or.inl (by omega)) (e_uq hw101 (Or.inl (by omega)) (e_uq hw107 (Or.inl (by omega)) (e_uq hw104 (Or.inl (by omega)) rfl))))).trans ((j6 330 (10000 * a + (w 333 (900 * a + z82))) (by first | exact no_60_9 | (unfold mLv; omega))).trans (by omega))), by omega, by omega⟩⟩
                    · replace h117 : (0 : Int) ≠ 0 := (show ¬ ((0 : Int) = 0) from h117)
                      exfalso; omega
              refine e_Ok.if1 rfl (fun h119 => ?_) (fun h119 => ?_)
              · replace h119 : (z83 : Int) ≠ 0 := h119
                refine e_Ok.sub eAlk (e_sub_of rfl ?_) hC160
                exact ⟨rfl, rfl, rfl, rfl, rfl, rfl, rfl, trivial⟩
              · replace h119 : (z83 : Int) = 0 := Classical.not_not.mp (show ¬ ((z83 : Int) ≠ 0) from h119)
                refine e_Ok.run (t' := (118, [(7, (0, z83)), (6, (0, 900 * a + z82)), (0, (1, 275)), (2, (0, x)), (3, (0, y)), (4, (0, y4)), (5, (0, 1))], [(0, 1), (0, x)], v1)) 2 rfl ?_
                refine e_Ok.if2 rfl (fun h120 => ?_) (fun h120 => ?_)
                · replace h120 : (x : Int) ≠ 1 := h120
                  refine e_Ok.sub eAlk (e_sub_of rfl ?_) hC160
                  exact ⟨rfl, rfl, rfl, rfl, rfl, rfl, rfl, trivial⟩
                · replace h120 : (x : Int) = 1 := Classical.not_not.mp (show ¬ ((x : Int) ≠ 1) from h120)
                  exfalso; omega
            · replace h81 : (y4 : Int) < 0 := Int.not_le.mp (show ¬ ((y4 : Int) ≥ 0) from h81)
              refine e_Ok.ps3 (x := (0, y)) (y := (0, x)) (z := (1, 275)) (q := 69) 3 rfl ?_
              refine e_Ok.callV rfl (e_dq hd rfl) rfl rfl rfl rfl (c_372 (e_dq hd rfl) j7 (by omega) (by omega) ((j6 275 96 (by first | exact no_60_12 | (unfold mLv; omega))).trans h96) ((j6 275 97 (by first | exact no_60_2 | (unfold mLv; omega))).trans h97) ((j6 275 98 (by first | exact no_60_0 | (unfold mLv; omega))).trans h98) hC1 (show runOk v1 a t g1 (-1) n nt nw dl sg pi an br bs ow by rw [← show y4 = -1 by omega]; exact hru1) (by omega) (by omega)) (fun r121 w122 h123 => ?_)
              obtain ⟨z124, rfl, ⟨q125, q125S⟩, q125T, q125n, q125d, q125c⟩ := h123
              have f126 : e_fr (mLv t) w w122 := e_fr.trans j6 (e_fr.mono q125 (fun c k q => by exact q))
              obtain ⟨q125a, q125b, q125z, q125r, q125o, q125e, q125x⟩ | ⟨q125a, q125b, rfl, q125p, q125t, q125u, q125v, q125o, q125e, q125x⟩ | ⟨q125a, rfl, q125o, q125s⟩ := q125c
              · refine e_Ok.nrm (q := 72) (st' := [(0, z124)]) rfl rfl ?_
                have q125g := q125r.2.2.2.1
                refine e_Ok.run (t' := (77, [(4, (0, z124)), (0, (1, 275)), (2, (0, x)), (3, (0, y)), (5, (0, 1))], [(0, (-1)), (0, z124)], w122)) 3 rfl ?_
                refine e_Ok.if2 rfl (fun h127 => ?_) (fun h127 => ?_)
                · replace h127 : (z124 : Int) < (-1) := h127
                  exfalso; omega
                · replace h127 : (z124 : Int) ≥ (-1) := Int.not_lt.mp (show ¬ ((z124 : Int) < (-1)) from h127)
                  refine e_Ok.run (t' := (11, [(5, (0, 1)), (4, (0, z124)), (0, (1, 275)), (2, (0, x)), (3, (0, y))], [], w122)) 4 rfl ?_
                  refine e_Ok.sub eAlk (e_sub_of rfl ?_) (ih5 z124 w122 (g1 - 1) ⟨f126, q125T, q125r, (by rw [q125d]; exact j9), (by rw [q125o]; exact j10), (by rw [q125e]; exact j11), ⟨by omega, fun _ => by omega⟩, (fun e3 => by exfalso; omega), by have := q125r.2.2.2.1; omega, (sRel.trans j15 q125S), (Eq.trans q125x j16)⟩ (by omega))
                  exact ⟨rfl, rfl, rfl, rfl, rfl, trivial⟩
              · refine e_Ok.nrm (q := 72) (st' := [(0, (-2))]) rfl rfl ?_
                refine e_Ok.run (t' := (77, [(4, (0, (-2))), (0, (1, 275)), (2, (0, x)), (3, (0, y)), (5, (0, 1))], [(0, (-1)), (0, (-2))], w122)) 3 rfl ?_
                refine e_Ok.if2 rfl (fun h128 => ?_) (fun h128 => ?_)
                · replace h128 : ((-2) : Int) < (-1) := h128
                  refine e_Ok.run (t' := (11, [(5, (0, 0)), (4, (0, (-2))), (0, (1, 275)), (2, (0, x)), (3, (0, y))], [], w122)) 3 rfl ?_
                  refine e_Ok.ps1 (x := (0, 0)) (q := 13) 1 rfl ?_
                  refine e_Ok.if1 rfl (fun h129 => ?_) (fun h129 => ?_)
                  · replace h129 : (0 : Int) = 0 := h129
                    refine e_Ok.rets rfl rfl ?_
                    have e130 : w122 276 5 = w122 276 5 := rfl
                    exact ⟨rfl, ⟨f126, (sRel.trans j15 q125S)⟩, q125T, by omega, (Eq.trans q125d j9), Or.inr ⟨(by rw [q125o]; exact j10), Eq.trans q125x j16, by omega, g1 - 1, q125p, bs, ow, by omega, by omega, q125t, q125u, q125v⟩⟩
                  · replace h129 : (0 : Int) ≠ 0 := (show ¬ ((0 : Int) = 0) from h129)
                    exfalso; omega
                · replace h128 : ((-2) : Int) ≥ (-1) := Int.not_lt.mp (show ¬ (((-2) : Int) < (-1)) from h128)
                  exfalso; omega
              · refine e_Ok.nrm (q := 72) (st' := [(0, (-2))]) rfl rfl ?_
                refine e_Ok.run (t' := (77, [(4, (0, (-2))), (0, (1, 275)), (2, (0, x)), (3, (0, y)), (5, (0, 1))], [(0, (-1)), (0, (-2))], w122)) 3 rfl ?_
                refine e_Ok.if2 rfl (fun h131 => ?_) (fun h131 => ?_)
                · replace h131 : ((-2) : Int) < (-1) := h131
                  refine e_Ok.run (t' := (11, [(5, (0, 0)), (4, (0, (-2))), (0, (1, 275)), (2, (0, x)), (3, (0, y))], [], w122)) 3 rfl ?_
                  refine e_Ok.ps1 (x := (0, 0)) (q := 13) 1 rfl ?_
                  refine e_Ok.if1 rfl (fun h132 => ?_) (fun h132 => ?_)
                  · replace h132 : (0 : Int) = 0 := h132
                    refine e_Ok.rets rfl rfl ?_
                    have e133 : w122 276 5 = w122 276 5 := rfl
                    exact ⟨rfl, ⟨f126, (sRel.trans j15 q125S)⟩, q125T, by omega, (Eq.trans q125d j9), Or.inl ⟨q125o, q125s⟩⟩
                  · replace h132 : (0 : Int) ≠ 0 := (show ¬ ((0 : Int) = 0) from h132)
                    exfalso; omega
                · replace h131 : ((-2) : Int) ≥ (-1) := Int.not_lt.mp (show ¬ (((-2) : Int) < (-1)) from h131)
                  exfalso; omega
          · replace h80 : (y4 : Int) = w 335 (900 * a + y) := Classical.not_not.mp (show ¬ ((y4 : Int) ≠ w 335 (900 * a + y)) from h80)
            have hwh := hC.2.2.2.2.1 y (by omega) (by omega)
            unfold tgt at hwh
            refine e_Ok.ps2 (x := (1, 275)) (y := (1, 275)) (q := 43) 2 rfl ?_
            refine e_Ok.getr (z := 336) rfl (el_o rfl) rfl (ef_o rfl) ((j6 275 73 (by first | exact no_60_15 | (unfold mLv; omega))).trans (e_Has.eq hT (mt_o rfl))) ⟨by decide, by decide⟩ ?_
            refine e_Ok.ps2 (x := (1, 275)) (y := (0, 900)) (q := 50) 2 rfl ?_
            refine e_Ok.getf (z := a) rfl (el_o rfl) rfl (ef_o rfl) ((j6 275 98 (by first | exact no_60_0 | (unfold mLv; omega))).trans h98) (by omega) ?_
            refine e_Ok.mul (z := 900 * a) rfl rfl (by omega) ?_
            refine e_Ok.ps1 (x := (0, y)) (q := 55) 1 rfl ?_
            refine e_Ok.add (z := 900 * a + y) rfl rfl (by omega) ?_
            have h134 := (e_Has.get hT (c := 336) (k := 900 * a + y) (lo := (-2147483648)) (hi := 2147483647) (mt_o rfl) (by decide))
            refine e_Ok.ald (z := w 336 (900 * a + y)) rfl (el_o rfl) rfl (by omega) ((j6 336 (900 * a + y) (by first | exact no_60_8 | (unfold mLv; omega))).trans rfl) (e_bq h134 (by decide) (by decide)) ?_
            refine e_Ok.callV rfl (e_dq hd rfl) rfl rfl rfl rfl (c_365 (e_dq hd rfl) j7 (by omega) ((j6 275 97 (by first | exact no_60_2 | (unfold mLv; omega))).trans h97) (f := g1 + 1) (z := 1260 * t + 2 * g1 + 436) hF1 (by omega) (by omega)) (fun r135 w136 h137 => ?_)
            obtain ⟨rfl, hw136⟩ := h137
            have hT139 : e_Has mTy w136 := e_Has.upr j7 hw136 (nR_FRg t (g1) (by omega) (by omega) (by omega)) (by omega)
            refine e_Ok.nrm (q := 60) (st' := []) rfl rfl ?_
            refine e_Ok.rets rfl rfl ?_
            have e140 : w136 276 5 = v1 276 5 := (e_uq hw136 (Or.inr (by omega)) rfl)
            have hru := runOk.to (w' := w136) (r' := y4) hru1 (fun c k q1 q2 => (e_uq hw136 (Or.inl (by omega)) rfl)) (fun i q1 q2 => ⟨(e_uq hw136 (Or.inr (by omega)) rfl), (e_uq hw136 (Or.inr (by omega)) rfl)⟩) (e_uq hw136 (Or.inr (by omega)) rfl) (Eq.trans (e_uq hw136 (Or.inr (by omega)) rfl) hPn1) (fun k q1 q2 => (e_uq hw136 (Or.inr (by omega)) rfl)) (by omega) (by omega) (by omega) (fun q q1 q2 q3 => q1)
            exact ⟨rfl, ⟨(show e_fr (mLv t) w w136 from e_fr.up j6 hw136 (by first | exact Or.inr ⟨rfl, Or.inr (Or.inr (Or.inr (Or.inr (Or.inr (Or.inr (Or.inr (Or.inr (Or.inr ⟨(by omega), (by omega)⟩))))))))⟩ | (unfold mLv; omega))), (sRel.up j15 hw136 (fun q b g1 g2 => by omega))⟩, hT139, by omega, (e_uq hw136 (Or.inl (by omega)) j9), Or.inr ⟨(Eq.trans (e_uq hw136 (Or.inl (by omega)) rfl) j10), (Eq.trans (e_uq hw136 (Or.inr (by omega)) rfl) j16), by omega, g1, w 336 (900 * a + y), bs, ow, by omega, fun e => by omega, runOk.at hru (by omega) (e_ue hw136) ((show w136 330 (10000 * a + (w 336 (900 * a + y))) = v1 330 (10000 * a + (w 336 (900 * a + y))) from (e_uq hw136 (Or.inl (by omega)) rfl)).trans ((j6 330 (10000 * a + (w 336 (900 * a + y))) (by first | exact no_60_9 | (unfold mLv; omega))).trans (by omega))), by omega, by omega⟩⟩
  refine e_Ok.sub eAlk (e_sub_of rfl ?_) (hL4 (3000 * g + r + 1 + 1 : Int).toNat r w1 g ⟨(show e_fr (mLv t) w w1 from e_fr.up (e_fr.refl w) hw1 (by first | exact Or.inl ⟨rfl, Or.inr rfl⟩ | (unfold mLv; omega))), hT3, (runOk.fr (fun c k q1 q2 => (e_uq hw1 (Or.inl (by omega)) rfl)) (fun i q1 q2 => ⟨(e_uq hw1 (Or.inl (by omega)) rfl), (e_uq hw1 (Or.inl (by omega)) rfl)⟩) (e_uq hw1 (Or.inl (by omega)) rfl) (e_uq hw1 (Or.inl (by omega)) rfl) (fun k q1 q2 => (e_uq hw1 (Or.inl (by omega)) rfl)) (by omega) hR), (e_ue hw1), (e_uq hw1 (Or.inr (by omega)) rfl), (e_uq hw1 (Or.inl (by omega)) rfl), ⟨by omega, fun _ => by omega⟩, (fun e3 => ⟨rfl, (hy3 e3).2.2.1⟩), by omega, (sRel.up sRel.refl hw1 (fun q b g1 g2 => by omega)), (e_uq hw1 (Or.inl (by omega)) rfl)⟩ (by omega))
  exact ⟨rfl, rfl, rfl, rfl, rfl, trivial⟩
end
