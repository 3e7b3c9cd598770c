noncomputable section
theorem no_60_0 {t : Int} : ¬ mLv t 275 98 := by unfold mLv; omega
theorem no_60_1 {t : Int} : ¬ mLv t 275 0 := by unfold mLv; omega
theorem no_60_2 {t : Int} : ¬ mLv t 275 97 := by unfold mLv; omega
theorem no_60_3 {t : Int} : ¬ mLv t 275 68 := by unfold mLv; omega
theorem no_60_4 {t : Int} {k : Int} : ¬ mLv t 331 k := by unfold mLv; omega
theorem no_60_5 {t : Int} : ¬ mLv t 275 70 := by unfold mLv; omega
theorem no_60_6 {t : Int} {k : Int} : ¬ mLv t 333 k := by unfold mLv; omega
theorem no_60_7 {t : Int} {k : Int} : ¬ mLv t 334 k := by unfold mLv; omega
theorem no_60_8 {t : Int} {k : Int} : ¬ mLv t 336 k := by unfold mLv; omega
theorem no_60_9 {t : Int} {k : Int} : ¬ mLv t 330 k := by unfold mLv; omega
theorem no_60_10 {t : Int} : ¬ mLv t 275 69 := by unfold mLv; omega
theorem no_60_11 {t : Int} {k : Int} : ¬ mLv t 332 k := by unfold mLv; omega
theorem no_60_12 {t : Int} : ¬ mLv t 275 96 := by unfold mLv; omega
theorem no_60_13 {t : Int} : ¬ mLv t 275 72 := by unfold mLv; omega
theorem no_60_14 {t : Int} {k : Int} : ¬ mLv t 335 k := by unfold mLv; omega
theorem no_60_15 {t : Int} : ¬ mLv t 275 73 := by unfold mLv; omega
set_option maxHeartbeats 4000000 in
theorem c_371 {d : Nat} (hd : 27 ≤ d) {w : eW} (hT : e_Has mTy w) {t a g : Int} (ht : 0 ≤ t ∧ t ≤ 15) (ha : 0 ≤ a ∧ a ≤ 3) (h96 : w 275 96 = t) (h97 : w 275 97 = 1260 * t + 416) (h98 : w 275 98 = a) {n nt nw : Int} {dl sg pi en : Int → Int} {an br : Int → Int → Prop} {bs ow : Int → Int} (hC : cOk w a n nt nw dl sg pi en an br) {r p x y : Int} (hR : runOk w a t g r n nt nw dl sg pi an br bs ow) (hp : 0 ≤ p ∧ p < en r) (hE : w 276 5 ≤ 2147483000) (hx : -2147483648 ≤ x ∧ x ≤ 2147483647) (hy : -2147483648 ≤ y ∧ y ≤ 2147483647) (hy3 : x = 3 → 0 ≤ y ∧ y < nw ∧ br r y ∧ p < w 336 (900 * a + y)) : e_Ok 20 elay ecode eI d 371 (0, [(0, (1, 275)), (1, (0, r)), (2, (0, x)), (3, (0, y))], [], w) (fun r' w' => r' = [] ∧ (e_fr (mLv t) w w' ∧ sRel w w') ∧ e_Has mTy w' ∧ (w 276 5 ≤ w' 276 5 ∧ w' 276 5 ≤ w 276 5 + 2) ∧ w' 275 102 = 0 ∧ ((w' 275 100 = 1 ∧ (w' 276 (1260 * t + 416) = 6 ∨ w' 276 (1260 * t + 416) = 7)) ∨ (w' 275 100 = w 275 100 ∧ w' 276 (1260 * t + 416) = w 276 (1260 * t + 416) ∧ w' 276 5 = w 276 5 ∧ ∃ (g' p' : Int) (bs' ow' : Int → Int), g' ≤ g ∧ (g' = g → p < p') ∧ topOk w' a t g' p' n nt nw dl sg pi an br bs' ow' ∧ dl p' = 0 ∧ sg p' = 0))) := by
  obtain ⟨d, rfl⟩ : ∃ e, d = e + 1 := ⟨d - 1, by omega⟩
  have hR0 := hR.1
  have hR4 := hR.2.2.2.1
  have hC1_ := hC.1
  have hpir := hC.2.2.2.1.2.1 r (by omega) (by omega)
  refine e_Ok.run (t' := (2, [(0, (1, 275)), (1, (0, r)), (2, (0, x)), (3, (0, y))], [(0, 0), (1, 275)], w)) 2 rfl ?_
  refine e_Ok.putf rfl (el_o rfl) rfl (ef_o rfl) ?_
  generalize hw1 : e_up w 275 102 0 = w1
  have hT3 : e_Has mTy w1 := e_Has.ups hT hw1 (mt_o rfl)
  refine e_Ok.run (t' := (11, [(5, (0, 1)), (4, (0, r)), (0, (1, 275)), (1, (0, r)), (2, (0, x)), (3, (0, y))], [], w1)) 4 rfl ?_
  have hL4 : ∀ (nn : Nat) (y4 : Int) (v1 : eW) (g1 : Int), e_fr (mLv t) w v1 ∧ e_Has mTy v1 ∧ runOk v1 a t g1 y4 n nt nw dl sg pi an br bs ow ∧ v1 275 102 = 0 ∧ v1 275 100 = w 275 100 ∧ v1 276 5 = w 276 5 ∧ (g1 ≤ g ∧ (g1 = g → p < en y4)) ∧ ((x = 3 → g1 = g ∧ br y4 y)) ∧ (0 ≤ g1 ∧ -1 ≤ y4 ∧ y4 < 3 * nt) ∧ sRel w v1 ∧ v1 276 (1260 * t + 416) = w 276 (1260 * t + 416) → 3000 * g1 + y4 + 1 < nn → e_Ok 20 elay ecode eI (d + 1) 371 (11, [(0, (1, 275)), (2, (0, x)), (3, (0, y)), (4, (0, y4)), (5, (0, 1))], [], v1) (fun r' w' => r' = [] ∧ (e_fr (mLv t) w w' ∧ sRel w w') ∧ e_Has mTy w' ∧ (w 276 5 ≤ w' 276 5 ∧ w' 276 5 ≤ w 276 5 + 2) ∧ w' 275 102 = 0 ∧ ((w' 275 100 = 1 ∧ (w' 276 (1260 * t + 416) = 6 ∨ w' 276 (1260 * t + 416) = 7)) ∨ (w' 275 100 = w 275 100 ∧ w' 276 (1260 * t + 416) = w 276 (1260 * t + 416) ∧ w' 276 5 = w 276 5 ∧ ∃ (g' p' : Int) (bs' ow' : Int → Int), g' ≤ g ∧ (g' = g → p < p') ∧ topOk w' a t g' p' n nt nw dl sg pi an br bs' ow' ∧ dl p' = 0 ∧ sg p' = 0))) := by
    intro nn
    induction nn with
    | zero => intro y4 v1 g1 hj hm; obtain ⟨j6, j7, j8, j9, j10, j11, j12, j13, j14, j15, j16⟩ := hj; exfalso; omega
    | succ nn ih5 =>
      intro y4 v1 g1 hj hm
      obtain ⟨j6, j7, j8, j9, j10, j11, j12, j13, j14, j15, j16⟩ := hj
      have hru1 := j8
      obtain ⟨hg1, hF1, hlow1, hr1, hPn1, hch1, hpe1⟩ := id j8
      have hC1 := cOk.fr (fun c k q1 q2 => j6 c k (by unfold mLv; omega)) hC
      have hbs1 := hlow1.2.1 g1 (by omega) (by omega)
      have hpy4 := hC.2.2.2.1.2.1 y4 (by omega) (by omega)
      refine e_Ok.run (t' := (13, [(0, (1, 275)), (2, (0, x)), (3, (0, y)), (4, (0, y4)), (5, (0, 1))], [(0, 1)], v1)) 1 rfl ?_
      refine e_Ok.if1 rfl (fun h17 => ?_) (fun h17 => ?_)
      · replace h17 : (1 : Int) = 0 := h17
        exfalso; omega
      · replace h17 : (1 : Int) ≠ 0 := (show ¬ ((1 : Int) = 0) from h17)
        refine e_Ok.ps2 (x := (0, 3)) (y := (0, x)) (q := 18) 2 rfl ?_
        refine e_Ok.if2 rfl (fun h18 => ?_) (fun h18 => ?_)
        · replace h18 : (x : Int) ≠ 3 := h18
          refine e_Ok.ps1 (x := (0, y4)) (q := 63) 1 rfl ?_
          refine e_Ok.if1 rfl (fun h19 => ?_) (fun h19 => ?_)
          · replace h19 : (y4 : Int) ≥ 0 := h19
            refine e_Ok.ps2 (x := (1, 275)) (y := (0, 900)) (q := 94) 2 rfl ?_
            refine e_Ok.getf (z := a) rfl (el_o rfl) rfl (ef_o rfl) ((j6 275 98 (by first | exact no_60_0 | (unfold mLv; omega))).trans h98) (by omega) ?_
            refine e_Ok.mul (z := 900 * a) rfl rfl (by omega) ?_
            refine e_Ok.ps2 (x := (0, 3)) (y := (0, y4)) (q := 101) 2 rfl ?_
            refine e_Ok.divn (fun z20 hz20 => ?_) rfl (by omega) (by omega)
            replace hz20 : z20 = y4 / 3 := hz20
            have z20r : 0 ≤ z20 ∧ z20 ≤ 899 := by omega
            refine e_Ok.add (z := 900 * a + z20) rfl (by omega) (by omega) ?_
            refine e_Ok.run (t' := (108, [(6, (0, 900 * a + z20)), (0, (1, 275)), (2, (0, x)), (3, (0, y)), (4, (0, y4)), (5, (0, 1))], [(0, 3), (0, y4)], v1)) 3 rfl ?_
            refine e_Ok.remn (fun z21 hz21 => ?_) rfl (by omega) (by omega)
            replace hz21 : z21 = y4 % 3 := hz21
            have z21r : 0 ≤ z21 ∧ z21 ≤ 2 := by omega
            refine e_Ok.run (t' := (111, [(7, (0, z21)), (6, (0, 900 * a + z20)), (0, (1, 275)), (2, (0, x)), (3, (0, y)), (4, (0, y4)), (5, (0, 1))], [], v1)) 1 rfl ?_
            obtain ⟨hti, hpi3, hcat, hfin, hend, han1, han2⟩ := id (hC.2.2.1 z20 (by omega) (by omega))
            have hall := (hC.2.2.1 z20 (by omega) (by omega)).all (y := y4) (k := z21) (by omega) (by omega)
            unfold tgt at hcat hfin hend
            have hpz := hC.2.2.2.1.2.1 (w 331 (900 * a + z20)) (by omega) (by omega)
            refine e_Ok.ps1 (x := (0, z21)) (q := 113) 1 rfl ?_
            refine e_Ok.if1 rfl (fun h22 => ?_) (fun h22 => ?_)
            · replace h22 : (z21 : Int) ≠ 0 := h22
              refine e_Ok.ps2 (x := (0, 2)) (y := (0, z21)) (q := 163) 2 rfl ?_
              refine e_Ok.if2 rfl (fun h23 => ?_) (fun h23 => ?_)
              · replace h23 : (z21 : Int) ≥ 2 := h23
                refine e_Ok.ps1 (x := (1, 275)) (q := 200) 1 rfl ?_
                refine e_Ok.getr (z := 276) rfl (el_o rfl) rfl (ef_o rfl) ((j6 275 0 (by first | exact no_60_1 | (unfold mLv; omega))).trans (e_Has.eq hT (mt_o rfl))) ⟨by decide, by decide⟩ ?_
                refine e_Ok.ps1 (x := (1, 275)) (q := 204) 1 rfl ?_
                refine e_Ok.getf (z := 1260 * t + 416) rfl (el_o rfl) rfl (ef_o rfl) ((j6 275 97 (by first | exact no_60_2 | (unfold mLv; omega))).trans h97) (by omega) ?_
                refine e_Ok.ps1 (x := (0, 13)) (q := 209) 1 rfl ?_
                refine e_Ok.add (z := 1260 * t + 429) rfl (e_adl (by decide)) (by omega) ?_
                refine e_Ok.ps2 (x := (0, 1260 * t + 429)) (y := (1, 276)) (q := 211) 1 rfl ?_
                refine e_Ok.ald (z := bs g1 + pi y4) rfl (el_o rfl) rfl (by omega) hPn1 (by omega) ?_
                refine e_Ok.ps2 (x := (0, 2)) (y := (0, z21)) (q := 215) 2 rfl ?_
                refine e_Ok.if2 rfl (fun h24 => ?_) (fun h24 => ?_)
                · replace h24 : (z21 : Int) ≠ 2 := h24
                  exfalso; omega
                · replace h24 : (z21 : Int) = 2 := Classical.not_not.mp (show ¬ ((z21 : Int) ≠ 2) from h24)
                  refine e_Ok.ps1 (x := (0, 1)) (q := 223) 2 rfl ?_
                  refine e_Ok.sub' (z := bs g1 + pi y4 - 1) rfl rfl (by omega) ?_
                  refine e_Ok.ast rfl (el_o rfl) rfl rfl (by omega) ?_
                  generalize hw25 : e_up v1 276 (1260 * t + 429) (bs g1 + pi y4 - 1) = w25
                  have hT27 : e_Has mTy w25 := e_Has.upr j7 hw25 (nR_PENDS (t := t) (by omega)) (by omega)
                  refine e_Ok.ps1 (x := (1, 275)) (q := 226) 1 rfl ?_
                  refine e_Ok.getr (z := 331) rfl (el_o rfl) rfl (ef_o rfl) (e_uq hw25 (Or.inl (by decide)) ((j6 275 68 (by first | exact no_60_3 | (unfold mLv; omega))).trans (e_Has.eq hT (mt_o rfl)))) ⟨by decide, by decide⟩ ?_
                  refine e_Ok.ps1 (x := (0, 900 * a + z20)) (q := 231) 1 rfl ?_
                  refine e_Ok.ald (z := w 331 (900 * a + z20)) rfl (el_o rfl) rfl (by omega) (e_uq hw25 (Or.inl (by decide)) ((j6 331 (900 * a + z20) (by first | exact no_60_4 | (unfold mLv; omega))).trans rfl)) (by omega) ?_
                  refine e_Ok.run (t' := (11, [(4, (0, w 331 (900 * a + z20))), (7, (0, z21)), (6, (0, 900 * a + z20)), (0, (1, 275)), (2, (0, x)), (3, (0, y)), (5, (0, 1))], [], w25)) 2 rfl ?_
                  refine e_Ok.sub eAlk (e_sub_of rfl ?_) (ih5 (w 331 (900 * a + z20)) w25 g1 ⟨(show e_fr (mLv t) w w25 from e_fr.up j6 hw25 (by first | exact Or.inr ⟨rfl, Or.inr (Or.inr (Or.inr (Or.inr (Or.inr (Or.inr (Or.inr (Or.inr (Or.inl ⟨(by omega), (by omega)⟩))))))))⟩ | (unfold mLv; omega))), hT27, (runOk.to (w' := w25) (r' := w 331 (900 * a + z20)) hru1 (fun c k q1 q2 => (e_uq hw25 (Or.inl (by omega)) rfl)) (fun i q1 q2 => ⟨(e_uq hw25 (Or.inr (by omega)) rfl), (e_uq hw25 (Or.inr (by omega)) rfl)⟩) (e_uq hw25 (Or.inr (by omega)) rfl) (by have q : w25 276 (1260 * t + 429) = bs g1 + pi y4 - 1 := (e_ue hw25); omega) (fun k q1 q2 => (e_uq hw25 (Or.inr (by omega)) rfl)) (by omega) (by omega) (by omega) (fun q q1 q2 q3 => by have := han2 z21 q (by omega) (by omega) q1; rwa [show 3 * z20 + z21 = y4 by omega] at this)), (Eq.trans (e_uq hw25 (Or.inl (by omega)) rfl) j9), (Eq.trans (e_uq hw25 (Or.inl (by omega)) rfl) j10), (Eq.trans (e_uq hw25 (Or.inr (by omega)) rfl) j11), ⟨by omega, fun _ => by omega⟩, (fun e3 => by have q := hC.2.2.2.2.2.1 y4 y (j13 e3).2 (by omega) (by omega); rw [show y4 / 3 = z20 by omega] at q; exact ⟨(j13 e3).1, q.elim (fun q => by exfalso; omega) (fun q => q.2.2)⟩), by omega, (sRel.up j15 hw25 (fun q b g1 g2 => by omega)), (Eq.trans (e_uq hw25 (Or.inr (by omega)) rfl) j16)⟩ (by omega))
                  exact ⟨rfl, rfl, rfl, rfl, rfl, trivial⟩
              · replace h23 : (z21 : Int) < 2 := Int.not_le.mp (show ¬ ((z21 : Int) ≥ 2) from h23)
                refine e_Ok.ps1 (x := (1, 275)) (q := 167) 1 rfl ?_
                refine e_Ok.getr (z := 333) rfl (el_o rfl) rfl (ef_o rfl) ((j6 275 70 (by first | exact no_60_5 | (unfold mLv; omega))).trans (e_Has.eq hT (mt_o rfl))) ⟨by decide, by decide⟩ ?_
                refine e_Ok.ps1 (x := (0, 900 * a + z20)) (q := 172) 1 rfl ?_
                have h28 := (e_Has.get hT (c := 333) (k := 900 * a + z20) (lo := (-2147483648)) (hi := 2147483647) (mt_o rfl) (by decide))
                refine e_Ok.ald (z := w 333 (900 * a + z20)) rfl (el_o rfl) rfl (by omega) ((j6 333 (900 * a + z20) (by first | exact no_60_6 | (unfold mLv; omega))).trans rfl) (e_bq h28 (by decide) (by decide)) ?_
                refine e_Ok.if1 rfl (fun h29 => ?_) (fun h29 => ?_)
                · replace h29 : (w 333 (900 * a + z20) : Int) < 0 := h29
                  refine e_Ok.ps1 (x := (1, 275)) (q := 200) 1 rfl ?_
                  refine e_Ok.getr (z := 276) rfl (el_o rfl) rfl (ef_o rfl) ((j6 275 0 (by first | exact no_60_1 | (unfold mLv; omega))).trans (e_Has.eq hT (mt_o rfl))) ⟨by decide, by decide⟩ ?_
                  refine e_Ok.ps1 (x := (1, 275)) (q := 204) 1 rfl ?_
                  refine e_Ok.getf (z := 1260 * t + 416) rfl (el_o rfl) rfl (ef_o rfl) ((j6 275 97 (by first | exact no_60_2 | (unfold mLv; omega))).trans h97) (by omega) ?_
                  refine e_Ok.ps1 (x := (0, 13)) (q := 209) 1 rfl ?_
                  refine e_Ok.add (z := 1260 * t + 429) rfl (e_adl (by decide)) (by omega) ?_
                  refine e_Ok.ps2 (x := (0, 1260 * t + 429)) (y := (1, 276)) (q := 211) 1 rfl ?_
                  refine e_Ok.ald (z := bs g1 + pi y4) rfl (el_o rfl) rfl (by omega) hPn1 (by omega) ?_
                  refine e_Ok.ps2 (x := (0, 2)) (y := (0, z21)) (q := 215) 2 rfl ?_
                  refine e_Ok.if2 rfl (fun h30 => ?_) (fun h30 => ?_)
                  · replace h30 : (z21 : Int) ≠ 2 := h30
                    refine e_Ok.ps1 (x := (0, 0)) (q := 223) 1 rfl ?_
                    refine e_Ok.sub' (z := bs g1 + pi y4) rfl (by omega) (by omega) ?_
                    refine e_Ok.ast rfl (el_o rfl) rfl rfl (by omega) ?_
                    generalize hw31 : e_up v1 276 (1260 * t + 429) (bs g1 + pi y4) = w31
                    have hT33 : e_Has mTy w31 := e_Has.upr j7 hw31 (nR_PENDS (t := t) (by omega)) (by omega)
                    refine e_Ok.ps1 (x := (1, 275)) (q := 226) 1 rfl ?_
                    refine e_Ok.getr (z := 331) rfl (el_o rfl) rfl (ef_o rfl) (e_uq hw31 (Or.inl (by decide)) ((j6 275 68 (by first | exact no_60_3 | (unfold mLv; omega))).trans (e_Has.eq hT (mt_o rfl)))) ⟨by decide, by decide⟩ ?_
                    refine e_Ok.ps1 (x := (0, 900 * a + z20)) (q := 231) 1 rfl ?_
                    refine e_Ok.ald (z := w 331 (900 * a + z20)) rfl (el_o rfl) rfl (by omega) (e_uq hw31 (Or.inl (by decide)) ((j6 331 (900 * a + z20) (by first | exact no_60_4 | (unfold mLv; omega))).trans rfl)) (by omega) ?_
                    refine e_Ok.run (t' := (11, [(4, (0, w 331 (900 * a + z20))), (7, (0, z21)), (6, (0, 900 * a + z20)), (0, (1, 275)), (2, (0, x)), (3, (0, y)), (5, (0, 1))], [], w31)) 2 rfl ?_
                    refine e_Ok.sub eAlk (e_sub_of rfl ?_) (ih5 (w 331 (900 * a + z20)) w31 g1 ⟨(show e_fr (mLv t) w w31 from e_fr.up j6 hw31 (by first | exact Or.inr ⟨rfl, Or.inr (Or.inr (Or.inr (Or.inr (Or.inr (Or.inr (Or.inr (Or.inr (Or.inl ⟨(by omega), (by omega)⟩))))))))⟩ | (unfold mLv; omega))), hT33, (runOk.to (w' := w31) (r' := w 331 (900 * a + z20)) hru1 (fun c k q1 q2 => (e_uq hw31 (Or.inl (by omega)) rfl)) (fun i q1 q2 => ⟨(e_uq hw31 (Or.inr (by omega)) rfl), (e_uq hw31 (Or.inr (by omega)) rfl)⟩) (e_uq hw31 (Or.inr (by omega)) rfl) (by have q : w31 276 (1260 * t + 429) = bs g1 + pi y4 := (e_ue hw31); omega) (fun k q1 q2 => (e_uq hw31 (Or.inr (by omega)) rfl)) (by omega) (by omega) (by omega) (fun q q1 q2 q3 => by have := han2 z21 q (by omega) (by omega) q1; rwa [show 3 * z20 + z21 = y4 by omega] at this)), (Eq.trans (e_uq hw31 (Or.inl (by omega)) rfl) j9), (Eq.trans (e_uq hw31 (Or.inl (by omega)) rfl) j10), (Eq.trans (e_uq hw31 (Or.inr (by omega)) rfl) j11), ⟨by omega, fun _ => by omega⟩, (fun e3 => by have q := hC.2.2.2.2.2.1 y4 y (j13 e3).2 (by omega) (by omega); rw [show y4 / 3 = z20 by omega] at q; exact ⟨(j13 e3).1, q.elim (fun q => by exfalso; omega) (fun q => q.2.2)⟩), by omega, (sRel.up j15 hw31 (fun q b g1 g2 => by omega)), (Eq.trans (e_uq hw31 (Or.inr (by omega)) rfl) j16)⟩ (by omega))
                    exact ⟨rfl, rfl, rfl, rfl, rfl, trivial⟩
                  · replace h30 : (z21 : Int) = 2 := Classical.not_not.mp (show ¬ ((z21 : Int) ≠ 2) from h30)
                    exfalso; omega
                · replace h29 : (w 333 (900 * a + z20) : Int) ≥ 0 := Int.not_lt.mp (show ¬ ((w 333 (900 * a + z20) : Int) < 0) from h29)
                  have hf1 := hfin.resolve_left (by omega)
                  have hf2 := (hall.2.2.1 (by omega)).resolve_left (by omega)
                  have hp2 := hC.2.2.2.1.2.1 (3 * z20 + 2) (by omega) (by omega)
                  refine e_Ok.ps3 (x := (0, y)) (y := (0, x)) (z := (1, 275)) (q := 179) 3 rfl ?_
                  refine e_Ok.callV rfl (e_dq hd rfl) rfl rfl rfl rfl (c_370 j7 (by omega) ((j6 275 97 (by first | exact no_60_2 | (unfold mLv; omega))).trans h97) (m := bs g1 + pi y4) (m1 := bs g1 + pi y4 + 1) (z := 1260 * t + 2 * bs g1 + 2 * pi y4 + 476) (z1 := 1260 * t + 2 * bs g1 + 2 * pi y4 + 477) hPn1 (by omega) (by omega) (by omega) (by omega)) (fun r34 w35 h36 => ?_)
                  obtain ⟨rfl, hw35⟩ := h36
                  generalize hw37 : e_up v1 276 (1260 * t + 2 * bs g1 + 2 * pi y4 + 476) x = w37 at hw35
                  have hT39 : e_Has mTy w37 := e_Has.upr j7 hw37 (nR_PEg t (by omega) (by omega)) (by omega)
                  generalize hw40 : e_up w37 276 (1260 * t + 2 * bs g1 + 2 * pi y4 + 477) y = w40 at hw35
                  have hT42 : e_Has mTy w40 := e_Has.upr hT39 hw40 (nR_PEg t (by omega) (by omega)) (by omega)
                  have hT44 : e_Has mTy w35 := e_Has.upr hT42 hw35 (nR_PENDS (t := t) (by omega)) (by omega)
                  refine e_Ok.nrm (q := 182) (st' := []) rfl rfl ?_
                  refine e_Ok.ps2 (x := (1, 275)) (y := (1, 275)) (q := 184) 2 rfl ?_
                  refine e_Ok.getr (z := 333) rfl (el_o rfl) rfl (ef_o rfl) (e_uq hw35 (Or.inl (by omega)) (e_uq hw40 (Or.inl (by omega)) (e_uq hw37 (Or.inl (by omega)) ((j6 275 70 (by first | exact no_60_5 | (unfold mLv; omega))).trans (e_Has.eq hT (mt_o rfl)))))) ⟨by decide, by decide⟩ ?_
                  refine e_Ok.ps1 (x := (0, 900 * a + z20)) (q := 189) 1 rfl ?_
                  refine e_Ok.ald (z := w 333 (900 * a + z20)) rfl (el_o rfl) rfl (by omega) (e_uq hw35 (Or.inl (by omega)) (e_uq hw40 (Or.inl (by omega)) (e_uq hw37 (Or.inl (by omega)) ((j6 333 (900 * a + z20) (by first | exact no_60_6 | (unfold mLv; omega))).trans rfl)))) (by omega) ?_
                  refine e_Ok.callV rfl (e_dq hd rfl) rfl rfl rfl rfl (c_365 (e_dq hd rfl) hT44 (by omega) (e_uq hw35 (Or.inl (by first | decide | omega)) (e_uq hw40 (Or.inl (by first | decide | omega)) (e_uq hw37 (Or.inl (by first | decide | omega)) ((j6 275 97 (by first | exact no_60_2 | (unfold mLv; omega))).trans h97)))) (f := g1 + 1) (z := 1260 * t + 2 * g1 + 436) (e_uq hw35 (Or.inr (by omega)) (e_uq hw40 (Or.inr (by omega)) (e_uq hw37 (Or.inr (by omega)) hF1))) (by omega) (by omega)) (fun r45 w46 h47 => ?_)
                  obtain ⟨rfl, hw46⟩ := h47
                  have hT49 : e_Has mTy w46 := e_Has.upr hT44 hw46 (nR_FRg t (g1) (by omega) (by omega) (by omega)) (by omega)
                  refine e_Ok.nrm (q := 193) (st' := []) rfl rfl ?_
                  refine e_Ok.run (t' := (11, [(5, (0, 0)), (7, (0, z21)), (6, (0, 900 * a + z20)), (0, (1, 275)), (2, (0, x)), (3, (0, y)), (4, (0, y4))], [], w46)) 4 rfl ?_
                  refine e_Ok.ps1 (x := (0, 0)) (q := 13) 1 rfl ?_
                  refine e_Ok.if1 rfl (fun h50 => ?_) (fun h50 => ?_)
                  · replace h50 : (0 : Int) = 0 := h50
                    refine e_Ok.rets rfl rfl ?_
                    have e51 : w46 276 5 = v1 276 5 := (e_uq hw46 (Or.inr (by omega)) (e_uq hw35 (Or.inr (by omega)) (e_uq hw40 (Or.inr (by omega)) (e_uq hw37 (Or.inr (by omega)) rfl))))
                    have hru := runOk.fin (w' := w46) (z := z20) (i := z21) (x := x) (y := y) hC1 hru1 (by omega) (by omega) (by omega) (fun c k q1 q2 => (e_uq hw46 (Or.inl (by omega)) (e_uq hw35 (Or.inl (by omega)) (e_uq hw40 (Or.inl (by omega)) (e_uq hw37 (Or.inl (by omega)) rfl))))) (fun i q1 q2 => ⟨(e_uq hw46 (Or.inr (by omega)) (e_uq hw35 (Or.inr (by omega)) (e_uq hw40 (Or.inr (by omega)) (e_uq hw37 (Or.inr (by omega)) rfl)))), (e_uq hw46 (Or.inr (by omega)) (e_uq hw35 (Or.inr (by omega)) (e_uq hw40 (Or.inr (by omega)) (e_uq hw37 (Or.inr (by omega)) rfl))))⟩) (e_uq hw46 (Or.inr (by omega)) (e_uq hw35 (Or.inr (by omega)) (e_uq hw40 (Or.inr (by omega)) (e_uq hw37 (Or.inr (by omega)) rfl)))) (e_uq hw46 (Or.inr (by omega)) (e_ue hw35)) (fun k q1 q2 => (e_uq hw46 (Or.inr (by omega)) (e_uq hw35 (Or.inr (by omega)) (e_uq hw40 (Or.inr (by omega)) (e_uq hw37 (Or.inr (by omega)) rfl))))) (by rw [show 1260 * t + 2 * (bs g1 + pi y4) + 476 = 1260 * t + 2 * bs g1 + 2 * pi y4 + 476 by omega]; exact (e_uq hw46 (Or.inr (by omega)) (e_uq hw35 (Or.inr (by omega)) (e_uq hw40 (Or.inr (by omega)) (e_ue hw37))))) (by rw [show 1260 * t + 2 * (bs g1 + pi y4) + 477 = 1260 * t + 2 * bs g1 + 2 * pi y4 + 477 by omega]; exact (e_uq hw46 (Or.inr (by omega)) (e_uq hw35 (Or.inr (by omega)) (e_ue hw40)))) (fun e3 => by have q := hC.2.2.2.2.2.1 y4 y (j13 e3).2 (by omega) (by omega); rw [show y4 / 3 = z20 by omega] at q; have q0 := hy3 e3; refine ⟨q0.1, q0.2.1, ?_⟩; rw [j6 331 _ (by first | exact no_60_4 | (unfold mLv; omega)), j6 334 _ (by first | exact no_60_7 | (unfold mLv; omega)), j6 336 _ (by first | exact no_60_8 | (unfold mLv; omega))]; exact q.elim (fun q => by exfalso; omega) (fun q => ⟨q.2.2, q.2.1⟩))
                    exact ⟨rfl, ⟨(show e_fr (mLv t) w w46 from e_fr.up (show e_fr (mLv t) w w35 from e_fr.up (show e_fr (mLv t) w w40 from e_fr.up (show e_fr (mLv t) w w37 from e_fr.up j6 hw37 (by first | exact Or.inr ⟨rfl, Or.inr (Or.inr (Or.inr (Or.inr (Or.inr (Or.inr (Or.inr (Or.inr (Or.inr ⟨(by omega), (by omega)⟩))))))))⟩ | (unfold mLv; omega))) hw40 (by first | exact Or.inr ⟨rfl, Or.inr (Or.inr (Or.inr (Or.inr (Or.inr (Or.inr (Or.inr (Or.inr (Or.inr ⟨(by omega), (by omega)⟩))))))))⟩ | (unfold mLv; omega))) hw35 (by first | exact Or.inr ⟨rfl, Or.inr (Or.inr (Or.inr (Or.inr (Or.inr (Or.inr (Or.inr (Or.inr (Or.inl ⟨(by omega), (by omega)⟩))))))))⟩ | (unfold mLv; omega))) hw46 (by first | exact Or.inr ⟨rfl, Or.inr (Or.inr (Or.inr (Or.inr (Or.inr (Or.inr (Or.inr (Or.inr (Or.inr ⟨(by omega), (by omega)⟩))))))))⟩ | (unfold mLv; omega))), (sRel.up (sRel.up (sRel.up (sRel.up j15 hw37 (fun q b g1 g2 => by omega)) hw40 (fun q b g1 g2 => by omega)) hw35 (fun q b g1 g2 => by omega)) hw46 (fun q b g1 g2 => by omega))⟩, hT49, by omega, (e_uq hw46 (Or.inl (by omega)) (e_uq hw35 (Or.inl (by omega)) (e_uq hw40 (Or.inl (by omega)) (e_uq hw37 (Or.inl (by omega)) j9)))), Or.inr ⟨(Eq.trans (e_uq hw46 (Or.inl (by omega)) (e_uq hw35 (Or.inl (by omega)) (e_uq hw40 (Or.inl (by omega)) (e_uq hw37 (Or.inl (by omega)) rfl)))) j10), (Eq.trans (e_uq hw46 (Or.inr (by omega)) (e_uq hw35 (Or.inr (by omega)) (e_uq hw40 (Or.inr (by omega)) (e_uq hw37 (Or.inr (by omega)) rfl)))) j16), by omega, g1, w 333 (900 * a + z20), bs, _, by omega, fun e => by omega, runOk.at hru (by omega) (e_ue hw46) ((show w46 330 (10000 * a + (w 333 (900 * a + z20))) = v1 330 (10000 * a + (w 333 (900 * a + z20))) from (e_uq hw46 (Or.inl (by omega)) (e_uq hw35 (Or.inl (by omega)) (e_uq hw40 (Or.inl (by omega)) (e_uq hw37 (Or.inl (by omega)) rfl))))).trans ((j6 330 (10000 * a + (w 333 (900 * a + z20))) (by first | exact no_60_9 | (unfold mLv; omega))).trans (by omega))), by omega, by omega⟩⟩
                  · replace h50 : (0 : Int) ≠ 0 := (show ¬ ((0 : Int) = 0) from h50)
                    exfalso; omega
            · replace h22 : (z21 : Int) = 0 := Classical.not_not.mp (show ¬ ((z21 : Int) ≠ 0) from h22)
              refine e_Ok.ps2 (x := (0, 1)) (y := (0, x)) (q := 118) 2 rfl ?_
              refine e_Ok.if2 rfl (fun h52 => ?_) (fun h52 => ?_)
              · replace h52 : (x : Int) ≠ 1 := h52
                refine e_Ok.ps2 (x := (0, 2)) (y := (0, z21)) (q := 163) 2 rfl ?_
                refine e_Ok.if2 rfl (fun h53 => ?_) (fun h53 => ?_)
                · replace h53 : (z21 : Int) ≥ 2 := h53
                  exfalso; omega
                · replace h53 : (z21 : Int) < 2 := Int.not_le.mp (show ¬ ((z21 : Int) ≥ 2) from h53)
                  refine e_Ok.ps1 (x := (1, 275)) (q := 167) 1 rfl ?_
                  refine e_Ok.getr (z := 333) rfl (el_o rfl) rfl (ef_o rfl) ((j6 275 70 (by first | exact no_60_5 | (unfold mLv; omega))).trans (e_Has.eq hT (mt_o rfl))) ⟨by decide, by decide⟩ ?_
                  refine e_Ok.ps1 (x := (0, 900 * a + z20)) (q := 172) 1 rfl ?_
                  have h54 := (e_Has.get hT (c := 333) (k := 900 * a + z20) (lo := (-2147483648)) (hi := 2147483647) (mt_o rfl) (by decide))
                  refine e_Ok.ald (z := w 333 (900 * a + z20)) rfl (el_o rfl) rfl (by omega) ((j6 333 (900 * a + z20) (by first | exact no_60_6 | (unfold mLv; omega))).trans rfl) (e_bq h54 (by decide) (by decide)) ?_
                  refine e_Ok.if1 rfl (fun h55 => ?_) (fun h55 => ?_)
                  · replace h55 : (w 333 (900 * a + z20) : Int) < 0 := h55
                    refine e_Ok.ps1 (x := (1, 275)) (q := 200) 1 rfl ?_
                    refine e_Ok.getr (z := 276) rfl (el_o rfl) rfl (ef_o rfl) ((j6 275 0 (by first | exact no_60_1 | (unfold mLv; omega))).trans (e_Has.eq hT (mt_o rfl))) ⟨by decide, by decide⟩ ?_
                    refine e_Ok.ps1 (x := (1, 275)) (q := 204) 1 rfl ?_
                    refine e_Ok.getf (z := 1260 * t + 416) rfl (el_o rfl) rfl (ef_o rfl) ((j6 275 97 (by first | exact no_60_2 | (unfold mLv; omega))).trans h97) (by omega) ?_
                    refine e_Ok.ps1 (x := (0, 13)) (q := 209) 1 rfl ?_
                    refine e_Ok.add (z := 1260 * t + 429) rfl (e_adl (by decide)) (by omega) ?_
                    refine e_Ok.ps2 (x := (0, 1260 * t + 429)) (y := (1, 276)) (q := 211) 1 rfl ?_
                    refine e_Ok.ald (z := bs g1 + pi y4) rfl (el_o rfl) rfl (by omega) hPn1 (by omega) ?_
                    refine e_Ok.ps2 (x := (0, 2)) (y := (0, z21)) (q := 215) 2 rfl ?_
                    refine e_Ok.if2 rfl (fun h56 => ?_) (fun h56 => ?_)
                    · replace h56 : (z21 : Int) ≠ 2 := h56
                      refine e_Ok.ps1 (x := (0, 0)) (q := 223) 1 rfl ?_
                      refine e_Ok.sub' (z := bs g1 + pi y4) rfl (by omega) (by omega) ?_
                      refine e_Ok.ast rfl (el_o rfl) rfl rfl (by omega) ?_
                      generalize hw57 : e_up v1 276 (1260 * t + 429) (bs g1 + pi y4) = w57
                      have hT59 : e_Has mTy w57 := e_Has.upr j7 hw57 (nR_PENDS (t := t) (by omega)) (by omega)
                      refine e_Ok.ps1 (x := (1, 275)) (q := 226) 1 rfl ?_
                      refine e_Ok.getr (z := 331) rfl (el_o rfl) rfl (ef_o rfl) (e_uq hw57 (Or.inl (by decide)) ((j6 275 68 (by first | exact no_60_3 | (unfold mLv; omega))).trans (e_Has.eq hT (mt_o rfl)))) ⟨by decide, by decide⟩ ?_
                      refine e_Ok.ps1 (x := (0, 900 * a + z20)) (q := 231) 1 rfl ?_
                      refine e_Ok.ald (z := w 331 (900 * a + z20)) rfl (el_o rfl) rfl (by omega) (e_uq hw57 (Or.inl (by decide)) ((j6 331 (900 * a + z20) (by first | exact no_60_4 | (unfold mLv; omega))).trans rfl)) (by omega) ?_
                      refine e_Ok.run (t' := (11, [(4, (0, w 331 (900 * a + z20))), (7, (0, z21)), (6, (0, 900 * a + z20)), (0, (1, 275)), (2, (0, x)), (3, (0, y)), (5, (0, 1))], [], w57)) 2 rfl ?_
                      refine e_Ok.sub eAlk (e_sub_of rfl ?_) (ih5 (w 331 (900 * a + z20)) w57 g1 ⟨(show e_fr (mLv t) w w57 from e_fr.up j6 hw57 (by first | exact Or.inr ⟨rfl, Or.inr (Or.inr (Or.inr (Or.inr (Or.inr (Or.inr (Or.inr (Or.inr (Or.inl ⟨(by omega), (by omega)⟩))))))))⟩ | (unfold mLv; omega))), hT59, (runOk.to (w' := w57) (r' := w 331 (900 * a + z20)) hru1 (fun c k q1 q2 => (e_uq hw57 (Or.inl (by omega)) rfl)) (fun i q1 q2 => ⟨(e_uq hw57 (Or.inr (by omega)) rfl), (e_uq hw57 (Or.inr (by omega)) rfl)⟩) (e_uq hw57 (Or.inr (by omega)) rfl) (by have q : w57 276 (1260 * t + 429) = bs g1 + pi y4 := (e_ue hw57); omega) (fun k q1 q2 => (e_uq hw57 (Or.inr (by omega)) rfl)) (by omega) (by omega) (by omega) (fun q q1 q2 q3 => by have := han2 z21 q (by omega) (by omega) q1; rwa [show 3 * z20 + z21 = y4 by omega] at this)), (Eq.trans (e_uq hw57 (Or.inl (by omega)) rfl) j9), (Eq.trans (e_uq hw57 (Or.inl (by omega)) rfl) j10), (Eq.trans (e_uq hw57 (Or.inr (by omega)) rfl) j11), ⟨by omega, fun _ => by omega⟩, (fun e3 => by have q := hC.2.2.2.2.2.1 y4 y (j13 e3).2 (by omega) (by omega); rw [show y4 / 3 = z20 by omega] at q; exact ⟨(j13 e3).1, q.elim (fun q => by exfalso; omega) (fun q => q.2.2)⟩), by omega, (sRel.up j15 hw57 (fun q b g1 g2 => by omega)), (Eq.trans (e_uq hw57 (Or.inr (by omega)) rfl) j16)⟩ (by omega))
                      exact ⟨rfl, rfl, rfl, rfl, rfl, trivial⟩
                    · replace h56 : (z21 : Int) = 2 := Classical.not_not.mp (show ¬ ((z21 : Int) ≠ 2) from h56)
                      exfalso; omega
                  · replace h55 : (w 333 (900 * a + z20) : Int) ≥ 0 := Int.not_lt.mp (show ¬ ((w 333 (900 * a + z20) : Int) < 0) from h55)
                    have hf1 := hfin.resolve_left (by omega)
                    have hf2 := (hall.2.2.1 (by omega)).resolve_left (by omega)
                    have hp2 := hC.2.2.2.1.2.1 (3 * z20 + 2) (by omega) (by omega)
                    refine e_Ok.ps3 (x := (0, y)) (y := (0, x)) (z := (1, 275)) (q := 179) 3 rfl ?_
                    refine e_Ok.callV rfl (e_dq hd rfl) rfl rfl rfl rfl (c_370 j7 (by omega) ((j6 275 97 (by first | exact no_60_2 | (unfold mLv; omega))).trans h97) (m := bs g1 + pi y4) (m1 := bs g1 + pi y4 + 1) (z := 1260 * t + 2 * bs g1 + 2 * pi y4 + 476) (z1 := 1260 * t + 2 * bs g1 + 2 * pi y4 + 477) hPn1 (by omega) (by omega) (by omega) (by omega)) (fun r60 w61 h62 => ?_)
                    obtain ⟨rfl, hw61⟩ := h62
                    generalize hw63 : e_up v1 276 (1260 * t + 2 * bs g1 + 2 * pi y4 + 476) x = w63 at hw61
                    have hT65 : e_Has mTy w63 := e_Has.upr j7 hw63 (nR_PEg t (by omega) (by omega)) (by omega)
                    generalize hw66 : e_up w63 276 (1260 * t + 2 * bs g1 + 2 * pi y4 + 477) y = w66 at hw61
                    have hT68 : e_Has mTy w66 := e_Has.upr hT65 hw66 (nR_PEg t (by omega) (by omega)) (by omega)
                    have hT70 : e_Has mTy w61 := e_Has.upr hT68 hw61 (nR_PENDS (t := t) (by omega)) (by omega)
                    refine e_Ok.nrm (q := 182) (st' := []) rfl rfl ?_
                    refine e_Ok.ps2 (x := (1, 275)) (y := (1, 275)) (q := 184) 2 rfl ?_
                    refine e_Ok.getr (z := 333) rfl (el_o rfl) rfl (ef_o rfl) (e_uq hw61 (Or.inl (by omega)) (e_uq hw66 (Or.inl (by omega)) (e_uq hw63 (Or.inl (by omega)) ((j6 275 70 (by first | exact no_60_5 | (unfold mLv; omega))).trans (e_Has.eq hT (mt_o rfl)))))) ⟨by decide, by decide⟩ ?_
                    refine e_Ok.ps1 (x := (0, 900 * a + z20)) (q := 189) 1 rfl ?_
                    refine e_Ok.ald (z := w 333 (900 * a + z20)) rfl (el_o rfl) rfl (by omega) (e_uq hw61 (Or.inl (by omega)) (e_uq hw66 (Or.inl (by omega)) (e_uq hw63 (Or.inl (by omega)) ((j6 333 (900 * a + z20) (by first | exact no_60_6 | (unfold mLv; omega))).trans rfl)))) (by omega) ?_
                    refine e_Ok.callV rfl (e_dq hd rfl) rfl rfl rfl rfl (c_365 (e_dq hd rfl) hT70 (by omega) (e_uq hw61 (Or.inl (by first | decide | omega)) (e_uq hw66 (Or.inl (by first | decide | omega)) (e_uq hw63 (Or.inl (by first | decide | omega)) ((j6 275 97 (by first | exact no_60_2 | (unfold mLv; omega))).trans h97)))) (f := g1 + 1) (z := 1260 * t + 2 * g1 + 436) (e_uq hw61 (Or.inr (by omega)) (e_uq hw66 (Or.inr (by omega)) (e_uq hw63 (Or.inr (by omega)) hF1))) (by omega) (by omega)) (fun r71 w72 h73 => ?_)
                    obtain ⟨rfl, hw72⟩ := h73
                    have hT75 : e_Has mTy w72 := e_Has.upr hT70 hw72 (nR_FRg t (g1) (by omega) (by omega) (by omega)) (by omega)
                    refine e_Ok.nrm (q := 193) (st' := []) rfl rfl ?_
                    refine e_Ok.run (t' := (11, [(5, (0, 0)), (7, (0, z21)), (6, (0, 900 * a + z20)), (0, (1, 275)), (2, (0, x)), (3, (0, y)), (4, (0, y4))], [], w72)) 4 rfl ?_
                    refine e_Ok.ps1 (x := (0, 0)) (q := 13) 1 rfl ?_
                    refine e_Ok.if1 rfl (fun h76 => ?_) (fun h76 => ?_)
                    · replace h76 : (0 : Int) = 0 := h76
                      refine e_Ok.rets rfl rfl ?_
                      have e77 : w72 276 5 = v1 276 5 := (e_uq hw72 (Or.inr (by omega)) (e_uq hw61 (Or.inr (by omega)) (e_uq hw66 (Or.inr (by omega)) (e_uq hw63 (Or.inr (by omega)) rfl))))
                      have hru := runOk.fin (w' := w72) (z := z20) (i := z21) (x := x) (y := y) hC1 hru1 (by omega) (by omega) (by omega) (fun c k q1 q2 => (e_uq hw72 (Or.inl (by omega)) (e_uq hw61 (Or.inl (by omega)) (e_uq hw66 (Or.inl (by omega)) (e_uq hw63 (Or.inl (by omega)) rfl))))) (fun i q1 q2 => ⟨(e_uq hw72 (Or.inr (by omega)) (e_uq hw61 (Or.inr (by omega)) (e_uq hw66 (Or.inr (by omega)) (e_uq hw63 (Or.inr (by omega)) rfl)))), (e_uq hw72 (Or.inr (by omega)) (e_uq hw61 (Or.inr (by omega)) (e_uq hw66 (Or.inr (by omega)) (e_uq hw63 (Or.inr (by omega)) rfl))))⟩) (e_uq hw72 (Or.inr (by omega)) (e_uq hw61 (Or.inr (by omega)) (e_uq hw66 (Or.inr (by omega)) (e_uq hw63 (Or.inr (by omega)) rfl)))) (e_uq hw72 (Or.inr (by omega)) (e_ue hw61)) (fun k q1 q2 => (e_uq hw72 (Or.inr (by omega)) (e_uq hw61 (Or.inr (by omega)) (e_uq hw66 (Or.inr (by omega)) (e_uq hw63 (Or.inr (by omega)) rfl))))) (by rw [show 1260 * t + 2 * (bs g1 + pi y4) + 476 = 1260 * t + 2 * bs g1 + 2 * pi y4 + 476 by omega]; exact (e_uq hw72 (Or.inr (by omega)) (e_uq hw61 (Or.inr (by omega)) (e_uq hw66 (Or.inr (by omega)) (e_ue hw63))))) (by rw [show 1260 * t + 2 * (bs g1 + pi y4) + 477 = 1260 * t + 2 * bs g1 + 2 * pi y4 + 477 by omega]; exact (e_uq hw72 (Or.inr (by omega)) (e_uq hw61 (Or.inr (by omega)) (e_ue hw66)))) (fun e3 => by have q := hC.2.2.2.2.2.1 y4 y (j13 e3).2 (by omega) (by omega); rw [show y4 / 3 = z20 by omega] at q; have q0 := hy3 e3; refine ⟨q0.1, q0.2.1, ?_⟩; rw [j6 331 _ (by first | exact no_60_4 | (unfold mLv; omega)), j6 334 _ (by first | exact no_60_7 | (unfold mLv; omega)), j6 336 _ (by first | exact no_60_8 | (unfold mLv; omega))]; exact q.elim (fun q => by exfalso; omega) (fun q => ⟨q.2.2, q.2.1⟩))
                      exact ⟨rfl, ⟨(show e_fr (mLv t) w w72 from e_fr.up (show e_fr (mLv t) w w61 from e_fr.up (show e_fr (mLv t) w w66 from e_fr.up (show e_fr (mLv t) w w63 from e_fr.up j6 hw63 (by first | exact Or.inr ⟨rfl, Or.inr (Or.inr (Or.inr (Or.inr (Or.inr (Or.inr (Or.inr (Or.inr (Or.inr ⟨(by omega), (by omega)⟩))))))))⟩ | (unfold mLv; omega))) hw66 (by first | exact Or.inr ⟨rfl, Or.inr (Or.inr (Or.inr (Or.inr (Or.inr (Or.inr (Or.inr (Or.inr (Or.inr ⟨(by omega), (by omega)⟩))))))))⟩ | (unfold mLv; omega))) hw61 (by first | exact Or.inr ⟨rfl, Or.inr (Or.inr (Or.inr (Or.inr (Or.inr (Or.inr (Or.inr (Or.inr (Or.inl ⟨(by omega), (by omega)⟩))))))))⟩ | (unfold mLv; omega))) hw72 (by first | exact Or.inr ⟨rfl, Or.inr (Or.inr (Or.inr (Or.inr (Or.inr (Or.inr (Or.inr (Or.inr (Or.inr ⟨(by omega), (by omega)⟩))))))))⟩ | (unfold mLv; omega))), (sRel.up (sRel.up (sRel.up (sRel.up j15 hw63 (fun q b g1 g2 => by omega)) hw66 (fun q b g1 g2 => by omega)) hw61 (fun q b g1 g2 => by omega)) hw72 (fun q b g1 g2 => by omega))⟩, hT75, by omega, (e_uq hw72 (Or.inl (by omega)) (e_uq hw61 (Or.inl (by omega)) (e_uq hw66 (Or.inl (by omega)) (e_uq hw63 (Or.inl (by omega)) j9)))), Or.inr ⟨(Eq.trans (e_uq hw72 (Or.inl (by omega)) (e_uq hw61 (Or.inl (by omega)) (e_uq hw66 (Or.inl (by omega)) (e_uq hw63 (Or.inl (by omega)) rfl)))) j10), (Eq.trans (e_uq hw72 (Or.inr (by omega)) (e_uq hw61 (Or.inr (by omega)) (e_uq hw66 (Or.inr (by omega)) (e_uq hw63 (Or.inr (by omega)) rfl)))) j16), by omega, g1, w 333 (900 * a + z20), bs, _, by omega, fun e => by omega, runOk.at hru (by omega) (e_ue hw72) ((show w72 330 (10000 * a + (w 333 (900 * a + z20))) = v1 330 (10000 * a + (w 333 (900 * a + z20))) from (e_uq hw72 (Or.inl (by omega)) (e_uq hw61 (Or.inl (by omega)) (e_uq hw66 (Or.inl (by omega)) (e_uq hw63 (Or.inl (by omega)) rfl))))).trans ((j6 330 (10000 * a + (w 333 (900 * a + z20))) (by first | exact no_60_9 | (unfold mLv; omega))).trans (by omega))), by omega, by omega⟩⟩
                    · replace h76 : (0 : Int) ≠ 0 := (show ¬ ((0 : Int) = 0) from h76)
                      exfalso; omega
              · replace h52 : (x : Int) = 1 := Classical.not_not.mp (show ¬ ((x : Int) ≠ 1) from h52)
                refine e_Ok.ps1 (x := (1, 275)) (q := 122) 1 rfl ?_
                refine e_Ok.getr (z := 332) rfl (el_o rfl) rfl (ef_o rfl) ((j6 275 69 (by first | exact no_60_10 | (unfold mLv; omega))).trans (e_Has.eq hT (mt_o rfl))) ⟨by decide, by decide⟩ ?_
                refine e_Ok.ps1 (x := (0, 900 * a + z20)) (q := 127) 1 rfl ?_
                have h78 := (e_Has.get hT (c := 332) (k := 900 * a + z20) (lo := (-2147483648)) (hi := 2147483647) (mt_o rfl) (by decide))
                refine e_Ok.ald (z := w 332 (900 * a + z20)) rfl (el_o rfl) rfl (by omega) ((j6 332 (900 * a + z20) (by first | exact no_60_11 | (unfold mLv; omega))).trans rfl) (e_bq h78 (by decide) (by decide)) ?_
                refine e_Ok.if1 rfl (fun h79 => ?_) (fun h79 => ?_)
                · replace h79 : (w 332 (900 * a + z20) : Int) < 0 := h79
                  refine e_Ok.ps2 (x := (0, 2)) (y := (0, z21)) (q := 163) 2 rfl ?_
                  refine e_Ok.if2 rfl (fun h80 => ?_) (fun h80 => ?_)
                  · replace h80 : (z21 : Int) ≥ 2 := h80
                    exfalso; omega
                  · replace h80 : (z21 : Int) < 2 := Int.not_le.mp (show ¬ ((z21 : Int) ≥ 2) from h80)
                    refine e_Ok.ps1 (x := (1, 275)) (q := 167) 1 rfl ?_
                    refine e_Ok.getr (z := 333) rfl (el_o rfl) rfl (ef_o rfl) ((j6 275 70 (by first | exact no_60_5 | (unfold mLv; omega))).trans (e_Has.eq hT (mt_o rfl))) ⟨by decide, by decide⟩ ?_
                    refine e_Ok.ps1 (x := (0, 900 * a + z20)) (q := 172) 1 rfl ?_
                    have h81 := (e_Has.get hT (c := 333) (k := 900 * a + z20) (lo := (-2147483648)) (hi := 2147483647) (mt_o rfl) (by decide))
                    refine e_Ok.ald (z := w 333 (900 * a + z20)) rfl (el_o rfl) rfl (by omega) ((j6 333 (900 * a + z20) (by first | exact no_60_6 | (unfold mLv; omega))).trans rfl) (e_bq h81 (by decide) (by decide)) ?_
                    refine e_Ok.if1 rfl (fun h82 => ?_) (fun h82 => ?_)
                    · replace h82 : (w 333 (900 * a + z20) : Int) < 0 := h82
                      refine e_Ok.ps1 (x := (1, 275)) (q := 200) 1 rfl ?_
                      refine e_Ok.getr (z := 276) rfl (el_o rfl) rfl (ef_o rfl) ((j6 275 0 (by first | exact no_60_1 | (unfold mLv; omega))).trans (e_Has.eq hT (mt_o rfl))) ⟨by decide, by decide⟩ ?_
                      refine e_Ok.ps1 (x := (1, 275)) (q := 204) 1 rfl ?_
                      refine e_Ok.getf (z := 1260 * t + 416) rfl (el_o rfl) rfl (ef_o rfl) ((j6 275 97 (by first | exact no_60_2 | (unfold mLv; omega))).trans h97) (by omega) ?_
                      refine e_Ok.ps1 (x := (0, 13)) (q := 209) 1 rfl ?_
                      refine e_Ok.add (z := 1260 * t + 429) rfl (e_adl (by decide)) (by omega) ?_
                      refine e_Ok.ps2 (x := (0, 1260 * t + 429)) (y := (1, 276)) (q := 211) 1 rfl ?_
                      refine e_Ok.ald (z := bs g1 + pi y4) rfl (el_o rfl) rfl (by omega) hPn1 (by omega) ?_
                      refine e_Ok.ps2 (x := (0, 2)) (y := (0, z21)) (q := 215) 2 rfl ?_
                      refine e_Ok.if2 rfl (fun h83 => ?_) (fun h83 => ?_)
                      · replace h83 : (z21 : Int) ≠ 2 := h83
                        refine e_Ok.ps1 (x := (0, 0)) (q := 223) 1 rfl ?_
                        refine e_Ok.sub' (z := bs g1 + pi y4) rfl (by omega) (by omega) ?_
                        refine e_Ok.ast rfl (el_o rfl) rfl rfl (by omega) ?_
                        generalize hw84 : e_up v1 276 (1260 * t + 429) (bs g1 + pi y4) = w84
                        have hT86 : e_Has mTy w84 := e_Has.upr j7 hw84 (nR_PENDS (t := t) (by omega)) (by omega)
                        refine e_Ok.ps1 (x := (1, 275)) (q := 226) 1 rfl ?_
                        refine e_Ok.getr (z := 331) rfl (el_o rfl) rfl (ef_o rfl) (e_uq hw84 (Or.inl (by decide)) ((j6 275 68 (by first | exact no_60_3 | (unfold mLv; omega))).trans (e_Has.eq hT (mt_o rfl)))) ⟨by decide, by decide⟩ ?_
                        refine e_Ok.ps1 (x := (0, 900 * a + z20)) (q := 231) 1 rfl ?_
                        refine e_Ok.ald (z := w 331 (900 * a + z20)) rfl (el_o rfl) rfl (by omega) (e_uq hw84 (Or.inl (by decide)) ((j6 331 (900 * a + z20) (by first | exact no_60_4 | (unfold mLv; omega))).trans rfl)) (by omega) ?_
                        refine e_Ok.run (t' := (11, [(4, (0, w 331 (900 * a + z20))), (7, (0, z21)), (6, (0, 900 * a + z20)), (0, (1, 275)), (2, (0, x)), (3, (0, y)), (5, (0, 1))], [], w84)) 2 rfl ?_
                        refine e_Ok.sub eAlk (e_sub_of rfl ?_) (ih5 (w 331 (900 * a + z20)) w84 g1 ⟨(show e_fr (mLv t) w w84 from e_fr.up j6 hw84 (by first | exact Or.inr ⟨rfl, Or.inr (Or.inr (Or.inr (Or.inr (Or.inr (Or.inr (Or.inr (Or.inr (Or.inl ⟨(by omega), (by omega)⟩))))))))⟩ | (unfold mLv; omega))), hT86, (runOk.to (w' := w84) (r' := w 331 (900 * a + z20)) hru1 (fun c k q1 q2 => (e_uq hw84 (Or.inl (by omega)) rfl)) (fun i q1 q2 => ⟨(e_uq hw84 (Or.inr (by omega)) rfl), (e_uq hw84 (Or.inr (by omega)) rfl)⟩) (e_uq hw84 (Or.inr (by omega)) rfl) (by have q : w84 276 (1260 * t + 429) = bs g1 + pi y4 := (e_ue hw84); omega) (fun k q1 q2 => (e_uq hw84 (Or.inr (by omega)) rfl)) (by omega) (by omega) (by omega) (fun q q1 q2 q3 => by have := han2 z21 q (by omega) (by omega) q1; rwa [show 3 * z20 + z21 = y4 by omega] at this)), (Eq.trans (e_uq hw84 (Or.inl (by omega)) rfl) j9), (Eq.trans (e_uq hw84 (Or.inl (by omega)) rfl) j10), (Eq.trans (e_uq hw84 (Or.inr (by omega)) rfl) j11), ⟨by omega, fun _ => by omega⟩, (fun e3 => by have q := hC.2.2.2.2.2.1 y4 y (j13 e3).2 (by omega) (by omega); rw [show y4 / 3 = z20 by omega] at q; exact ⟨(j13 e3).1, q.elim (fun q => by exfalso; omega) (fun q => q.2.2)⟩), by omega, (sRel.up j15 hw84 (fun q b g1 g2 => by omega)), (Eq.trans (e_uq hw84 (Or.inr (by omega)) rfl) j16)⟩ (by omega))
                        exact ⟨rfl, rfl, rfl, rfl, rfl, trivial⟩
                      · replace h83 : (z21 : Int) = 2 := Classical.not_not.mp (show ¬ ((z21 : Int) ≠ 2) from h83)
                        exfalso; omega
                    · replace h82 : (w 333 (900 * a + z20) : Int) ≥ 0 := Int.not_lt.mp (show ¬ ((w 333 (900 * a + z20) : Int) < 0) from h82)
                      have hf1 := hfin.resolve_left (by omega)
                      have hf2 := (hall.2.2.1 (by omega)).resolve_left (by omega)
                      have hp2 := hC.2.2.2.1.2.1 (3 * z20 + 2) (by omega) (by omega)
                      refine e_Ok.ps3 (x := (0, y)) (y := (0, x)) (z := (1, 275)) (q := 179) 3 rfl ?_
                      refine e_Ok.callV rfl (e_dq hd rfl) rfl rfl rfl rfl (c_370 j7 (by omega) ((j6 275 97 (by first | exact no_60_2 | (unfold mLv; omega))).trans h97) (m := bs g1 + pi y4) (m1 := bs g1 + pi y4 + 1) (z := 1260 * t + 2 * bs g1 + 2 * pi y4 + 476) (z1 := 1260 * t + 2 * bs g1 + 2 * pi y4 + 477) hPn1 (by omega) (by omega) (by omega) (by omega)) (fun r87 w88 h89 => ?_)
                      obtain ⟨rfl, hw88⟩ := h89
                      generalize hw90 : e_up v1 276 (1260 * t + 2 * bs g1 + 2 * pi y4 + 476) x = w90 at hw88
                      have hT92 : e_Has mTy w90 := e_Has.upr j7 hw90 (nR_PEg t (by omega) (by omega)) (by omega)
                      generalize hw93 : e_up w90 276 (1260 * t + 2 * bs g1 + 2 * pi y4 + 477) y = w93 at hw88
                      have hT95 : e_Has mTy w93 := e_Has.upr hT92 hw93 (nR_PEg t (by omega) (by omega)) (by omega)
                      have hT97 : e_Has mTy w88 := e_Has.upr hT95 hw88 (nR_PENDS (t := t) (by omega)) (by omega)
                      refine e_Ok.nrm (q := 182) (st' := []) rfl rfl ?_
                      refine e_Ok.ps2 (x := (1, 275)) (y := (1, 275)) (q := 184) 2 rfl ?_
                      refine e_Ok.getr (z := 333) rfl (el_o rfl) rfl (ef_o rfl) (e_uq hw88 (Or.inl (by omega)) (e_uq hw93 (Or.inl (by omega)) (e_uq hw90 (Or.inl (by omega)) ((j6 275 70 (by first | exact no_60_5 | (unfold mLv; omega))).trans (e_Has.eq hT (mt_o rfl)))))) ⟨by decide, by decide⟩ ?_
                      refine e_Ok.ps1 (x := (0, 900 * a + z20)) (q := 189) 1 rfl ?_
                      refine e_Ok.ald (z := w 333 (900 * a + z20)) rfl (el_o rfl) rfl (by omega) (e_uq hw88 (Or.inl (by omega)) (e_uq hw93 (Or.inl (by omega)) (e_uq hw90 (Or.inl (by omega)) ((j6 333 (900 * a + z20) (by first | exact no_60_6 | (unfold mLv; omega))).trans rfl)))) (by omega) ?_
                      refine e_Ok.callV rfl (e_dq hd rfl) rfl rfl rfl rfl (c_365 (e_dq hd rfl) hT97 (by omega) (e_uq hw88 (Or.inl (by first | decide | omega)) (e_uq hw93 (Or.inl (by first | decide | omega)) (e_uq hw90 (Or.inl (by first | decide | omega)) ((j6 275 97 (by first | exact no_60_2 | (unfold mLv; omega))).trans h97)))) (f := g1 + 1) (z := 1260 * t + 2 * g1 + 436) (e_uq hw88 (Or.inr (by omega)) (e_uq hw93 (Or.inr (by omega)) (e_uq hw90 (Or.inr (by omega)) hF1))) (by omega) (by omega)) (fun r98 w99 h100 => ?_)
                      obtain ⟨rfl, hw99⟩ := h100
                      have hT102 : e_Has mTy w99 := e_Has.upr hT97 hw99 (nR_FRg t (g1) (by omega) (by omega) (by omega)) (by omega)
                      refine e_Ok.nrm (q := 193) (st' := []) rfl rfl ?_
                      refine e_Ok.run (t' := (11, [(5, (0, 0)), (7, (0, z21)), (6, (0, 900 * a + z20)), (0, (1, 275)), (2, (0, x)), (3, (0, y)), (4, (0, y4))], [], w99)) 4 rfl ?_
                      refine e_Ok.ps1 (x := (0, 0)) (q := 13) 1 rfl ?_
                      refine e_Ok.if1 rfl (fun h103 => ?_) (fun h103 => ?_)
                      · replace h103 : (0 : Int) = 0 := h103
                        refine e_Ok.rets rfl rfl ?_
                        have e104 : w99 276 5 = v1 276 5 := (e_uq hw99 (Or.inr (by omega)) (e_uq hw88 (Or.inr (by omega)) (e_uq hw93 (Or.inr (by omega)) (e_uq hw90 (Or.inr (by omega)) rfl))))
                        have hru := runOk.fin (w' := w99) (z := z20) (i := z21) (x := x) (y := y) hC1 hru1 (by omega) (by omega) (by omega) (fun c k q1 q2 => (e_uq hw99 (Or.inl (by omega)) (e_uq hw88 (Or.inl (by omega)) (e_uq hw93 (Or.inl (by omega)) (e_uq hw90 (Or.inl (by omega)) rfl))))) (fun i q1 q2 => ⟨(e_uq hw99 (Or.inr (by omega)) (e_uq hw88 (Or.inr (by omega)) (e_uq hw93 (Or.inr (by omega)) (e_uq hw90 (Or.inr (by omega)) rfl)))), (e_uq hw99 (Or.inr (by omega)) (e_uq hw88 (Or.inr (by omega)) (e_uq hw93 (Or.inr (by omega)) (e_uq hw90 (Or.inr (by omega)) rfl))))⟩) (e_uq hw99 (Or.inr (by omega)) (e_uq hw88 (Or.inr (by omega)) (e_uq hw93 (Or.inr (by omega)) (e_uq hw90 (Or.inr (by omega)) rfl)))) (e_uq hw99 (Or.inr (by omega)) (e_ue hw88)) (fun k q1 q2 => (e_uq hw99 (Or.inr (by omega)) (e_uq hw88 (Or.inr (by omega)) (e_uq hw93 (Or.inr (by omega)) (e_uq hw90 (Or.inr (by omega)) rfl))))) (by rw [show 1260 * t + 2 * (bs g1 + pi y4) + 476 = 1260 * t + 2 * bs g1 + 2 * pi y4 + 476 by omega]; exact (e_uq hw99 (Or.inr (by omega)) (e_uq hw88 (Or.inr (by omega)) (e_uq hw93 (Or.inr (by omega)) (e_ue hw90))))) (by rw [show 1260 * t + 2 * (bs g1 + pi y4) + 477 = 1260 * t + 2 * bs g1 + 2 * pi y4 + 477 by omega]; exact (e_uq hw99 (Or.inr (by omega)) (e_uq hw88 (Or.inr (by omega)) (e_ue hw93)))) (fun e3 => by have q := hC.2.2.2.2.2.1 y4 y (j13 e3).2 (by omega) (by omega); rw [show y4 / 3 = z20 by omega] at q; have q0 := hy3 e3; refine ⟨q0.1, q0.2.1, ?_⟩; rw [j6 331 _ (by first | exact no_60_4 | (unfold mLv; omega)), j6 334 _ (by first | exact no_60_7 | (unfold mLv; omega)), j6 336 _ (by first | exact no_60_8 | (unfold mLv; omega))]; exact q.elim (fun q => by exfalso; omega) (fun q => ⟨q.2.2, q.2.1⟩))
                        exact ⟨rfl, ⟨(show e_fr (mLv t) w w99 from e_fr.up (show e_fr (mLv t) w w88 from e_fr.up (show e_fr (mLv t) w w93 from e_fr.up (show e_fr (mLv t) w w90 from e_fr.up j6 hw90 (by first | exact Or.inr ⟨rfl, Or.inr (Or.inr (Or.inr (Or.inr (Or.inr (Or.inr (Or.inr (Or.inr (Or.inr ⟨(by omega), (by omega)⟩))))))))⟩ | (unfold mLv; omega))) hw93 (by first | exact Or.inr ⟨rfl, Or.inr (Or.inr (Or.inr (Or.inr (Or.inr (Or.inr (Or.inr (Or.inr (Or.inr ⟨(by omega), (by omega)⟩))))))))⟩ | (unfold mLv; omega))) hw88 (by first | exact Or.inr ⟨rfl, Or.inr (Or.inr (Or.inr (Or.inr (Or.inr (Or.inr (Or.inr (Or.inr (Or.inl ⟨(by omega), (by omega)⟩))))))))⟩ | (unfold mLv; omega))) hw99 (by first | exact Or.inr ⟨rfl, Or.inr (Or.inr (Or.inr (Or.inr (Or.inr (Or.inr (Or.inr (Or.inr (Or.inr ⟨(by omega), (by omega)⟩))))))))⟩ | (unfold mLv; omega))), (sRel.up (sRel.up (sRel.up (sRel.up j15 hw90 (fun q b g1 g2 => by omega)) hw93 (fun q b g1 g2 => by omega)) hw88 (fun q b g1 g2 => by omega)) hw99 (fun q b g1 g2 => by omega))⟩, hT102, by omega, (e_uq hw99 (Or.inl (by omega)) (e_uq hw88 (Or.inl (by omega)) (e_uq hw93 (Or.inl (by omega)) (e_uq hw90 (Or.inl (by omega)) j9)))), Or.inr ⟨(Eq.trans (e_uq hw99 (Or.inl (by omega)) (e_uq hw88 (Or.inl (by omega)) (e_uq hw93 (Or.inl (by omega)) (e_uq hw90 (Or.inl (by omega)) rfl)))) j10), (Eq.trans (e_uq hw99 (Or.inr (by omega)) (e_uq hw88 (Or.inr (by omega)) (e_uq hw93 (Or.inr (by omega)) (e_uq hw90 (Or.inr (by omega)) rfl)))) j16), by omega, g1, w 333 (900 * a + z20), bs, _, by omega, fun e => by omega, runOk.at hru (by omega) (e_ue hw99) ((show w99 330 (10000 * a + (w 333 (900 * a + z20))) = v1 330 (10000 * a + (w 333 (900 * a + z20))) from (e_uq hw99 (Or.inl (by omega)) (e_uq hw88 (Or.inl (by omega)) (e_uq hw93 (Or.inl (by omega)) (e_uq hw90 (Or.inl (by omega)) rfl))))).trans ((j6 330 (10000 * a + (w 333 (900 * a + z20))) (by first | exact no_60_9 | (unfold mLv; omega))).trans (by omega))), by omega, by omega⟩⟩
                      · replace h103 : (0 : Int) ≠ 0 := (show ¬ ((0 : Int) = 0) from h103)
                        exfalso; omega
                · replace h79 : (w 332 (900 * a + z20) : Int) ≥ 0 := Int.not_lt.mp (show ¬ ((w 332 (900 * a + z20) : Int) < 0) from h79)
                  have hc1 := hcat.resolve_left (by omega)
                  have hc2 := (hall.2.1 (by omega)).resolve_left (by omega)
                  refine e_Ok.ps1 (x := (1, 275)) (q := 132) 1 rfl ?_
                  refine e_Ok.getr (z := 276) rfl (el_o rfl) rfl (ef_o rfl) ((j6 275 0 (by first | exact no_60_1 | (unfold mLv; omega))).trans (e_Has.eq hT (mt_o rfl))) ⟨by decide, by decide⟩ ?_
                  refine e_Ok.ps1 (x := (1, 275)) (q := 136) 1 rfl ?_
                  refine e_Ok.getf (z := 1260 * t + 416) rfl (el_o rfl) rfl (ef_o rfl) ((j6 275 97 (by first | exact no_60_2 | (unfold mLv; omega))).trans h97) (by omega) ?_
                  refine e_Ok.ps1 (x := (0, 3)) (q := 140) 1 rfl ?_
                  refine e_Ok.add (z := 1260 * t + 419) rfl (e_adl (by decide)) (by omega) ?_
                  refine e_Ok.ps1 (x := (0, y)) (q := 142) 1 rfl ?_
                  refine e_Ok.ast rfl (el_o rfl) rfl rfl (by omega) ?_
                  generalize hw105 : e_up v1 276 (1260 * t + 419) y = w105
                  have hT107 : e_Has mTy w105 := e_Has.upr j7 hw105 (nR_CAUGHT (t := t) (by omega)) (by omega)
                  refine e_Ok.ps2 (x := (1, 275)) (y := (1, 275)) (q := 145) 2 rfl ?_
                  refine e_Ok.getr (z := 332) rfl (el_o rfl) rfl (ef_o rfl) (e_uq hw105 (Or.inl (by decide)) ((j6 275 69 (by first | exact no_60_10 | (unfold mLv; omega))).trans (e_Has.eq hT (mt_o rfl)))) ⟨by decide, by decide⟩ ?_
                  refine e_Ok.ps1 (x := (0, 900 * a + z20)) (q := 150) 1 rfl ?_
                  refine e_Ok.ald (z := w 332 (900 * a + z20)) rfl (el_o rfl) rfl (by omega) (e_uq hw105 (Or.inl (by decide)) ((j6 332 (900 * a + z20) (by first | exact no_60_11 | (unfold mLv; omega))).trans rfl)) (by omega) ?_
                  refine e_Ok.callV rfl (e_dq hd rfl) rfl rfl rfl rfl (c_365 (e_dq hd rfl) hT107 (by omega) (e_uq hw105 (Or.inl (by first | decide | omega)) ((j6 275 97 (by first | exact no_60_2 | (unfold mLv; omega))).trans h97)) (f := g1 + 1) (z := 1260 * t + 2 * g1 + 436) (e_uq hw105 (Or.inr (by omega)) hF1) (by omega) (by omega)) (fun r108 w109 h110 => ?_)
                  obtain ⟨rfl, hw109⟩ := h110
                  have hT112 : e_Has mTy w109 := e_Has.upr hT107 hw109 (nR_FRg t (g1) (by omega) (by omega) (by omega)) (by omega)
                  refine e_Ok.nrm (q := 154) (st' := []) rfl rfl ?_
                  refine e_Ok.run (t' := (11, [(5, (0, 0)), (7, (0, z21)), (6, (0, 900 * a + z20)), (0, (1, 275)), (2, (0, x)), (3, (0, y)), (4, (0, y4))], [], w109)) 4 rfl ?_
                  refine e_Ok.ps1 (x := (0, 0)) (q := 13) 1 rfl ?_
                  refine e_Ok.if1 rfl (fun h113 => ?_) (fun h113 => ?_)
                  · replace h113 : (0 : Int) = 0 := h113
                    refine e_Ok.rets rfl rfl ?_
                    have e114 : w109 276 5 = v1 276 5 := (e_uq hw109 (Or.inr (by omega)) (e_uq hw105 (Or.inr (by omega)) rfl))
                    have hru := runOk.to (w' := w109) (r' := 3 * z20 + 1) hru1 (fun c k q1 q2 => (e_uq hw109 (Or.inl (by omega)) (e_uq hw105 (Or.inl (by omega)) rfl))) (fun i q1 q2 => ⟨(e_uq hw109 (Or.inr (by omega)) (e_uq hw105 (Or.inr (by omega)) rfl)), (e_uq hw109 (Or.inr (by omega)) (e_uq hw105 (Or.inr (by omega)) rfl))⟩) (e_uq hw109 (Or.inr (by omega)) (e_uq hw105 (Or.inr (by omega)) rfl)) (by rw [(show w109 276 (1260 * t + 429) = v1 276 (1260 * t + 429) from (e_uq hw109 (Or.inr (by omega)) (e_uq hw105 (Or.inr (by omega)) rfl))), hPn1]; omega) (fun k q1 q2 => (e_uq hw109 (Or.inr (by omega)) (e_uq hw105 (Or.inr (by omega)) rfl))) (by omega) (by omega) (by omega) (fun q q1 q2 q3 => (han1 1 q (by omega) (by omega) q1).elim (fun e => by omega) (fun e => by have := han2 0 q (by omega) (by omega) e; rwa [show 3 * z20 + 0 = y4 by omega] at this))
                    exact ⟨rfl, ⟨(show e_fr (mLv t) w w109 from e_fr.up (show e_fr (mLv t) w w105 from e_fr.up j6 hw105 (by first | exact Or.inr ⟨rfl, Or.inr (Or.inr (Or.inr (Or.inr (Or.inr (Or.inr (Or.inr (Or.inl (by omega))))))))⟩ | (unfold mLv; omega))) hw109 (by first | exact Or.inr ⟨rfl, Or.inr (Or.inr (Or.inr (Or.inr (Or.inr (Or.inr (Or.inr (Or.inr (Or.inr ⟨(by omega), (by omega)⟩))))))))⟩ | (unfold mLv; omega))), (sRel.up (sRel.up j15 hw105 (fun q b g1 g2 => by omega)) hw109 (fun q b g1 g2 => by omega))⟩, hT112, by omega, (e_uq hw109 (Or.inl (by omega)) (e_uq hw105 (Or.inl (by omega)) j9)), Or.inr ⟨(Eq.trans (e_uq hw109 (Or.inl (by omega)) (e_uq hw105 (Or.inl (by omega)) rfl)) j10), (Eq.trans (e_uq hw109 (Or.inr (by omega)) (e_uq hw105 (Or.inr (by omega)) rfl)) j16), by omega, g1, w 332 (900 * a + z20), bs, ow, by omega, fun e => by omega, runOk.at hru (by omega) (e_ue hw109) ((show w109 330 (10000 * a + (w 332 (900 * a + z20))) = v1 330 (10000 * a + (w 332 (900 * a + z20))) from (e_uq hw109 (Or.inl (by omega)) (e_uq hw105 (Or.inl (by omega)) rfl))).trans ((j6 330 (10000 * a + (w 332 (900 * a + z20))) (by first | exact no_60_9 | (unfold mLv; omega))).trans (by omega))), by omega, by omega⟩⟩
                  · replace h113 : (0 : Int) ≠ 0 := (show ¬ ((0 : Int) = 0) from h113)
                    exfalso; omega
          · replace h19 : (y4 : Int) < 0 := Int.not_le.mp (show ¬ ((y4 : Int) ≥ 0) from h19)
            refine e_Ok.ps3 (x := (0, y)) (y := (0, x)) (z := (1, 275)) (q := 69) 3 rfl ?_
            refine e_Ok.callV rfl (e_dq hd rfl) rfl rfl rfl rfl (c_372 (e_dq hd rfl) j7 (by omega) (by omega) ((j6 275 96 (by first | exact no_60_12 | (unfold mLv; omega))).trans h96) ((j6 275 97 (by first | exact no_60_2 | (unfold mLv; omega))).trans h97) ((j6 275 98 (by first | exact no_60_0 | (unfold mLv; omega))).trans h98) hC1 (show runOk v1 a t g1 (-1) n nt nw dl sg pi an br bs ow by rw [← show y4 = -1 by omega]; exact hru1) (by omega) (by omega)) (fun r115 w116 h117 => ?_)
            obtain ⟨z118, rfl, ⟨q119, q119S⟩, q119T, q119n, q119d, q119c⟩ := h117
            have f120 : e_fr (mLv t) w w116 := e_fr.trans j6 (e_fr.mono q119 (fun c k q => by exact q))
            obtain ⟨q119a, q119b, q119z, q119r, q119o, q119e, q119x⟩ | ⟨q119a, q119b, rfl, q119p, q119t, q119u, q119v, q119o, q119e, q119x⟩ | ⟨q119a, rfl, q119o, q119s⟩ := q119c
            · refine e_Ok.nrm (q := 72) (st' := [(0, z118)]) rfl rfl ?_
              have q119g := q119r.2.2.2.1
              refine e_Ok.run (t' := (77, [(4, (0, z118)), (0, (1, 275)), (2, (0, x)), (3, (0, y)), (5, (0, 1))], [(0, (-1)), (0, z118)], w116)) 3 rfl ?_
              refine e_Ok.if2 rfl (fun h121 => ?_) (fun h121 => ?_)
              · replace h121 : (z118 : Int) < (-1) := h121
                exfalso; omega
              · replace h121 : (z118 : Int) ≥ (-1) := Int.not_lt.mp (show ¬ ((z118 : Int) < (-1)) from h121)
                refine e_Ok.run (t' := (11, [(5, (0, 1)), (4, (0, z118)), (0, (1, 275)), (2, (0, x)), (3, (0, y))], [], w116)) 4 rfl ?_
                refine e_Ok.sub eAlk (e_sub_of rfl ?_) (ih5 z118 w116 (g1 - 1) ⟨f120, q119T, q119r, (by rw [q119d]; exact j9), (by rw [q119o]; exact j10), (by rw [q119e]; exact j11), ⟨by omega, fun _ => by omega⟩, (fun e3 => by exfalso; omega), by have := q119r.2.2.2.1; omega, (sRel.trans j15 q119S), (Eq.trans q119x j16)⟩ (by omega))
                exact ⟨rfl, rfl, rfl, rfl, rfl, trivial⟩
            · refine e_Ok.nrm (q := 72) (st' := [(0, (-2))]) rfl rfl ?_
              refine e_Ok.run (t' := (77, [(4, (0, (-2))), (0, (1, 275)), (2, (0, x)), (3, (0, y)), (5, (0, 1))], [(0, (-1)), (0, (-2))], w116)) 3 rfl ?_
              refine e_Ok.if2 rfl (fun h122 => ?_) (fun h122 => ?_)
              · replace h122 : ((-2) : Int) < (-1) := h122
                refine e_Ok.run (t' := (11, [(5, (0, 0)), (4, (0, (-2))), (0, (1, 275)), (2, (0, x)), (3, (0, y))], [], w116)) 3 rfl ?_
                refine e_Ok.ps1 (x := (0, 0)) (q := 13) 1 rfl ?_
                refine e_Ok.if1 rfl (fun h123 => ?_) (fun h123 => ?_)
                · replace h123 : (0 : Int) = 0 := h123
                  refine e_Ok.rets rfl rfl ?_
                  have e124 : w116 276 5 = w116 276 5 := rfl
                  exact ⟨rfl, ⟨f120, (sRel.trans j15 q119S)⟩, q119T, by omega, (Eq.trans q119d j9), Or.inr ⟨(by rw [q119o]; exact j10), Eq.trans q119x j16, by omega, g1 - 1, q119p, bs, ow, by omega, by omega, q119t, q119u, q119v⟩⟩
                · replace h123 : (0 : Int) ≠ 0 := (show ¬ ((0 : Int) = 0) from h123)
                  exfalso; omega
              · replace h122 : ((-2) : Int) ≥ (-1) := Int.not_lt.mp (show ¬ (((-2) : Int) < (-1)) from h122)
                exfalso; omega
            · refine e_Ok.nrm (q := 72) (st' := [(0, (-2))]) rfl rfl ?_
              refine e_Ok.run (t' := (77, [(4, (0, (-2))), (0, (1, 275)), (2, (0, x)), (3, (0, y)), (5, (0, 1))], [(0, (-1)), (0, (-2))], w116)) 3 rfl ?_
              refine e_Ok.if2 rfl (fun h125 => ?_) (fun h125 => ?_)
              · replace h125 : ((-2) : Int) < (-1) := h125
                refine e_Ok.run (t' := (11, [(5, (0, 0)), (4, (0, (-2))), (0, (1, 275)), (2, (0, x)), (3, (0, y))], [], w116)) 3 rfl ?_
                refine e_Ok.ps1 (x := (0, 0)) (q := 13) 1 rfl ?_
                refine e_Ok.if1 rfl (fun h126 => ?_) (fun h126 => ?_)
                · replace h126 : (0 : Int) = 0 := h126
                  refine e_Ok.rets rfl rfl ?_
                  have e127 : w116 276 5 = w116 276 5 := rfl
                  exact ⟨rfl, ⟨f120, (sRel.trans j15 q119S)⟩, q119T, by omega, (Eq.trans q119d j9), Or.inl ⟨q119o, q119s⟩⟩
                · replace h126 : (0 : Int) ≠ 0 := (show ¬ ((0 : Int) = 0) from h126)
                  exfalso; omega
              · replace h125 : ((-2) : Int) ≥ (-1) := Int.not_lt.mp (show ¬ (((-2) : Int) < (-1)) from h125)
                exfalso; omega
        · replace h18 : (x : Int) = 3 := Classical.not_not.mp (show ¬ ((x : Int) ≠ 3) from h18)
          have hyy := hy3 (by omega)
          refine e_Ok.ps2 (x := (1, 275)) (y := (0, y4)) (q := 24) 2 rfl ?_
          refine e_Ok.getr (z := 335) rfl (el_o rfl) rfl (ef_o rfl) ((j6 275 72 (by first | exact no_60_13 | (unfold mLv; omega))).trans (e_Has.eq hT (mt_o rfl))) ⟨by decide, by decide⟩ ?_
          refine e_Ok.ps2 (x := (1, 275)) (y := (0, 900)) (q := 31) 2 rfl ?_
          refine e_Ok.getf (z := a) rfl (el_o rfl) rfl (ef_o rfl) ((j6 275 98 (by first | exact no_60_0 | (unfold mLv; omega))).trans h98) (by omega) ?_
          refine e_Ok.mul (z := 900 * a) rfl rfl (by omega) ?_
          refine e_Ok.ps1 (x := (0, y)) (q := 36) 1 rfl ?_
          refine e_Ok.add (z := 900 * a + y) rfl rfl (by omega) ?_
          have h128 := (e_Has.get hT (c := 335) (k := 900 * a + y) (lo := (-2147483648)) (hi := 2147483647) (mt_o rfl) (by decide))
          refine e_Ok.ald (z := w 335 (900 * a + y)) rfl (el_o rfl) rfl (by omega) ((j6 335 (900 * a + y) (by first | exact no_60_14 | (unfold mLv; omega))).trans rfl) (e_bq h128 (by decide) (by decide)) ?_
          refine e_Ok.if2 rfl (fun h129 => ?_) (fun h129 => ?_)
          · replace h129 : (y4 : Int) ≠ w 335 (900 * a + y) := h129
            refine e_Ok.ps1 (x := (0, y4)) (q := 63) 1 rfl ?_
            refine e_Ok.if1 rfl (fun h130 => ?_) (fun h130 => ?_)
            · replace h130 : (y4 : Int) ≥ 0 := h130
              refine e_Ok.ps2 (x := (1, 275)) (y := (0, 900)) (q := 94) 2 rfl ?_
              refine e_Ok.getf (z := a) rfl (el_o rfl) rfl (ef_o rfl) ((j6 275 98 (by first | exact no_60_0 | (unfold mLv; omega))).trans h98) (by omega) ?_
              refine e_Ok.mul (z := 900 * a) rfl rfl (by omega) ?_
              refine e_Ok.ps2 (x := (0, 3)) (y := (0, y4)) (q := 101) 2 rfl ?_
              refine e_Ok.divn (fun z131 hz131 => ?_) rfl (by omega) (by omega)
              replace hz131 : z131 = y4 / 3 := hz131
              have z131r : 0 ≤ z131 ∧ z131 ≤ 899 := by omega
              refine e_Ok.add (z := 900 * a + z131) rfl (by omega) (by omega) ?_
              refine e_Ok.run (t' := (108, [(6, (0, 900 * a + z131)), (0, (1, 275)), (2, (0, x)), (3, (0, y)), (4, (0, y4)), (5, (0, 1))], [(0, 3), (0, y4)], v1)) 3 rfl ?_
              refine e_Ok.remn (fun z132 hz132 => ?_) rfl (by omega) (by omega)
              replace hz132 : z132 = y4 % 3 := hz132
              have z132r : 0 ≤ z132 ∧ z132 ≤ 2 := by omega
              refine e_Ok.run (t' := (111, [(7, (0, z132)), (6, (0, 900 * a + z131)), (0, (1, 275)), (2, (0, x)), (3, (0, y)), (4, (0, y4)), (5, (0, 1))], [], v1)) 1 rfl ?_
              obtain ⟨hti, hpi3, hcat, hfin, hend, han1, han2⟩ := id (hC.2.2.1 z131 (by omega) (by omega))
              have hall := (hC.2.2.1 z131 (by omega) (by omega)).all (y := y4) (k := z132) (by omega) (by omega)
              unfold tgt at hcat hfin hend
              have hpz := hC.2.2.2.1.2.1 (w 331 (900 * a + z131)) (by omega) (by omega)
              refine e_Ok.ps1 (x := (0, z132)) (q := 113) 1 rfl ?_
              refine e_Ok.if1 rfl (fun h133 => ?_) (fun h133 => ?_)
              · replace h133 : (z132 : Int) ≠ 0 := h133
                refine e_Ok.ps2 (x := (0, 2)) (y := (0, z132)) (q := 163) 2 rfl ?_
                refine e_Ok.if2 rfl (fun h134 => ?_) (fun h134 => ?_)
                · replace h134 : (z132 : Int) ≥ 2 := h134
                  refine e_Ok.ps1 (x := (1, 275)) (q := 200) 1 rfl ?_
                  refine e_Ok.getr (z := 276) rfl (el_o rfl) rfl (ef_o rfl) ((j6 275 0 (by first | exact no_60_1 | (unfold mLv; omega))).trans (e_Has.eq hT (mt_o rfl))) ⟨by decide, by decide⟩ ?_
                  refine e_Ok.ps1 (x := (1, 275)) (q := 204) 1 rfl ?_
                  refine e_Ok.getf (z := 1260 * t + 416) rfl (el_o rfl) rfl (ef_o rfl) ((j6 275 97 (by first | exact no_60_2 | (unfold mLv; omega))).trans h97) (by omega) ?_
                  refine e_Ok.ps1 (x := (0, 13)) (q := 209) 1 rfl ?_
                  refine e_Ok.add (z := 1260 * t + 429) rfl (e_adl (by decide)) (by omega) ?_
                  refine e_Ok.ps2 (x := (0, 1260 * t + 429)) (y := (1, 276)) (q := 211) 1 rfl ?_
                  refine e_Ok.ald (z := bs g1 + pi y4) rfl (el_o rfl) rfl (by omega) hPn1 (by omega) ?_
                  refine e_Ok.ps2 (x := (0, 2)) (y := (0, z132)) (q := 215) 2 rfl ?_
                  refine e_Ok.if2 rfl (fun h135 => ?_) (fun h135 => ?_)
                  · replace h135 : (z132 : Int) ≠ 2 := h135
                    exfalso; omega
                  · replace h135 : (z132 : Int) = 2 := Classical.not_not.mp (show ¬ ((z132 : Int) ≠ 2) from h135)
                    refine e_Ok.ps1 (x := (0, 1)) (q := 223) 2 rfl ?_
                    refine e_Ok.sub' (z := bs g1 + pi y4 - 1) rfl rfl (by omega) ?_
                    refine e_Ok.ast rfl (el_o rfl) rfl rfl (by omega) ?_
                    generalize hw136 : e_up v1 276 (1260 * t + 429) (bs g1 + pi y4 - 1) = w136
                    have hT138 : e_Has mTy w136 := e_Has.upr j7 hw136 (nR_PENDS (t := t) (by omega)) (by omega)
                    refine e_Ok.ps1 (x := (1, 275)) (q := 226) 1 rfl ?_
                    refine e_Ok.getr (z := 331) rfl (el_o rfl) rfl (ef_o rfl) (e_uq hw136 (Or.inl (by decide)) ((j6 275 68 (by first | exact no_60_3 | (unfold mLv; omega))).trans (e_Has.eq hT (mt_o rfl)))) ⟨by decide, by decide⟩ ?_
                    refine e_Ok.ps1 (x := (0, 900 * a + z131)) (q := 231) 1 rfl ?_
                    refine e_Ok.ald (z := w 331 (900 * a + z131)) rfl (el_o rfl) rfl (by omega) (e_uq hw136 (Or.inl (by decide)) ((j6 331 (900 * a + z131) (by first | exact no_60_4 | (unfold mLv; omega))).trans rfl)) (by omega) ?_
                    refine e_Ok.run (t' := (11, [(4, (0, w 331 (900 * a + z131))), (7, (0, z132)), (6, (0, 900 * a + z131)), (0, (1, 275)), (2, (0, x)), (3, (0, y)), (5, (0, 1))], [], w136)) 2 rfl ?_
                    refine e_Ok.sub eAlk (e_sub_of rfl ?_) (ih5 (w 331 (900 * a + z131)) w136 g1 ⟨(show e_fr (mLv t) w w136 from e_fr.up j6 hw136 (by first | exact Or.inr ⟨rfl, Or.inr (Or.inr (Or.inr (Or.inr (Or.inr (Or.inr (Or.inr (Or.inr (Or.inl ⟨(by omega), (by omega)⟩))))))))⟩ | (unfold mLv; omega))), hT138, (runOk.to (w' := w136) (r' := w 331 (900 * a + z131)) hru1 (fun c k q1 q2 => (e_uq hw136 (Or.inl (by omega)) rfl)) (fun i q1 q2 => ⟨(e_uq hw136 (Or.inr (by omega)) rfl), (e_uq hw136 (Or.inr (by omega)) rfl)⟩) (e_uq hw136 (Or.inr (by omega)) rfl) (by have q : w136 276 (1260 * t + 429) = bs g1 + pi y4 - 1 := (e_ue hw136); omega) (fun k q1 q2 => (e_uq hw136 (Or.inr (by omega)) rfl)) (by omega) (by omega) (by omega) (fun q q1 q2 q3 => by have := han2 z132 q (by omega) (by omega) q1; rwa [show 3 * z131 + z132 = y4 by omega] at this)), (Eq.trans (e_uq hw136 (Or.inl (by omega)) rfl) j9), (Eq.trans (e_uq hw136 (Or.inl (by omega)) rfl) j10), (Eq.trans (e_uq hw136 (Or.inr (by omega)) rfl) j11), ⟨by omega, fun _ => by omega⟩, (fun e3 => by have q := hC.2.2.2.2.2.1 y4 y (j13 e3).2 (by omega) (by omega); rw [show y4 / 3 = z131 by omega] at q; exact ⟨(j13 e3).1, q.elim (fun q => by exfalso; omega) (fun q => q.2.2)⟩), by omega, (sRel.up j15 hw136 (fun q b g1 g2 => by omega)), (Eq.trans (e_uq hw136 (Or.inr (by omega)) rfl) j16)⟩ (by omega))
                    exact ⟨rfl, rfl, rfl, rfl, rfl, trivial⟩
                · replace h134 : (z132 : Int) < 2 := Int.not_le.mp (show ¬ ((z132 : Int) ≥ 2) from h134)
                  refine e_Ok.ps1 (x := (1, 275)) (q := 167) 1 rfl ?_
                  refine e_Ok.getr (z := 333) rfl (el_o rfl) rfl (ef_o rfl) ((j6 275 70 (by first | exact no_60_5 | (unfold mLv; omega))).trans (e_Has.eq hT (mt_o rfl))) ⟨by decide, by decide⟩ ?_
                  refine e_Ok.ps1 (x := (0, 900 * a + z131)) (q := 172) 1 rfl ?_
                  have h139 := (e_Has.get hT (c := 333) (k := 900 * a + z131) (lo := (-2147483648)) (hi := 2147483647) (mt_o rfl) (by decide))
                  refine e_Ok.ald (z := w 333 (900 * a + z131)) rfl (el_o rfl) rfl (by omega) ((j6 333 (900 * a + z131) (by first | exact no_60_6 | (unfold mLv; omega))).trans rfl) (e_bq h139 (by decide) (by decide)) ?_
                  refine e_Ok.if1 rfl (fun h140 => ?_) (fun h140 => ?_)
                  · replace h140 : (w 333 (900 * a + z131) : Int) < 0 := h140
                    refine e_Ok.ps1 (x := (1, 275)) (q := 200) 1 rfl ?_
                    refine e_Ok.getr (z := 276) rfl (el_o rfl) rfl (ef_o rfl) ((j6 275 0 (by first | exact no_60_1 | (unfold mLv; omega))).trans (e_Has.eq hT (mt_o rfl))) ⟨by decide, by decide⟩ ?_
                    refine e_Ok.ps1 (x := (1, 275)) (q := 204) 1 rfl ?_
                    refine e_Ok.getf (z := 1260 * t + 416) rfl (el_o rfl) rfl (ef_o rfl) ((j6 275 97 (by first | exact no_60_2 | (unfold mLv; omega))).trans h97) (by omega) ?_
                    refine e_Ok.ps1 (x := (0, 13)) (q := 209) 1 rfl ?_
                    refine e_Ok.add (z := 1260 * t + 429) rfl (e_adl (by decide)) (by omega) ?_
                    refine e_Ok.ps2 (x := (0, 1260 * t + 429)) (y := (1, 276)) (q := 211) 1 rfl ?_
                    refine e_Ok.ald (z := bs g1 + pi y4) rfl (el_o rfl) rfl (by omega) hPn1 (by omega) ?_
                    refine e_Ok.ps2 (x := (0, 2)) (y := (0, z132)) (q := 215) 2 rfl ?_
                    refine e_Ok.if2 rfl (fun h141 => ?_) (fun h141 => ?_)
                    · replace h141 : (z132 : Int) ≠ 2 := h141
                      refine e_Ok.ps1 (x := (0, 0)) (q := 223) 1 rfl ?_
                      refine e_Ok.sub' (z := bs g1 + pi y4) rfl (by omega) (by omega) ?_
                      refine e_Ok.ast rfl (el_o rfl) rfl rfl (by omega) ?_
                      generalize hw142 : e_up v1 276 (1260 * t + 429) (bs g1 + pi y4) = w142
                      have hT144 : e_Has mTy w142 := e_Has.upr j7 hw142 (nR_PENDS (t := t) (by omega)) (by omega)
                      refine e_Ok.ps1 (x := (1, 275)) (q := 226) 1 rfl ?_
                      refine e_Ok.getr (z := 331) rfl (el_o rfl) rfl (ef_o rfl) (e_uq hw142 (Or.inl (by decide)) ((j6 275 68 (by first | exact no_60_3 | (unfold mLv; omega))).trans (e_Has.eq hT (mt_o rfl)))) ⟨by decide, by decide⟩ ?_
                      refine e_Ok.ps1 (x := (0, 900 * a + z131)) (q := 231) 1 rfl ?_
                      refine e_Ok.ald (z := w 331 (900 * a + z131)) rfl (el_o rfl) rfl (by omega) (e_uq hw142 (Or.inl (by decide)) ((j6 331 (900 * a + z131) (by first | exact no_60_4 | (unfold mLv; omega))).trans rfl)) (by omega) ?_
                      refine e_Ok.run (t' := (11, [(4, (0, w 331 (900 * a + z131))), (7, (0, z132)), (6, (0, 900 * a + z131)), (0, (1, 275)), (2, (0, x)), (3, (0, y)), (5, (0, 1))], [], w142)) 2 rfl ?_
                      refine e_Ok.sub eAlk (e_sub_of rfl ?_) (ih5 (w 331 (900 * a + z131)) w142 g1 ⟨(show e_fr (mLv t) w w142 from e_fr.up j6 hw142 (by first | exact Or.inr ⟨rfl, Or.inr (Or.inr (Or.inr (Or.inr (Or.inr (Or.inr (Or.inr (Or.inr (Or.inl ⟨(by omega), (by omega)⟩))))))))⟩ | (unfold mLv; omega))), hT144, (runOk.to (w' := w142) (r' := w 331 (900 * a + z131)) hru1 (fun c k q1 q2 => (e_uq hw142 (Or.inl (by omega)) rfl)) (fun i q1 q2 => ⟨(e_uq hw142 (Or.inr (by omega)) rfl), (e_uq hw142 (Or.inr (by omega)) rfl)⟩) (e_uq hw142 (Or.inr (by omega)) rfl) (by have q : w142 276 (1260 * t + 429) = bs g1 + pi y4 := (e_ue hw142); omega) (fun k q1 q2 => (e_uq hw142 (Or.inr (by omega)) rfl)) (by omega) (by omega) (by omega) (fun q q1 q2 q3 => by have := han2 z132 q (by omega) (by omega) q1; rwa [show 3 * z131 + z132 = y4 by omega] at this)), (Eq.trans (e_uq hw142 (Or.inl (by omega)) rfl) j9), (Eq.trans (e_uq hw142 (Or.inl (by omega)) rfl) j10), (Eq.trans (e_uq hw142 (Or.inr (by omega)) rfl) j11), ⟨by omega, fun _ => by omega⟩, (fun e3 => by have q := hC.2.2.2.2.2.1 y4 y (j13 e3).2 (by omega) (by omega); rw [show y4 / 3 = z131 by omega] at q; exact ⟨(j13 e3).1, q.elim (fun q => by exfalso; omega) (fun q => q.2.2)⟩), by omega, (sRel.up j15 hw142 (fun q b g1 g2 => by omega)), (Eq.trans (e_uq hw142 (Or.inr (by omega)) rfl) j16)⟩ (by omega))
                      exact ⟨rfl, rfl, rfl, rfl, rfl, trivial⟩
                    · replace h141 : (z132 : Int) = 2 := Classical.not_not.mp (show ¬ ((z132 : Int) ≠ 2) from h141)
                      exfalso; omega
                  · replace h140 : (w 333 (900 * a + z131) : Int) ≥ 0 := Int.not_lt.mp (show ¬ ((w 333 (900 * a + z131) : Int) < 0) from h140)
                    have hf1 := hfin.resolve_left (by omega)
                    have hf2 := (hall.2.2.1 (by omega)).resolve_left (by omega)
                    have hp2 := hC.2.2.2.1.2.1 (3 * z131 + 2) (by omega) (by omega)
                    refine e_Ok.ps3 (x := (0, y)) (y := (0, x)) (z := (1, 275)) (q := 179) 3 rfl ?_
                    refine e_Ok.callV rfl (e_dq hd rfl) rfl rfl rfl rfl (c_370 j7 (by omega) ((j6 275 97 (by first | exact no_60_2 | (unfold mLv; omega))).trans h97) (m := bs g1 + pi y4) (m1 := bs g1 + pi y4 + 1) (z := 1260 * t + 2 * bs g1 + 2 * pi y4 + 476) (z1 := 1260 * t + 2 * bs g1 + 2 * pi y4 + 477) hPn1 (by omega) (by omega) (by omega) (by omega)) (fun r145 w146 h147 => ?_)
                    obtain ⟨rfl, hw146⟩ := h147
                    generalize hw148 : e_up v1 276 (1260 * t + 2 * bs g1 + 2 * pi y4 + 476) x = w148 at hw146
                    have hT150 : e_Has mTy w148 := e_Has.upr j7 hw148 (nR_PEg t (by omega) (by omega)) (by omega)
                    generalize hw151 : e_up w148 276 (1260 * t + 2 * bs g1 + 2 * pi y4 + 477) y = w151 at hw146
                    have hT153 : e_Has mTy w151 := e_Has.upr hT150 hw151 (nR_PEg t (by omega) (by omega)) (by omega)
                    have hT155 : e_Has mTy w146 := e_Has.upr hT153 hw146 (nR_PENDS (t := t) (by omega)) (by omega)
                    refine e_Ok.nrm (q := 182) (st' := []) rfl rfl ?_
                    refine e_Ok.ps2 (x := (1, 275)) (y := (1, 275)) (q := 184) 2 rfl ?_
                    refine e_Ok.getr (z := 333) rfl (el_o rfl) rfl (ef_o rfl) (e_uq hw146 (Or.inl (by omega)) (e_uq hw151 (Or.inl (by omega)) (e_uq hw148 (Or.inl (by omega)) ((j6 275 70 (by first | exact no_60_5 | (unfold mLv; omega))).trans (e_Has.eq hT (mt_o rfl)))))) ⟨by decide, by decide⟩ ?_
                    refine e_Ok.ps1 (x := (0, 900 * a + z131)) (q := 189) 1 rfl ?_
                    refine e_Ok.ald (z := w 333 (900 * a + z131)) rfl (el_o rfl) rfl (by omega) (e_uq hw146 (Or.inl (by omega)) (e_uq hw151 (Or.inl (by omega)) (e_uq hw148 (Or.inl (by omega)) ((j6 333 (900 * a + z131) (by first | exact no_60_6 | (unfold mLv; omega))).trans rfl)))) (by omega) ?_
                    refine e_Ok.callV rfl (e_dq hd rfl) rfl rfl rfl rfl (c_365 (e_dq hd rfl) hT155 (by omega) (e_uq hw146 (Or.inl (by first | decide | omega)) (e_uq hw151 (Or.inl (by first | decide | omega)) (e_uq hw148 (Or.inl (by first | decide | omega)) ((j6 275 97 (by first | exact no_60_2 | (unfold mLv; omega))).trans h97)))) (f := g1 + 1) (z := 1260 * t + 2 * g1 + 436) (e_uq hw146 (Or.inr (by omega)) (e_uq hw151 (Or.inr (by omega)) (e_uq hw148 (Or.inr (by omega)) hF1))) (by omega) (by omega)) (fun r156 w157 h158 => ?_)
                    obtain ⟨rfl, hw157⟩ := h158
                    have hT160 : e_Has mTy w157 := e_Has.upr hT155 hw157 (nR_FRg t (g1) (by omega) (by omega) (by omega)) (by omega)
                    refine e_Ok.nrm (q := 193) (st' := []) rfl rfl ?_
                    refine e_Ok.run (t' := (11, [(5, (0, 0)), (7, (0, z132)), (6, (0, 900 * a + z131)), (0, (1, 275)), (2, (0, x)), (3, (0, y)), (4, (0, y4))], [], w157)) 4 rfl ?_
                    refine e_Ok.ps1 (x := (0, 0)) (q := 13) 1 rfl ?_
                    refine e_Ok.if1 rfl (fun h161 => ?_) (fun h161 => ?_)
                    · replace h161 : (0 : Int) = 0 := h161
                      refine e_Ok.rets rfl rfl ?_
                      have e162 : w157 276 5 = v1 276 5 := (e_uq hw157 (Or.inr (by omega)) (e_uq hw146 (Or.inr (by omega)) (e_uq hw151 (Or.inr (by omega)) (e_uq hw148 (Or.inr (by omega)) rfl))))
                      have hru := runOk.fin (w' := w157) (z := z131) (i := z132) (x := x) (y := y) hC1 hru1 (by omega) (by omega) (by omega) (fun c k q1 q2 => (e_uq hw157 (Or.inl (by omega)) (e_uq hw146 (Or.inl (by omega)) (e_uq hw151 (Or.inl (by omega)) (e_uq hw148 (Or.inl (by omega)) rfl))))) (fun i q1 q2 => ⟨(e_uq hw157 (Or.inr (by omega)) (e_uq hw146 (Or.inr (by omega)) (e_uq hw151 (Or.inr (by omega)) (e_uq hw148 (Or.inr (by omega)) rfl)))), (e_uq hw157 (Or.inr (by omega)) (e_uq hw146 (Or.inr (by omega)) (e_uq hw151 (Or.inr (by omega)) (e_uq hw148 (Or.inr (by omega)) rfl))))⟩) (e_uq hw157 (Or.inr (by omega)) (e_uq hw146 (Or.inr (by omega)) (e_uq hw151 (Or.inr (by omega)) (e_uq hw148 (Or.inr (by omega)) rfl)))) (e_uq hw157 (Or.inr (by omega)) (e_ue hw146)) (fun k q1 q2 => (e_uq hw157 (Or.inr (by omega)) (e_uq hw146 (Or.inr (by omega)) (e_uq hw151 (Or.inr (by omega)) (e_uq hw148 (Or.inr (by omega)) rfl))))) (by rw [show 1260 * t + 2 * (bs g1 + pi y4) + 476 = 1260 * t + 2 * bs g1 + 2 * pi y4 + 476 by omega]; exact (e_uq hw157 (Or.inr (by omega)) (e_uq hw146 (Or.inr (by omega)) (e_uq hw151 (Or.inr (by omega)) (e_ue hw148))))) (by rw [show 1260 * t + 2 * (bs g1 + pi y4) + 477 = 1260 * t + 2 * bs g1 + 2 * pi y4 + 477 by omega]; exact (e_uq hw157 (Or.inr (by omega)) (e_uq hw146 (Or.inr (by omega)) (e_ue hw151)))) (fun e3 => by have q := hC.2.2.2.2.2.1 y4 y (j13 e3).2 (by omega) (by omega); rw [show y4 / 3 = z131 by omega] at q; have q0 := hy3 e3; refine ⟨q0.1, q0.2.1, ?_⟩; rw [j6 331 _ (by first | exact no_60_4 | (unfold mLv; omega)), j6 334 _ (by first | exact no_60_7 | (unfold mLv; omega)), j6 336 _ (by first | exact no_60_8 | (unfold mLv; omega))]; exact q.elim (fun q => by exfalso; omega) (fun q => ⟨q.2.2, q.2.1⟩))
                      exact ⟨rfl, ⟨(show e_fr (mLv t) w w157 from e_fr.up (show e_fr (mLv t) w w146 from e_fr.up (show e_fr (mLv t) w w151 from e_fr.up (show e_fr (mLv t) w w148 from e_fr.up j6 hw148 (by first | exact Or.inr ⟨rfl, Or.inr (Or.inr (Or.inr (Or.inr (Or.inr (Or.inr (Or.inr (Or.inr (Or.inr ⟨(by omega), (by omega)⟩))))))))⟩ | (unfold mLv; omega))) hw151 (by first | exact Or.inr ⟨rfl, Or.inr (Or.inr (Or.inr (Or.inr (Or.inr (Or.inr (Or.inr (Or.inr (Or.inr ⟨(by omega), (by omega)⟩))))))))⟩ | (unfold mLv; omega))) hw146 (by first | exact Or.inr ⟨rfl, Or.inr (Or.inr (Or.inr (Or.inr (Or.inr (Or.inr (Or.inr (Or.inr (Or.inl ⟨(by omega), (by omega)⟩))))))))⟩ | (unfold mLv; omega))) hw157 (by first | exact Or.inr ⟨rfl, Or.inr (Or.inr (Or.inr (Or.inr (Or.inr (Or.inr (Or.inr (Or.inr (Or.inr ⟨(by omega), (by omega)⟩))))))))⟩ | (unfold mLv; omega))), (sRel.up (sRel.up (sRel.up (sRel.up j15 hw148 (fun q b g1 g2 => by omega)) hw151 (fun q b g1 g2 => by omega)) hw146 (fun q b g1 g2 => by omega)) hw157 (fun q b g1 g2 => by omega))⟩, hT160, by omega, (e_uq hw157 (Or.inl (by omega)) (e_uq hw146 (Or.inl (by omega)) (e_uq hw151 (Or.inl (by omega)) (e_uq hw148 (Or.inl (by omega)) j9)))), Or.inr ⟨(Eq.trans (e_uq hw157 (Or.inl (by omega)) (e_uq hw146 (Or.inl (by omega)) (e_uq hw151 (Or.inl (by omega)) (e_uq hw148 (Or.inl (by omega)) rfl)))) j10), (Eq.trans (e_uq hw157 (Or.inr (by omega)) (e_uq hw146 (Or.inr (by omega)) (e_uq hw151 (Or.inr (by omega)) (e_uq hw148 (Or.inr (by omega)) rfl)))) j16), by omega, g1, w 333 (900 * a + z131), bs, _, by omega, fun e => by omega, runOk.at hru (by omega) (e_ue hw157) ((show w157 330 (10000 * a + (w 333 (900 * a + z131))) = v1 330 (10000 * a + (w 333 (900 * a + z131))) from (e_uq hw157 (Or.inl (by omega)) (e_uq hw146 (Or.inl (by omega)) (e_uq hw151 (Or.inl (by omega)) (e_uq hw148 (Or.inl (by omega)) rfl))))).trans ((j6 330 (10000 * a + (w 333 (900 * a + z131))) (by first | exact no_60_9 | (unfold mLv; omega))).trans (by omega))), by omega, by omega⟩⟩
                    · replace h161 : (0 : Int) ≠ 0 := (show ¬ ((0 : Int) = 0) from h161)
                      exfalso; omega
              · replace h133 : (z132 : Int) = 0 := Classical.not_not.mp (show ¬ ((z132 : Int) ≠ 0) from h133)
                refine e_Ok.ps2 (x := (0, 1)) (y := (0, x)) (q := 118) 2 rfl ?_
                refine e_Ok.if2 rfl (fun h163 => ?_) (fun h163 => ?_)
                · replace h163 : (x : Int) ≠ 1 := h163
                  refine e_Ok.ps2 (x := (0, 2)) (y := (0, z132)) (q := 163) 2 rfl ?_
                  refine e_Ok.if2 rfl (fun h164 => ?_) (fun h164 => ?_)
                  · replace h164 : (z132 : Int) ≥ 2 := h164
                    exfalso; omega
                  · replace h164 : (z132 : Int) < 2 := Int.not_le.mp (show ¬ ((z132 : Int) ≥ 2) from h164)
                    refine e_Ok.ps1 (x := (1, 275)) (q := 167) 1 rfl ?_
                    refine e_Ok.getr (z := 333) rfl (el_o rfl) rfl (ef_o rfl) ((j6 275 70 (by first | exact no_60_5 | (unfold mLv; omega))).trans (e_Has.eq hT (mt_o rfl))) ⟨by decide, by decide⟩ ?_
                    refine e_Ok.ps1 (x := (0, 900 * a + z131)) (q := 172) 1 rfl ?_
                    have h165 := (e_Has.get hT (c := 333) (k := 900 * a + z131) (lo := (-2147483648)) (hi := 2147483647) (mt_o rfl) (by decide))
                    refine e_Ok.ald (z := w 333 (900 * a + z131)) rfl (el_o rfl) rfl (by omega) ((j6 333 (900 * a + z131) (by first | exact no_60_6 | (unfold mLv; omega))).trans rfl) (e_bq h165 (by decide) (by decide)) ?_
                    refine e_Ok.if1 rfl (fun h166 => ?_) (fun h166 => ?_)
                    · replace h166 : (w 333 (900 * a + z131) : Int) < 0 := h166
                      refine e_Ok.ps1 (x := (1, 275)) (q := 200) 1 rfl ?_
                      refine e_Ok.getr (z := 276) rfl (el_o rfl) rfl (ef_o rfl) ((j6 275 0 (by first | exact no_60_1 | (unfold mLv; omega))).trans (e_Has.eq hT (mt_o rfl))) ⟨by decide, by decide⟩ ?_
                      refine e_Ok.ps1 (x := (1, 275)) (q := 204) 1 rfl ?_
                      refine e_Ok.getf (z := 1260 * t + 416) rfl (el_o rfl) rfl (ef_o rfl) ((j6 275 97 (by first | exact no_60_2 | (unfold mLv; omega))).trans h97) (by omega) ?_
                      refine e_Ok.ps1 (x := (0, 13)) (q := 209) 1 rfl ?_
                      refine e_Ok.add (z := 1260 * t + 429) rfl (e_adl (by decide)) (by omega) ?_
                      refine e_Ok.ps2 (x := (0, 1260 * t + 429)) (y := (1, 276)) (q := 211) 1 rfl ?_
                      refine e_Ok.ald (z := bs g1 + pi y4) rfl (el_o rfl) rfl (by omega) hPn1 (by omega) ?_
                      refine e_Ok.ps2 (x := (0, 2)) (y := (0, z132)) (q := 215) 2 rfl ?_
                      refine e_Ok.if2 rfl (fun h167 => ?_) (fun h167 => ?_)
                      · replace h167 : (z132 : Int) ≠ 2 := h167
                        refine e_Ok.ps1 (x := (0, 0)) (q := 223) 1 rfl ?_
                        refine e_Ok.sub' (z := bs g1 + pi y4) rfl (by omega) (by omega) ?_
                        refine e_Ok.ast rfl (el_o rfl) rfl rfl (by omega) ?_
                        generalize hw168 : e_up v1 276 (1260 * t + 429) (bs g1 + pi y4) = w168
                        have hT170 : e_Has mTy w168 := e_Has.upr j7 hw168 (nR_PENDS (t := t) (by omega)) (by omega)
                        refine e_Ok.ps1 (x := (1, 275)) (q := 226) 1 rfl ?_
                        refine e_Ok.getr (z := 331) rfl (el_o rfl) rfl (ef_o rfl) (e_uq hw168 (Or.inl (by decide)) ((j6 275 68 (by first | exact no_60_3 | (unfold mLv; omega))).trans (e_Has.eq hT (mt_o rfl)))) ⟨by decide, by decide⟩ ?_
                        refine e_Ok.ps1 (x := (0, 900 * a + z131)) (q := 231) 1 rfl ?_
                        refine e_Ok.ald (z := w 331 (900 * a + z131)) rfl (el_o rfl) rfl (by omega) (e_uq hw168 (Or.inl (by decide)) ((j6 331 (900 * a + z131) (by first | exact no_60_4 | (unfold mLv; omega))).trans rfl)) (by omega) ?_
                        refine e_Ok.run (t' := (11, [(4, (0, w 331 (900 * a + z131))), (7, (0, z132)), (6, (0, 900 * a + z131)), (0, (1, 275)), (2, (0, x)), (3, (0, y)), (5, (0, 1))], [], w168)) 2 rfl ?_
                        refine e_Ok.sub eAlk (e_sub_of rfl ?_) (ih5 (w 331 (900 * a + z131)) w168 g1 ⟨(show e_fr (mLv t) w w168 from e_fr.up j6 hw168 (by first | exact Or.inr ⟨rfl, Or.inr (Or.inr (Or.inr (Or.inr (Or.inr (Or.inr (Or.inr (Or.inr (Or.inl ⟨(by omega), (by omega)⟩))))))))⟩ | (unfold mLv; omega))), hT170, (runOk.to (w' := w168) (r' := w 331 (900 * a + z131)) hru1 (fun c k q1 q2 => (e_uq hw168 (Or.inl (by omega)) rfl)) (fun i q1 q2 => ⟨(e_uq hw168 (Or.inr (by omega)) rfl), (e_uq hw168 (Or.inr (by omega)) rfl)⟩) (e_uq hw168 (Or.inr (by omega)) rfl) (by have q : w168 276 (1260 * t + 429) = bs g1 + pi y4 := (e_ue hw168); omega) (fun k q1 q2 => (e_uq hw168 (Or.inr (by omega)) rfl)) (by omega) (by omega) (by omega) (fun q q1 q2 q3 => by have := han2 z132 q (by omega) (by omega) q1; rwa [show 3 * z131 + z132 = y4 by omega] at this)), (Eq.trans (e_uq hw168 (Or.inl (by omega)) rfl) j9), (Eq.trans (e_uq hw168 (Or.inl (by omega)) rfl) j10), (Eq.trans (e_uq hw168 (Or.inr (by omega)) rfl) j11), ⟨by omega, fun _ => by omega⟩, (fun e3 => by have q := hC.2.2.2.2.2.1 y4 y (j13 e3).2 (by omega) (by omega); rw [show y4 / 3 = z131 by omega] at q; exact ⟨(j13 e3).1, q.elim (fun q => by exfalso; omega) (fun q => q.2.2)⟩), by omega, (sRel.up j15 hw168 (fun q b g1 g2 => by omega)), (Eq.trans (e_uq hw168 (Or.inr (by omega)) rfl) j16)⟩ (by omega))
                        exact ⟨rfl, rfl, rfl, rfl, rfl, trivial⟩
                      · replace h167 : (z132 : Int) = 2 := Classical.not_not.mp (show ¬ ((z132 : Int) ≠ 2) from h167)
                        exfalso; omega
                    · replace h166 : (w 333 (900 * a + z131) : Int) ≥ 0 := Int.not_lt.mp (show ¬ ((w 333 (900 * a + z131) : Int) < 0) from h166)
                      have hf1 := hfin.resolve_left (by omega)
                      have hf2 := (hall.2.2.1 (by omega)).resolve_left (by omega)
                      have hp2 := hC.2.2.2.1.2.1 (3 * z131 + 2) (by omega) (by omega)
                      refine e_Ok.ps3 (x := (0, y)) (y := (0, x)) (z := (1, 275)) (q := 179) 3 rfl ?_
                      refine e_Ok.callV rfl (e_dq hd rfl) rfl rfl rfl rfl (c_370 j7 (by omega) ((j6 275 97 (by first | exact no_60_2 | (unfold mLv; omega))).trans h97) (m := bs g1 + pi y4) (m1 := bs g1 + pi y4 + 1) (z := 1260 * t + 2 * bs g1 + 2 * pi y4 + 476) (z1 := 1260 * t + 2 * bs g1 + 2 * pi y4 + 477) hPn1 (by omega) (by omega) (by omega) (by omega)) (fun r171 w172 h173 => ?_)
                      obtain ⟨rfl, hw172⟩ := h173
                      generalize hw174 : e_up v1 276 (1260 * t + 2 * bs g1 + 2 * pi y4 + 476) x = w174 at hw172
                      have hT176 : e_Has mTy w174 := e_Has.upr j7 hw174 (nR_PEg t (by omega) (by omega)) (by omega)
                      generalize hw177 : e_up w174 276 (1260 * t + 2 * bs g1 + 2 * pi y4 + 477) y = w177 at hw172
                      have hT179 : e_Has mTy w177 := e_Has.upr hT176 hw177 (nR_PEg t (by omega) (by omega)) (by omega)
                      have hT181 : e_Has mTy w172 := e_Has.upr hT179 hw172 (nR_PENDS (t := t) (by omega)) (by omega)
                      refine e_Ok.nrm (q := 182) (st' := []) rfl rfl ?_
                      refine e_Ok.ps2 (x := (1, 275)) (y := (1, 275)) (q := 184) 2 rfl ?_
                      refine e_Ok.getr (z := 333) rfl (el_o rfl) rfl (ef_o rfl) (e_uq hw172 (Or.inl (by omega)) (e_uq hw177 (Or.inl (by omega)) (e_uq hw174 (Or.inl (by omega)) ((j6 275 70 (by first | exact no_60_5 | (unfold mLv; omega))).trans (e_Has.eq hT (mt_o rfl)))))) ⟨by decide, by decide⟩ ?_
                      refine e_Ok.ps1 (x := (0, 900 * a + z131)) (q := 189) 1 rfl ?_
                      refine e_Ok.ald (z := w 333 (900 * a + z131)) rfl (el_o rfl) rfl (by omega) (e_uq hw172 (Or.inl (by omega)) (e_uq hw177 (Or.inl (by omega)) (e_uq hw174 (Or.inl (by omega)) ((j6 333 (900 * a + z131) (by first | exact no_60_6 | (unfold mLv; omega))).trans rfl)))) (by omega) ?_
                      refine e_Ok.callV rfl (e_dq hd rfl) rfl rfl rfl rfl (c_365 (e_dq hd rfl) hT181 (by omega) (e_uq hw172 (Or.inl (by first | decide | omega)) (e_uq hw177 (Or.inl (by first | decide | omega)) (e_uq hw174 (Or.inl (by first | decide | omega)) ((j6 275 97 (by first | exact no_60_2 | (unfold mLv; omega))).trans h97)))) (f := g1 + 1) (z := 1260 * t + 2 * g1 + 436) (e_uq hw172 (Or.inr (by omega)) (e_uq hw177 (Or.inr (by omega)) (e_uq hw174 (Or.inr (by omega)) hF1))) (by omega) (by omega)) (fun r182 w183 h184 => ?_)
                      obtain ⟨rfl, hw183⟩ := h184
                      have hT186 : e_Has mTy w183 := e_Has.upr hT181 hw183 (nR_FRg t (g1) (by omega) (by omega) (by omega)) (by omega)
                      refine e_Ok.nrm (q := 193) (st' := []) rfl rfl ?_
                      refine e_Ok.run (t' := (11, [(5, (0, 0)), (7, (0, z132)), (6, (0, 900 * a + z131)), (0, (1, 275)), (2, (0, x)), (3, (0, y)), (4, (0, y4))], [], w183)) 4 rfl ?_
                      refine e_Ok.ps1 (x := (0, 0)) (q := 13) 1 rfl ?_
                      refine e_Ok.if1 rfl (fun h187 => ?_) (fun h187 => ?_)
                      · replace h187 : (0 : Int) = 0 := h187
                        refine e_Ok.rets rfl rfl ?_
                        have e188 : w183 276 5 = v1 276 5 := (e_uq hw183 (Or.inr (by omega)) (e_uq hw172 (Or.inr (by omega)) (e_uq hw177 (Or.inr (by omega)) (e_uq hw174 (Or.inr (by omega)) rfl))))
                        have hru := runOk.fin (w' := w183) (z := z131) (i := z132) (x := x) (y := y) hC1 hru1 (by omega) (by omega) (by omega) (fun c k q1 q2 => (e_uq hw183 (Or.inl (by omega)) (e_uq hw172 (Or.inl (by omega)) (e_uq hw177 (Or.inl (by omega)) (e_uq hw174 (Or.inl (by omega)) rfl))))) (fun i q1 q2 => ⟨(e_uq hw183 (Or.inr (by omega)) (e_uq hw172 (Or.inr (by omega)) (e_uq hw177 (Or.inr (by omega)) (e_uq hw174 (Or.inr (by omega)) rfl)))), (e_uq hw183 (Or.inr (by omega)) (e_uq hw172 (Or.inr (by omega)) (e_uq hw177 (Or.inr (by omega)) (e_uq hw174 (Or.inr (by omega)) rfl))))⟩) (e_uq hw183 (Or.inr (by omega)) (e_uq hw172 (Or.inr (by omega)) (e_uq hw177 (Or.inr (by omega)) (e_uq hw174 (Or.inr (by omega)) rfl)))) (e_uq hw183 (Or.inr (by omega)) (e_ue hw172)) (fun k q1 q2 => (e_uq hw183 (Or.inr (by omega)) (e_uq hw172 (Or.inr (by omega)) (e_uq hw177 (Or.inr (by omega)) (e_uq hw174 (Or.inr (by omega)) rfl))))) (by rw [show 1260 * t + 2 * (bs g1 + pi y4) + 476 = 1260 * t + 2 * bs g1 + 2 * pi y4 + 476 by omega]; exact (e_uq hw183 (Or.inr (by omega)) (e_uq hw172 (Or.inr (by omega)) (e_uq hw177 (Or.inr (by omega)) (e_ue hw174))))) (by rw [show 1260 * t + 2 * (bs g1 + pi y4) + 477 = 1260 * t + 2 * bs g1 + 2 * pi y4 + 477 by omega]; exact (e_uq hw183 (Or.inr (by omega)) (e_uq hw172 (Or.inr (by omega)) (e_ue hw177)))) (fun e3 => by have q := hC.2.2.2.2.2.1 y4 y (j13 e3).2 (by omega) (by omega); rw [show y4 / 3 = z131 by omega] at q; have q0 := hy3 e3; refine ⟨q0.1, q0.2.1, ?_⟩; rw [j6 331 _ (by first | exact no_60_4 | (unfold mLv; omega)), j6 334 _ (by first | exact no_60_7 | (unfold mLv; omega)), j6 336 _ (by first | exact no_60_8 | (unfold mLv; omega))]; exact q.elim (fun q => by exfalso; omega) (fun q => ⟨q.2.2, q.2.1⟩))
                        exact ⟨rfl, ⟨(show e_fr (mLv t) w w183 from e_fr.up (show e_fr (mLv t) w w172 from e_fr.up (show e_fr (mLv t) w w177 from e_fr.up (show e_fr (mLv t) w w174 from e_fr.up j6 hw174 (by first | exact Or.inr ⟨rfl, Or.inr (Or.inr (Or.inr (Or.inr (Or.inr (Or.inr (Or.inr (Or.inr (Or.inr ⟨(by omega), (by omega)⟩))))))))⟩ | (unfold mLv; omega))) hw177 (by first | exact Or.inr ⟨rfl, Or.inr (Or.inr (Or.inr (Or.inr (Or.inr (Or.inr (Or.inr (Or.inr (Or.inr ⟨(by omega), (by omega)⟩))))))))⟩ | (unfold mLv; omega))) hw172 (by first | exact Or.inr ⟨rfl, Or.inr (Or.inr (Or.inr (Or.inr (Or.inr (Or.inr (Or.inr (Or.inr (Or.inl ⟨(by omega), (by omega)⟩))))))))⟩ | (unfold mLv; omega))) hw183 (by first | exact Or.inr ⟨rfl, Or.inr (Or.inr (Or.inr (Or.inr (Or.inr (Or.inr (Or.inr (Or.inr (Or.inr ⟨(by omega), (by omega)⟩))))))))⟩ | (unfold mLv; omega))), (sRel.up (sRel.up (sRel.up (sRel.up j15 hw174 (fun q b g1 g2 => by omega)) hw177 (fun q b g1 g2 => by omega)) hw172 (fun q b g1 g2 => by omega)) hw183 (fun q b g1 g2 => by omega))⟩, hT186, by omega, (e_uq hw183 (Or.inl (by omega)) (e_uq hw172 (Or.inl (by omega)) (e_uq hw177 (Or.inl (by omega)) (e_uq hw174 (Or.inl (by omega)) j9)))), Or.inr ⟨(Eq.trans (e_uq hw183 (Or.inl (by omega)) (e_uq hw172 (Or.inl (by omega)) (e_uq hw177 (Or.inl (by omega)) (e_uq hw174 (Or.inl (by omega)) rfl)))) j10), (Eq.trans (e_uq hw183 (Or.inr (by omega)) (e_uq hw172 (Or.inr (by omega)) (e_uq hw177 (Or.inr (by omega)) (e_uq hw174 (Or.inr (by omega)) rfl)))) j16), by omega, g1, w 333 (900 * a + z131), bs, _, by omega, fun e => by omega, runOk.at hru (by omega) (e_ue hw183) ((show w183 330 (10000 * a + (w 333 (900 * a + z131))) = v1 330 (10000 * a + (w 333 (900 * a + z131))) from (e_uq hw183 (Or.inl (by omega)) (e_uq hw172 (Or.inl (by omega)) (e_uq hw177 (Or.inl (by omega)) (e_uq hw174 (Or.inl (by omega)) rfl))))).trans ((j6 330 (10000 * a + (w 333 (900 * a + z131))) (by first | exact no_60_9 | (unfold mLv; omega))).trans (by omega))), by omega, by omega⟩⟩
                      · replace h187 : (0 : Int) ≠ 0 := (show ¬ ((0 : Int) = 0) from h187)
                        exfalso; omega
                · replace h163 : (x : Int) = 1 := Classical.not_not.mp (show ¬ ((x : Int) ≠ 1) from h163)
                  exfalso; omega
            · replace h130 : (y4 : Int) < 0 := Int.not_le.mp (show ¬ ((y4 : Int) ≥ 0) from h130)
              refine e_Ok.ps3 (x := (0, y)) (y := (0, x)) (z := (1, 275)) (q := 69) 3 rfl ?_
              refine e_Ok.callV rfl (e_dq hd rfl) rfl rfl rfl rfl (c_372 (e_dq hd rfl) j7 (by omega) (by omega) ((j6 275 96 (by first | exact no_60_12 | (unfold mLv; omega))).trans h96) ((j6 275 97 (by first | exact no_60_2 | (unfold mLv; omega))).trans h97) ((j6 275 98 (by first | exact no_60_0 | (unfold mLv; omega))).trans h98) hC1 (show runOk v1 a t g1 (-1) n nt nw dl sg pi an br bs ow by rw [← show y4 = -1 by omega]; exact hru1) (by omega) (by omega)) (fun r189 w190 h191 => ?_)
              obtain ⟨z192, rfl, ⟨q193, q193S⟩, q193T, q193n, q193d, q193c⟩ := h191
              have f194 : e_fr (mLv t) w w190 := e_fr.trans j6 (e_fr.mono q193 (fun c k q => by exact q))
              obtain ⟨q193a, q193b, q193z, q193r, q193o, q193e, q193x⟩ | ⟨q193a, q193b, rfl, q193p, q193t, q193u, q193v, q193o, q193e, q193x⟩ | ⟨q193a, rfl, q193o, q193s⟩ := q193c
              · refine e_Ok.nrm (q := 72) (st' := [(0, z192)]) rfl rfl ?_
                have q193g := q193r.2.2.2.1
                refine e_Ok.run (t' := (77, [(4, (0, z192)), (0, (1, 275)), (2, (0, x)), (3, (0, y)), (5, (0, 1))], [(0, (-1)), (0, z192)], w190)) 3 rfl ?_
                refine e_Ok.if2 rfl (fun h195 => ?_) (fun h195 => ?_)
                · replace h195 : (z192 : Int) < (-1) := h195
                  exfalso; omega
                · replace h195 : (z192 : Int) ≥ (-1) := Int.not_lt.mp (show ¬ ((z192 : Int) < (-1)) from h195)
                  refine e_Ok.run (t' := (11, [(5, (0, 1)), (4, (0, z192)), (0, (1, 275)), (2, (0, x)), (3, (0, y))], [], w190)) 4 rfl ?_
                  refine e_Ok.sub eAlk (e_sub_of rfl ?_) (ih5 z192 w190 (g1 - 1) ⟨f194, q193T, q193r, (by rw [q193d]; exact j9), (by rw [q193o]; exact j10), (by rw [q193e]; exact j11), ⟨by omega, fun _ => by omega⟩, (fun e3 => by exfalso; omega), by have := q193r.2.2.2.1; omega, (sRel.trans j15 q193S), (Eq.trans q193x j16)⟩ (by omega))
                  exact ⟨rfl, rfl, rfl, rfl, rfl, trivial⟩
              · refine e_Ok.nrm (q := 72) (st' := [(0, (-2))]) rfl rfl ?_
                refine e_Ok.run (t' := (77, [(4, (0, (-2))), (0, (1, 275)), (2, (0, x)), (3, (0, y)), (5, (0, 1))], [(0, (-1)), (0, (-2))], w190)) 3 rfl ?_
                refine e_Ok.if2 rfl (fun h196 => ?_) (fun h196 => ?_)
                · replace h196 : ((-2) : Int) < (-1) := h196
                  refine e_Ok.run (t' := (11, [(5, (0, 0)), (4, (0, (-2))), (0, (1, 275)), (2, (0, x)), (3, (0, y))], [], w190)) 3 rfl ?_
                  refine e_Ok.ps1 (x := (0, 0)) (q := 13) 1 rfl ?_
                  refine e_Ok.if1 rfl (fun h197 => ?_) (fun h197 => ?_)
                  · replace h197 : (0 : Int) = 0 := h197
                    refine e_Ok.rets rfl rfl ?_
                    have e198 : w190 276 5 = w190 276 5 := rfl
                    exact ⟨rfl, ⟨f194, (sRel.trans j15 q193S)⟩, q193T, by omega, (Eq.trans q193d j9), Or.inr ⟨(by rw [q193o]; exact j10), Eq.trans q193x j16, by omega, g1 - 1, q193p, bs, ow, by omega, by omega, q193t, q193u, q193v⟩⟩
                  · replace h197 : (0 : Int) ≠ 0 := (show ¬ ((0 : Int) = 0) from h197)
                    exfalso; omega
                · replace h196 : ((-2) : Int) ≥ (-1) := Int.not_lt.mp (show ¬ (((-2) : Int) < (-1)) from h196)
                  exfalso; omega
              · refine e_Ok.nrm (q := 72) (st' := [(0, (-2))]) rfl rfl ?_
                refine e_Ok.run (t' := (77, [(4, (0, (-2))), (0, (1, 275)), (2, (0, x)), (3, (0, y)), (5, (0, 1))], [(0, (-1)), (0, (-2))], w190)) 3 rfl ?_
                refine e_Ok.if2 rfl (fun h199 => ?_) (fun h199 => ?_)
                · replace h199 : ((-2) : Int) < (-1) := h199
                  refine e_Ok.run (t' := (11, [(5, (0, 0)), (4, (0, (-2))), (0, (1, 275)), (2, (0, x)), (3, (0, y))], [], w190)) 3 rfl ?_
                  refine e_Ok.ps1 (x := (0, 0)) (q := 13) 1 rfl ?_
                  refine e_Ok.if1 rfl (fun h200 => ?_) (fun h200 => ?_)
                  · replace h200 : (0 : Int) = 0 := h200
                    refine e_Ok.rets rfl rfl ?_
                    have e201 : w190 276 5 = w190 276 5 := rfl
                    exact ⟨rfl, ⟨f194, (sRel.trans j15 q193S)⟩, q193T, by omega, (Eq.trans q193d j9), Or.inl ⟨q193o, q193s⟩⟩
                  · replace h200 : (0 : Int) ≠ 0 := (show ¬ ((0 : Int) = 0) from h200)
                    exfalso; omega
                · replace h199 : ((-2) : Int) ≥ (-1) := Int.not_lt.mp (show ¬ (((-2) : Int) < (-1)) from h199)
                  exfalso; omega
          · replace h129 : (y4 : Int) = w 335 (900 * a + y) := Classical.not_not.mp (show ¬ ((y4 : Int) ≠ w 335 (900 * a + y)) from h129)
            have hwh := hC.2.2.2.2.1 y (by omega) (by omega)
            unfold tgt at hwh
            refine e_Ok.ps2 (x := (1, 275)) (y := (1, 275)) (q := 43) 2 rfl ?_
            refine e_Ok.getr (z := 336) rfl (el_o rfl) rfl (ef_o rfl) ((j6 275 73 (by first | exact no_60_15 | (unfold mLv; omega))).trans (e_Has.eq hT (mt_o rfl))) ⟨by decide, by decide⟩ ?_
            refine e_Ok.ps2 (x := (1, 275)) (y := (0, 900)) (q := 50) 2 rfl ?_
            refine e_Ok.getf (z := a) rfl (el_o rfl) rfl (ef_o rfl) ((j6 275 98 (by first | exact no_60_0 | (unfold mLv; omega))).trans h98) (by omega) ?_
            refine e_Ok.mul (z := 900 * a) rfl rfl (by omega) ?_
            refine e_Ok.ps1 (x := (0, y)) (q := 55) 1 rfl ?_
            refine e_Ok.add (z := 900 * a + y) rfl rfl (by omega) ?_
            have h202 := (e_Has.get hT (c := 336) (k := 900 * a + y) (lo := (-2147483648)) (hi := 2147483647) (mt_o rfl) (by decide))
            refine e_Ok.ald (z := w 336 (900 * a + y)) rfl (el_o rfl) rfl (by omega) ((j6 336 (900 * a + y) (by first | exact no_60_8 | (unfold mLv; omega))).trans rfl) (e_bq h202 (by decide) (by decide)) ?_
            refine e_Ok.callV rfl (e_dq hd rfl) rfl rfl rfl rfl (c_365 (e_dq hd rfl) j7 (by omega) ((j6 275 97 (by first | exact no_60_2 | (unfold mLv; omega))).trans h97) (f := g1 + 1) (z := 1260 * t + 2 * g1 + 436) hF1 (by omega) (by omega)) (fun r203 w204 h205 => ?_)
            obtain ⟨rfl, hw204⟩ := h205
            have hT207 : e_Has mTy w204 := e_Has.upr j7 hw204 (nR_FRg t (g1) (by omega) (by omega) (by omega)) (by omega)
            refine e_Ok.nrm (q := 60) (st' := []) rfl rfl ?_
            refine e_Ok.rets rfl rfl ?_
            have e208 : w204 276 5 = v1 276 5 := (e_uq hw204 (Or.inr (by omega)) rfl)
            have hru := runOk.to (w' := w204) (r' := y4) hru1 (fun c k q1 q2 => (e_uq hw204 (Or.inl (by omega)) rfl)) (fun i q1 q2 => ⟨(e_uq hw204 (Or.inr (by omega)) rfl), (e_uq hw204 (Or.inr (by omega)) rfl)⟩) (e_uq hw204 (Or.inr (by omega)) rfl) (Eq.trans (e_uq hw204 (Or.inr (by omega)) rfl) hPn1) (fun k q1 q2 => (e_uq hw204 (Or.inr (by omega)) rfl)) (by omega) (by omega) (by omega) (fun q q1 q2 q3 => q1)
            exact ⟨rfl, ⟨(show e_fr (mLv t) w w204 from e_fr.up j6 hw204 (by first | exact Or.inr ⟨rfl, Or.inr (Or.inr (Or.inr (Or.inr (Or.inr (Or.inr (Or.inr (Or.inr (Or.inr ⟨(by omega), (by omega)⟩))))))))⟩ | (unfold mLv; omega))), (sRel.up j15 hw204 (fun q b g1 g2 => by omega))⟩, hT207, by omega, (e_uq hw204 (Or.inl (by omega)) j9), Or.inr ⟨(Eq.trans (e_uq hw204 (Or.inl (by omega)) rfl) j10), (Eq.trans (e_uq hw204 (Or.inr (by omega)) rfl) j16), by omega, g1, w 336 (900 * a + y), bs, ow, by omega, fun e => by omega, runOk.at hru (by omega) (e_ue hw204) ((show w204 330 (10000 * a + (w 336 (900 * a + y))) = v1 330 (10000 * a + (w 336 (900 * a + y))) from (e_uq hw204 (Or.inl (by omega)) rfl)).trans ((j6 330 (10000 * a + (w 336 (900 * a + y))) (by first | exact no_60_9 | (unfold mLv; omega))).trans (by omega))), by omega, by omega⟩⟩
  refine e_Ok.sub eAlk (e_sub_of rfl ?_) (hL4 (3000 * g + r + 1 + 1 : Int).toNat r w1 g ⟨(show e_fr (mLv t) w w1 from e_fr.up (e_fr.refl w) hw1 (by first | exact Or.inl ⟨rfl, Or.inr rfl⟩ | (unfold mLv; omega))), hT3, (runOk.fr (fun c k q1 q2 => (e_uq hw1 (Or.inl (by omega)) rfl)) (fun i q1 q2 => ⟨(e_uq hw1 (Or.inl (by omega)) rfl), (e_uq hw1 (Or.inl (by omega)) rfl)⟩) (e_uq hw1 (Or.inl (by omega)) rfl) (e_uq hw1 (Or.inl (by omega)) rfl) (fun k q1 q2 => (e_uq hw1 (Or.inl (by omega)) rfl)) (by omega) hR), (e_ue hw1), (e_uq hw1 (Or.inr (by omega)) rfl), (e_uq hw1 (Or.inl (by omega)) rfl), ⟨by omega, fun _ => by omega⟩, (fun e3 => ⟨rfl, (hy3 e3).2.2.1⟩), by omega, (sRel.up sRel.refl hw1 (fun q b g1 g2 => by omega)), (e_uq hw1 (Or.inl (by omega)) rfl)⟩ (by omega))
  exact ⟨rfl, rfl, rfl, rfl, rfl, trivial⟩
end
