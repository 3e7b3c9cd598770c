noncomputable section
set_option maxHeartbeats 4000000 in
theorem c_374_c {d : Nat} (hd : 33 ≤ d) {w : eW} (hT : e_Has mTy w) (hA : mAc w) {t a g : Int} (ht : 0 ≤ t ∧ t ≤ 15) (ha : 0 ≤ a ∧ a ≤ 3) (h96 : w 275 96 = t) (h97 : w 275 97 = 1260 * t + 416) (h98 : w 275 98 = a) {n nt nw : Int} {dl sg pi en : Int → Int} {an br : Int → Int → Prop} {bs ow : Int → Int} (hC : cOk w a n nt nw dl sg pi en an br) {p : Int} (hP : topOk w a t g p n nt nw dl sg pi an br bs ow) (hE : w 276 5 ≤ 2147483000) (h102 : w 275 102 = dl p) (hst : e_kn w 345 0 (dl p - 1)) (hop : w 328 (10000 * a + p) < 30) (hsel : 22 ≤ w 328 (10000 * a + p) ∧ w 328 (10000 * a + p) ≤ 24) : e_Ok 20 elay ecode eI d 374 (0, [(0, (1, 275)), (1, (0, w 328 (10000 * a + p))), (2, (0, w 329 (10000 * a + p))), (3, (0, p))], [], w) (fun r' w' => r' = [] ∧ (e_fr (mRk t) w w' ∧ sRel w w') ∧ e_Has mTy w' ∧ (w 276 5 ≤ w' 276 5 ∧ w' 276 5 ≤ w 276 5 + 2) ∧ ((w' 275 102 = 0 ∧ ((w' 275 100 = 1 ∧ (w' 276 (1260 * t + 416) = 6 ∨ w' 276 (1260 * t + 416) = 7)) ∨ (w' 275 100 = w 275 100 ∧ w' 276 (1260 * t + 416) = w 276 (1260 * t + 416) ∧ w' 276 5 = w 276 5 ∧ ∃ (g' p' : Int) (bs' ow' : Int → Int), g' ≤ g ∧ (g' = g → p < p') ∧ topOk w' a t g' p' n nt nw dl sg pi an br bs' ow' ∧ dl p' = 0 ∧ sg p' = 0))) ∨ (w' 275 100 = w 275 100 ∧ w' 276 (1260 * t + 416) = w 276 (1260 * t + 416) ∧ w' 276 5 = w 276 5 ∧ ∃ p', topOk w' a t g p' n nt nw dl sg pi an br bs ow ∧ w' 275 102 = dl p' ∧ e_kn w' 345 0 (dl p' - 1) ∧ sg p' = 1 ∧ p < p'))) := by
  obtain ⟨d, rfl⟩ : ∃ e, d = e + 1 := ⟨d - 1, by omega⟩
  obtain ⟨hpn, hpc, hru⟩ := id hP
  obtain ⟨hg, hF, hlow, hrr, hPn, hch, hpe⟩ := id hru
  have hCn := hC.1
  have hins := hC.2.1 p hpn.1 hpn.2
  have hbg := hlow.2.1 g (by omega) (by omega)
  have hpen := hins.1.2.2.2.1
  have hpib := hC.2.2.2.1.2.1 _ hrr.1 hrr.2
  obtain ⟨hi0, hi1, hi2, hi3, hi4, hi5, hi6, -⟩ := id hins
  replace hi1 := (show Hd63 _ from hi1)
  replace hi2 := (show Hd63 _ from hi2)
  replace hi3 := (show Hd63 _ from hi3)
  replace hi4 := (show Hd63 _ from hi4)
  replace hi5 := (show Hd63 _ from hi5)
  replace hi6 := (show Hd63 _ from hi6)
  replace hins := (show Hd63 _ from hins)
  have hop24 : 1 ≤ w 328 (10000 * a + p) ∧ w 328 (10000 * a + p) ≤ 24 := ⟨hi0.1.1, hi0.1.2.2.resolve_right (Int.not_le.mpr hop)⟩
  have har := e_Has.get hT (c := 329) (k := 10000 * a + p) (lo := -2147483648) (hi := 2147483647) rfl (by decide)
  refine e_Ok.run (t' := (2, [(0, (1, 275)), (1, (0, w 328 (10000 * a + p))), (2, (0, w 329 (10000 * a + p))), (3, (0, p))], [(0, 1), (0, p)], w)) 2 rfl ?_
  refine e_Ok.add (z := p + 1) rfl (by omega) (by omega) ?_
  refine e_Ok.run (t' := (6, [(4, (0, p + 1)), (0, (1, 275)), (1, (0, w 328 (10000 * a + p))), (2, (0, w 329 (10000 * a + p))), (3, (0, p))], [(0, w 328 (10000 * a + p))], w)) 2 rfl ?_
  have hs2 : ∀ x : Int, 1 ≤ x ∧ x ≤ 24 → (x = 1) ∨ (x = 2) ∨ (x = 3) ∨ (x = 4) ∨ (x = 5) ∨ (x = 6) ∨ (x = 7) ∨ (x = 8) ∨ (x = 9) ∨ (x = 10 ∨ x = 11 ∨ x = 12 ∨ x = 13 ∨ x = 14 ∨ x = 15 ∨ x = 16 ∨ x = 17 ∨ x = 18 ∨ x = 19 ∨ x = 20) ∨ (x = 21) ∨ (x = 22) ∨ (x = 23) ∨ (x = 24) := fun x h => by omega
  obtain h1 | h1 | h1 | h1 | h1 | h1 | h1 | h1 | h1 | h1 | h1 | h1 | h1 | h1 := hs2 (w 328 (10000 * a + p)) (hop24)
  · exfalso; omega
  · exfalso; omega
  · exfalso; omega
  · exfalso; omega
  · exfalso; omega
  · exfalso; omega
  · exfalso; omega
  · exfalso; omega
  · exfalso; omega
  · exfalso; omega
  · exfalso; omega
  · refine e_Ok.sw (tg := 360) rfl (by rw [h1]; rfl) ?_
    have k1 := hi1.out (by omega)
    unfold iFT at k1
    have k5 := hi5.out (by omega)
    refine e_Ok.run (t' := (361, [(4, (0, p + 1)), (0, (1, 275)), (1, (0, w 328 (10000 * a + p))), (2, (0, w 329 (10000 * a + p))), (3, (0, p))], [(1, 275)], w)) 1 rfl ?_
    refine e_Ok.callV rfl (by omega) rfl rfl rfl rfl (c_364 hT (e := dl p) (u := dl p - 1) h102 (by omega) (by omega) (by have q : w 345 (dl p - 1) = w 345 (dl p - 1) := rfl; have q2 := (hst (dl p - 1) (by omega) (by omega)); omega)) (fun r309 w310 h311 => ?_)
    obtain ⟨rfl, hw310⟩ := h311
    generalize hz312 : w 345 (dl p - 1) = z312
    have z312r : z312 = w 345 (dl p - 1) := Eq.trans hz312.symm rfl
    have f313 : e_fr (mRk t) w w310 := e_fr.up (e_fr.refl w) hw310 (by unfold mRk mLv; omega)
    have hT314 : e_Has mTy w310 := e_Has.ups hT hw310 rfl
    show e_Ok 20 elay ecode eI (d + 1) 374 (364, [(4, (0, p + 1)), (0, (1, 275)), (1, (0, w 328 (10000 * a + p))), (2, (0, w 329 (10000 * a + p))), (3, (0, p))], [(0, z312)], w310) _
    refine e_Ok.if1 rfl (fun h315 => ?_) (fun h315 => ?_)
    · replace h315 : (z312 : Int) = 0 := h315
      refine e_Ok.run (t' := (379, [(7, (0, 0)), (4, (0, p + 1)), (0, (1, 275)), (1, (0, w 328 (10000 * a + p))), (2, (0, w 329 (10000 * a + p))), (3, (0, p))], [(0, 22), (0, w 328 (10000 * a + p)), (0, 0)], w310)) 5 rfl ?_
      refine e_Ok.if2 rfl (fun h316 => ?_) (fun h316 => ?_)
      · replace h316 : (w 328 (10000 * a + p) : Int) ≠ 22 := h316
        exfalso; omega
      · replace h316 : (w 328 (10000 * a + p) : Int) = 22 := by have q : ¬ ((w 328 (10000 * a + p) : Int) ≠ 22) := h316; omega
        refine e_Ok.run (t' := (387, [(7, (0, 0)), (4, (0, p + 1)), (0, (1, 275)), (1, (0, w 328 (10000 * a + p))), (2, (0, w 329 (10000 * a + p))), (3, (0, p))], [(0, 1), (0, 0)], w310)) 2 rfl ?_
        refine e_Ok.if2 rfl (fun h317 => ?_) (fun h317 => ?_)
        · replace h317 : (0 : Int) ≠ 1 := h317
          refine e_Ok.run (t' := (460, [(7, (0, 0)), (4, (0, p + 1)), (0, (1, 275)), (1, (0, w 328 (10000 * a + p))), (2, (0, w 329 (10000 * a + p))), (3, (0, p))], [(0, p + 1), (1, 275)], w310)) 2 rfl ?_
          refine e_Ok.callV rfl (by omega) rfl rfl rfl rfl (c_365 (by omega) hT314 (by omega) (by rw [← hw310]; exact (e_up_ne _ _ (Or.inr (by omega))).trans h97) (f := g + 1) (z := 1260 * t + 2 * g + 436) (by rw [← hw310]; exact (e_up_ne _ _ (Or.inl (by omega))).trans hF) (by omega) (by omega)) (fun r318 w319 h320 => ?_)
          obtain ⟨rfl, hw319⟩ := h320
          have f321 : e_fr (mRk t) w w319 := e_fr.up f313 hw319 (by unfold mRk mLv; omega)
          have hT322 : e_Has mTy w319 := e_Has.upr hT314 hw319 (nR_FRg t (g) (by omega) (by omega) (by omega)) (by omega)
          show e_Ok 20 elay ecode eI (d + 1) 374 (463, [(7, (0, 0)), (4, (0, p + 1)), (0, (1, 275)), (1, (0, w 328 (10000 * a + p))), (2, (0, w 329 (10000 * a + p))), (3, (0, p))], [], w319) _
          refine e_Ok.rets rfl rfl ?_
          have e323 : w319 276 5 = w 276 5 := (by rw [← hw319]; exact (e_up_ne _ _ (Or.inr (by omega))).trans (by rw [← hw310]; exact (e_up_ne _ _ (Or.inl (by omega))).trans rfl))
          have hrn := runOk.fr (w' := w319) (fun c k q1 q2 => (by rw [← hw319]; exact (e_up_ne _ _ (Or.inl (by omega))).trans (by rw [← hw310]; exact (e_up_ne _ _ (Or.inl (by omega))).trans rfl))) (fun i q1 q2 => ⟨(by rw [← hw319]; exact (e_up_ne _ _ (Or.inr (by omega))).trans (by rw [← hw310]; exact (e_up_ne _ _ (Or.inl (by omega))).trans rfl)), (by rw [← hw319]; exact (e_up_ne _ _ (Or.inr (by omega))).trans (by rw [← hw310]; exact (e_up_ne _ _ (Or.inl (by omega))).trans rfl))⟩) (by rw [← hw319]; exact (e_up_ne _ _ (Or.inr (by omega))).trans (by rw [← hw310]; exact (e_up_ne _ _ (Or.inl (by omega))).trans rfl)) (by rw [← hw319]; exact (e_up_ne _ _ (Or.inr (by omega))).trans (by rw [← hw310]; exact (e_up_ne _ _ (Or.inl (by omega))).trans rfl)) (fun k q1 q2 => (by rw [← hw319]; exact (e_up_ne _ _ (Or.inr (by omega))).trans (by rw [← hw310]; exact (e_up_ne _ _ (Or.inl (by omega))).trans rfl))) (by omega) hru
          have erg : w319 330 (10000 * a + (p + 1)) = w 330 (10000 * a + p) := by rw [show 10000 * a + (p + 1) = 10000 * a + p + 1 by omega]; exact Eq.trans (by rw [← hw319]; exact (e_up_ne _ _ (Or.inl (by omega))).trans (by rw [← hw310]; exact (e_up_ne _ _ (Or.inl (by omega))).trans rfl)) k1.2.2.2
          have ede : w319 275 102 = dl p - 1 := (by rw [← hw319]; exact (e_up_ne _ _ (Or.inl (by omega))).trans (by rw [← hw310]; exact e_up_eq _ _ _ _))
          exact ⟨rfl, ⟨f321, (sRel.up (sRel.up sRel.refl hw310 (fun q b g1 g2 => by omega)) hw319 (fun q b g1 g2 => by omega))⟩, hT322, by omega, Or.inr ⟨(by rw [← hw319]; exact (e_up_ne _ _ (Or.inl (by omega))).trans (by rw [← hw310]; exact (e_up_ne _ _ (Or.inr (by omega))).trans rfl)), (by rw [← hw319]; exact (e_up_ne _ _ (Or.inr (by omega))).trans (by rw [← hw310]; exact (e_up_ne _ _ (Or.inl (by omega))).trans rfl)), by omega, p + 1, runOk.at hrn (by omega) (by rw [← hw319]; exact e_up_eq _ _ _ _) erg, by omega, e_kn.le (e_kn.oth (e_kn.oth hst hw310 (by decide)) hw319 (by decide)) (by omega), by omega, by omega⟩⟩
        · replace h317 : (0 : Int) = 1 := by have q : ¬ ((0 : Int) ≠ 1) := h317; omega
          exfalso; omega
    · replace h315 : (z312 : Int) ≠ 0 := by have q : ¬ ((z312 : Int) = 0) := h315; omega
      refine e_Ok.run (t' := (379, [(7, (0, 1)), (4, (0, p + 1)), (0, (1, 275)), (1, (0, w 328 (10000 * a + p))), (2, (0, w 329 (10000 * a + p))), (3, (0, p))], [(0, 22), (0, w 328 (10000 * a + p)), (0, 1)], w310)) 6 rfl ?_
      refine e_Ok.if2 rfl (fun h324 => ?_) (fun h324 => ?_)
      · replace h324 : (w 328 (10000 * a + p) : Int) ≠ 22 := h324
        exfalso; omega
      · replace h324 : (w 328 (10000 * a + p) : Int) = 22 := by have q : ¬ ((w 328 (10000 * a + p) : Int) ≠ 22) := h324; omega
        refine e_Ok.run (t' := (387, [(7, (0, 1)), (4, (0, p + 1)), (0, (1, 275)), (1, (0, w 328 (10000 * a + p))), (2, (0, w 329 (10000 * a + p))), (3, (0, p))], [(0, 1), (0, 1)], w310)) 2 rfl ?_
        refine e_Ok.if2 rfl (fun h325 => ?_) (fun h325 => ?_)
        · replace h325 : (1 : Int) ≠ 1 := h325
          exfalso; omega
        · replace h325 : (1 : Int) = 1 := by have q : ¬ ((1 : Int) ≠ 1) := h325; omega
          refine e_Ok.run (t' := (393, [(7, (0, 1)), (4, (0, p + 1)), (0, (1, 275)), (1, (0, w 328 (10000 * a + p))), (2, (0, w 329 (10000 * a + p))), (3, (0, p))], [(0, 1), (1, 275)], w310)) 2 rfl ?_
          refine e_Ok.if1 rfl (fun h326 => ?_) (fun h326 => ?_)
          · replace h326 : (1 : Int) = 0 := h326
            exfalso; omega
          · replace h326 : (1 : Int) ≠ 0 := by have q : ¬ ((1 : Int) = 0) := h326; omega
            refine e_Ok.run (t' := (401, [(7, (0, 1)), (4, (0, p + 1)), (0, (1, 275)), (1, (0, w 328 (10000 * a + p))), (2, (0, w 329 (10000 * a + p))), (3, (0, p))], [(0, 1), (1, 275)], w310)) 2 rfl ?_
            refine e_Ok.callV rfl (by omega) rfl rfl rfl rfl (c_363 hT314 (e := dl p - 1) (e1 := dl p) (by rw [← hw310]; exact e_up_eq _ _ _ _) (by omega) (by omega)) (fun r327 w328 h329 => ?_)
            obtain ⟨rfl, hw328⟩ := h329
            generalize hw330 : e_up w310 345 (dl p - 1) 1 = w330 at hw328
            have f331 : e_fr (mRk t) w w330 := e_fr.up f313 hw330 (by unfold mRk mLv; omega)
            have hT332 : e_Has mTy w330 := e_Has.ups hT314 hw330 rfl
            have f333 : e_fr (mRk t) w w328 := e_fr.up f331 hw328 (by unfold mRk mLv; omega)
            have hT334 : e_Has mTy w328 := e_Has.ups hT332 hw328 rfl
            show e_Ok 20 elay ecode eI (d + 1) 374 (404, [(7, (0, 1)), (4, (0, p + 1)), (0, (1, 275)), (1, (0, w 328 (10000 * a + p))), (2, (0, w 329 (10000 * a + p))), (3, (0, p))], [], w328) _
            refine e_Ok.run (t' := (460, [(4, (0, w 329 (10000 * a + p))), (7, (0, 1)), (0, (1, 275)), (1, (0, w 328 (10000 * a + p))), (2, (0, w 329 (10000 * a + p))), (3, (0, p))], [(0, w 329 (10000 * a + p)), (1, 275)], w328)) 5 rfl ?_
            refine e_Ok.callV rfl (by omega) rfl rfl rfl rfl (c_365 (by omega) hT334 (by omega) (by rw [← hw328]; exact (e_up_ne _ _ (Or.inr (by omega))).trans (by rw [← hw330]; exact (e_up_ne _ _ (Or.inl (by omega))).trans (by rw [← hw310]; exact (e_up_ne _ _ (Or.inr (by omega))).trans h97))) (f := g + 1) (z := 1260 * t + 2 * g + 436) (by rw [← hw328]; exact (e_up_ne _ _ (Or.inl (by omega))).trans (by rw [← hw330]; exact (e_up_ne _ _ (Or.inl (by omega))).trans (by rw [← hw310]; exact (e_up_ne _ _ (Or.inl (by omega))).trans hF))) (by omega) (by omega)) (fun r335 w336 h337 => ?_)
            obtain ⟨rfl, hw336⟩ := h337
            have f338 : e_fr (mRk t) w w336 := e_fr.up f333 hw336 (by unfold mRk mLv; omega)
            have hT339 : e_Has mTy w336 := e_Has.upr hT334 hw336 (nR_FRg t (g) (by omega) (by omega) (by omega)) (by omega)
            show e_Ok 20 elay ecode eI (d + 1) 374 (463, [(4, (0, w 329 (10000 * a + p))), (7, (0, 1)), (0, (1, 275)), (1, (0, w 328 (10000 * a + p))), (2, (0, w 329 (10000 * a + p))), (3, (0, p))], [], w336) _
            refine e_Ok.rets rfl rfl ?_
            have e340 : w336 276 5 = w 276 5 := (by rw [← hw336]; exact (e_up_ne _ _ (Or.inr (by omega))).trans (by rw [← hw328]; exact (e_up_ne _ _ (Or.inl (by omega))).trans (by rw [← hw330]; exact (e_up_ne _ _ (Or.inl (by omega))).trans (by rw [← hw310]; exact (e_up_ne _ _ (Or.inl (by omega))).trans rfl))))
            have hrn := runOk.fr (w' := w336) (fun c k q1 q2 => (by rw [← hw336]; exact (e_up_ne _ _ (Or.inl (by omega))).trans (by rw [← hw328]; exact (e_up_ne _ _ (Or.inl (by omega))).trans (by rw [← hw330]; exact (e_up_ne _ _ (Or.inl (by omega))).trans (by rw [← hw310]; exact (e_up_ne _ _ (Or.inl (by omega))).trans rfl))))) (fun i q1 q2 => ⟨(by rw [← hw336]; exact (e_up_ne _ _ (Or.inr (by omega))).trans (by rw [← hw328]; exact (e_up_ne _ _ (Or.inl (by omega))).trans (by rw [← hw330]; exact (e_up_ne _ _ (Or.inl (by omega))).trans (by rw [← hw310]; exact (e_up_ne _ _ (Or.inl (by omega))).trans rfl)))), (by rw [← hw336]; exact (e_up_ne _ _ (Or.inr (by omega))).trans (by rw [← hw328]; exact (e_up_ne _ _ (Or.inl (by omega))).trans (by rw [← hw330]; exact (e_up_ne _ _ (Or.inl (by omega))).trans (by rw [← hw310]; exact (e_up_ne _ _ (Or.inl (by omega))).trans rfl))))⟩) (by rw [← hw336]; exact (e_up_ne _ _ (Or.inr (by omega))).trans (by rw [← hw328]; exact (e_up_ne _ _ (Or.inl (by omega))).trans (by rw [← hw330]; exact (e_up_ne _ _ (Or.inl (by omega))).trans (by rw [← hw310]; exact (e_up_ne _ _ (Or.inl (by omega))).trans rfl)))) (by rw [← hw336]; exact (e_up_ne _ _ (Or.inr (by omega))).trans (by rw [← hw328]; exact (e_up_ne _ _ (Or.inl (by omega))).trans (by rw [← hw330]; exact (e_up_ne _ _ (Or.inl (by omega))).trans (by rw [← hw310]; exact (e_up_ne _ _ (Or.inl (by omega))).trans rfl)))) (fun k q1 q2 => (by rw [← hw336]; exact (e_up_ne _ _ (Or.inr (by omega))).trans (by rw [← hw328]; exact (e_up_ne _ _ (Or.inl (by omega))).trans (by rw [← hw330]; exact (e_up_ne _ _ (Or.inl (by omega))).trans (by rw [← hw310]; exact (e_up_ne _ _ (Or.inl (by omega))).trans rfl))))) (by omega) hru
            have erg : w336 330 (10000 * a + (w 329 (10000 * a + p))) = w 330 (10000 * a + p) := Eq.trans (by rw [← hw336]; exact (e_up_ne _ _ (Or.inl (by omega))).trans (by rw [← hw328]; exact (e_up_ne _ _ (Or.inl (by omega))).trans (by rw [← hw330]; exact (e_up_ne _ _ (Or.inl (by omega))).trans (by rw [← hw310]; exact (e_up_ne _ _ (Or.inl (by omega))).trans rfl)))) k5.2.2.2.2.2.2
            have ede : w336 275 102 = dl p := (by rw [← hw336]; exact (e_up_ne _ _ (Or.inl (by omega))).trans (by rw [← hw328]; exact e_up_eq _ _ _ _))
            exact ⟨rfl, ⟨f338, (sRel.up (sRel.up (sRel.up (sRel.up sRel.refl hw310 (fun q b g1 g2 => by omega)) hw330 (fun q b g1 g2 => by omega)) hw328 (fun q b g1 g2 => by omega)) hw336 (fun q b g1 g2 => by omega))⟩, hT339, by omega, Or.inr ⟨(by rw [← hw336]; exact (e_up_ne _ _ (Or.inl (by omega))).trans (by rw [← hw328]; exact (e_up_ne _ _ (Or.inr (by omega))).trans (by rw [← hw330]; exact (e_up_ne _ _ (Or.inl (by omega))).trans (by rw [← hw310]; exact (e_up_ne _ _ (Or.inr (by omega))).trans rfl)))), (by rw [← hw336]; exact (e_up_ne _ _ (Or.inr (by omega))).trans (by rw [← hw328]; exact (e_up_ne _ _ (Or.inl (by omega))).trans (by rw [← hw330]; exact (e_up_ne _ _ (Or.inl (by omega))).trans (by rw [← hw310]; exact (e_up_ne _ _ (Or.inl (by omega))).trans rfl)))), by omega, w 329 (10000 * a + p), runOk.at hrn (by omega) (by rw [← hw336]; exact e_up_eq _ _ _ _) erg, by omega, e_kn.le (e_kn.oth (e_kn.oth (e_kn.put (b' := dl p - 1) (e_kn.oth hst hw310 (by decide)) hw330 (by omega) (by omega)) hw328 (by decide)) hw336 (by decide)) (by omega), by omega, by omega⟩⟩
  · refine e_Ok.sw (tg := 360) rfl (by rw [h1]; rfl) ?_
    have k1 := hi1.out (by omega)
    unfold iFT at k1
    have k5 := hi5.out (by omega)
    refine e_Ok.run (t' := (361, [(4, (0, p + 1)), (0, (1, 275)), (1, (0, w 328 (10000 * a + p))), (2, (0, w 329 (10000 * a + p))), (3, (0, p))], [(1, 275)], w)) 1 rfl ?_
    refine e_Ok.callV rfl (by omega) rfl rfl rfl rfl (c_364 hT (e := dl p) (u := dl p - 1) h102 (by omega) (by omega) (by have q : w 345 (dl p - 1) = w 345 (dl p - 1) := rfl; have q2 := (hst (dl p - 1) (by omega) (by omega)); omega)) (fun r341 w342 h343 => ?_)
    obtain ⟨rfl, hw342⟩ := h343
    generalize hz344 : w 345 (dl p - 1) = z344
    have z344r : z344 = w 345 (dl p - 1) := Eq.trans hz344.symm rfl
    have f345 : e_fr (mRk t) w w342 := e_fr.up (e_fr.refl w) hw342 (by unfold mRk mLv; omega)
    have hT346 : e_Has mTy w342 := e_Has.ups hT hw342 rfl
    show e_Ok 20 elay ecode eI (d + 1) 374 (364, [(4, (0, p + 1)), (0, (1, 275)), (1, (0, w 328 (10000 * a + p))), (2, (0, w 329 (10000 * a + p))), (3, (0, p))], [(0, z344)], w342) _
    refine e_Ok.if1 rfl (fun h347 => ?_) (fun h347 => ?_)
    · replace h347 : (z344 : Int) = 0 := h347
      refine e_Ok.run (t' := (379, [(7, (0, 0)), (4, (0, p + 1)), (0, (1, 275)), (1, (0, w 328 (10000 * a + p))), (2, (0, w 329 (10000 * a + p))), (3, (0, p))], [(0, 22), (0, w 328 (10000 * a + p)), (0, 0)], w342)) 5 rfl ?_
      refine e_Ok.if2 rfl (fun h348 => ?_) (fun h348 => ?_)
      · replace h348 : (w 328 (10000 * a + p) : Int) ≠ 22 := h348
        refine e_Ok.run (t' := (387, [(7, (0, 0)), (4, (0, p + 1)), (0, (1, 275)), (1, (0, w 328 (10000 * a + p))), (2, (0, w 329 (10000 * a + p))), (3, (0, p))], [(0, 0), (0, 0)], w342)) 1 rfl ?_
        refine e_Ok.if2 rfl (fun h349 => ?_) (fun h349 => ?_)
        · replace h349 : (0 : Int) ≠ 0 := h349
          exfalso; omega
        · replace h349 : (0 : Int) = 0 := by have q : ¬ ((0 : Int) ≠ 0) := h349; omega
          refine e_Ok.run (t' := (393, [(7, (0, 0)), (4, (0, p + 1)), (0, (1, 275)), (1, (0, w 328 (10000 * a + p))), (2, (0, w 329 (10000 * a + p))), (3, (0, p))], [(0, 0), (1, 275)], w342)) 2 rfl ?_
          refine e_Ok.if1 rfl (fun h350 => ?_) (fun h350 => ?_)
          · replace h350 : (0 : Int) = 0 := h350
            refine e_Ok.run (t' := (401, [(7, (0, 0)), (4, (0, p + 1)), (0, (1, 275)), (1, (0, w 328 (10000 * a + p))), (2, (0, w 329 (10000 * a + p))), (3, (0, p))], [(0, 0), (1, 275)], w342)) 1 rfl ?_
            refine e_Ok.callV rfl (by omega) rfl rfl rfl rfl (c_363 hT346 (e := dl p - 1) (e1 := dl p) (by rw [← hw342]; exact e_up_eq _ _ _ _) (by omega) (by omega)) (fun r351 w352 h353 => ?_)
            obtain ⟨rfl, hw352⟩ := h353
            generalize hw354 : e_up w342 345 (dl p - 1) 0 = w354 at hw352
            have f355 : e_fr (mRk t) w w354 := e_fr.up f345 hw354 (by unfold mRk mLv; omega)
            have hT356 : e_Has mTy w354 := e_Has.ups hT346 hw354 rfl
            have f357 : e_fr (mRk t) w w352 := e_fr.up f355 hw352 (by unfold mRk mLv; omega)
            have hT358 : e_Has mTy w352 := e_Has.ups hT356 hw352 rfl
            show e_Ok 20 elay ecode eI (d + 1) 374 (404, [(7, (0, 0)), (4, (0, p + 1)), (0, (1, 275)), (1, (0, w 328 (10000 * a + p))), (2, (0, w 329 (10000 * a + p))), (3, (0, p))], [], w352) _
            refine e_Ok.run (t' := (460, [(4, (0, w 329 (10000 * a + p))), (7, (0, 0)), (0, (1, 275)), (1, (0, w 328 (10000 * a + p))), (2, (0, w 329 (10000 * a + p))), (3, (0, p))], [(0, w 329 (10000 * a + p)), (1, 275)], w352)) 5 rfl ?_
            refine e_Ok.callV rfl (by omega) rfl rfl rfl rfl (c_365 (by omega) hT358 (by omega) (by rw [← hw352]; exact (e_up_ne _ _ (Or.inr (by omega))).trans (by rw [← hw354]; exact (e_up_ne _ _ (Or.inl (by omega))).trans (by rw [← hw342]; exact (e_up_ne _ _ (Or.inr (by omega))).trans h97))) (f := g + 1) (z := 1260 * t + 2 * g + 436) (by rw [← hw352]; exact (e_up_ne _ _ (Or.inl (by omega))).trans (by rw [← hw354]; exact (e_up_ne _ _ (Or.inl (by omega))).trans (by rw [← hw342]; exact (e_up_ne _ _ (Or.inl (by omega))).trans hF))) (by omega) (by omega)) (fun r359 w360 h361 => ?_)
            obtain ⟨rfl, hw360⟩ := h361
            have f362 : e_fr (mRk t) w w360 := e_fr.up f357 hw360 (by unfold mRk mLv; omega)
            have hT363 : e_Has mTy w360 := e_Has.upr hT358 hw360 (nR_FRg t (g) (by omega) (by omega) (by omega)) (by omega)
            show e_Ok 20 elay ecode eI (d + 1) 374 (463, [(4, (0, w 329 (10000 * a + p))), (7, (0, 0)), (0, (1, 275)), (1, (0, w 328 (10000 * a + p))), (2, (0, w 329 (10000 * a + p))), (3, (0, p))], [], w360) _
            refine e_Ok.rets rfl rfl ?_
            have e364 : w360 276 5 = w 276 5 := (by rw [← hw360]; exact (e_up_ne _ _ (Or.inr (by omega))).trans (by rw [← hw352]; exact (e_up_ne _ _ (Or.inl (by omega))).trans (by rw [← hw354]; exact (e_up_ne _ _ (Or.inl (by omega))).trans (by rw [← hw342]; exact (e_up_ne _ _ (Or.inl (by omega))).trans rfl))))
            have hrn := runOk.fr (w' := w360) (fun c k q1 q2 => (by rw [← hw360]; exact (e_up_ne _ _ (Or.inl (by omega))).trans (by rw [← hw352]; exact (e_up_ne _ _ (Or.inl (by omega))).trans (by rw [← hw354]; exact (e_up_ne _ _ (Or.inl (by omega))).trans (by rw [← hw342]; exact (e_up_ne _ _ (Or.inl (by omega))).trans rfl))))) (fun i q1 q2 => ⟨(by rw [← hw360]; exact (e_up_ne _ _ (Or.inr (by omega))).trans (by rw [← hw352]; exact (e_up_ne _ _ (Or.inl (by omega))).trans (by rw [← hw354]; exact (e_up_ne _ _ (Or.inl (by omega))).trans (by rw [← hw342]; exact (e_up_ne _ _ (Or.inl (by omega))).trans rfl)))), (by rw [← hw360]; exact (e_up_ne _ _ (Or.inr (by omega))).trans (by rw [← hw352]; exact (e_up_ne _ _ (Or.inl (by omega))).trans (by rw [← hw354]; exact (e_up_ne _ _ (Or.inl (by omega))).trans (by rw [← hw342]; exact (e_up_ne _ _ (Or.inl (by omega))).trans rfl))))⟩) (by rw [← hw360]; exact (e_up_ne _ _ (Or.inr (by omega))).trans (by rw [← hw352]; exact (e_up_ne _ _ (Or.inl (by omega))).trans (by rw [← hw354]; exact (e_up_ne _ _ (Or.inl (by omega))).trans (by rw [← hw342]; exact (e_up_ne _ _ (Or.inl (by omega))).trans rfl)))) (by rw [← hw360]; exact (e_up_ne _ _ (Or.inr (by omega))).trans (by rw [← hw352]; exact (e_up_ne _ _ (Or.inl (by omega))).trans (by rw [← hw354]; exact (e_up_ne _ _ (Or.inl (by omega))).trans (by rw [← hw342]; exact (e_up_ne _ _ (Or.inl (by omega))).trans rfl)))) (fun k q1 q2 => (by rw [← hw360]; exact (e_up_ne _ _ (Or.inr (by omega))).trans (by rw [← hw352]; exact (e_up_ne _ _ (Or.inl (by omega))).trans (by rw [← hw354]; exact (e_up_ne _ _ (Or.inl (by omega))).trans (by rw [← hw342]; exact (e_up_ne _ _ (Or.inl (by omega))).trans rfl))))) (by omega) hru
            have erg : w360 330 (10000 * a + (w 329 (10000 * a + p))) = w 330 (10000 * a + p) := Eq.trans (by rw [← hw360]; exact (e_up_ne _ _ (Or.inl (by omega))).trans (by rw [← hw352]; exact (e_up_ne _ _ (Or.inl (by omega))).trans (by rw [← hw354]; exact (e_up_ne _ _ (Or.inl (by omega))).trans (by rw [← hw342]; exact (e_up_ne _ _ (Or.inl (by omega))).trans rfl)))) k5.2.2.2.2.2.2
            have ede : w360 275 102 = dl p := (by rw [← hw360]; exact (e_up_ne _ _ (Or.inl (by omega))).trans (by rw [← hw352]; exact e_up_eq _ _ _ _))
            exact ⟨rfl, ⟨f362, (sRel.up (sRel.up (sRel.up (sRel.up sRel.refl hw342 (fun q b g1 g2 => by omega)) hw354 (fun q b g1 g2 => by omega)) hw352 (fun q b g1 g2 => by omega)) hw360 (fun q b g1 g2 => by omega))⟩, hT363, by omega, Or.inr ⟨(by rw [← hw360]; exact (e_up_ne _ _ (Or.inl (by omega))).trans (by rw [← hw352]; exact (e_up_ne _ _ (Or.inr (by omega))).trans (by rw [← hw354]; exact (e_up_ne _ _ (Or.inl (by omega))).trans (by rw [← hw342]; exact (e_up_ne _ _ (Or.inr (by omega))).trans rfl)))), (by rw [← hw360]; exact (e_up_ne _ _ (Or.inr (by omega))).trans (by rw [← hw352]; exact (e_up_ne _ _ (Or.inl (by omega))).trans (by rw [← hw354]; exact (e_up_ne _ _ (Or.inl (by omega))).trans (by rw [← hw342]; exact (e_up_ne _ _ (Or.inl (by omega))).trans rfl)))), by omega, w 329 (10000 * a + p), runOk.at hrn (by omega) (by rw [← hw360]; exact e_up_eq _ _ _ _) erg, by omega, e_kn.le (e_kn.oth (e_kn.oth (e_kn.put (b' := dl p - 1) (e_kn.oth hst hw342 (by decide)) hw354 (by omega) (by omega)) hw352 (by decide)) hw360 (by decide)) (by omega), by omega, by omega⟩⟩
          · replace h350 : (0 : Int) ≠ 0 := by have q : ¬ ((0 : Int) = 0) := h350; omega
            exfalso; omega
      · replace h348 : (w 328 (10000 * a + p) : Int) = 22 := by have q : ¬ ((w 328 (10000 * a + p) : Int) ≠ 22) := h348; omega
        exfalso; omega
    · replace h347 : (z344 : Int) ≠ 0 := by have q : ¬ ((z344 : Int) = 0) := h347; omega
      refine e_Ok.run (t' := (379, [(7, (0, 1)), (4, (0, p + 1)), (0, (1, 275)), (1, (0, w 328 (10000 * a + p))), (2, (0, w 329 (10000 * a + p))), (3, (0, p))], [(0, 22), (0, w 328 (10000 * a + p)), (0, 1)], w342)) 6 rfl ?_
      refine e_Ok.if2 rfl (fun h365 => ?_) (fun h365 => ?_)
      · replace h365 : (w 328 (10000 * a + p) : Int) ≠ 22 := h365
        refine e_Ok.run (t' := (387, [(7, (0, 1)), (4, (0, p + 1)), (0, (1, 275)), (1, (0, w 328 (10000 * a + p))), (2, (0, w 329 (10000 * a + p))), (3, (0, p))], [(0, 0), (0, 1)], w342)) 1 rfl ?_
        refine e_Ok.if2 rfl (fun h366 => ?_) (fun h366 => ?_)
        · replace h366 : (1 : Int) ≠ 0 := h366
          refine e_Ok.run (t' := (460, [(7, (0, 1)), (4, (0, p + 1)), (0, (1, 275)), (1, (0, w 328 (10000 * a + p))), (2, (0, w 329 (10000 * a + p))), (3, (0, p))], [(0, p + 1), (1, 275)], w342)) 2 rfl ?_
          refine e_Ok.callV rfl (by omega) rfl rfl rfl rfl (c_365 (by omega) hT346 (by omega) (by rw [← hw342]; exact (e_up_ne _ _ (Or.inr (by omega))).trans h97) (f := g + 1) (z := 1260 * t + 2 * g + 436) (by rw [← hw342]; exact (e_up_ne _ _ (Or.inl (by omega))).trans hF) (by omega) (by omega)) (fun r367 w368 h369 => ?_)
          obtain ⟨rfl, hw368⟩ := h369
          have f370 : e_fr (mRk t) w w368 := e_fr.up f345 hw368 (by unfold mRk mLv; omega)
          have hT371 : e_Has mTy w368 := e_Has.upr hT346 hw368 (nR_FRg t (g) (by omega) (by omega) (by omega)) (by omega)
          show e_Ok 20 elay ecode eI (d + 1) 374 (463, [(7, (0, 1)), (4, (0, p + 1)), (0, (1, 275)), (1, (0, w 328 (10000 * a + p))), (2, (0, w 329 (10000 * a + p))), (3, (0, p))], [], w368) _
          refine e_Ok.rets rfl rfl ?_
          have e372 : w368 276 5 = w 276 5 := (by rw [← hw368]; exact (e_up_ne _ _ (Or.inr (by omega))).trans (by rw [← hw342]; exact (e_up_ne _ _ (Or.inl (by omega))).trans rfl))
          have hrn := runOk.fr (w' := w368) (fun c k q1 q2 => (by rw [← hw368]; exact (e_up_ne _ _ (Or.inl (by omega))).trans (by rw [← hw342]; exact (e_up_ne _ _ (Or.inl (by omega))).trans rfl))) (fun i q1 q2 => ⟨(by rw [← hw368]; exact (e_up_ne _ _ (Or.inr (by omega))).trans (by rw [← hw342]; exact (e_up_ne _ _ (Or.inl (by omega))).trans rfl)), (by rw [← hw368]; exact (e_up_ne _ _ (Or.inr (by omega))).trans (by rw [← hw342]; exact (e_up_ne _ _ (Or.inl (by omega))).trans rfl))⟩) (by rw [← hw368]; exact (e_up_ne _ _ (Or.inr (by omega))).trans (by rw [← hw342]; exact (e_up_ne _ _ (Or.inl (by omega))).trans rfl)) (by rw [← hw368]; exact (e_up_ne _ _ (Or.inr (by omega))).trans (by rw [← hw342]; exact (e_up_ne _ _ (Or.inl (by omega))).trans rfl)) (fun k q1 q2 => (by rw [← hw368]; exact (e_up_ne _ _ (Or.inr (by omega))).trans (by rw [← hw342]; exact (e_up_ne _ _ (Or.inl (by omega))).trans rfl))) (by omega) hru
          have erg : w368 330 (10000 * a + (p + 1)) = w 330 (10000 * a + p) := by rw [show 10000 * a + (p + 1) = 10000 * a + p + 1 by omega]; exact Eq.trans (by rw [← hw368]; exact (e_up_ne _ _ (Or.inl (by omega))).trans (by rw [← hw342]; exact (e_up_ne _ _ (Or.inl (by omega))).trans rfl)) k1.2.2.2
          have ede : w368 275 102 = dl p - 1 := (by rw [← hw368]; exact (e_up_ne _ _ (Or.inl (by omega))).trans (by rw [← hw342]; exact e_up_eq _ _ _ _))
          exact ⟨rfl, ⟨f370, (sRel.up (sRel.up sRel.refl hw342 (fun q b g1 g2 => by omega)) hw368 (fun q b g1 g2 => by omega))⟩, hT371, by omega, Or.inr ⟨(by rw [← hw368]; exact (e_up_ne _ _ (Or.inl (by omega))).trans (by rw [← hw342]; exact (e_up_ne _ _ (Or.inr (by omega))).trans rfl)), (by rw [← hw368]; exact (e_up_ne _ _ (Or.inr (by omega))).trans (by rw [← hw342]; exact (e_up_ne _ _ (Or.inl (by omega))).trans rfl)), by omega, p + 1, runOk.at hrn (by omega) (by rw [← hw368]; exact e_up_eq _ _ _ _) erg, by omega, e_kn.le (e_kn.oth (e_kn.oth hst hw342 (by decide)) hw368 (by decide)) (by omega), by omega, by omega⟩⟩
        · replace h366 : (1 : Int) = 0 := by have q : ¬ ((1 : Int) ≠ 0) := h366; omega
          exfalso; omega
      · replace h365 : (w 328 (10000 * a + p) : Int) = 22 := by have q : ¬ ((w 328 (10000 * a + p) : Int) ≠ 22) := h365; omega
        exfalso; omega
  · refine e_Ok.sw (tg := 341) rfl (by rw [h1]; rfl) ?_
    have k1 := hi1.out (by omega)
    unfold iFT at k1
    have k4 := hi4.out (by omega)
    refine e_Ok.run (t' := (343, [(4, (0, p + 1)), (0, (1, 275)), (1, (0, w 328 (10000 * a + p))), (2, (0, w 329 (10000 * a + p))), (3, (0, p))], [(1, 275), (1, 275)], w)) 2 rfl ?_
    refine e_Ok.callV rfl (by omega) rfl rfl rfl rfl (c_364 hT (e := dl p) (u := dl p - 1) h102 (by omega) (by omega) (by have q : w 345 (dl p - 1) = w 345 (dl p - 1) := rfl; have q2 := (hst (dl p - 1) (by omega) (by omega)); omega)) (fun r373 w374 h375 => ?_)
    obtain ⟨rfl, hw374⟩ := h375
    generalize hz376 : w 345 (dl p - 1) = z376
    have z376r : z376 = w 345 (dl p - 1) := Eq.trans hz376.symm rfl
    have f377 : e_fr (mRk t) w w374 := e_fr.up (e_fr.refl w) hw374 (by unfold mRk mLv; omega)
    have hT378 : e_Has mTy w374 := e_Has.ups hT hw374 rfl
    show e_Ok 20 elay ecode eI (d + 1) 374 (346, [(4, (0, p + 1)), (0, (1, 275)), (1, (0, w 328 (10000 * a + p))), (2, (0, w 329 (10000 * a + p))), (3, (0, p))], [(0, z376), (1, 275)], w374) _
    refine e_Ok.if1 rfl (fun h379 => ?_) (fun h379 => ?_)
    · replace h379 : (z376 : Int) ≠ 0 := h379
      refine e_Ok.run (t' := (354, [(4, (0, p + 1)), (0, (1, 275)), (1, (0, w 328 (10000 * a + p))), (2, (0, w 329 (10000 * a + p))), (3, (0, p))], [(0, 1), (1, 275)], w374)) 1 rfl ?_
      refine e_Ok.callV rfl (by omega) rfl rfl rfl rfl (c_363 hT378 (e := dl p - 1) (e1 := dl p) (by rw [← hw374]; exact e_up_eq _ _ _ _) (by omega) (by omega)) (fun r380 w381 h382 => ?_)
      obtain ⟨rfl, hw381⟩ := h382
      generalize hw383 : e_up w374 345 (dl p - 1) 1 = w383 at hw381
      have f384 : e_fr (mRk t) w w383 := e_fr.up f377 hw383 (by unfold mRk mLv; omega)
      have hT385 : e_Has mTy w383 := e_Has.ups hT378 hw383 rfl
      have f386 : e_fr (mRk t) w w381 := e_fr.up f384 hw381 (by unfold mRk mLv; omega)
      have hT387 : e_Has mTy w381 := e_Has.ups hT385 hw381 rfl
      show e_Ok 20 elay ecode eI (d + 1) 374 (357, [(4, (0, p + 1)), (0, (1, 275)), (1, (0, w 328 (10000 * a + p))), (2, (0, w 329 (10000 * a + p))), (3, (0, p))], [], w381) _
      refine e_Ok.run (t' := (460, [(4, (0, p + 1)), (0, (1, 275)), (1, (0, w 328 (10000 * a + p))), (2, (0, w 329 (10000 * a + p))), (3, (0, p))], [(0, p + 1), (1, 275)], w381)) 3 rfl ?_
      refine e_Ok.callV rfl (by omega) rfl rfl rfl rfl (c_365 (by omega) hT387 (by omega) (by rw [← hw381]; exact (e_up_ne _ _ (Or.inr (by omega))).trans (by rw [← hw383]; exact (e_up_ne _ _ (Or.inl (by omega))).trans (by rw [← hw374]; exact (e_up_ne _ _ (Or.inr (by omega))).trans h97))) (f := g + 1) (z := 1260 * t + 2 * g + 436) (by rw [← hw381]; exact (e_up_ne _ _ (Or.inl (by omega))).trans (by rw [← hw383]; exact (e_up_ne _ _ (Or.inl (by omega))).trans (by rw [← hw374]; exact (e_up_ne _ _ (Or.inl (by omega))).trans hF))) (by omega) (by omega)) (fun r388 w389 h390 => ?_)
      obtain ⟨rfl, hw389⟩ := h390
      have f391 : e_fr (mRk t) w w389 := e_fr.up f386 hw389 (by unfold mRk mLv; omega)
      have hT392 : e_Has mTy w389 := e_Has.upr hT387 hw389 (nR_FRg t (g) (by omega) (by omega) (by omega)) (by omega)
      show e_Ok 20 elay ecode eI (d + 1) 374 (463, [(4, (0, p + 1)), (0, (1, 275)), (1, (0, w 328 (10000 * a + p))), (2, (0, w 329 (10000 * a + p))), (3, (0, p))], [], w389) _
      refine e_Ok.rets rfl rfl ?_
      have e393 : w389 276 5 = w 276 5 := (by rw [← hw389]; exact (e_up_ne _ _ (Or.inr (by omega))).trans (by rw [← hw381]; exact (e_up_ne _ _ (Or.inl (by omega))).trans (by rw [← hw383]; exact (e_up_ne _ _ (Or.inl (by omega))).trans (by rw [← hw374]; exact (e_up_ne _ _ (Or.inl (by omega))).trans rfl))))
      have hrn := runOk.fr (w' := w389) (fun c k q1 q2 => (by rw [← hw389]; exact (e_up_ne _ _ (Or.inl (by omega))).trans (by rw [← hw381]; exact (e_up_ne _ _ (Or.inl (by omega))).trans (by rw [← hw383]; exact (e_up_ne _ _ (Or.inl (by omega))).trans (by rw [← hw374]; exact (e_up_ne _ _ (Or.inl (by omega))).trans rfl))))) (fun i q1 q2 => ⟨(by rw [← hw389]; exact (e_up_ne _ _ (Or.inr (by omega))).trans (by rw [← hw381]; exact (e_up_ne _ _ (Or.inl (by omega))).trans (by rw [← hw383]; exact (e_up_ne _ _ (Or.inl (by omega))).trans (by rw [← hw374]; exact (e_up_ne _ _ (Or.inl (by omega))).trans rfl)))), (by rw [← hw389]; exact (e_up_ne _ _ (Or.inr (by omega))).trans (by rw [← hw381]; exact (e_up_ne _ _ (Or.inl (by omega))).trans (by rw [← hw383]; exact (e_up_ne _ _ (Or.inl (by omega))).trans (by rw [← hw374]; exact (e_up_ne _ _ (Or.inl (by omega))).trans rfl))))⟩) (by rw [← hw389]; exact (e_up_ne _ _ (Or.inr (by omega))).trans (by rw [← hw381]; exact (e_up_ne _ _ (Or.inl (by omega))).trans (by rw [← hw383]; exact (e_up_ne _ _ (Or.inl (by omega))).trans (by rw [← hw374]; exact (e_up_ne _ _ (Or.inl (by omega))).trans rfl)))) (by rw [← hw389]; exact (e_up_ne _ _ (Or.inr (by omega))).trans (by rw [← hw381]; exact (e_up_ne _ _ (Or.inl (by omega))).trans (by rw [← hw383]; exact (e_up_ne _ _ (Or.inl (by omega))).trans (by rw [← hw374]; exact (e_up_ne _ _ (Or.inl (by omega))).trans rfl)))) (fun k q1 q2 => (by rw [← hw389]; exact (e_up_ne _ _ (Or.inr (by omega))).trans (by rw [← hw381]; exact (e_up_ne _ _ (Or.inl (by omega))).trans (by rw [← hw383]; exact (e_up_ne _ _ (Or.inl (by omega))).trans (by rw [← hw374]; exact (e_up_ne _ _ (Or.inl (by omega))).trans rfl))))) (by omega) hru
      have erg : w389 330 (10000 * a + (p + 1)) = w 330 (10000 * a + p) := by rw [show 10000 * a + (p + 1) = 10000 * a + p + 1 by omega]; exact Eq.trans (by rw [← hw389]; exact (e_up_ne _ _ (Or.inl (by omega))).trans (by rw [← hw381]; exact (e_up_ne _ _ (Or.inl (by omega))).trans (by rw [← hw383]; exact (e_up_ne _ _ (Or.inl (by omega))).trans (by rw [← hw374]; exact (e_up_ne _ _ (Or.inl (by omega))).trans rfl)))) k1.2.2.2
      have ede : w389 275 102 = dl p := (by rw [← hw389]; exact (e_up_ne _ _ (Or.inl (by omega))).trans (by rw [← hw381]; exact e_up_eq _ _ _ _))
      exact ⟨rfl, ⟨f391, (sRel.up (sRel.up (sRel.up (sRel.up sRel.refl hw374 (fun q b g1 g2 => by omega)) hw383 (fun q b g1 g2 => by omega)) hw381 (fun q b g1 g2 => by omega)) hw389 (fun q b g1 g2 => by omega))⟩, hT392, by omega, Or.inr ⟨(by rw [← hw389]; exact (e_up_ne _ _ (Or.inl (by omega))).trans (by rw [← hw381]; exact (e_up_ne _ _ (Or.inr (by omega))).trans (by rw [← hw383]; exact (e_up_ne _ _ (Or.inl (by omega))).trans (by rw [← hw374]; exact (e_up_ne _ _ (Or.inr (by omega))).trans rfl)))), (by rw [← hw389]; exact (e_up_ne _ _ (Or.inr (by omega))).trans (by rw [← hw381]; exact (e_up_ne _ _ (Or.inl (by omega))).trans (by rw [← hw383]; exact (e_up_ne _ _ (Or.inl (by omega))).trans (by rw [← hw374]; exact (e_up_ne _ _ (Or.inl (by omega))).trans rfl)))), by omega, p + 1, runOk.at hrn (by omega) (by rw [← hw389]; exact e_up_eq _ _ _ _) erg, by omega, e_kn.le (e_kn.oth (e_kn.oth (e_kn.put (b' := dl p - 1) (e_kn.oth hst hw374 (by decide)) hw383 (by omega) (by omega)) hw381 (by decide)) hw389 (by decide)) (by omega), by omega, by omega⟩⟩
    · replace h379 : (z376 : Int) = 0 := by have q : ¬ ((z376 : Int) ≠ 0) := h379; omega
      refine e_Ok.run (t' := (354, [(4, (0, p + 1)), (0, (1, 275)), (1, (0, w 328 (10000 * a + p))), (2, (0, w 329 (10000 * a + p))), (3, (0, p))], [(0, 0), (1, 275)], w374)) 2 rfl ?_
      refine e_Ok.callV rfl (by omega) rfl rfl rfl rfl (c_363 hT378 (e := dl p - 1) (e1 := dl p) (by rw [← hw374]; exact e_up_eq _ _ _ _) (by omega) (by omega)) (fun r394 w395 h396 => ?_)
      obtain ⟨rfl, hw395⟩ := h396
      generalize hw397 : e_up w374 345 (dl p - 1) 0 = w397 at hw395
      have f398 : e_fr (mRk t) w w397 := e_fr.up f377 hw397 (by unfold mRk mLv; omega)
      have hT399 : e_Has mTy w397 := e_Has.ups hT378 hw397 rfl
      have f400 : e_fr (mRk t) w w395 := e_fr.up f398 hw395 (by unfold mRk mLv; omega)
      have hT401 : e_Has mTy w395 := e_Has.ups hT399 hw395 rfl
      show e_Ok 20 elay ecode eI (d + 1) 374 (357, [(4, (0, p + 1)), (0, (1, 275)), (1, (0, w 328 (10000 * a + p))), (2, (0, w 329 (10000 * a + p))), (3, (0, p))], [], w395) _
      refine e_Ok.run (t' := (460, [(4, (0, p + 1)), (0, (1, 275)), (1, (0, w 328 (10000 * a + p))), (2, (0, w 329 (10000 * a + p))), (3, (0, p))], [(0, p + 1), (1, 275)], w395)) 3 rfl ?_
      refine e_Ok.callV rfl (by omega) rfl rfl rfl rfl (c_365 (by omega) hT401 (by omega) (by rw [← hw395]; exact (e_up_ne _ _ (Or.inr (by omega))).trans (by rw [← hw397]; exact (e_up_ne _ _ (Or.inl (by omega))).trans (by rw [← hw374]; exact (e_up_ne _ _ (Or.inr (by omega))).trans h97))) (f := g + 1) (z := 1260 * t + 2 * g + 436) (by rw [← hw395]; exact (e_up_ne _ _ (Or.inl (by omega))).trans (by rw [← hw397]; exact (e_up_ne _ _ (Or.inl (by omega))).trans (by rw [← hw374]; exact (e_up_ne _ _ (Or.inl (by omega))).trans hF))) (by omega) (by omega)) (fun r402 w403 h404 => ?_)
      obtain ⟨rfl, hw403⟩ := h404
      have f405 : e_fr (mRk t) w w403 := e_fr.up f400 hw403 (by unfold mRk mLv; omega)
      have hT406 : e_Has mTy w403 := e_Has.upr hT401 hw403 (nR_FRg t (g) (by omega) (by omega) (by omega)) (by omega)
      show e_Ok 20 elay ecode eI (d + 1) 374 (463, [(4, (0, p + 1)), (0, (1, 275)), (1, (0, w 328 (10000 * a + p))), (2, (0, w 329 (10000 * a + p))), (3, (0, p))], [], w403) _
      refine e_Ok.rets rfl rfl ?_
      have e407 : w403 276 5 = w 276 5 := (by rw [← hw403]; exact (e_up_ne _ _ (Or.inr (by omega))).trans (by rw [← hw395]; exact (e_up_ne _ _ (Or.inl (by omega))).trans (by rw [← hw397]; exact (e_up_ne _ _ (Or.inl (by omega))).trans (by rw [← hw374]; exact (e_up_ne _ _ (Or.inl (by omega))).trans rfl))))
      have hrn := runOk.fr (w' := w403) (fun c k q1 q2 => (by rw [← hw403]; exact (e_up_ne _ _ (Or.inl (by omega))).trans (by rw [← hw395]; exact (e_up_ne _ _ (Or.inl (by omega))).trans (by rw [← hw397]; exact (e_up_ne _ _ (Or.inl (by omega))).trans (by rw [← hw374]; exact (e_up_ne _ _ (Or.inl (by omega))).trans rfl))))) (fun i q1 q2 => ⟨(by rw [← hw403]; exact (e_up_ne _ _ (Or.inr (by omega))).trans (by rw [← hw395]; exact (e_up_ne _ _ (Or.inl (by omega))).trans (by rw [← hw397]; exact (e_up_ne _ _ (Or.inl (by omega))).trans (by rw [← hw374]; exact (e_up_ne _ _ (Or.inl (by omega))).trans rfl)))), (by rw [← hw403]; exact (e_up_ne _ _ (Or.inr (by omega))).trans (by rw [← hw395]; exact (e_up_ne _ _ (Or.inl (by omega))).trans (by rw [← hw397]; exact (e_up_ne _ _ (Or.inl (by omega))).trans (by rw [← hw374]; exact (e_up_ne _ _ (Or.inl (by omega))).trans rfl))))⟩) (by rw [← hw403]; exact (e_up_ne _ _ (Or.inr (by omega))).trans (by rw [← hw395]; exact (e_up_ne _ _ (Or.inl (by omega))).trans (by rw [← hw397]; exact (e_up_ne _ _ (Or.inl (by omega))).trans (by rw [← hw374]; exact (e_up_ne _ _ (Or.inl (by omega))).trans rfl)))) (by rw [← hw403]; exact (e_up_ne _ _ (Or.inr (by omega))).trans (by rw [← hw395]; exact (e_up_ne _ _ (Or.inl (by omega))).trans (by rw [← hw397]; exact (e_up_ne _ _ (Or.inl (by omega))).trans (by rw [← hw374]; exact (e_up_ne _ _ (Or.inl (by omega))).trans rfl)))) (fun k q1 q2 => (by rw [← hw403]; exact (e_up_ne _ _ (Or.inr (by omega))).trans (by rw [← hw395]; exact (e_up_ne _ _ (Or.inl (by omega))).trans (by rw [← hw397]; exact (e_up_ne _ _ (Or.inl (by omega))).trans (by rw [← hw374]; exact (e_up_ne _ _ (Or.inl (by omega))).trans rfl))))) (by omega) hru
      have erg : w403 330 (10000 * a + (p + 1)) = w 330 (10000 * a + p) := by rw [show 10000 * a + (p + 1) = 10000 * a + p + 1 by omega]; exact Eq.trans (by rw [← hw403]; exact (e_up_ne _ _ (Or.inl (by omega))).trans (by rw [← hw395]; exact (e_up_ne _ _ (Or.inl (by omega))).trans (by rw [← hw397]; exact (e_up_ne _ _ (Or.inl (by omega))).trans (by rw [← hw374]; exact (e_up_ne _ _ (Or.inl (by omega))).trans rfl)))) k1.2.2.2
      have ede : w403 275 102 = dl p := (by rw [← hw403]; exact (e_up_ne _ _ (Or.inl (by omega))).trans (by rw [← hw395]; exact e_up_eq _ _ _ _))
      exact ⟨rfl, ⟨f405, (sRel.up (sRel.up (sRel.up (sRel.up sRel.refl hw374 (fun q b g1 g2 => by omega)) hw397 (fun q b g1 g2 => by omega)) hw395 (fun q b g1 g2 => by omega)) hw403 (fun q b g1 g2 => by omega))⟩, hT406, by omega, Or.inr ⟨(by rw [← hw403]; exact (e_up_ne _ _ (Or.inl (by omega))).trans (by rw [← hw395]; exact (e_up_ne _ _ (Or.inr (by omega))).trans (by rw [← hw397]; exact (e_up_ne _ _ (Or.inl (by omega))).trans (by rw [← hw374]; exact (e_up_ne _ _ (Or.inr (by omega))).trans rfl)))), (by rw [← hw403]; exact (e_up_ne _ _ (Or.inr (by omega))).trans (by rw [← hw395]; exact (e_up_ne _ _ (Or.inl (by omega))).trans (by rw [← hw397]; exact (e_up_ne _ _ (Or.inl (by omega))).trans (by rw [← hw374]; exact (e_up_ne _ _ (Or.inl (by omega))).trans rfl)))), by omega, p + 1, runOk.at hrn (by omega) (by rw [← hw403]; exact e_up_eq _ _ _ _) erg, by omega, e_kn.le (e_kn.oth (e_kn.oth (e_kn.put (b' := dl p - 1) (e_kn.oth hst hw374 (by decide)) hw397 (by omega) (by omega)) hw395 (by decide)) hw403 (by decide)) (by omega), by omega, by omega⟩⟩
end
