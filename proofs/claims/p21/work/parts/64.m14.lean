noncomputable section
def mBg (t c k : Int) : Prop := mLv t c k ∨ (c = 275 ∧ k = 99) ∨ (c = 276 ∧ k = 1260 * t + 426)
theorem no_64_0 {t : Int} : ¬ mLv t 275 99 := by unfold mLv; omega
theorem no_64_1 {t : Int} (ht : 0 ≤ t ∧ t ≤ 15) : ¬ mLv t 276 (1260 * t + 426) := by unfold mLv; omega
theorem su_64_2 {t : Int} {c k : Int} (q : mLv t c k) : mBg t c k := Or.inl q
set_option maxHeartbeats 4000000 in
theorem c_368 {d : Nat} (hd : 33 ≤ d) {w : eW} (hT : e_Has mTy w) {t a g : Int} (ht : 0 ≤ t ∧ t ≤ 15) (ha : 0 ≤ a ∧ a ≤ 3) (h96 : w 275 96 = t) (h97 : w 275 97 = 1260 * t + 416) (h98 : w 275 98 = a) {n nt nw : Int} {dl sg pi en : Int → Int} {an br : Int → Int → Prop} {bs ow : Int → Int} (hC : cOk w a n nt nw dl sg pi en an br) {p : Int} (hP : topOk w a t g p n nt nw dl sg pi an br bs ow) (hE : w 276 5 ≤ 2147483000) (hop : w 328 (10000 * a + p) = 30) (h99 : 0 ≤ w 275 99 ∧ w 275 99 ≤ 20) (hW : 0 ≤ w 276 (1260 * t + 424) → w 276 (1260 * t + 425) < w 338 a) : e_Ok 20 elay ecode eI d 368 (0, [(0, (1, 275))], [], w) (fun r' w' => r' = [] ∧ (e_fr (mBg t) w w' ∧ sRel w w') ∧ e_Has mTy w' ∧ (w 276 5 ≤ w' 276 5 ∧ w' 276 5 ≤ w 276 5 + 2) ∧ ((w' 275 100 = 1 ∧ w' 275 99 = w 275 99 ∧ (∀ k, w' 276 k = w 276 k)) ∨ (w' 275 99 = w 275 99 ∧ 0 ≤ w 276 (1260 * t + 424) ∧ w 276 (w 276 (1260 * t + 424) + 352) ≠ w 276 (1260 * t + 426) ∧ w' 276 (1260 * t + 426) = w 276 (w 276 (1260 * t + 424) + 352) ∧ ((w' 275 102 = 0 ∧ ((w' 275 100 = 1 ∧ (w' 276 (1260 * t + 416) = 6 ∨ w' 276 (1260 * t + 416) = 7)) ∨ (w' 275 100 = w 275 100 ∧ w' 276 (1260 * t + 416) = w 276 (1260 * t + 416) ∧ w' 276 5 = w 276 5 ∧ ∃ (g' p' : Int) (bs' ow' : Int → Int), g' ≤ g ∧ (g' = g → p < p') ∧ topOk w' a t g' p' n nt nw dl sg pi an br bs' ow' ∧ dl p' = 0 ∧ sg p' = 0))) ∨ (w' 275 100 = w 275 100 ∧ w' 276 (1260 * t + 416) = w 276 (1260 * t + 416) ∧ w' 276 5 = w 276 5 ∧ g ≤ 18 ∧ ∃ (p' : Int) (bs' ow' : Int → Int), topOk w' a t (g + 1) p' n nt nw dl sg pi an br bs' ow' ∧ dl p' = 0 ∧ sg p' = 0 ∧ w' 275 102 = 0))) ∨ (w 275 99 < 20 ∧ w' 275 99 = w 275 99 + 1 ∧ w' 275 100 = w 275 100 ∧ w' 276 (1260 * t + 416) = w 276 (1260 * t + 416) ∧ w' 276 5 = w 276 5 ∧ w' 275 102 = 0 ∧ topOk w' a t g (p + 1) n nt nw dl sg pi an br bs ow))) := by
  obtain ⟨d, rfl⟩ : ∃ e, d = e + 1 := ⟨d - 1, by omega⟩
  obtain ⟨hpn, hpc, hru⟩ := id hP
  obtain ⟨hg, hF, hlow, hrr, hPn, hch, hpe⟩ := id hru
  have hCn := hC.1
  have hins := hC.2.1 p hpn.1 hpn.2
  have hbg := hlow.2.1 g (by omega) (by omega)
  have hpen := hins.1.2.2.2.1
  have hpib := hC.2.2.2.1.2.1 _ hrr.1 hrr.2
  obtain ⟨hi0, -, -, -, -, -, -, hi7, -, -, -, -, -, -, -, -, -, -, -, -⟩ := id hins
  have k7 := hi7 hop
  refine e_Ok.run (t' := (2, [(0, (1, 275))], [(0, 0), (1, 275)], w)) 2 rfl ?_
  refine e_Ok.putf rfl (el_o rfl) rfl rfl ?_
  generalize hw1 : e_up w 275 102 0 = w1
  have f2 : e_fr (mBg t) w w1 := e_fr.up (e_fr.refl w) hw1 (by unfold mBg mLv; omega)
  have hT3 : e_Has mTy w1 := e_Has.ups hT hw1 rfl
  refine e_Ok.run (t' := (6, [(0, (1, 275))], [(1, 275)], w1)) 1 rfl ?_
  refine e_Ok.getf (z := w 275 99) rfl (el_o rfl) rfl rfl (by rw [← hw1]; exact (e_up_ne _ _ (Or.inr (by omega))).trans rfl) (by omega) ?_
  refine e_Ok.run (t' := (11, [(0, (1, 275))], [(0, 20), (0, w 275 99)], w1)) 1 rfl ?_
  refine e_Ok.if2 rfl (fun h4 => ?_) (fun h4 => ?_)
  · replace h4 : (w 275 99 : Int) ≠ 20 := h4
    refine e_Ok.run (t' := (21, [(0, (1, 275))], [(1, 275)], w1)) 1 rfl ?_
    refine e_Ok.getr (z := 276) rfl (el_o rfl) rfl rfl (by rw [← hw1]; exact (e_up_ne _ _ (Or.inr (by omega))).trans (e_Has.eq hT rfl)) (by omega) ?_
    refine e_Ok.run (t' := (25, [(0, (1, 275))], [(1, 275), (1, 276)], w1)) 1 rfl ?_
    refine e_Ok.getf (z := 1260 * t + 416) rfl (el_o rfl) rfl rfl (by rw [← hw1]; exact (e_up_ne _ _ (Or.inr (by omega))).trans h97) (by omega) ?_
    refine e_Ok.run (t' := (30, [(0, (1, 275))], [(0, 8), (0, 1260 * t + 416), (1, 276)], w1)) 1 rfl ?_
    refine e_Ok.add (z := 1260 * t + 424) rfl (by omega) (by omega) ?_
    have h5 := (e_Has.get hT (c := 276) (k := 1260 * t + 424) (lo := (-1)) (hi := 63) (nR_WATCHED (t := t) (by omega)) (by decide))
    refine e_Ok.ald (z := w 276 (1260 * t + 424)) rfl (el_o rfl) rfl (by omega) (by rw [← hw1]; exact (e_up_ne _ _ (Or.inl (by omega))).trans rfl) (by omega) ?_
    refine e_Ok.run (t' := (34, [(1, (0, w 276 (1260 * t + 424))), (0, (1, 275))], [(0, w 276 (1260 * t + 424))], w1)) 2 rfl ?_
    refine e_Ok.if1 rfl (fun h6 => ?_) (fun h6 => ?_)
    · replace h6 : (w 276 (1260 * t + 424) : Int) < 0 := h6
      refine e_Ok.run (t' := (119, [(1, (0, w 276 (1260 * t + 424))), (0, (1, 275))], [(1, 275), (1, 275)], w1)) 2 rfl ?_
      refine e_Ok.getf (z := w 275 99) rfl (el_o rfl) rfl rfl (by rw [← hw1]; exact (e_up_ne _ _ (Or.inr (by omega))).trans rfl) (by omega) ?_
      refine e_Ok.run (t' := (123, [(1, (0, w 276 (1260 * t + 424))), (0, (1, 275))], [(0, 1), (0, w 275 99), (1, 275)], w1)) 1 rfl ?_
      refine e_Ok.add (z := w 275 99 + 1) rfl (by omega) (by omega) ?_
      refine e_Ok.putf rfl (el_o rfl) rfl rfl ?_
      generalize hw7 : e_up w1 275 99 (w 275 99 + 1) = w7
      have f8 : e_fr (mBg t) w w7 := e_fr.up f2 hw7 (by unfold mBg mLv; omega)
      have hT9 : e_Has mTy w7 := e_Has.ups hT3 hw7 rfl
      refine e_Ok.run (t' := (129, [(1, (0, w 276 (1260 * t + 424))), (0, (1, 275))], [(1, 275), (1, 275)], w7)) 2 rfl ?_
      refine e_Ok.getr (z := 276) rfl (el_o rfl) rfl rfl (by rw [← hw7]; exact (e_up_ne _ _ (Or.inr (by omega))).trans (by rw [← hw1]; exact (e_up_ne _ _ (Or.inr (by omega))).trans (e_Has.eq hT rfl))) (by omega) ?_
      refine e_Ok.run (t' := (133, [(1, (0, w 276 (1260 * t + 424))), (0, (1, 275))], [(1, 275), (1, 276), (1, 275)], w7)) 1 rfl ?_
      refine e_Ok.callV rfl (by omega) rfl rfl rfl rfl (c_362 hT9 (by omega) (by rw [← hw7]; exact (e_up_ne _ _ (Or.inr (by omega))).trans (by rw [← hw1]; exact (e_up_ne _ _ (Or.inr (by omega))).trans h97)) (f := g + 1) (z := 1260 * t + 2 * g + 436) (by rw [← hw7]; exact (e_up_ne _ _ (Or.inl (by omega))).trans (by rw [← hw1]; exact (e_up_ne _ _ (Or.inl (by omega))).trans hF)) (by omega) (by omega)) (fun r10 w11 h12 => ?_)
      obtain ⟨rfl, rfl⟩ := h12
      show e_Ok 20 elay ecode eI (d + 1) 368 (136, [(1, (0, w 276 (1260 * t + 424))), (0, (1, 275))], [(0, 1260 * t + 2 * g + 436), (1, 276), (1, 275)], w7) _
      refine e_Ok.ald (z := p) rfl (el_o rfl) rfl (by omega) (by rw [← hw7]; exact (e_up_ne _ _ (Or.inl (by omega))).trans (by rw [← hw1]; exact (e_up_ne _ _ (Or.inl (by omega))).trans hpc)) (by omega) ?_
      refine e_Ok.run (t' := (138, [(1, (0, w 276 (1260 * t + 424))), (0, (1, 275))], [(0, 1), (0, p), (1, 275)], w7)) 1 rfl ?_
      refine e_Ok.add (z := p + 1) rfl (by omega) (by omega) ?_
      refine e_Ok.callV rfl (by omega) rfl rfl rfl rfl (c_365 (by omega) hT9 (by omega) (by rw [← hw7]; exact (e_up_ne _ _ (Or.inr (by omega))).trans (by rw [← hw1]; exact (e_up_ne _ _ (Or.inr (by omega))).trans h97)) (f := g + 1) (z := 1260 * t + 2 * g + 436) (by rw [← hw7]; exact (e_up_ne _ _ (Or.inl (by omega))).trans (by rw [← hw1]; exact (e_up_ne _ _ (Or.inl (by omega))).trans hF)) (by omega) (by omega)) (fun r13 w14 h15 => ?_)
      obtain ⟨rfl, hw14⟩ := h15
      have f16 : e_fr (mBg t) w w14 := e_fr.up f8 hw14 (by unfold mBg mLv; omega)
      have hT17 : e_Has mTy w14 := e_Has.upr hT9 hw14 (nR_FRg t (g) (by omega) (by omega) (by omega)) (by omega)
      show e_Ok 20 elay ecode eI (d + 1) 368 (142, [(1, (0, w 276 (1260 * t + 424))), (0, (1, 275))], [], w14) _
      refine e_Ok.rets rfl rfl ?_
      have e18 : w14 276 5 = w 276 5 := (by rw [← hw14]; exact (e_up_ne _ _ (Or.inr (by omega))).trans (by rw [← hw7]; exact (e_up_ne _ _ (Or.inl (by omega))).trans (by rw [← hw1]; exact (e_up_ne _ _ (Or.inl (by omega))).trans rfl)))
      have e9 : w14 275 99 = w 275 99 + 1 := (by rw [← hw14]; exact (e_up_ne _ _ (Or.inl (by omega))).trans (by rw [← hw7]; exact e_up_eq _ _ _ _))
      have erg : w14 330 (10000 * a + (p + 1)) = w 330 (10000 * a + p + 1) := by rw [show 10000 * a + (p + 1) = 10000 * a + p + 1 by omega]; exact (by rw [← hw14]; exact (e_up_ne _ _ (Or.inl (by omega))).trans (by rw [← hw7]; exact (e_up_ne _ _ (Or.inl (by omega))).trans (by rw [← hw1]; exact (e_up_ne _ _ (Or.inl (by omega))).trans rfl)))
      have hrn : runOk w14 a t g (w 330 (10000 * a + p + 1)) n nt nw dl sg pi an br bs ow := by
        rcases k7.2.2.2.2 with hx | ⟨z, hz0, hz1, hz2, hz3⟩
        · rw [hx]; exact runOk.fr (w' := w14) (fun c k q1 q2 => (by rw [← hw14]; exact (e_up_ne _ _ (Or.inl (by omega))).trans (by rw [← hw7]; exact (e_up_ne _ _ (Or.inl (by omega))).trans (by rw [← hw1]; exact (e_up_ne _ _ (Or.inl (by omega))).trans rfl)))) (fun i q1 q2 => ⟨(by rw [← hw14]; exact (e_up_ne _ _ (Or.inr (by omega))).trans (by rw [← hw7]; exact (e_up_ne _ _ (Or.inl (by omega))).trans (by rw [← hw1]; exact (e_up_ne _ _ (Or.inl (by omega))).trans rfl))), (by rw [← hw14]; exact (e_up_ne _ _ (Or.inr (by omega))).trans (by rw [← hw7]; exact (e_up_ne _ _ (Or.inl (by omega))).trans (by rw [← hw1]; exact (e_up_ne _ _ (Or.inl (by omega))).trans rfl)))⟩) (by rw [← hw14]; exact (e_up_ne _ _ (Or.inr (by omega))).trans (by rw [← hw7]; exact (e_up_ne _ _ (Or.inl (by omega))).trans (by rw [← hw1]; exact (e_up_ne _ _ (Or.inl (by omega))).trans rfl))) (by rw [← hw14]; exact (e_up_ne _ _ (Or.inr (by omega))).trans (by rw [← hw7]; exact (e_up_ne _ _ (Or.inl (by omega))).trans (by rw [← hw1]; exact (e_up_ne _ _ (Or.inl (by omega))).trans rfl))) (fun k q1 q2 => (by rw [← hw14]; exact (e_up_ne _ _ (Or.inr (by omega))).trans (by rw [← hw7]; exact (e_up_ne _ _ (Or.inl (by omega))).trans (by rw [← hw1]; exact (e_up_ne _ _ (Or.inl (by omega))).trans rfl)))) (by omega) hru
        · have ht3 := hC.2.2.1 z hz0 hz1
          have hz4 := ht3.2.1.1
          rw [hz3] at hz4
          rw [hz2]
          exact runOk.to (w' := w14) (r' := 3 * z) hru (fun c k q1 q2 => (by rw [← hw14]; exact (e_up_ne _ _ (Or.inl (by omega))).trans (by rw [← hw7]; exact (e_up_ne _ _ (Or.inl (by omega))).trans (by rw [← hw1]; exact (e_up_ne _ _ (Or.inl (by omega))).trans rfl)))) (fun i q1 q2 => ⟨(by rw [← hw14]; exact (e_up_ne _ _ (Or.inr (by omega))).trans (by rw [← hw7]; exact (e_up_ne _ _ (Or.inl (by omega))).trans (by rw [← hw1]; exact (e_up_ne _ _ (Or.inl (by omega))).trans rfl))), (by rw [← hw14]; exact (e_up_ne _ _ (Or.inr (by omega))).trans (by rw [← hw7]; exact (e_up_ne _ _ (Or.inl (by omega))).trans (by rw [← hw1]; exact (e_up_ne _ _ (Or.inl (by omega))).trans rfl)))⟩) (by rw [← hw14]; exact (e_up_ne _ _ (Or.inr (by omega))).trans (by rw [← hw7]; exact (e_up_ne _ _ (Or.inl (by omega))).trans (by rw [← hw1]; exact (e_up_ne _ _ (Or.inl (by omega))).trans rfl))) (by have q : w14 276 (1260 * t + 429) = w 276 (1260 * t + 429) := (by rw [← hw14]; exact (e_up_ne _ _ (Or.inr (by omega))).trans (by rw [← hw7]; exact (e_up_ne _ _ (Or.inl (by omega))).trans (by rw [← hw1]; exact (e_up_ne _ _ (Or.inl (by omega))).trans rfl))); rw [q, hPn, hz4]) (fun k q1 q2 => (by rw [← hw14]; exact (e_up_ne _ _ (Or.inr (by omega))).trans (by rw [← hw7]; exact (e_up_ne _ _ (Or.inl (by omega))).trans (by rw [← hw1]; exact (e_up_ne _ _ (Or.inl (by omega))).trans rfl)))) (by omega) (by omega) (by omega) (fun q q1 q2 q3 => by rw [show 3 * z = 3 * z + 0 by omega] at q1; exact (ht3.2.2.2.2.2.1 0 q (by omega) (by omega) q1).elim (fun e => by omega) (fun e => by rw [hz3] at e; exact e))
      exact ⟨rfl, ⟨f16, (sRel.up (sRel.up (sRel.up sRel.refl hw1 (fun q b g1 g2 => by omega)) hw7 (fun q b g1 g2 => by omega)) hw14 (fun q b g1 g2 => by omega))⟩, hT17, by omega, Or.inr (Or.inr ⟨by omega, e9, (by rw [← hw14]; exact (e_up_ne _ _ (Or.inl (by omega))).trans (by rw [← hw7]; exact (e_up_ne _ _ (Or.inr (by omega))).trans (by rw [← hw1]; exact (e_up_ne _ _ (Or.inr (by omega))).trans rfl))), (by rw [← hw14]; exact (e_up_ne _ _ (Or.inr (by omega))).trans (by rw [← hw7]; exact (e_up_ne _ _ (Or.inl (by omega))).trans (by rw [← hw1]; exact (e_up_ne _ _ (Or.inl (by omega))).trans rfl))), by omega, (by rw [← hw14]; exact (e_up_ne _ _ (Or.inl (by omega))).trans (by rw [← hw7]; exact (e_up_ne _ _ (Or.inr (by omega))).trans (by rw [← hw1]; exact e_up_eq _ _ _ _))), runOk.at hrn (by omega) (by rw [← hw14]; exact e_up_eq _ _ _ _) erg⟩)⟩
    · replace h6 : (w 276 (1260 * t + 424) : Int) ≥ 0 := by have q : ¬ ((w 276 (1260 * t + 424) : Int) < 0) := h6; omega
      refine e_Ok.run (t' := (38, [(1, (0, w 276 (1260 * t + 424))), (0, (1, 275))], [(1, 275)], w1)) 1 rfl ?_
      refine e_Ok.getr (z := 276) rfl (el_o rfl) rfl rfl (by rw [← hw1]; exact (e_up_ne _ _ (Or.inr (by omega))).trans (e_Has.eq hT rfl)) (by omega) ?_
      refine e_Ok.run (t' := (42, [(1, (0, w 276 (1260 * t + 424))), (0, (1, 275))], [(1, 275), (1, 276)], w1)) 1 rfl ?_
      refine e_Ok.getf (z := 1260 * t + 416) rfl (el_o rfl) rfl rfl (by rw [← hw1]; exact (e_up_ne _ _ (Or.inr (by omega))).trans h97) (by omega) ?_
      refine e_Ok.run (t' := (47, [(1, (0, w 276 (1260 * t + 424))), (0, (1, 275))], [(0, 14), (0, 1260 * t + 416), (1, 276)], w1)) 1 rfl ?_
      refine e_Ok.add (z := 1260 * t + 430) rfl (by omega) (by omega) ?_
      have h19 := (e_Has.get hT (c := 276) (k := 1260 * t + 430) (lo := (-2147483648)) (hi := 2147483647) (nR_IN_WATCH (t := t) (by omega)) (by decide))
      refine e_Ok.ald (z := w 276 (1260 * t + 430)) rfl (el_o rfl) rfl (by omega) (by rw [← hw1]; exact (e_up_ne _ _ (Or.inl (by omega))).trans rfl) (by omega) ?_
      refine e_Ok.if1 rfl (fun h20 => ?_) (fun h20 => ?_)
      · replace h20 : (w 276 (1260 * t + 430) : Int) ≠ 0 := h20
        refine e_Ok.run (t' := (119, [(1, (0, w 276 (1260 * t + 424))), (0, (1, 275))], [(1, 275), (1, 275)], w1)) 2 rfl ?_
        refine e_Ok.getf (z := w 275 99) rfl (el_o rfl) rfl rfl (by rw [← hw1]; exact (e_up_ne _ _ (Or.inr (by omega))).trans rfl) (by omega) ?_
        refine e_Ok.run (t' := (123, [(1, (0, w 276 (1260 * t + 424))), (0, (1, 275))], [(0, 1), (0, w 275 99), (1, 275)], w1)) 1 rfl ?_
        refine e_Ok.add (z := w 275 99 + 1) rfl (by omega) (by omega) ?_
        refine e_Ok.putf rfl (el_o rfl) rfl rfl ?_
        generalize hw21 : e_up w1 275 99 (w 275 99 + 1) = w21
        have f22 : e_fr (mBg t) w w21 := e_fr.up f2 hw21 (by unfold mBg mLv; omega)
        have hT23 : e_Has mTy w21 := e_Has.ups hT3 hw21 rfl
        refine e_Ok.run (t' := (129, [(1, (0, w 276 (1260 * t + 424))), (0, (1, 275))], [(1, 275), (1, 275)], w21)) 2 rfl ?_
        refine e_Ok.getr (z := 276) rfl (el_o rfl) rfl rfl (by rw [← hw21]; exact (e_up_ne _ _ (Or.inr (by omega))).trans (by rw [← hw1]; exact (e_up_ne _ _ (Or.inr (by omega))).trans (e_Has.eq hT rfl))) (by omega) ?_
        refine e_Ok.run (t' := (133, [(1, (0, w 276 (1260 * t + 424))), (0, (1, 275))], [(1, 275), (1, 276), (1, 275)], w21)) 1 rfl ?_
        refine e_Ok.callV rfl (by omega) rfl rfl rfl rfl (c_362 hT23 (by omega) (by rw [← hw21]; exact (e_up_ne _ _ (Or.inr (by omega))).trans (by rw [← hw1]; exact (e_up_ne _ _ (Or.inr (by omega))).trans h97)) (f := g + 1) (z := 1260 * t + 2 * g + 436) (by rw [← hw21]; exact (e_up_ne _ _ (Or.inl (by omega))).trans (by rw [← hw1]; exact (e_up_ne _ _ (Or.inl (by omega))).trans hF)) (by omega) (by omega)) (fun r24 w25 h26 => ?_)
        obtain ⟨rfl, rfl⟩ := h26
        show e_Ok 20 elay ecode eI (d + 1) 368 (136, [(1, (0, w 276 (1260 * t + 424))), (0, (1, 275))], [(0, 1260 * t + 2 * g + 436), (1, 276), (1, 275)], w21) _
        refine e_Ok.ald (z := p) rfl (el_o rfl) rfl (by omega) (by rw [← hw21]; exact (e_up_ne _ _ (Or.inl (by omega))).trans (by rw [← hw1]; exact (e_up_ne _ _ (Or.inl (by omega))).trans hpc)) (by omega) ?_
        refine e_Ok.run (t' := (138, [(1, (0, w 276 (1260 * t + 424))), (0, (1, 275))], [(0, 1), (0, p), (1, 275)], w21)) 1 rfl ?_
        refine e_Ok.add (z := p + 1) rfl (by omega) (by omega) ?_
        refine e_Ok.callV rfl (by omega) rfl rfl rfl rfl (c_365 (by omega) hT23 (by omega) (by rw [← hw21]; exact (e_up_ne _ _ (Or.inr (by omega))).trans (by rw [← hw1]; exact (e_up_ne _ _ (Or.inr (by omega))).trans h97)) (f := g + 1) (z := 1260 * t + 2 * g + 436) (by rw [← hw21]; exact (e_up_ne _ _ (Or.inl (by omega))).trans (by rw [← hw1]; exact (e_up_ne _ _ (Or.inl (by omega))).trans hF)) (by omega) (by omega)) (fun r27 w28 h29 => ?_)
        obtain ⟨rfl, hw28⟩ := h29
        have f30 : e_fr (mBg t) w w28 := e_fr.up f22 hw28 (by unfold mBg mLv; omega)
        have hT31 : e_Has mTy w28 := e_Has.upr hT23 hw28 (nR_FRg t (g) (by omega) (by omega) (by omega)) (by omega)
        show e_Ok 20 elay ecode eI (d + 1) 368 (142, [(1, (0, w 276 (1260 * t + 424))), (0, (1, 275))], [], w28) _
        refine e_Ok.rets rfl rfl ?_
        have e32 : w28 276 5 = w 276 5 := (by rw [← hw28]; exact (e_up_ne _ _ (Or.inr (by omega))).trans (by rw [← hw21]; exact (e_up_ne _ _ (Or.inl (by omega))).trans (by rw [← hw1]; exact (e_up_ne _ _ (Or.inl (by omega))).trans rfl)))
        have e9 : w28 275 99 = w 275 99 + 1 := (by rw [← hw28]; exact (e_up_ne _ _ (Or.inl (by omega))).trans (by rw [← hw21]; exact e_up_eq _ _ _ _))
        have erg : w28 330 (10000 * a + (p + 1)) = w 330 (10000 * a + p + 1) := by rw [show 10000 * a + (p + 1) = 10000 * a + p + 1 by omega]; exact (by rw [← hw28]; exact (e_up_ne _ _ (Or.inl (by omega))).trans (by rw [← hw21]; exact (e_up_ne _ _ (Or.inl (by omega))).trans (by rw [← hw1]; exact (e_up_ne _ _ (Or.inl (by omega))).trans rfl)))
        have hrn : runOk w28 a t g (w 330 (10000 * a + p + 1)) n nt nw dl sg pi an br bs ow := by
          rcases k7.2.2.2.2 with hx | ⟨z, hz0, hz1, hz2, hz3⟩
          · rw [hx]; exact runOk.fr (w' := w28) (fun c k q1 q2 => (by rw [← hw28]; exact (e_up_ne _ _ (Or.inl (by omega))).trans (by rw [← hw21]; exact (e_up_ne _ _ (Or.inl (by omega))).trans (by rw [← hw1]; exact (e_up_ne _ _ (Or.inl (by omega))).trans rfl)))) (fun i q1 q2 => ⟨(by rw [← hw28]; exact (e_up_ne _ _ (Or.inr (by omega))).trans (by rw [← hw21]; exact (e_up_ne _ _ (Or.inl (by omega))).trans (by rw [← hw1]; exact (e_up_ne _ _ (Or.inl (by omega))).trans rfl))), (by rw [← hw28]; exact (e_up_ne _ _ (Or.inr (by omega))).trans (by rw [← hw21]; exact (e_up_ne _ _ (Or.inl (by omega))).trans (by rw [← hw1]; exact (e_up_ne _ _ (Or.inl (by omega))).trans rfl)))⟩) (by rw [← hw28]; exact (e_up_ne _ _ (Or.inr (by omega))).trans (by rw [← hw21]; exact (e_up_ne _ _ (Or.inl (by omega))).trans (by rw [← hw1]; exact (e_up_ne _ _ (Or.inl (by omega))).trans rfl))) (by rw [← hw28]; exact (e_up_ne _ _ (Or.inr (by omega))).trans (by rw [← hw21]; exact (e_up_ne _ _ (Or.inl (by omega))).trans (by rw [← hw1]; exact (e_up_ne _ _ (Or.inl (by omega))).trans rfl))) (fun k q1 q2 => (by rw [← hw28]; exact (e_up_ne _ _ (Or.inr (by omega))).trans (by rw [← hw21]; exact (e_up_ne _ _ (Or.inl (by omega))).trans (by rw [← hw1]; exact (e_up_ne _ _ (Or.inl (by omega))).trans rfl)))) (by omega) hru
          · have ht3 := hC.2.2.1 z hz0 hz1
            have hz4 := ht3.2.1.1
            rw [hz3] at hz4
            rw [hz2]
            exact runOk.to (w' := w28) (r' := 3 * z) hru (fun c k q1 q2 => (by rw [← hw28]; exact (e_up_ne _ _ (Or.inl (by omega))).trans (by rw [← hw21]; exact (e_up_ne _ _ (Or.inl (by omega))).trans (by rw [← hw1]; exact (e_up_ne _ _ (Or.inl (by omega))).trans rfl)))) (fun i q1 q2 => ⟨(by rw [← hw28]; exact (e_up_ne _ _ (Or.inr (by omega))).trans (by rw [← hw21]; exact (e_up_ne _ _ (Or.inl (by omega))).trans (by rw [← hw1]; exact (e_up_ne _ _ (Or.inl (by omega))).trans rfl))), (by rw [← hw28]; exact (e_up_ne _ _ (Or.inr (by omega))).trans (by rw [← hw21]; exact (e_up_ne _ _ (Or.inl (by omega))).trans (by rw [← hw1]; exact (e_up_ne _ _ (Or.inl (by omega))).trans rfl)))⟩) (by rw [← hw28]; exact (e_up_ne _ _ (Or.inr (by omega))).trans (by rw [← hw21]; exact (e_up_ne _ _ (Or.inl (by omega))).trans (by rw [← hw1]; exact (e_up_ne _ _ (Or.inl (by omega))).trans rfl))) (by have q : w28 276 (1260 * t + 429) = w 276 (1260 * t + 429) := (by rw [← hw28]; exact (e_up_ne _ _ (Or.inr (by omega))).trans (by rw [← hw21]; exact (e_up_ne _ _ (Or.inl (by omega))).trans (by rw [← hw1]; exact (e_up_ne _ _ (Or.inl (by omega))).trans rfl))); rw [q, hPn, hz4]) (fun k q1 q2 => (by rw [← hw28]; exact (e_up_ne _ _ (Or.inr (by omega))).trans (by rw [← hw21]; exact (e_up_ne _ _ (Or.inl (by omega))).trans (by rw [← hw1]; exact (e_up_ne _ _ (Or.inl (by omega))).trans rfl)))) (by omega) (by omega) (by omega) (fun q q1 q2 q3 => by rw [show 3 * z = 3 * z + 0 by omega] at q1; exact (ht3.2.2.2.2.2.1 0 q (by omega) (by omega) q1).elim (fun e => by omega) (fun e => by rw [hz3] at e; exact e))
        exact ⟨rfl, ⟨f30, (sRel.up (sRel.up (sRel.up sRel.refl hw1 (fun q b g1 g2 => by omega)) hw21 (fun q b g1 g2 => by omega)) hw28 (fun q b g1 g2 => by omega))⟩, hT31, by omega, Or.inr (Or.inr ⟨by omega, e9, (by rw [← hw28]; exact (e_up_ne _ _ (Or.inl (by omega))).trans (by rw [← hw21]; exact (e_up_ne _ _ (Or.inr (by omega))).trans (by rw [← hw1]; exact (e_up_ne _ _ (Or.inr (by omega))).trans rfl))), (by rw [← hw28]; exact (e_up_ne _ _ (Or.inr (by omega))).trans (by rw [← hw21]; exact (e_up_ne _ _ (Or.inl (by omega))).trans (by rw [← hw1]; exact (e_up_ne _ _ (Or.inl (by omega))).trans rfl))), by omega, (by rw [← hw28]; exact (e_up_ne _ _ (Or.inl (by omega))).trans (by rw [← hw21]; exact (e_up_ne _ _ (Or.inr (by omega))).trans (by rw [← hw1]; exact e_up_eq _ _ _ _))), runOk.at hrn (by omega) (by rw [← hw28]; exact e_up_eq _ _ _ _) erg⟩)⟩
      · replace h20 : (w 276 (1260 * t + 430) : Int) = 0 := by have q : ¬ ((w 276 (1260 * t + 430) : Int) ≠ 0) := h20; omega
        refine e_Ok.run (t' := (53, [(1, (0, w 276 (1260 * t + 424))), (0, (1, 275))], [(1, 275)], w1)) 1 rfl ?_
        refine e_Ok.getr (z := 276) rfl (el_o rfl) rfl rfl (by rw [← hw1]; exact (e_up_ne _ _ (Or.inr (by omega))).trans (e_Has.eq hT rfl)) (by omega) ?_
        refine e_Ok.run (t' := (60, [(1, (0, w 276 (1260 * t + 424))), (0, (1, 275))], [(0, w 276 (1260 * t + 424)), (0, 352), (1, 276)], w1)) 2 rfl ?_
        refine e_Ok.add (z := w 276 (1260 * t + 424) + 352) rfl (by omega) (by omega) ?_
        have h33 := (e_Has.get hT (c := 276) (k := w 276 (1260 * t + 424) + 352) (lo := (-2147483648)) (hi := 2147483647) (nR_RISES (p := w 276 (1260 * t + 424)) (by omega)) (by decide))
        refine e_Ok.ald (z := w 276 (w 276 (1260 * t + 424) + 352)) rfl rfl rfl (by omega) (by rw [← hw1]; exact (e_up_ne _ _ (Or.inl (by omega))).trans rfl) (by omega) ?_
        refine e_Ok.run (t' := (63, [(1, (0, w 276 (1260 * t + 424))), (0, (1, 275))], [(1, 275), (0, w 276 (w 276 (1260 * t + 424) + 352))], w1)) 1 rfl ?_
        refine e_Ok.getr (z := 276) rfl (el_o rfl) rfl rfl (by rw [← hw1]; exact (e_up_ne _ _ (Or.inr (by omega))).trans (e_Has.eq hT rfl)) (by omega) ?_
        refine e_Ok.run (t' := (67, [(1, (0, w 276 (1260 * t + 424))), (0, (1, 275))], [(1, 275), (1, 276), (0, w 276 (w 276 (1260 * t + 424) + 352))], w1)) 1 rfl ?_
        refine e_Ok.getf (z := 1260 * t + 416) rfl (el_o rfl) rfl rfl (by rw [← hw1]; exact (e_up_ne _ _ (Or.inr (by omega))).trans h97) (by omega) ?_
        refine e_Ok.run (t' := (72, [(1, (0, w 276 (1260 * t + 424))), (0, (1, 275))], [(0, 10), (0, 1260 * t + 416), (1, 276), (0, w 276 (w 276 (1260 * t + 424) + 352))], w1)) 1 rfl ?_
        refine e_Ok.add (z := 1260 * t + 426) rfl (by omega) (by omega) ?_
        have h34 := (e_Has.get hT (c := 276) (k := 1260 * t + 426) (lo := (-2147483648)) (hi := 2147483647) (nR_KEPT (t := t) (by omega)) (by decide))
        refine e_Ok.ald (z := w 276 (1260 * t + 426)) rfl (el_o rfl) rfl (by omega) (by rw [← hw1]; exact (e_up_ne _ _ (Or.inl (by omega))).trans rfl) (by omega) ?_
        refine e_Ok.if2 rfl (fun h35 => ?_) (fun h35 => ?_)
        · replace h35 : (w 276 (w 276 (1260 * t + 424) + 352) : Int) = w 276 (1260 * t + 426) := h35
          refine e_Ok.run (t' := (119, [(1, (0, w 276 (1260 * t + 424))), (0, (1, 275))], [(1, 275), (1, 275)], w1)) 2 rfl ?_
          refine e_Ok.getf (z := w 275 99) rfl (el_o rfl) rfl rfl (by rw [← hw1]; exact (e_up_ne _ _ (Or.inr (by omega))).trans rfl) (by omega) ?_
          refine e_Ok.run (t' := (123, [(1, (0, w 276 (1260 * t + 424))), (0, (1, 275))], [(0, 1), (0, w 275 99), (1, 275)], w1)) 1 rfl ?_
          refine e_Ok.add (z := w 275 99 + 1) rfl (by omega) (by omega) ?_
          refine e_Ok.putf rfl (el_o rfl) rfl rfl ?_
          generalize hw36 : e_up w1 275 99 (w 275 99 + 1) = w36
          have f37 : e_fr (mBg t) w w36 := e_fr.up f2 hw36 (by unfold mBg mLv; omega)
          have hT38 : e_Has mTy w36 := e_Has.ups hT3 hw36 rfl
          refine e_Ok.run (t' := (129, [(1, (0, w 276 (1260 * t + 424))), (0, (1, 275))], [(1, 275), (1, 275)], w36)) 2 rfl ?_
          refine e_Ok.getr (z := 276) rfl (el_o rfl) rfl rfl (by rw [← hw36]; exact (e_up_ne _ _ (Or.inr (by omega))).trans (by rw [← hw1]; exact (e_up_ne _ _ (Or.inr (by omega))).trans (e_Has.eq hT rfl))) (by omega) ?_
          refine e_Ok.run (t' := (133, [(1, (0, w 276 (1260 * t + 424))), (0, (1, 275))], [(1, 275), (1, 276), (1, 275)], w36)) 1 rfl ?_
          refine e_Ok.callV rfl (by omega) rfl rfl rfl rfl (c_362 hT38 (by omega) (by rw [← hw36]; exact (e_up_ne _ _ (Or.inr (by omega))).trans (by rw [← hw1]; exact (e_up_ne _ _ (Or.inr (by omega))).trans h97)) (f := g + 1) (z := 1260 * t + 2 * g + 436) (by rw [← hw36]; exact (e_up_ne _ _ (Or.inl (by omega))).trans (by rw [← hw1]; exact (e_up_ne _ _ (Or.inl (by omega))).trans hF)) (by omega) (by omega)) (fun r39 w40 h41 => ?_)
          obtain ⟨rfl, rfl⟩ := h41
          show e_Ok 20 elay ecode eI (d + 1) 368 (136, [(1, (0, w 276 (1260 * t + 424))), (0, (1, 275))], [(0, 1260 * t + 2 * g + 436), (1, 276), (1, 275)], w36) _
          refine e_Ok.ald (z := p) rfl (el_o rfl) rfl (by omega) (by rw [← hw36]; exact (e_up_ne _ _ (Or.inl (by omega))).trans (by rw [← hw1]; exact (e_up_ne _ _ (Or.inl (by omega))).trans hpc)) (by omega) ?_
          refine e_Ok.run (t' := (138, [(1, (0, w 276 (1260 * t + 424))), (0, (1, 275))], [(0, 1), (0, p), (1, 275)], w36)) 1 rfl ?_
          refine e_Ok.add (z := p + 1) rfl (by omega) (by omega) ?_
          refine e_Ok.callV rfl (by omega) rfl rfl rfl rfl (c_365 (by omega) hT38 (by omega) (by rw [← hw36]; exact (e_up_ne _ _ (Or.inr (by omega))).trans (by rw [← hw1]; exact (e_up_ne _ _ (Or.inr (by omega))).trans h97)) (f := g + 1) (z := 1260 * t + 2 * g + 436) (by rw [← hw36]; exact (e_up_ne _ _ (Or.inl (by omega))).trans (by rw [← hw1]; exact (e_up_ne _ _ (Or.inl (by omega))).trans hF)) (by omega) (by omega)) (fun r42 w43 h44 => ?_)
          obtain ⟨rfl, hw43⟩ := h44
          have f45 : e_fr (mBg t) w w43 := e_fr.up f37 hw43 (by unfold mBg mLv; omega)
          have hT46 : e_Has mTy w43 := e_Has.upr hT38 hw43 (nR_FRg t (g) (by omega) (by omega) (by omega)) (by omega)
          show e_Ok 20 elay ecode eI (d + 1) 368 (142, [(1, (0, w 276 (1260 * t + 424))), (0, (1, 275))], [], w43) _
          refine e_Ok.rets rfl rfl ?_
          have e47 : w43 276 5 = w 276 5 := (by rw [← hw43]; exact (e_up_ne _ _ (Or.inr (by omega))).trans (by rw [← hw36]; exact (e_up_ne _ _ (Or.inl (by omega))).trans (by rw [← hw1]; exact (e_up_ne _ _ (Or.inl (by omega))).trans rfl)))
          have e9 : w43 275 99 = w 275 99 + 1 := (by rw [← hw43]; exact (e_up_ne _ _ (Or.inl (by omega))).trans (by rw [← hw36]; exact e_up_eq _ _ _ _))
          have erg : w43 330 (10000 * a + (p + 1)) = w 330 (10000 * a + p + 1) := by rw [show 10000 * a + (p + 1) = 10000 * a + p + 1 by omega]; exact (by rw [← hw43]; exact (e_up_ne _ _ (Or.inl (by omega))).trans (by rw [← hw36]; exact (e_up_ne _ _ (Or.inl (by omega))).trans (by rw [← hw1]; exact (e_up_ne _ _ (Or.inl (by omega))).trans rfl)))
          have hrn : runOk w43 a t g (w 330 (10000 * a + p + 1)) n nt nw dl sg pi an br bs ow := by
            rcases k7.2.2.2.2 with hx | ⟨z, hz0, hz1, hz2, hz3⟩
            · rw [hx]; exact runOk.fr (w' := w43) (fun c k q1 q2 => (by rw [← hw43]; exact (e_up_ne _ _ (Or.inl (by omega))).trans (by rw [← hw36]; exact (e_up_ne _ _ (Or.inl (by omega))).trans (by rw [← hw1]; exact (e_up_ne _ _ (Or.inl (by omega))).trans rfl)))) (fun i q1 q2 => ⟨(by rw [← hw43]; exact (e_up_ne _ _ (Or.inr (by omega))).trans (by rw [← hw36]; exact (e_up_ne _ _ (Or.inl (by omega))).trans (by rw [← hw1]; exact (e_up_ne _ _ (Or.inl (by omega))).trans rfl))), (by rw [← hw43]; exact (e_up_ne _ _ (Or.inr (by omega))).trans (by rw [← hw36]; exact (e_up_ne _ _ (Or.inl (by omega))).trans (by rw [← hw1]; exact (e_up_ne _ _ (Or.inl (by omega))).trans rfl)))⟩) (by rw [← hw43]; exact (e_up_ne _ _ (Or.inr (by omega))).trans (by rw [← hw36]; exact (e_up_ne _ _ (Or.inl (by omega))).trans (by rw [← hw1]; exact (e_up_ne _ _ (Or.inl (by omega))).trans rfl))) (by rw [← hw43]; exact (e_up_ne _ _ (Or.inr (by omega))).trans (by rw [← hw36]; exact (e_up_ne _ _ (Or.inl (by omega))).trans (by rw [← hw1]; exact (e_up_ne _ _ (Or.inl (by omega))).trans rfl))) (fun k q1 q2 => (by rw [← hw43]; exact (e_up_ne _ _ (Or.inr (by omega))).trans (by rw [← hw36]; exact (e_up_ne _ _ (Or.inl (by omega))).trans (by rw [← hw1]; exact (e_up_ne _ _ (Or.inl (by omega))).trans rfl)))) (by omega) hru
            · have ht3 := hC.2.2.1 z hz0 hz1
              have hz4 := ht3.2.1.1
              rw [hz3] at hz4
              rw [hz2]
              exact runOk.to (w' := w43) (r' := 3 * z) hru (fun c k q1 q2 => (by rw [← hw43]; exact (e_up_ne _ _ (Or.inl (by omega))).trans (by rw [← hw36]; exact (e_up_ne _ _ (Or.inl (by omega))).trans (by rw [← hw1]; exact (e_up_ne _ _ (Or.inl (by omega))).trans rfl)))) (fun i q1 q2 => ⟨(by rw [← hw43]; exact (e_up_ne _ _ (Or.inr (by omega))).trans (by rw [← hw36]; exact (e_up_ne _ _ (Or.inl (by omega))).trans (by rw [← hw1]; exact (e_up_ne _ _ (Or.inl (by omega))).trans rfl))), (by rw [← hw43]; exact (e_up_ne _ _ (Or.inr (by omega))).trans (by rw [← hw36]; exact (e_up_ne _ _ (Or.inl (by omega))).trans (by rw [← hw1]; exact (e_up_ne _ _ (Or.inl (by omega))).trans rfl)))⟩) (by rw [← hw43]; exact (e_up_ne _ _ (Or.inr (by omega))).trans (by rw [← hw36]; exact (e_up_ne _ _ (Or.inl (by omega))).trans (by rw [← hw1]; exact (e_up_ne _ _ (Or.inl (by omega))).trans rfl))) (by have q : w43 276 (1260 * t + 429) = w 276 (1260 * t + 429) := (by rw [← hw43]; exact (e_up_ne _ _ (Or.inr (by omega))).trans (by rw [← hw36]; exact (e_up_ne _ _ (Or.inl (by omega))).trans (by rw [← hw1]; exact (e_up_ne _ _ (Or.inl (by omega))).trans rfl))); rw [q, hPn, hz4]) (fun k q1 q2 => (by rw [← hw43]; exact (e_up_ne _ _ (Or.inr (by omega))).trans (by rw [← hw36]; exact (e_up_ne _ _ (Or.inl (by omega))).trans (by rw [← hw1]; exact (e_up_ne _ _ (Or.inl (by omega))).trans rfl)))) (by omega) (by omega) (by omega) (fun q q1 q2 q3 => by rw [show 3 * z = 3 * z + 0 by omega] at q1; exact (ht3.2.2.2.2.2.1 0 q (by omega) (by omega) q1).elim (fun e => by omega) (fun e => by rw [hz3] at e; exact e))
          exact ⟨rfl, ⟨f45, (sRel.up (sRel.up (sRel.up sRel.refl hw1 (fun q b g1 g2 => by omega)) hw36 (fun q b g1 g2 => by omega)) hw43 (fun q b g1 g2 => by omega))⟩, hT46, by omega, Or.inr (Or.inr ⟨by omega, e9, (by rw [← hw43]; exact (e_up_ne _ _ (Or.inl (by omega))).trans (by rw [← hw36]; exact (e_up_ne _ _ (Or.inr (by omega))).trans (by rw [← hw1]; exact (e_up_ne _ _ (Or.inr (by omega))).trans rfl))), (by rw [← hw43]; exact (e_up_ne _ _ (Or.inr (by omega))).trans (by rw [← hw36]; exact (e_up_ne _ _ (Or.inl (by omega))).trans (by rw [← hw1]; exact (e_up_ne _ _ (Or.inl (by omega))).trans rfl))), by omega, (by rw [← hw43]; exact (e_up_ne _ _ (Or.inl (by omega))).trans (by rw [← hw36]; exact (e_up_ne _ _ (Or.inr (by omega))).trans (by rw [← hw1]; exact e_up_eq _ _ _ _))), runOk.at hrn (by omega) (by rw [← hw43]; exact e_up_eq _ _ _ _) erg⟩)⟩
        · replace h35 : (w 276 (w 276 (1260 * t + 424) + 352) : Int) ≠ w 276 (1260 * t + 426) := by have q : ¬ ((w 276 (w 276 (1260 * t + 424) + 352) : Int) = w 276 (1260 * t + 426)) := h35; omega
          refine e_Ok.run (t' := (78, [(1, (0, w 276 (1260 * t + 424))), (0, (1, 275))], [(1, 275)], w1)) 1 rfl ?_
          refine e_Ok.getr (z := 276) rfl (el_o rfl) rfl rfl (by rw [← hw1]; exact (e_up_ne _ _ (Or.inr (by omega))).trans (e_Has.eq hT rfl)) (by omega) ?_
          refine e_Ok.run (t' := (82, [(1, (0, w 276 (1260 * t + 424))), (0, (1, 275))], [(1, 275), (1, 276)], w1)) 1 rfl ?_
          refine e_Ok.getf (z := 1260 * t + 416) rfl (el_o rfl) rfl rfl (by rw [← hw1]; exact (e_up_ne _ _ (Or.inr (by omega))).trans h97) (by omega) ?_
          refine e_Ok.run (t' := (87, [(1, (0, w 276 (1260 * t + 424))), (0, (1, 275))], [(0, 10), (0, 1260 * t + 416), (1, 276)], w1)) 1 rfl ?_
          refine e_Ok.add (z := 1260 * t + 426) rfl (by omega) (by omega) ?_
          refine e_Ok.run (t' := (89, [(1, (0, w 276 (1260 * t + 424))), (0, (1, 275))], [(1, 275), (0, 1260 * t + 426), (1, 276)], w1)) 1 rfl ?_
          refine e_Ok.getr (z := 276) rfl (el_o rfl) rfl rfl (by rw [← hw1]; exact (e_up_ne _ _ (Or.inr (by omega))).trans (e_Has.eq hT rfl)) (by omega) ?_
          refine e_Ok.run (t' := (96, [(1, (0, w 276 (1260 * t + 424))), (0, (1, 275))], [(0, w 276 (1260 * t + 424)), (0, 352), (1, 276), (0, 1260 * t + 426), (1, 276)], w1)) 2 rfl ?_
          refine e_Ok.add (z := w 276 (1260 * t + 424) + 352) rfl (by omega) (by omega) ?_
          refine e_Ok.ald (z := w 276 (w 276 (1260 * t + 424) + 352)) rfl rfl rfl (by omega) (by rw [← hw1]; exact (e_up_ne _ _ (Or.inl (by omega))).trans rfl) (by omega) ?_
          refine e_Ok.ast rfl (el_o rfl) rfl rfl (by omega) ?_
          generalize hw48 : e_up w1 276 (1260 * t + 426) (w 276 (w 276 (1260 * t + 424) + 352)) = w48
          have f49 : e_fr (mBg t) w w48 := e_fr.up f2 hw48 (by unfold mBg mLv; omega)
          have hT50 : e_Has mTy w48 := e_Has.upr hT3 hw48 (nR_KEPT (t := t) (by omega)) (by omega)
          refine e_Ok.run (t' := (101, [(1, (0, w 276 (1260 * t + 424))), (0, (1, 275))], [(1, 275), (1, 275)], w48)) 2 rfl ?_
          refine e_Ok.getr (z := 276) rfl (el_o rfl) rfl rfl (by rw [← hw48]; exact (e_up_ne _ _ (Or.inl (by omega))).trans (by rw [← hw1]; exact (e_up_ne _ _ (Or.inr (by omega))).trans (e_Has.eq hT rfl))) (by omega) ?_
          refine e_Ok.run (t' := (105, [(1, (0, w 276 (1260 * t + 424))), (0, (1, 275))], [(1, 275), (1, 276), (1, 275)], w48)) 1 rfl ?_
          refine e_Ok.getf (z := 1260 * t + 416) rfl (el_o rfl) rfl rfl (by rw [← hw48]; exact (e_up_ne _ _ (Or.inl (by omega))).trans (by rw [← hw1]; exact (e_up_ne _ _ (Or.inr (by omega))).trans h97)) (by omega) ?_
          refine e_Ok.run (t' := (110, [(1, (0, w 276 (1260 * t + 424))), (0, (1, 275))], [(0, 9), (0, 1260 * t + 416), (1, 276), (1, 275)], w48)) 1 rfl ?_
          refine e_Ok.add (z := 1260 * t + 425) rfl (by omega) (by omega) ?_
          have h51 := (e_Has.get hT (c := 276) (k := 1260 * t + 425) (lo := 0) (hi := 31) (nR_WATCHER (t := t) (by omega)) (by decide))
          refine e_Ok.ald (z := w 276 (1260 * t + 425)) rfl (el_o rfl) rfl (by omega) (by rw [← hw48]; exact (e_up_ne _ _ (Or.inr (by omega))).trans (by rw [← hw1]; exact (e_up_ne _ _ (Or.inl (by omega))).trans rfl)) (by omega) ?_
          refine e_Ok.run (t' := (113, [(1, (0, w 276 (1260 * t + 424))), (0, (1, 275))], [(0, 1), (0, w 276 (1260 * t + 425)), (1, 275)], w48)) 1 rfl ?_
          have e55 : w48 276 5 = w 276 5 := (by rw [← hw48]; exact (e_up_ne _ _ (Or.inr (by omega))).trans (by rw [← hw1]; exact (e_up_ne _ _ (Or.inl (by omega))).trans rfl))
          have hkept0 : w48 276 (1260 * t + 426) = w 276 (w 276 (1260 * t + 424) + 352) := (by rw [← hw48]; exact e_up_eq _ _ _ _)
          refine e_Ok.callV rfl (by omega) rfl rfl rfl rfl (c_367 (by omega) hT50 (by omega) (by omega) (by rw [← hw48]; exact (e_up_ne _ _ (Or.inl (by omega))).trans (by rw [← hw1]; exact (e_up_ne _ _ (Or.inr (by omega))).trans h96)) (by rw [← hw48]; exact (e_up_ne _ _ (Or.inl (by omega))).trans (by rw [← hw1]; exact (e_up_ne _ _ (Or.inr (by omega))).trans h97)) (by rw [← hw48]; exact (e_up_ne _ _ (Or.inl (by omega))).trans (by rw [← hw1]; exact (e_up_ne _ _ (Or.inr (by omega))).trans h98)) (cOk.fr (fun c k q1 q2 => (by rw [← hw48]; exact (e_up_ne _ _ (Or.inl (by omega))).trans (by rw [← hw1]; exact (e_up_ne _ _ (Or.inl (by omega))).trans rfl))) hC) (runOk.at (runOk.fr (w' := w48) (fun c k q1 q2 => (by rw [← hw48]; exact (e_up_ne _ _ (Or.inl (by omega))).trans (by rw [← hw1]; exact (e_up_ne _ _ (Or.inl (by omega))).trans rfl))) (fun i q1 q2 => ⟨(by rw [← hw48]; exact (e_up_ne _ _ (Or.inr (by omega))).trans (by rw [← hw1]; exact (e_up_ne _ _ (Or.inl (by omega))).trans rfl)), (by rw [← hw48]; exact (e_up_ne _ _ (Or.inr (by omega))).trans (by rw [← hw1]; exact (e_up_ne _ _ (Or.inl (by omega))).trans rfl))⟩) (by rw [← hw48]; exact (e_up_ne _ _ (Or.inr (by omega))).trans (by rw [← hw1]; exact (e_up_ne _ _ (Or.inl (by omega))).trans rfl)) (by rw [← hw48]; exact (e_up_ne _ _ (Or.inr (by omega))).trans (by rw [← hw1]; exact (e_up_ne _ _ (Or.inl (by omega))).trans rfl)) (fun k q1 q2 => (by rw [← hw48]; exact (e_up_ne _ _ (Or.inr (by omega))).trans (by rw [← hw1]; exact (e_up_ne _ _ (Or.inl (by omega))).trans rfl))) (by omega) hru) (by omega) (by rw [← hw48]; exact (e_up_ne _ _ (Or.inr (by omega))).trans (by rw [← hw1]; exact (e_up_ne _ _ (Or.inl (by omega))).trans hpc)) (by rw [← hw48]; exact (e_up_ne _ _ (Or.inl (by omega))).trans (by rw [← hw1]; exact (e_up_ne _ _ (Or.inl (by omega))).trans rfl))) (by omega) ⟨by omega, by have := hW (by omega); have q : w48 338 a = w 338 a := (by rw [← hw48]; exact (e_up_ne _ _ (Or.inl (by omega))).trans (by rw [← hw1]; exact (e_up_ne _ _ (Or.inl (by omega))).trans rfl)); omega⟩ (by omega) (fun e => by omega) (fun _ => ⟨k7.1, k7.2.1⟩)) (fun r52 w53 h54 => ?_)
          obtain ⟨rfl, ⟨q56, q56S⟩, q56T, q56n, q56c⟩ := h54
          have f57 : e_fr (mBg t) w w53 := e_fr.trans f49 (e_fr.mono q56 (fun c k q => by first | exact su_64_2 q | (unfold mLv at q; unfold mBg mLv; omega)))
          show e_Ok 20 elay ecode eI (d + 1) 368 (116, [(1, (0, w 276 (1260 * t + 424))), (0, (1, 275))], [], w53) _
          refine e_Ok.rets rfl rfl ?_
          have e58 : w53 276 5 = w53 276 5 := rfl
          exact ⟨rfl, ⟨f57, (sRel.trans (sRel.up (sRel.up sRel.refl hw1 (fun q b g1 g2 => by omega)) hw48 (fun q b g1 g2 => by omega)) q56S)⟩, q56T, by omega, Or.inr (Or.inl ⟨((q56 275 99 (by first | exact no_64_0 | (unfold mLv; omega))).trans (by rw [← hw48]; exact (e_up_ne _ _ (Or.inl (by omega))).trans (by rw [← hw1]; exact (e_up_ne _ _ (Or.inr (by omega))).trans rfl))), by omega, by omega, ((q56 276 (1260 * t + 426) (by first | exact no_64_1 (by omega) | (unfold mLv; omega))).trans (by rw [← hw48]; exact e_up_eq _ _ _ _)), q56c.elim (fun h => Or.inl ⟨h.1, h.2.imp id (fun k => ⟨k.1.trans (by rw [← hw48]; exact (e_up_ne _ _ (Or.inl (by omega))).trans (by rw [← hw1]; exact (e_up_ne _ _ (Or.inr (by omega))).trans rfl)), k.2.1.trans (by rw [← hw48]; exact (e_up_ne _ _ (Or.inr (by omega))).trans (by rw [← hw1]; exact (e_up_ne _ _ (Or.inl (by omega))).trans rfl)), k.2.2.1.trans (by rw [← hw48]; exact (e_up_ne _ _ (Or.inr (by omega))).trans (by rw [← hw1]; exact (e_up_ne _ _ (Or.inl (by omega))).trans rfl)), k.2.2.2⟩)⟩) (fun h => Or.inr ⟨h.2.1.trans (by rw [← hw48]; exact (e_up_ne _ _ (Or.inl (by omega))).trans (by rw [← hw1]; exact (e_up_ne _ _ (Or.inr (by omega))).trans rfl)), h.2.2.1.trans (by rw [← hw48]; exact (e_up_ne _ _ (Or.inr (by omega))).trans (by rw [← hw1]; exact (e_up_ne _ _ (Or.inl (by omega))).trans rfl)), h.2.2.2.1.trans (by rw [← hw48]; exact (e_up_ne _ _ (Or.inr (by omega))).trans (by rw [← hw1]; exact (e_up_ne _ _ (Or.inl (by omega))).trans rfl)), h.2.2.2.2.1, by obtain ⟨p2, b2, o2, k1, k2, k3⟩ := h.2.2.2.2.2; exact ⟨p2, b2, o2, k1, k2, k3, h.1.trans (by rw [← hw48]; exact (e_up_ne _ _ (Or.inl (by omega))).trans (by rw [← hw1]; exact e_up_eq _ _ _ _))⟩⟩)⟩)⟩
  · replace h4 : (w 275 99 : Int) = 20 := by have q : ¬ ((w 275 99 : Int) ≠ 20) := h4; omega
    refine e_Ok.run (t' := (16, [(0, (1, 275))], [(0, 1), (1, 275)], w1)) 2 rfl ?_
    refine e_Ok.putb rfl (el_o rfl) rfl rfl (by omega) ?_
    generalize hw59 : e_up w1 275 100 1 = w59
    have f60 : e_fr (mBg t) w w59 := e_fr.up f2 hw59 (by unfold mBg mLv; omega)
    have hT61 : e_Has mTy w59 := e_Has.ups hT3 hw59 rfl
    refine e_Ok.rets rfl rfl ?_
    have e62 : w59 276 5 = w 276 5 := (by rw [← hw59]; exact (e_up_ne _ _ (Or.inl (by omega))).trans (by rw [← hw1]; exact (e_up_ne _ _ (Or.inl (by omega))).trans rfl))
    exact ⟨rfl, ⟨f60, (sRel.up (sRel.up sRel.refl hw1 (fun q b g1 g2 => by omega)) hw59 (fun q b g1 g2 => by omega))⟩, hT61, by omega, Or.inl ⟨(by rw [← hw59]; exact e_up_eq _ _ _ _), (by rw [← hw59]; exact (e_up_ne _ _ (Or.inr (by omega))).trans (by rw [← hw1]; exact (e_up_ne _ _ (Or.inr (by omega))).trans rfl)), fun k => (by rw [← hw59]; exact (e_up_ne _ _ (Or.inl (by omega))).trans (by rw [← hw1]; exact (e_up_ne _ _ (Or.inl (by omega))).trans rfl))⟩⟩
end
