noncomputable section
set_option maxHeartbeats 4000000 in
theorem c_374_d {d : Nat} (hd : 33 ≤ d) {w : eW} (hT : e_Has mTy w) (hA : mAc w) {t a g : Int} (ht : 0 ≤ t ∧ t ≤ 15) (ha : 0 ≤ a ∧ a ≤ 3) (h96 : w 275 96 = t) (h97 : w 275 97 = 1260 * t + 416) (h98 : w 275 98 = a) {n nt nw : Int} {dl sg pi en : Int → Int} {an br : Int → Int → Prop} {bs ow : Int → Int} (hC : cOk w a n nt nw dl sg pi en an br) {p : Int} (hP : topOk w a t g p n nt nw dl sg pi an br bs ow) (hE : w 276 5 ≤ 2147483000) (h102 : w 275 102 = dl p) (hst : e_kn w 345 0 (dl p - 1)) (hop : w 328 (10000 * a + p) < 30) (hsel : 7 ≤ w 328 (10000 * a + p) ∧ w 328 (10000 * a + p) ≤ 9) : e_Ok 20 elay ecode eI d 374 (0, [(0, (1, 275)), (1, (0, w 328 (10000 * a + p))), (2, (0, w 329 (10000 * a + p))), (3, (0, p))], [], w) (fun r' w' => r' = [] ∧ (e_fr (mRk t) w w' ∧ sRel w w') ∧ e_Has mTy w' ∧ (w 276 5 ≤ w' 276 5 ∧ w' 276 5 ≤ w 276 5 + 2) ∧ ((w' 275 102 = 0 ∧ ((w' 275 100 = 1 ∧ (w' 276 (1260 * t + 416) = 6 ∨ w' 276 (1260 * t + 416) = 7)) ∨ (w' 275 100 = w 275 100 ∧ w' 276 (1260 * t + 416) = w 276 (1260 * t + 416) ∧ w' 276 5 = w 276 5 ∧ ∃ (g' p' : Int) (bs' ow' : Int → Int), g' ≤ g ∧ (g' = g → p < p') ∧ topOk w' a t g' p' n nt nw dl sg pi an br bs' ow' ∧ dl p' = 0 ∧ sg p' = 0))) ∨ (w' 275 100 = w 275 100 ∧ w' 276 (1260 * t + 416) = w 276 (1260 * t + 416) ∧ w' 276 5 = w 276 5 ∧ ∃ p', topOk w' a t g p' n nt nw dl sg pi an br bs ow ∧ w' 275 102 = dl p' ∧ e_kn w' 345 0 (dl p' - 1) ∧ sg p' = 1 ∧ p < p'))) := by
  obtain ⟨d, rfl⟩ : ∃ e, d = e + 1 := ⟨d - 1, by omega⟩
  obtain ⟨hpn, hpc, hru⟩ := id hP
  obtain ⟨hg, hF, hlow, hrr, hPn, hch, hpe⟩ := id hru
  have hCn := hC.1
  have hins := hC.2.1 p hpn.1 hpn.2
  have hbg := hlow.2.1 g (by omega) (by omega)
  have hpen := hins.1.2.2.2.1
  have hpib := hC.2.2.2.1.2.1 _ hrr.1 hrr.2
  obtain ⟨hi0, hi1, hi2, hi3, hi4, hi5, hi6, -⟩ := id hins
  replace hi1 := (show Hd63 _ from hi1)
  replace hi2 := (show Hd63 _ from hi2)
  replace hi3 := (show Hd63 _ from hi3)
  replace hi4 := (show Hd63 _ from hi4)
  replace hi5 := (show Hd63 _ from hi5)
  replace hi6 := (show Hd63 _ from hi6)
  replace hins := (show Hd63 _ from hins)
  have hop24 : 1 ≤ w 328 (10000 * a + p) ∧ w 328 (10000 * a + p) ≤ 24 := ⟨hi0.1.1, hi0.1.2.2.resolve_right (Int.not_le.mpr hop)⟩
  have har := e_Has.get hT (c := 329) (k := 10000 * a + p) (lo := -2147483648) (hi := 2147483647) rfl (by decide)
  refine e_Ok.run (t' := (2, [(0, (1, 275)), (1, (0, w 328 (10000 * a + p))), (2, (0, w 329 (10000 * a + p))), (3, (0, p))], [(0, 1), (0, p)], w)) 2 rfl ?_
  refine e_Ok.add (z := p + 1) rfl (by omega) (by omega) ?_
  refine e_Ok.run (t' := (6, [(4, (0, p + 1)), (0, (1, 275)), (1, (0, w 328 (10000 * a + p))), (2, (0, w 329 (10000 * a + p))), (3, (0, p))], [(0, w 328 (10000 * a + p))], w)) 2 rfl ?_
  have hs2 : ∀ x : Int, 1 ≤ x ∧ x ≤ 24 → (x = 1) ∨ (x = 2) ∨ (x = 3) ∨ (x = 4) ∨ (x = 5) ∨ (x = 6) ∨ (x = 7) ∨ (x = 8) ∨ (x = 9) ∨ (x = 10 ∨ x = 11 ∨ x = 12 ∨ x = 13 ∨ x = 14 ∨ x = 15 ∨ x = 16 ∨ x = 17 ∨ x = 18 ∨ x = 19 ∨ x = 20) ∨ (x = 21) ∨ (x = 22) ∨ (x = 23) ∨ (x = 24) := fun x h => by omega
  obtain h1 | h1 | h1 | h1 | h1 | h1 | h1 | h1 | h1 | h1 | h1 | h1 | h1 | h1 := hs2 (w 328 (10000 * a + p)) (hop24)
  · exfalso; omega
  · exfalso; omega
  · exfalso; omega
  · exfalso; omega
  · exfalso; omega
  · exfalso; omega
  · refine e_Ok.sw (tg := 268) rfl (by rw [h1]; rfl) ?_
    have k1 := hi1.out (by omega)
    unfold iFT at k1
    have k2 := hi2.out (by omega)
    refine e_Ok.run (t' := (270, [(4, (0, p + 1)), (0, (1, 275)), (1, (0, w 328 (10000 * a + p))), (2, (0, w 329 (10000 * a + p))), (3, (0, p))], [(1, 275), (1, 275)], w)) 2 rfl ?_
    refine e_Ok.getr (z := 276) rfl (el_o rfl) rfl rfl (e_Has.eq hT rfl) (by omega) ?_
    refine e_Ok.run (t' := (274, [(4, (0, p + 1)), (0, (1, 275)), (1, (0, w 328 (10000 * a + p))), (2, (0, w 329 (10000 * a + p))), (3, (0, p))], [(0, 1), (1, 276), (1, 275)], w)) 1 rfl ?_
    have h140 := (e_Has.get hT (c := 276) (k := 1) (lo := 0) (hi := 1) rfl (by decide))
    refine e_Ok.ald (z := w 276 1) rfl (el_o rfl) rfl (by omega) rfl (by omega) ?_
    refine e_Ok.callV rfl (by omega) rfl rfl rfl rfl (c_363 hT (e := dl p) (e1 := dl p + 1) h102 (by omega) (by omega)) (fun r141 w142 h143 => ?_)
    obtain ⟨rfl, hw142⟩ := h143
    generalize hw144 : e_up w 345 (dl p) (w 276 1) = w144 at hw142
    have f145 : e_fr (mRk t) w w144 := e_fr.up (e_fr.refl w) hw144 (by unfold mRk mLv; omega)
    have hT146 : e_Has mTy w144 := e_Has.ups hT hw144 rfl
    have f147 : e_fr (mRk t) w w142 := e_fr.up f145 hw142 (by unfold mRk mLv; omega)
    have hT148 : e_Has mTy w142 := e_Has.ups hT146 hw142 rfl
    show e_Ok 20 elay ecode eI (d + 1) 374 (278, [(4, (0, p + 1)), (0, (1, 275)), (1, (0, w 328 (10000 * a + p))), (2, (0, w 329 (10000 * a + p))), (3, (0, p))], [], w142) _
    refine e_Ok.run (t' := (460, [(4, (0, p + 1)), (0, (1, 275)), (1, (0, w 328 (10000 * a + p))), (2, (0, w 329 (10000 * a + p))), (3, (0, p))], [(0, p + 1), (1, 275)], w142)) 3 rfl ?_
    refine e_Ok.callV rfl (by omega) rfl rfl rfl rfl (c_365 (by omega) hT148 (by omega) (by rw [← hw142]; exact (e_up_ne _ _ (Or.inr (by omega))).trans (by rw [← hw144]; exact (e_up_ne _ _ (Or.inl (by omega))).trans h97)) (f := g + 1) (z := 1260 * t + 2 * g + 436) (by rw [← hw142]; exact (e_up_ne _ _ (Or.inl (by omega))).trans (by rw [← hw144]; exact (e_up_ne _ _ (Or.inl (by omega))).trans hF)) (by omega) (by omega)) (fun r149 w150 h151 => ?_)
    obtain ⟨rfl, hw150⟩ := h151
    have f152 : e_fr (mRk t) w w150 := e_fr.up f147 hw150 (by unfold mRk mLv; omega)
    have hT153 : e_Has mTy w150 := e_Has.upr hT148 hw150 (nR_FRg t (g) (by omega) (by omega) (by omega)) (by omega)
    show e_Ok 20 elay ecode eI (d + 1) 374 (463, [(4, (0, p + 1)), (0, (1, 275)), (1, (0, w 328 (10000 * a + p))), (2, (0, w 329 (10000 * a + p))), (3, (0, p))], [], w150) _
    refine e_Ok.rets rfl rfl ?_
    have e154 : w150 276 5 = w 276 5 := (by rw [← hw150]; exact (e_up_ne _ _ (Or.inr (by omega))).trans (by rw [← hw142]; exact (e_up_ne _ _ (Or.inl (by omega))).trans (by rw [← hw144]; exact (e_up_ne _ _ (Or.inl (by omega))).trans rfl)))
    have hrn := runOk.fr (w' := w150) (fun c k q1 q2 => (by rw [← hw150]; exact (e_up_ne _ _ (Or.inl (by omega))).trans (by rw [← hw142]; exact (e_up_ne _ _ (Or.inl (by omega))).trans (by rw [← hw144]; exact (e_up_ne _ _ (Or.inl (by omega))).trans rfl)))) (fun i q1 q2 => ⟨(by rw [← hw150]; exact (e_up_ne _ _ (Or.inr (by omega))).trans (by rw [← hw142]; exact (e_up_ne _ _ (Or.inl (by omega))).trans (by rw [← hw144]; exact (e_up_ne _ _ (Or.inl (by omega))).trans rfl))), (by rw [← hw150]; exact (e_up_ne _ _ (Or.inr (by omega))).trans (by rw [← hw142]; exact (e_up_ne _ _ (Or.inl (by omega))).trans (by rw [← hw144]; exact (e_up_ne _ _ (Or.inl (by omega))).trans rfl)))⟩) (by rw [← hw150]; exact (e_up_ne _ _ (Or.inr (by omega))).trans (by rw [← hw142]; exact (e_up_ne _ _ (Or.inl (by omega))).trans (by rw [← hw144]; exact (e_up_ne _ _ (Or.inl (by omega))).trans rfl))) (by rw [← hw150]; exact (e_up_ne _ _ (Or.inr (by omega))).trans (by rw [← hw142]; exact (e_up_ne _ _ (Or.inl (by omega))).trans (by rw [← hw144]; exact (e_up_ne _ _ (Or.inl (by omega))).trans rfl))) (fun k q1 q2 => (by rw [← hw150]; exact (e_up_ne _ _ (Or.inr (by omega))).trans (by rw [← hw142]; exact (e_up_ne _ _ (Or.inl (by omega))).trans (by rw [← hw144]; exact (e_up_ne _ _ (Or.inl (by omega))).trans rfl)))) (by omega) hru
    have erg : w150 330 (10000 * a + (p + 1)) = w 330 (10000 * a + p) := by rw [show 10000 * a + (p + 1) = 10000 * a + p + 1 by omega]; exact Eq.trans (by rw [← hw150]; exact (e_up_ne _ _ (Or.inl (by omega))).trans (by rw [← hw142]; exact (e_up_ne _ _ (Or.inl (by omega))).trans (by rw [← hw144]; exact (e_up_ne _ _ (Or.inl (by omega))).trans rfl))) k1.2.2.2
    have ede : w150 275 102 = dl p + 1 := (by rw [← hw150]; exact (e_up_ne _ _ (Or.inl (by omega))).trans (by rw [← hw142]; exact e_up_eq _ _ _ _))
    exact ⟨rfl, ⟨f152, (sRel.up (sRel.up (sRel.up sRel.refl hw144 (fun q b g1 g2 => by omega)) hw142 (fun q b g1 g2 => by omega)) hw150 (fun q b g1 g2 => by omega))⟩, hT153, by omega, Or.inr ⟨(by rw [← hw150]; exact (e_up_ne _ _ (Or.inl (by omega))).trans (by rw [← hw142]; exact (e_up_ne _ _ (Or.inr (by omega))).trans (by rw [← hw144]; exact (e_up_ne _ _ (Or.inl (by omega))).trans rfl))), (by rw [← hw150]; exact (e_up_ne _ _ (Or.inr (by omega))).trans (by rw [← hw142]; exact (e_up_ne _ _ (Or.inl (by omega))).trans (by rw [← hw144]; exact (e_up_ne _ _ (Or.inl (by omega))).trans rfl))), by omega, p + 1, runOk.at hrn (by omega) (by rw [← hw150]; exact e_up_eq _ _ _ _) erg, by omega, e_kn.le (e_kn.oth (e_kn.oth (e_kn.put (b' := dl p) hst hw144 (by omega) (by omega)) hw142 (by decide)) hw150 (by decide)) (by omega), by omega, by omega⟩⟩
  · refine e_Ok.sw (tg := 281) rfl (by rw [h1]; rfl) ?_
    have k1 := hi1.out (by omega)
    unfold iFT at k1
    have k2 := hi2.out (by omega)
    refine e_Ok.run (t' := (283, [(4, (0, p + 1)), (0, (1, 275)), (1, (0, w 328 (10000 * a + p))), (2, (0, w 329 (10000 * a + p))), (3, (0, p))], [(1, 275), (1, 275)], w)) 2 rfl ?_
    refine e_Ok.getr (z := 276) rfl (el_o rfl) rfl rfl (e_Has.eq hT rfl) (by omega) ?_
    refine e_Ok.run (t' := (287, [(4, (0, p + 1)), (0, (1, 275)), (1, (0, w 328 (10000 * a + p))), (2, (0, w 329 (10000 * a + p))), (3, (0, p))], [(1, 275), (1, 276), (1, 275)], w)) 1 rfl ?_
    refine e_Ok.getf (z := a) rfl (el_o rfl) rfl rfl h98 (by omega) ?_
    refine e_Ok.callS rfl (by omega) rfl rfl (c_268 (by omega)) (fun r155 w156 h157 => ?_)
    obtain ⟨rfl, rfl⟩ := h157
    show e_Ok 20 elay ecode eI (d + 1) 374 (293, [(4, (0, p + 1)), (0, (1, 275)), (1, (0, w 328 (10000 * a + p))), (2, (0, w 329 (10000 * a + p))), (3, (0, p))], [(0, 36 * a + 16), (1, 276), (1, 275)], w) _
    refine e_Ok.run (t' := (294, [(4, (0, p + 1)), (0, (1, 275)), (1, (0, w 328 (10000 * a + p))), (2, (0, w 329 (10000 * a + p))), (3, (0, p))], [(0, 1), (0, 36 * a + 16), (1, 276), (1, 275)], w)) 1 rfl ?_
    refine e_Ok.add (z := 36 * a + 17) rfl (by omega) (by omega) ?_
    have h158 := (e_Has.get hT (c := 276) (k := 36 * a + 17) (lo := (-1)) (hi := 31) (nR_HOLDS (a := a) (by omega)) (by decide))
    refine e_Ok.ald (z := w 276 (36 * a + 17)) rfl (el_o rfl) rfl (by omega) rfl (by omega) ?_
    refine e_Ok.if1 rfl (fun h159 => ?_) (fun h159 => ?_)
    · replace h159 : (w 276 (36 * a + 17) : Int) < 0 := h159
      refine e_Ok.run (t' := (304, [(4, (0, p + 1)), (0, (1, 275)), (1, (0, w 328 (10000 * a + p))), (2, (0, w 329 (10000 * a + p))), (3, (0, p))], [(0, 0), (1, 275)], w)) 1 rfl ?_
      refine e_Ok.callV rfl (by omega) rfl rfl rfl rfl (c_363 hT (e := dl p) (e1 := dl p + 1) h102 (by omega) (by omega)) (fun r160 w161 h162 => ?_)
      obtain ⟨rfl, hw161⟩ := h162
      generalize hw163 : e_up w 345 (dl p) 0 = w163 at hw161
      have f164 : e_fr (mRk t) w w163 := e_fr.up (e_fr.refl w) hw163 (by unfold mRk mLv; omega)
      have hT165 : e_Has mTy w163 := e_Has.ups hT hw163 rfl
      have f166 : e_fr (mRk t) w w161 := e_fr.up f164 hw161 (by unfold mRk mLv; omega)
      have hT167 : e_Has mTy w161 := e_Has.ups hT165 hw161 rfl
      show e_Ok 20 elay ecode eI (d + 1) 374 (307, [(4, (0, p + 1)), (0, (1, 275)), (1, (0, w 328 (10000 * a + p))), (2, (0, w 329 (10000 * a + p))), (3, (0, p))], [], w161) _
      refine e_Ok.run (t' := (460, [(4, (0, p + 1)), (0, (1, 275)), (1, (0, w 328 (10000 * a + p))), (2, (0, w 329 (10000 * a + p))), (3, (0, p))], [(0, p + 1), (1, 275)], w161)) 3 rfl ?_
      refine e_Ok.callV rfl (by omega) rfl rfl rfl rfl (c_365 (by omega) hT167 (by omega) (by rw [← hw161]; exact (e_up_ne _ _ (Or.inr (by omega))).trans (by rw [← hw163]; exact (e_up_ne _ _ (Or.inl (by omega))).trans h97)) (f := g + 1) (z := 1260 * t + 2 * g + 436) (by rw [← hw161]; exact (e_up_ne _ _ (Or.inl (by omega))).trans (by rw [← hw163]; exact (e_up_ne _ _ (Or.inl (by omega))).trans hF)) (by omega) (by omega)) (fun r168 w169 h170 => ?_)
      obtain ⟨rfl, hw169⟩ := h170
      have f171 : e_fr (mRk t) w w169 := e_fr.up f166 hw169 (by unfold mRk mLv; omega)
      have hT172 : e_Has mTy w169 := e_Has.upr hT167 hw169 (nR_FRg t (g) (by omega) (by omega) (by omega)) (by omega)
      show e_Ok 20 elay ecode eI (d + 1) 374 (463, [(4, (0, p + 1)), (0, (1, 275)), (1, (0, w 328 (10000 * a + p))), (2, (0, w 329 (10000 * a + p))), (3, (0, p))], [], w169) _
      refine e_Ok.rets rfl rfl ?_
      have e173 : w169 276 5 = w 276 5 := (by rw [← hw169]; exact (e_up_ne _ _ (Or.inr (by omega))).trans (by rw [← hw161]; exact (e_up_ne _ _ (Or.inl (by omega))).trans (by rw [← hw163]; exact (e_up_ne _ _ (Or.inl (by omega))).trans rfl)))
      have hrn := runOk.fr (w' := w169) (fun c k q1 q2 => (by rw [← hw169]; exact (e_up_ne _ _ (Or.inl (by omega))).trans (by rw [← hw161]; exact (e_up_ne _ _ (Or.inl (by omega))).trans (by rw [← hw163]; exact (e_up_ne _ _ (Or.inl (by omega))).trans rfl)))) (fun i q1 q2 => ⟨(by rw [← hw169]; exact (e_up_ne _ _ (Or.inr (by omega))).trans (by rw [← hw161]; exact (e_up_ne _ _ (Or.inl (by omega))).trans (by rw [← hw163]; exact (e_up_ne _ _ (Or.inl (by omega))).trans rfl))), (by rw [← hw169]; exact (e_up_ne _ _ (Or.inr (by omega))).trans (by rw [← hw161]; exact (e_up_ne _ _ (Or.inl (by omega))).trans (by rw [← hw163]; exact (e_up_ne _ _ (Or.inl (by omega))).trans rfl)))⟩) (by rw [← hw169]; exact (e_up_ne _ _ (Or.inr (by omega))).trans (by rw [← hw161]; exact (e_up_ne _ _ (Or.inl (by omega))).trans (by rw [← hw163]; exact (e_up_ne _ _ (Or.inl (by omega))).trans rfl))) (by rw [← hw169]; exact (e_up_ne _ _ (Or.inr (by omega))).trans (by rw [← hw161]; exact (e_up_ne _ _ (Or.inl (by omega))).trans (by rw [← hw163]; exact (e_up_ne _ _ (Or.inl (by omega))).trans rfl))) (fun k q1 q2 => (by rw [← hw169]; exact (e_up_ne _ _ (Or.inr (by omega))).trans (by rw [← hw161]; exact (e_up_ne _ _ (Or.inl (by omega))).trans (by rw [← hw163]; exact (e_up_ne _ _ (Or.inl (by omega))).trans rfl)))) (by omega) hru
      have erg : w169 330 (10000 * a + (p + 1)) = w 330 (10000 * a + p) := by rw [show 10000 * a + (p + 1) = 10000 * a + p + 1 by omega]; exact Eq.trans (by rw [← hw169]; exact (e_up_ne _ _ (Or.inl (by omega))).trans (by rw [← hw161]; exact (e_up_ne _ _ (Or.inl (by omega))).trans (by rw [← hw163]; exact (e_up_ne _ _ (Or.inl (by omega))).trans rfl))) k1.2.2.2
      have ede : w169 275 102 = dl p + 1 := (by rw [← hw169]; exact (e_up_ne _ _ (Or.inl (by omega))).trans (by rw [← hw161]; exact e_up_eq _ _ _ _))
      exact ⟨rfl, ⟨f171, (sRel.up (sRel.up (sRel.up sRel.refl hw163 (fun q b g1 g2 => by omega)) hw161 (fun q b g1 g2 => by omega)) hw169 (fun q b g1 g2 => by omega))⟩, hT172, by omega, Or.inr ⟨(by rw [← hw169]; exact (e_up_ne _ _ (Or.inl (by omega))).trans (by rw [← hw161]; exact (e_up_ne _ _ (Or.inr (by omega))).trans (by rw [← hw163]; exact (e_up_ne _ _ (Or.inl (by omega))).trans rfl))), (by rw [← hw169]; exact (e_up_ne _ _ (Or.inr (by omega))).trans (by rw [← hw161]; exact (e_up_ne _ _ (Or.inl (by omega))).trans (by rw [← hw163]; exact (e_up_ne _ _ (Or.inl (by omega))).trans rfl))), by omega, p + 1, runOk.at hrn (by omega) (by rw [← hw169]; exact e_up_eq _ _ _ _) erg, by omega, e_kn.le (e_kn.oth (e_kn.oth (e_kn.put (b' := dl p) hst hw163 (by omega) (by omega)) hw161 (by decide)) hw169 (by decide)) (by omega), by omega, by omega⟩⟩
    · replace h159 : (w 276 (36 * a + 17) : Int) ≥ 0 := by have q : ¬ ((w 276 (36 * a + 17) : Int) < 0) := h159; omega
      refine e_Ok.run (t' := (304, [(4, (0, p + 1)), (0, (1, 275)), (1, (0, w 328 (10000 * a + p))), (2, (0, w 329 (10000 * a + p))), (3, (0, p))], [(0, 1), (1, 275)], w)) 2 rfl ?_
      refine e_Ok.callV rfl (by omega) rfl rfl rfl rfl (c_363 hT (e := dl p) (e1 := dl p + 1) h102 (by omega) (by omega)) (fun r174 w175 h176 => ?_)
      obtain ⟨rfl, hw175⟩ := h176
      generalize hw177 : e_up w 345 (dl p) 1 = w177 at hw175
      have f178 : e_fr (mRk t) w w177 := e_fr.up (e_fr.refl w) hw177 (by unfold mRk mLv; omega)
      have hT179 : e_Has mTy w177 := e_Has.ups hT hw177 rfl
      have f180 : e_fr (mRk t) w w175 := e_fr.up f178 hw175 (by unfold mRk mLv; omega)
      have hT181 : e_Has mTy w175 := e_Has.ups hT179 hw175 rfl
      show e_Ok 20 elay ecode eI (d + 1) 374 (307, [(4, (0, p + 1)), (0, (1, 275)), (1, (0, w 328 (10000 * a + p))), (2, (0, w 329 (10000 * a + p))), (3, (0, p))], [], w175) _
      refine e_Ok.run (t' := (460, [(4, (0, p + 1)), (0, (1, 275)), (1, (0, w 328 (10000 * a + p))), (2, (0, w 329 (10000 * a + p))), (3, (0, p))], [(0, p + 1), (1, 275)], w175)) 3 rfl ?_
      refine e_Ok.callV rfl (by omega) rfl rfl rfl rfl (c_365 (by omega) hT181 (by omega) (by rw [← hw175]; exact (e_up_ne _ _ (Or.inr (by omega))).trans (by rw [← hw177]; exact (e_up_ne _ _ (Or.inl (by omega))).trans h97)) (f := g + 1) (z := 1260 * t + 2 * g + 436) (by rw [← hw175]; exact (e_up_ne _ _ (Or.inl (by omega))).trans (by rw [← hw177]; exact (e_up_ne _ _ (Or.inl (by omega))).trans hF)) (by omega) (by omega)) (fun r182 w183 h184 => ?_)
      obtain ⟨rfl, hw183⟩ := h184
      have f185 : e_fr (mRk t) w w183 := e_fr.up f180 hw183 (by unfold mRk mLv; omega)
      have hT186 : e_Has mTy w183 := e_Has.upr hT181 hw183 (nR_FRg t (g) (by omega) (by omega) (by omega)) (by omega)
      show e_Ok 20 elay ecode eI (d + 1) 374 (463, [(4, (0, p + 1)), (0, (1, 275)), (1, (0, w 328 (10000 * a + p))), (2, (0, w 329 (10000 * a + p))), (3, (0, p))], [], w183) _
      refine e_Ok.rets rfl rfl ?_
      have e187 : w183 276 5 = w 276 5 := (by rw [← hw183]; exact (e_up_ne _ _ (Or.inr (by omega))).trans (by rw [← hw175]; exact (e_up_ne _ _ (Or.inl (by omega))).trans (by rw [← hw177]; exact (e_up_ne _ _ (Or.inl (by omega))).trans rfl)))
      have hrn := runOk.fr (w' := w183) (fun c k q1 q2 => (by rw [← hw183]; exact (e_up_ne _ _ (Or.inl (by omega))).trans (by rw [← hw175]; exact (e_up_ne _ _ (Or.inl (by omega))).trans (by rw [← hw177]; exact (e_up_ne _ _ (Or.inl (by omega))).trans rfl)))) (fun i q1 q2 => ⟨(by rw [← hw183]; exact (e_up_ne _ _ (Or.inr (by omega))).trans (by rw [← hw175]; exact (e_up_ne _ _ (Or.inl (by omega))).trans (by rw [← hw177]; exact (e_up_ne _ _ (Or.inl (by omega))).trans rfl))), (by rw [← hw183]; exact (e_up_ne _ _ (Or.inr (by omega))).trans (by rw [← hw175]; exact (e_up_ne _ _ (Or.inl (by omega))).trans (by rw [← hw177]; exact (e_up_ne _ _ (Or.inl (by omega))).trans rfl)))⟩) (by rw [← hw183]; exact (e_up_ne _ _ (Or.inr (by omega))).trans (by rw [← hw175]; exact (e_up_ne _ _ (Or.inl (by omega))).trans (by rw [← hw177]; exact (e_up_ne _ _ (Or.inl (by omega))).trans rfl))) (by rw [← hw183]; exact (e_up_ne _ _ (Or.inr (by omega))).trans (by rw [← hw175]; exact (e_up_ne _ _ (Or.inl (by omega))).trans (by rw [← hw177]; exact (e_up_ne _ _ (Or.inl (by omega))).trans rfl))) (fun k q1 q2 => (by rw [← hw183]; exact (e_up_ne _ _ (Or.inr (by omega))).trans (by rw [← hw175]; exact (e_up_ne _ _ (Or.inl (by omega))).trans (by rw [← hw177]; exact (e_up_ne _ _ (Or.inl (by omega))).trans rfl)))) (by omega) hru
      have erg : w183 330 (10000 * a + (p + 1)) = w 330 (10000 * a + p) := by rw [show 10000 * a + (p + 1) = 10000 * a + p + 1 by omega]; exact Eq.trans (by rw [← hw183]; exact (e_up_ne _ _ (Or.inl (by omega))).trans (by rw [← hw175]; exact (e_up_ne _ _ (Or.inl (by omega))).trans (by rw [← hw177]; exact (e_up_ne _ _ (Or.inl (by omega))).trans rfl))) k1.2.2.2
      have ede : w183 275 102 = dl p + 1 := (by rw [← hw183]; exact (e_up_ne _ _ (Or.inl (by omega))).trans (by rw [← hw175]; exact e_up_eq _ _ _ _))
      exact ⟨rfl, ⟨f185, (sRel.up (sRel.up (sRel.up sRel.refl hw177 (fun q b g1 g2 => by omega)) hw175 (fun q b g1 g2 => by omega)) hw183 (fun q b g1 g2 => by omega))⟩, hT186, by omega, Or.inr ⟨(by rw [← hw183]; exact (e_up_ne _ _ (Or.inl (by omega))).trans (by rw [← hw175]; exact (e_up_ne _ _ (Or.inr (by omega))).trans (by rw [← hw177]; exact (e_up_ne _ _ (Or.inl (by omega))).trans rfl))), (by rw [← hw183]; exact (e_up_ne _ _ (Or.inr (by omega))).trans (by rw [← hw175]; exact (e_up_ne _ _ (Or.inl (by omega))).trans (by rw [← hw177]; exact (e_up_ne _ _ (Or.inl (by omega))).trans rfl))), by omega, p + 1, runOk.at hrn (by omega) (by rw [← hw183]; exact e_up_eq _ _ _ _) erg, by omega, e_kn.le (e_kn.oth (e_kn.oth (e_kn.put (b' := dl p) hst hw177 (by omega) (by omega)) hw175 (by decide)) hw183 (by decide)) (by omega), by omega, by omega⟩⟩
  · refine e_Ok.sw (tg := 310) rfl (by rw [h1]; rfl) ?_
    have k1 := hi1.out (by omega)
    unfold iFT at k1
    have k4 := hi4.out (by omega)
    refine e_Ok.run (t' := (312, [(4, (0, p + 1)), (0, (1, 275)), (1, (0, w 328 (10000 * a + p))), (2, (0, w 329 (10000 * a + p))), (3, (0, p))], [(1, 275), (1, 275)], w)) 2 rfl ?_
    refine e_Ok.callV rfl (by omega) rfl rfl rfl rfl (c_364 hT (e := dl p) (u := dl p - 1) h102 (by omega) (by omega) (by have q : w 345 (dl p - 1) = w 345 (dl p - 1) := rfl; have q2 := (hst (dl p - 1) (by omega) (by omega)); omega)) (fun r188 w189 h190 => ?_)
    obtain ⟨rfl, hw189⟩ := h190
    generalize hz191 : w 345 (dl p - 1) = z191
    have z191r : z191 = w 345 (dl p - 1) := Eq.trans hz191.symm rfl
    have f192 : e_fr (mRk t) w w189 := e_fr.up (e_fr.refl w) hw189 (by unfold mRk mLv; omega)
    have hT193 : e_Has mTy w189 := e_Has.ups hT hw189 rfl
    show e_Ok 20 elay ecode eI (d + 1) 374 (315, [(4, (0, p + 1)), (0, (1, 275)), (1, (0, w 328 (10000 * a + p))), (2, (0, w 329 (10000 * a + p))), (3, (0, p))], [(0, z191), (1, 275)], w189) _
    refine e_Ok.anyU rfl (fun z194 z194a z194b => ?_)
    refine e_Ok.callV rfl (by omega) rfl rfl rfl rfl (c_363 hT193 (e := dl p - 1) (e1 := dl p) (by rw [← hw189]; exact e_up_eq _ _ _ _) (by omega) (by omega)) (fun r195 w196 h197 => ?_)
    obtain ⟨rfl, hw196⟩ := h197
    generalize hw198 : e_up w189 345 (dl p - 1) z194 = w198 at hw196
    have f199 : e_fr (mRk t) w w198 := e_fr.up f192 hw198 (by unfold mRk mLv; omega)
    have hT200 : e_Has mTy w198 := e_Has.ups hT193 hw198 rfl
    have f201 : e_fr (mRk t) w w196 := e_fr.up f199 hw196 (by unfold mRk mLv; omega)
    have hT202 : e_Has mTy w196 := e_Has.ups hT200 hw196 rfl
    show e_Ok 20 elay ecode eI (d + 1) 374 (319, [(4, (0, p + 1)), (0, (1, 275)), (1, (0, w 328 (10000 * a + p))), (2, (0, w 329 (10000 * a + p))), (3, (0, p))], [], w196) _
    refine e_Ok.run (t' := (460, [(4, (0, p + 1)), (0, (1, 275)), (1, (0, w 328 (10000 * a + p))), (2, (0, w 329 (10000 * a + p))), (3, (0, p))], [(0, p + 1), (1, 275)], w196)) 3 rfl ?_
    refine e_Ok.callV rfl (by omega) rfl rfl rfl rfl (c_365 (by omega) hT202 (by omega) (by rw [← hw196]; exact (e_up_ne _ _ (Or.inr (by omega))).trans (by rw [← hw198]; exact (e_up_ne _ _ (Or.inl (by omega))).trans (by rw [← hw189]; exact (e_up_ne _ _ (Or.inr (by omega))).trans h97))) (f := g + 1) (z := 1260 * t + 2 * g + 436) (by rw [← hw196]; exact (e_up_ne _ _ (Or.inl (by omega))).trans (by rw [← hw198]; exact (e_up_ne _ _ (Or.inl (by omega))).trans (by rw [← hw189]; exact (e_up_ne _ _ (Or.inl (by omega))).trans hF))) (by omega) (by omega)) (fun r203 w204 h205 => ?_)
    obtain ⟨rfl, hw204⟩ := h205
    have f206 : e_fr (mRk t) w w204 := e_fr.up f201 hw204 (by unfold mRk mLv; omega)
    have hT207 : e_Has mTy w204 := e_Has.upr hT202 hw204 (nR_FRg t (g) (by omega) (by omega) (by omega)) (by omega)
    show e_Ok 20 elay ecode eI (d + 1) 374 (463, [(4, (0, p + 1)), (0, (1, 275)), (1, (0, w 328 (10000 * a + p))), (2, (0, w 329 (10000 * a + p))), (3, (0, p))], [], w204) _
    refine e_Ok.rets rfl rfl ?_
    have e208 : w204 276 5 = w 276 5 := (by rw [← hw204]; exact (e_up_ne _ _ (Or.inr (by omega))).trans (by rw [← hw196]; exact (e_up_ne _ _ (Or.inl (by omega))).trans (by rw [← hw198]; exact (e_up_ne _ _ (Or.inl (by omega))).trans (by rw [← hw189]; exact (e_up_ne _ _ (Or.inl (by omega))).trans rfl))))
    have hrn := runOk.fr (w' := w204) (fun c k q1 q2 => (by rw [← hw204]; exact (e_up_ne _ _ (Or.inl (by omega))).trans (by rw [← hw196]; exact (e_up_ne _ _ (Or.inl (by omega))).trans (by rw [← hw198]; exact (e_up_ne _ _ (Or.inl (by omega))).trans (by rw [← hw189]; exact (e_up_ne _ _ (Or.inl (by omega))).trans rfl))))) (fun i q1 q2 => ⟨(by rw [← hw204]; exact (e_up_ne _ _ (Or.inr (by omega))).trans (by rw [← hw196]; exact (e_up_ne _ _ (Or.inl (by omega))).trans (by rw [← hw198]; exact (e_up_ne _ _ (Or.inl (by omega))).trans (by rw [← hw189]; exact (e_up_ne _ _ (Or.inl (by omega))).trans rfl)))), (by rw [← hw204]; exact (e_up_ne _ _ (Or.inr (by omega))).trans (by rw [← hw196]; exact (e_up_ne _ _ (Or.inl (by omega))).trans (by rw [← hw198]; exact (e_up_ne _ _ (Or.inl (by omega))).trans (by rw [← hw189]; exact (e_up_ne _ _ (Or.inl (by omega))).trans rfl))))⟩) (by rw [← hw204]; exact (e_up_ne _ _ (Or.inr (by omega))).trans (by rw [← hw196]; exact (e_up_ne _ _ (Or.inl (by omega))).trans (by rw [← hw198]; exact (e_up_ne _ _ (Or.inl (by omega))).trans (by rw [← hw189]; exact (e_up_ne _ _ (Or.inl (by omega))).trans rfl)))) (by rw [← hw204]; exact (e_up_ne _ _ (Or.inr (by omega))).trans (by rw [← hw196]; exact (e_up_ne _ _ (Or.inl (by omega))).trans (by rw [← hw198]; exact (e_up_ne _ _ (Or.inl (by omega))).trans (by rw [← hw189]; exact (e_up_ne _ _ (Or.inl (by omega))).trans rfl)))) (fun k q1 q2 => (by rw [← hw204]; exact (e_up_ne _ _ (Or.inr (by omega))).trans (by rw [← hw196]; exact (e_up_ne _ _ (Or.inl (by omega))).trans (by rw [← hw198]; exact (e_up_ne _ _ (Or.inl (by omega))).trans (by rw [← hw189]; exact (e_up_ne _ _ (Or.inl (by omega))).trans rfl))))) (by omega) hru
    have erg : w204 330 (10000 * a + (p + 1)) = w 330 (10000 * a + p) := by rw [show 10000 * a + (p + 1) = 10000 * a + p + 1 by omega]; exact Eq.trans (by rw [← hw204]; exact (e_up_ne _ _ (Or.inl (by omega))).trans (by rw [← hw196]; exact (e_up_ne _ _ (Or.inl (by omega))).trans (by rw [← hw198]; exact (e_up_ne _ _ (Or.inl (by omega))).trans (by rw [← hw189]; exact (e_up_ne _ _ (Or.inl (by omega))).trans rfl)))) k1.2.2.2
    have ede : w204 275 102 = dl p := (by rw [← hw204]; exact (e_up_ne _ _ (Or.inl (by omega))).trans (by rw [← hw196]; exact e_up_eq _ _ _ _))
    exact ⟨rfl, ⟨f206, (sRel.up (sRel.up (sRel.up (sRel.up sRel.refl hw189 (fun q b g1 g2 => by omega)) hw198 (fun q b g1 g2 => by omega)) hw196 (fun q b g1 g2 => by omega)) hw204 (fun q b g1 g2 => by omega))⟩, hT207, by omega, Or.inr ⟨(by rw [← hw204]; exact (e_up_ne _ _ (Or.inl (by omega))).trans (by rw [← hw196]; exact (e_up_ne _ _ (Or.inr (by omega))).trans (by rw [← hw198]; exact (e_up_ne _ _ (Or.inl (by omega))).trans (by rw [← hw189]; exact (e_up_ne _ _ (Or.inr (by omega))).trans rfl)))), (by rw [← hw204]; exact (e_up_ne _ _ (Or.inr (by omega))).trans (by rw [← hw196]; exact (e_up_ne _ _ (Or.inl (by omega))).trans (by rw [← hw198]; exact (e_up_ne _ _ (Or.inl (by omega))).trans (by rw [← hw189]; exact (e_up_ne _ _ (Or.inl (by omega))).trans rfl)))), by omega, p + 1, runOk.at hrn (by omega) (by rw [← hw204]; exact e_up_eq _ _ _ _) erg, by omega, e_kn.le (e_kn.oth (e_kn.oth (e_kn.put (b' := dl p - 1) (e_kn.oth hst hw189 (by decide)) hw198 (by omega) (by omega)) hw196 (by decide)) hw204 (by decide)) (by omega), by omega, by omega⟩⟩
  · exfalso; omega
  · exfalso; omega
  · exfalso; omega
  · exfalso; omega
  · exfalso; omega
end
