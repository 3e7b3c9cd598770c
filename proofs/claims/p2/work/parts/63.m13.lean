noncomputable section
theorem c_375 {d : Nat} {w : eW} {o x y : Int} (ho : 10 ≤ o ∧ o ≤ 20) (hz : (o = 13 ∨ o = 14) → y ≠ 0) : e_Ok 20 elay ecode eI d 375 (0, [(0, (0, o)), (1, (0, x)), (2, (0, y))], [], w) (fun r w' => ∃ z : Int, r = [(0, z)] ∧ w = w' ∧ -2147483648 ≤ z ∧ z ≤ 2147483647) := by
  refine e_Ok.run (t' := (1, [(0, (0, o)), (1, (0, x)), (2, (0, y))], [(0, o)], w)) 1 rfl ?_
  have hs2 : ∀ x : Int, 10 ≤ x ∧ x ≤ 20 → (x = 10) ∨ (x = 11) ∨ (x = 12) ∨ (x = 13) ∨ (x = 14) ∨ (x = 15) ∨ (x = 16) ∨ (x = 17) ∨ (x = 18) ∨ (x = 19) ∨ (x = 20) := fun x h => by omega
  obtain h1 | h1 | h1 | h1 | h1 | h1 | h1 | h1 | h1 | h1 | h1 := hs2 (o) (by omega)
  · refine e_Ok.sw (tg := 56) rfl (by rw [h1]; rfl) ?_
    refine e_Ok.run (t' := (58, [(0, (0, o)), (1, (0, x)), (2, (0, y))], [(0, y), (0, x)], w)) 2 rfl ?_
    refine e_Ok.any rfl (eF_add_any _ _) (fun z3 z3a z3b => ?_)
    refine e_Ok.rets rfl rfl ?_
    exact ⟨_, rfl, rfl, by omega, by omega⟩
  · refine e_Ok.sw (tg := 60) rfl (by rw [h1]; rfl) ?_
    refine e_Ok.run (t' := (62, [(0, (0, o)), (1, (0, x)), (2, (0, y))], [(0, y), (0, x)], w)) 2 rfl ?_
    refine e_Ok.any rfl (eF_sub_any _ _) (fun z4 z4a z4b => ?_)
    refine e_Ok.rets rfl rfl ?_
    exact ⟨_, rfl, rfl, by omega, by omega⟩
  · refine e_Ok.sw (tg := 64) rfl (by rw [h1]; rfl) ?_
    refine e_Ok.run (t' := (66, [(0, (0, o)), (1, (0, x)), (2, (0, y))], [(0, y), (0, x)], w)) 2 rfl ?_
    refine e_Ok.any rfl (eF_mul_any _ _) (fun z5 z5a z5b => ?_)
    refine e_Ok.rets rfl rfl ?_
    exact ⟨_, rfl, rfl, by omega, by omega⟩
  · refine e_Ok.sw (tg := 68) rfl (by rw [h1]; rfl) ?_
    have hyz := hz (by omega)
    refine e_Ok.run (t' := (70, [(0, (0, o)), (1, (0, x)), (2, (0, y))], [(0, y), (0, x)], w)) 2 rfl ?_
    refine e_Ok.any rfl (eF_div_any (by omega)) (fun z6 z6a z6b => ?_)
    refine e_Ok.rets rfl rfl ?_
    exact ⟨_, rfl, rfl, by omega, by omega⟩
  · refine e_Ok.sw (tg := 72) rfl (by rw [h1]; rfl) ?_
    have hyz := hz (by omega)
    refine e_Ok.run (t' := (74, [(0, (0, o)), (1, (0, x)), (2, (0, y))], [(0, y), (0, x)], w)) 2 rfl ?_
    refine e_Ok.any rfl (eF_rem_any (by omega)) (fun z7 z7a z7b => ?_)
    refine e_Ok.rets rfl rfl ?_
    exact ⟨_, rfl, rfl, by omega, by omega⟩
  · refine e_Ok.sw (tg := 76) rfl (by rw [h1]; rfl) ?_
    refine e_Ok.run (t' := (78, [(0, (0, o)), (1, (0, x)), (2, (0, y))], [(0, y), (0, x)], w)) 2 rfl ?_
    have hJ10 : ∀ m9 : Int, 0 ≤ m9 ∧ m9 ≤ 1 → e_Ok 20 elay ecode eI d 375 (86, [(0, (0, o)), (1, (0, x)), (2, (0, y))], [(0, m9)], w) (fun r w' => ∃ z : Int, r = [(0, z)] ∧ w = w' ∧ -2147483648 ≤ z ∧ z ≤ 2147483647) := by
      intro m9 m9r
      refine e_Ok.rets rfl rfl ?_
      exact ⟨_, rfl, rfl, by omega, by omega⟩
    refine e_Ok.if2 rfl (fun h8 => ?_) (fun h8 => ?_)
    · exact e_Ok.run 1 rfl (hJ10 0 (by omega))
    · exact e_Ok.run 2 rfl (hJ10 1 (by omega))
  · refine e_Ok.sw (tg := 87) rfl (by rw [h1]; rfl) ?_
    refine e_Ok.run (t' := (89, [(0, (0, o)), (1, (0, x)), (2, (0, y))], [(0, y), (0, x)], w)) 2 rfl ?_
    have hJ13 : ∀ m12 : Int, 0 ≤ m12 ∧ m12 ≤ 1 → e_Ok 20 elay ecode eI d 375 (97, [(0, (0, o)), (1, (0, x)), (2, (0, y))], [(0, m12)], w) (fun r w' => ∃ z : Int, r = [(0, z)] ∧ w = w' ∧ -2147483648 ≤ z ∧ z ≤ 2147483647) := by
      intro m12 m12r
      refine e_Ok.rets rfl rfl ?_
      exact ⟨_, rfl, rfl, by omega, by omega⟩
    refine e_Ok.if2 rfl (fun h11 => ?_) (fun h11 => ?_)
    · exact e_Ok.run 1 rfl (hJ13 0 (by omega))
    · exact e_Ok.run 2 rfl (hJ13 1 (by omega))
  · refine e_Ok.sw (tg := 98) rfl (by rw [h1]; rfl) ?_
    refine e_Ok.run (t' := (100, [(0, (0, o)), (1, (0, x)), (2, (0, y))], [(0, y), (0, x)], w)) 2 rfl ?_
    have hJ16 : ∀ m15 : Int, 0 ≤ m15 ∧ m15 ≤ 1 → e_Ok 20 elay ecode eI d 375 (108, [(0, (0, o)), (1, (0, x)), (2, (0, y))], [(0, m15)], w) (fun r w' => ∃ z : Int, r = [(0, z)] ∧ w = w' ∧ -2147483648 ≤ z ∧ z ≤ 2147483647) := by
      intro m15 m15r
      refine e_Ok.rets rfl rfl ?_
      exact ⟨_, rfl, rfl, by omega, by omega⟩
    refine e_Ok.if2 rfl (fun h14 => ?_) (fun h14 => ?_)
    · exact e_Ok.run 1 rfl (hJ16 0 (by omega))
    · exact e_Ok.run 2 rfl (hJ16 1 (by omega))
  · refine e_Ok.sw (tg := 109) rfl (by rw [h1]; rfl) ?_
    refine e_Ok.run (t' := (111, [(0, (0, o)), (1, (0, x)), (2, (0, y))], [(0, y), (0, x)], w)) 2 rfl ?_
    have hJ19 : ∀ m18 : Int, 0 ≤ m18 ∧ m18 ≤ 1 → e_Ok 20 elay ecode eI d 375 (119, [(0, (0, o)), (1, (0, x)), (2, (0, y))], [(0, m18)], w) (fun r w' => ∃ z : Int, r = [(0, z)] ∧ w = w' ∧ -2147483648 ≤ z ∧ z ≤ 2147483647) := by
      intro m18 m18r
      refine e_Ok.rets rfl rfl ?_
      exact ⟨_, rfl, rfl, by omega, by omega⟩
    refine e_Ok.if2 rfl (fun h17 => ?_) (fun h17 => ?_)
    · exact e_Ok.run 1 rfl (hJ19 0 (by omega))
    · exact e_Ok.run 2 rfl (hJ19 1 (by omega))
  · refine e_Ok.sw (tg := 120) rfl (by rw [h1]; rfl) ?_
    refine e_Ok.run (t' := (122, [(0, (0, o)), (1, (0, x)), (2, (0, y))], [(0, y), (0, x)], w)) 2 rfl ?_
    have hJ22 : ∀ m21 : Int, 0 ≤ m21 ∧ m21 ≤ 1 → e_Ok 20 elay ecode eI d 375 (130, [(0, (0, o)), (1, (0, x)), (2, (0, y))], [(0, m21)], w) (fun r w' => ∃ z : Int, r = [(0, z)] ∧ w = w' ∧ -2147483648 ≤ z ∧ z ≤ 2147483647) := by
      intro m21 m21r
      refine e_Ok.rets rfl rfl ?_
      exact ⟨_, rfl, rfl, by omega, by omega⟩
    refine e_Ok.if2 rfl (fun h20 => ?_) (fun h20 => ?_)
    · exact e_Ok.run 1 rfl (hJ22 0 (by omega))
    · exact e_Ok.run 2 rfl (hJ22 1 (by omega))
  · refine e_Ok.sw (tg := 131) rfl (by rw [h1]; rfl) ?_
    refine e_Ok.run (t' := (133, [(0, (0, o)), (1, (0, x)), (2, (0, y))], [(0, y), (0, x)], w)) 2 rfl ?_
    have hJ25 : ∀ m24 : Int, 0 ≤ m24 ∧ m24 ≤ 1 → e_Ok 20 elay ecode eI d 375 (141, [(0, (0, o)), (1, (0, x)), (2, (0, y))], [(0, m24)], w) (fun r w' => ∃ z : Int, r = [(0, z)] ∧ w = w' ∧ -2147483648 ≤ z ∧ z ≤ 2147483647) := by
      intro m24 m24r
      refine e_Ok.rets rfl rfl ?_
      exact ⟨_, rfl, rfl, by omega, by omega⟩
    refine e_Ok.if2 rfl (fun h23 => ?_) (fun h23 => ?_)
    · exact e_Ok.run 1 rfl (hJ25 0 (by omega))
    · exact e_Ok.run 2 rfl (hJ25 1 (by omega))
set_option maxHeartbeats 4000000 in
theorem c_374 {d : Nat} (hd : 33 ≤ d) {w : eW} (hT : e_Has mTy w) (hA : mAc w) {t a g : Int} (ht : 0 ≤ t ∧ t ≤ 15) (ha : 0 ≤ a ∧ a ≤ 3) (h96 : w 275 96 = t) (h97 : w 275 97 = 1260 * t + 416) (h98 : w 275 98 = a) {n nt nw : Int} {dl sg pi en : Int → Int} {an br : Int → Int → Prop} {bs ow : Int → Int} (hC : cOk w a n nt nw dl sg pi en an br) {p : Int} (hP : topOk w a t g p n nt nw dl sg pi an br bs ow) (hE : w 276 5 ≤ 2147483000) (h102 : w 275 102 = dl p) (hst : e_kn w 345 0 (dl p - 1)) (hop : w 328 (10000 * a + p) < 30) : e_Ok 20 elay ecode eI d 374 (0, [(0, (1, 275)), (1, (0, w 328 (10000 * a + p))), (2, (0, w 329 (10000 * a + p))), (3, (0, p))], [], w) (fun r' w' => r' = [] ∧ (e_fr (mRk t) w w' ∧ sRel w w') ∧ e_Has mTy w' ∧ (w 276 5 ≤ w' 276 5 ∧ w' 276 5 ≤ w 276 5 + 2) ∧ ((w' 275 102 = 0 ∧ ((w' 275 100 = 1 ∧ (w' 276 (1260 * t + 416) = 6 ∨ w' 276 (1260 * t + 416) = 7)) ∨ (w' 275 100 = w 275 100 ∧ w' 276 (1260 * t + 416) = w 276 (1260 * t + 416) ∧ w' 276 5 = w 276 5 ∧ ∃ (g' p' : Int) (bs' ow' : Int → Int), g' ≤ g ∧ (g' = g → p < p') ∧ topOk w' a t g' p' n nt nw dl sg pi an br bs' ow' ∧ dl p' = 0 ∧ sg p' = 0))) ∨ (w' 275 100 = w 275 100 ∧ w' 276 (1260 * t + 416) = w 276 (1260 * t + 416) ∧ w' 276 5 = w 276 5 ∧ ∃ p', topOk w' a t g p' n nt nw dl sg pi an br bs ow ∧ w' 275 102 = dl p' ∧ e_kn w' 345 0 (dl p' - 1) ∧ sg p' = 1 ∧ p < p'))) := by
  obtain ⟨d, rfl⟩ : ∃ e, d = e + 1 := ⟨d - 1, by omega⟩
  obtain ⟨hpn, hpc, hru⟩ := id hP
  obtain ⟨hg, hF, hlow, hrr, hPn, hch, hpe⟩ := id hru
  have hCn := hC.1
  have hins := hC.2.1 p hpn.1 hpn.2
  have hbg := hlow.2.1 g (by omega) (by omega)
  have hpen := hins.1.2.2.2.1
  have hpib := hC.2.2.2.1.2.1 _ hrr.1 hrr.2
  obtain ⟨hi0, hi1, hi2, hi3, hi4, hi5, hi6, hi7, hi8, hi9, hi10, hi11, hi12, hi13, hi14, hi15, hi16, hi17, hi18, hi19⟩ := id hins
  have hop24 : 1 ≤ w 328 (10000 * a + p) ∧ w 328 (10000 * a + p) ≤ 24 := ⟨hi0.1.1, hi0.1.2.2.resolve_right (Int.not_le.mpr hop)⟩
  have har := e_Has.get hT (c := 329) (k := 10000 * a + p) (lo := -2147483648) (hi := 2147483647) rfl (by decide)
  refine e_Ok.run (t' := (2, [(0, (1, 275)), (1, (0, w 328 (10000 * a + p))), (2, (0, w 329 (10000 * a + p))), (3, (0, p))], [(0, 1), (0, p)], w)) 2 rfl ?_
  refine e_Ok.add (z := p + 1) rfl (by omega) (by omega) ?_
  refine e_Ok.run (t' := (6, [(4, (0, p + 1)), (0, (1, 275)), (1, (0, w 328 (10000 * a + p))), (2, (0, w 329 (10000 * a + p))), (3, (0, p))], [(0, w 328 (10000 * a + p))], w)) 2 rfl ?_
  have hs2 : ∀ x : Int, 1 ≤ x ∧ x ≤ 24 → (x = 1) ∨ (x = 2) ∨ (x = 3) ∨ (x = 4) ∨ (x = 5) ∨ (x = 6) ∨ (x = 7) ∨ (x = 8) ∨ (x = 9) ∨ (x = 10 ∨ x = 11 ∨ x = 12 ∨ x = 13 ∨ x = 14 ∨ x = 15 ∨ x = 16 ∨ x = 17 ∨ x = 18 ∨ x = 19 ∨ x = 20) ∨ (x = 21) ∨ (x = 22) ∨ (x = 23) ∨ (x = 24) := fun x h => by omega
  obtain h1 | h1 | h1 | h1 | h1 | h1 | h1 | h1 | h1 | h1 | h1 | h1 | h1 | h1 := hs2 (w 328 (10000 * a + p)) (hop24)
  · refine e_Ok.sw (tg := 116) rfl (by rw [h1]; rfl) ?_
    have k1 := hi1 (by omega)
    unfold iFT at k1
    have k2 := hi2 (by omega)
    refine e_Ok.run (t' := (118, [(4, (0, p + 1)), (0, (1, 275)), (1, (0, w 328 (10000 * a + p))), (2, (0, w 329 (10000 * a + p))), (3, (0, p))], [(0, w 329 (10000 * a + p)), (1, 275)], w)) 2 rfl ?_
    refine e_Ok.callV rfl (by omega) rfl rfl rfl rfl (c_363 hT (e := dl p) (e1 := dl p + 1) h102 (by omega) (by omega)) (fun r3 w4 h5 => ?_)
    obtain ⟨rfl, hw4⟩ := h5
    generalize hw6 : e_up w 345 (dl p) (w 329 (10000 * a + p)) = w6 at hw4
    have f7 : e_fr (mRk t) w w6 := e_fr.up (e_fr.refl w) hw6 (by unfold mRk mLv; omega)
    have hT8 : e_Has mTy w6 := e_Has.ups hT hw6 rfl
    have f9 : e_fr (mRk t) w w4 := e_fr.up f7 hw4 (by unfold mRk mLv; omega)
    have hT10 : e_Has mTy w4 := e_Has.ups hT8 hw4 rfl
    show e_Ok 20 elay ecode eI (d + 1) 374 (121, [(4, (0, p + 1)), (0, (1, 275)), (1, (0, w 328 (10000 * a + p))), (2, (0, w 329 (10000 * a + p))), (3, (0, p))], [], w4) _
    refine e_Ok.run (t' := (460, [(4, (0, p + 1)), (0, (1, 275)), (1, (0, w 328 (10000 * a + p))), (2, (0, w 329 (10000 * a + p))), (3, (0, p))], [(0, p + 1), (1, 275)], w4)) 3 rfl ?_
    refine e_Ok.callV rfl (by omega) rfl rfl rfl rfl (c_365 (by omega) hT10 (by omega) (by rw [← hw4]; exact (e_up_ne _ _ (Or.inr (by omega))).trans (by rw [← hw6]; exact (e_up_ne _ _ (Or.inl (by omega))).trans h97)) (f := g + 1) (z := 1260 * t + 2 * g + 436) (by rw [← hw4]; exact (e_up_ne _ _ (Or.inl (by omega))).trans (by rw [← hw6]; exact (e_up_ne _ _ (Or.inl (by omega))).trans hF)) (by omega) (by omega)) (fun r11 w12 h13 => ?_)
    obtain ⟨rfl, hw12⟩ := h13
    have f14 : e_fr (mRk t) w w12 := e_fr.up f9 hw12 (by unfold mRk mLv; omega)
    have hT15 : e_Has mTy w12 := e_Has.upr hT10 hw12 (nR_FRg t (g) (by omega) (by omega) (by omega)) (by omega)
    show e_Ok 20 elay ecode eI (d + 1) 374 (463, [(4, (0, p + 1)), (0, (1, 275)), (1, (0, w 328 (10000 * a + p))), (2, (0, w 329 (10000 * a + p))), (3, (0, p))], [], w12) _
    refine e_Ok.rets rfl rfl ?_
    have e16 : w12 276 5 = w 276 5 := (by rw [← hw12]; exact (e_up_ne _ _ (Or.inr (by omega))).trans (by rw [← hw4]; exact (e_up_ne _ _ (Or.inl (by omega))).trans (by rw [← hw6]; exact (e_up_ne _ _ (Or.inl (by omega))).trans rfl)))
    have hrn := runOk.fr (w' := w12) (fun c k q1 q2 => (by rw [← hw12]; exact (e_up_ne _ _ (Or.inl (by omega))).trans (by rw [← hw4]; exact (e_up_ne _ _ (Or.inl (by omega))).trans (by rw [← hw6]; exact (e_up_ne _ _ (Or.inl (by omega))).trans rfl)))) (fun i q1 q2 => ⟨(by rw [← hw12]; exact (e_up_ne _ _ (Or.inr (by omega))).trans (by rw [← hw4]; exact (e_up_ne _ _ (Or.inl (by omega))).trans (by rw [← hw6]; exact (e_up_ne _ _ (Or.inl (by omega))).trans rfl))), (by rw [← hw12]; exact (e_up_ne _ _ (Or.inr (by omega))).trans (by rw [← hw4]; exact (e_up_ne _ _ (Or.inl (by omega))).trans (by rw [← hw6]; exact (e_up_ne _ _ (Or.inl (by omega))).trans rfl)))⟩) (by rw [← hw12]; exact (e_up_ne _ _ (Or.inr (by omega))).trans (by rw [← hw4]; exact (e_up_ne _ _ (Or.inl (by omega))).trans (by rw [← hw6]; exact (e_up_ne _ _ (Or.inl (by omega))).trans rfl))) (by rw [← hw12]; exact (e_up_ne _ _ (Or.inr (by omega))).trans (by rw [← hw4]; exact (e_up_ne _ _ (Or.inl (by omega))).trans (by rw [← hw6]; exact (e_up_ne _ _ (Or.inl (by omega))).trans rfl))) (fun k q1 q2 => (by rw [← hw12]; exact (e_up_ne _ _ (Or.inr (by omega))).trans (by rw [← hw4]; exact (e_up_ne _ _ (Or.inl (by omega))).trans (by rw [← hw6]; exact (e_up_ne _ _ (Or.inl (by omega))).trans rfl)))) (by omega) hru
    have erg : w12 330 (10000 * a + (p + 1)) = w 330 (10000 * a + p) := by rw [show 10000 * a + (p + 1) = 10000 * a + p + 1 by omega]; exact Eq.trans (by rw [← hw12]; exact (e_up_ne _ _ (Or.inl (by omega))).trans (by rw [← hw4]; exact (e_up_ne _ _ (Or.inl (by omega))).trans (by rw [← hw6]; exact (e_up_ne _ _ (Or.inl (by omega))).trans rfl))) k1.2.2.2
    have ede : w12 275 102 = dl p + 1 := (by rw [← hw12]; exact (e_up_ne _ _ (Or.inl (by omega))).trans (by rw [← hw4]; exact e_up_eq _ _ _ _))
    exact ⟨rfl, ⟨f14, (sRel.up (sRel.up (sRel.up sRel.refl hw6 (fun q b g1 g2 => by omega)) hw4 (fun q b g1 g2 => by omega)) hw12 (fun q b g1 g2 => by omega))⟩, hT15, by omega, Or.inr ⟨(by rw [← hw12]; exact (e_up_ne _ _ (Or.inl (by omega))).trans (by rw [← hw4]; exact (e_up_ne _ _ (Or.inr (by omega))).trans (by rw [← hw6]; exact (e_up_ne _ _ (Or.inl (by omega))).trans rfl))), (by rw [← hw12]; exact (e_up_ne _ _ (Or.inr (by omega))).trans (by rw [← hw4]; exact (e_up_ne _ _ (Or.inl (by omega))).trans (by rw [← hw6]; exact (e_up_ne _ _ (Or.inl (by omega))).trans rfl))), by omega, p + 1, runOk.at hrn (by omega) (by rw [← hw12]; exact e_up_eq _ _ _ _) erg, by omega, e_kn.le (e_kn.oth (e_kn.oth (e_kn.put (b' := dl p) hst hw6 (by omega) (by omega)) hw4 (by decide)) hw12 (by decide)) (by omega), by omega, by omega⟩⟩
  · refine e_Ok.sw (tg := 124) rfl (by rw [h1]; rfl) ?_
    have k1 := hi1 (by omega)
    unfold iFT at k1
    have k2 := hi2 (by omega)
    have k3 := hi3 (by omega)
    refine e_Ok.run (t' := (126, [(4, (0, p + 1)), (0, (1, 275)), (1, (0, w 328 (10000 * a + p))), (2, (0, w 329 (10000 * a + p))), (3, (0, p))], [(1, 275), (1, 275)], w)) 2 rfl ?_
    refine e_Ok.getr (z := 276) rfl rfl rfl rfl (e_Has.eq hT rfl) (by omega) ?_
    refine e_Ok.run (t' := (135, [(4, (0, p + 1)), (0, (1, 275)), (1, (0, w 328 (10000 * a + p))), (2, (0, w 329 (10000 * a + p))), (3, (0, p))], [(1, 275), (0, 32), (0, 20932), (1, 276), (1, 275)], w)) 3 rfl ?_
    refine e_Ok.getf (z := a) rfl rfl rfl rfl h98 (by omega) ?_
    refine e_Ok.mul (z := 32 * a) rfl (by omega) (by omega) ?_
    refine e_Ok.add (z := 32 * a + 20932) rfl (by omega) (by omega) ?_
    refine e_Ok.run (t' := (141, [(4, (0, p + 1)), (0, (1, 275)), (1, (0, w 328 (10000 * a + p))), (2, (0, w 329 (10000 * a + p))), (3, (0, p))], [(0, w 329 (10000 * a + p)), (0, 32 * a + 20932), (1, 276), (1, 275)], w)) 1 rfl ?_
    refine e_Ok.add (z := 32 * a + w 329 (10000 * a + p) + 20932) rfl (by omega) (by omega) ?_
    have h17 := (e_Has.get hT (c := 276) (k := 32 * a + w 329 (10000 * a + p) + 20932) (lo := (-2147483648)) (hi := 2147483647) (nR_mid (by omega)) (by decide))
    refine e_Ok.ald (z := w 276 (32 * a + w 329 (10000 * a + p) + 20932)) rfl rfl rfl (by omega) rfl (by omega) ?_
    refine e_Ok.callV rfl (by omega) rfl rfl rfl rfl (c_363 hT (e := dl p) (e1 := dl p + 1) h102 (by omega) (by omega)) (fun r18 w19 h20 => ?_)
    obtain ⟨rfl, hw19⟩ := h20
    generalize hw21 : e_up w 345 (dl p) (w 276 (32 * a + w 329 (10000 * a + p) + 20932)) = w21 at hw19
    have f22 : e_fr (mRk t) w w21 := e_fr.up (e_fr.refl w) hw21 (by unfold mRk mLv; omega)
    have hT23 : e_Has mTy w21 := e_Has.ups hT hw21 rfl
    have f24 : e_fr (mRk t) w w19 := e_fr.up f22 hw19 (by unfold mRk mLv; omega)
    have hT25 : e_Has mTy w19 := e_Has.ups hT23 hw19 rfl
    show e_Ok 20 elay ecode eI (d + 1) 374 (146, [(4, (0, p + 1)), (0, (1, 275)), (1, (0, w 328 (10000 * a + p))), (2, (0, w 329 (10000 * a + p))), (3, (0, p))], [], w19) _
    refine e_Ok.run (t' := (460, [(4, (0, p + 1)), (0, (1, 275)), (1, (0, w 328 (10000 * a + p))), (2, (0, w 329 (10000 * a + p))), (3, (0, p))], [(0, p + 1), (1, 275)], w19)) 3 rfl ?_
    refine e_Ok.callV rfl (by omega) rfl rfl rfl rfl (c_365 (by omega) hT25 (by omega) (by rw [← hw19]; exact (e_up_ne _ _ (Or.inr (by omega))).trans (by rw [← hw21]; exact (e_up_ne _ _ (Or.inl (by omega))).trans h97)) (f := g + 1) (z := 1260 * t + 2 * g + 436) (by rw [← hw19]; exact (e_up_ne _ _ (Or.inl (by omega))).trans (by rw [← hw21]; exact (e_up_ne _ _ (Or.inl (by omega))).trans hF)) (by omega) (by omega)) (fun r26 w27 h28 => ?_)
    obtain ⟨rfl, hw27⟩ := h28
    have f29 : e_fr (mRk t) w w27 := e_fr.up f24 hw27 (by unfold mRk mLv; omega)
    have hT30 : e_Has mTy w27 := e_Has.upr hT25 hw27 (nR_FRg t (g) (by omega) (by omega) (by omega)) (by omega)
    show e_Ok 20 elay ecode eI (d + 1) 374 (463, [(4, (0, p + 1)), (0, (1, 275)), (1, (0, w 328 (10000 * a + p))), (2, (0, w 329 (10000 * a + p))), (3, (0, p))], [], w27) _
    refine e_Ok.rets rfl rfl ?_
    have e31 : w27 276 5 = w 276 5 := (by rw [← hw27]; exact (e_up_ne _ _ (Or.inr (by omega))).trans (by rw [← hw19]; exact (e_up_ne _ _ (Or.inl (by omega))).trans (by rw [← hw21]; exact (e_up_ne _ _ (Or.inl (by omega))).trans rfl)))
    have hrn := runOk.fr (w' := w27) (fun c k q1 q2 => (by rw [← hw27]; exact (e_up_ne _ _ (Or.inl (by omega))).trans (by rw [← hw19]; exact (e_up_ne _ _ (Or.inl (by omega))).trans (by rw [← hw21]; exact (e_up_ne _ _ (Or.inl (by omega))).trans rfl)))) (fun i q1 q2 => ⟨(by rw [← hw27]; exact (e_up_ne _ _ (Or.inr (by omega))).trans (by rw [← hw19]; exact (e_up_ne _ _ (Or.inl (by omega))).trans (by rw [← hw21]; exact (e_up_ne _ _ (Or.inl (by omega))).trans rfl))), (by rw [← hw27]; exact (e_up_ne _ _ (Or.inr (by omega))).trans (by rw [← hw19]; exact (e_up_ne _ _ (Or.inl (by omega))).trans (by rw [← hw21]; exact (e_up_ne _ _ (Or.inl (by omega))).trans rfl)))⟩) (by rw [← hw27]; exact (e_up_ne _ _ (Or.inr (by omega))).trans (by rw [← hw19]; exact (e_up_ne _ _ (Or.inl (by omega))).trans (by rw [← hw21]; exact (e_up_ne _ _ (Or.inl (by omega))).trans rfl))) (by rw [← hw27]; exact (e_up_ne _ _ (Or.inr (by omega))).trans (by rw [← hw19]; exact (e_up_ne _ _ (Or.inl (by omega))).trans (by rw [← hw21]; exact (e_up_ne _ _ (Or.inl (by omega))).trans rfl))) (fun k q1 q2 => (by rw [← hw27]; exact (e_up_ne _ _ (Or.inr (by omega))).trans (by rw [← hw19]; exact (e_up_ne _ _ (Or.inl (by omega))).trans (by rw [← hw21]; exact (e_up_ne _ _ (Or.inl (by omega))).trans rfl)))) (by omega) hru
    have erg : w27 330 (10000 * a + (p + 1)) = w 330 (10000 * a + p) := by rw [show 10000 * a + (p + 1) = 10000 * a + p + 1 by omega]; exact Eq.trans (by rw [← hw27]; exact (e_up_ne _ _ (Or.inl (by omega))).trans (by rw [← hw19]; exact (e_up_ne _ _ (Or.inl (by omega))).trans (by rw [← hw21]; exact (e_up_ne _ _ (Or.inl (by omega))).trans rfl))) k1.2.2.2
    have ede : w27 275 102 = dl p + 1 := (by rw [← hw27]; exact (e_up_ne _ _ (Or.inl (by omega))).trans (by rw [← hw19]; exact e_up_eq _ _ _ _))
    exact ⟨rfl, ⟨f29, (sRel.up (sRel.up (sRel.up sRel.refl hw21 (fun q b g1 g2 => by omega)) hw19 (fun q b g1 g2 => by omega)) hw27 (fun q b g1 g2 => by omega))⟩, hT30, by omega, Or.inr ⟨(by rw [← hw27]; exact (e_up_ne _ _ (Or.inl (by omega))).trans (by rw [← hw19]; exact (e_up_ne _ _ (Or.inr (by omega))).trans (by rw [← hw21]; exact (e_up_ne _ _ (Or.inl (by omega))).trans rfl))), (by rw [← hw27]; exact (e_up_ne _ _ (Or.inr (by omega))).trans (by rw [← hw19]; exact (e_up_ne _ _ (Or.inl (by omega))).trans (by rw [← hw21]; exact (e_up_ne _ _ (Or.inl (by omega))).trans rfl))), by omega, p + 1, runOk.at hrn (by omega) (by rw [← hw27]; exact e_up_eq _ _ _ _) erg, by omega, e_kn.le (e_kn.oth (e_kn.oth (e_kn.put (b' := dl p) hst hw21 (by omega) (by omega)) hw19 (by decide)) hw27 (by decide)) (by omega), by omega, by omega⟩⟩
  · refine e_Ok.sw (tg := 149) rfl (by rw [h1]; rfl) ?_
    have k1 := hi1 (by omega)
    unfold iFT at k1
    have k4 := hi4 (by omega)
    refine e_Ok.run (t' := (150, [(4, (0, p + 1)), (0, (1, 275)), (1, (0, w 328 (10000 * a + p))), (2, (0, w 329 (10000 * a + p))), (3, (0, p))], [(1, 275)], w)) 1 rfl ?_
    refine e_Ok.callV rfl (by omega) rfl rfl rfl rfl (c_364 hT (e := dl p) (u := dl p - 1) h102 (by omega) (by omega) (by have q : w 345 (dl p - 1) = w 345 (dl p - 1) := rfl; have q2 := (hst (dl p - 1) (by omega) (by omega)); omega)) (fun r32 w33 h34 => ?_)
    obtain ⟨rfl, hw33⟩ := h34
    generalize hz35 : w 345 (dl p - 1) = z35
    have z35r : z35 = w 345 (dl p - 1) := Eq.trans hz35.symm rfl
    have f36 : e_fr (mRk t) w w33 := e_fr.up (e_fr.refl w) hw33 (by unfold mRk mLv; omega)
    have hT37 : e_Has mTy w33 := e_Has.ups hT hw33 rfl
    show e_Ok 20 elay ecode eI (d + 1) 374 (153, [(4, (0, p + 1)), (0, (1, 275)), (1, (0, w 328 (10000 * a + p))), (2, (0, w 329 (10000 * a + p))), (3, (0, p))], [(0, z35)], w33) _
    refine e_Ok.run (t' := (162, [(5, (0, z35)), (4, (0, p + 1)), (0, (1, 275)), (1, (0, w 328 (10000 * a + p))), (2, (0, w 329 (10000 * a + p))), (3, (0, p))], [(4, 63), (4, 0), (4, z35)], w33)) 5 rfl ?_
    refine e_Ok.callS rfl (by omega) rfl rfl (c_266) (fun r38 w39 h40 => ?_)
    obtain ⟨z41, rfl, rfl, q42⟩ := h40
    obtain ⟨rfl, q42⟩ | ⟨rfl, q42⟩ := q42
    · show e_Ok 20 elay ecode eI (d + 1) 374 (165, [(5, (0, z35)), (4, (0, p + 1)), (0, (1, 275)), (1, (0, w 328 (10000 * a + p))), (2, (0, w 329 (10000 * a + p))), (3, (0, p))], [(0, 1)], w33) _
      refine e_Ok.if1 rfl (fun h43 => ?_) (fun h43 => ?_)
      · replace h43 : (1 : Int) ≠ 0 := h43
        refine e_Ok.run (t' := (178, [(5, (0, z35)), (4, (0, p + 1)), (0, (1, 275)), (1, (0, w 328 (10000 * a + p))), (2, (0, w 329 (10000 * a + p))), (3, (0, p))], [(0, z35), (1, 275), (1, 275)], w33)) 3 rfl ?_
        refine e_Ok.callV rfl (by omega) rfl rfl rfl rfl (c_320 hT37 (mAc.fr' (fun k q => by revert q; unfold mRk mLv; omega) f36 hA) (by omega)) (fun r44 w45 h46 => ?_)
        obtain ⟨z47, rfl, q48, q48a, q48b⟩ := h46
        have f49 : e_fr (mRk t) w w45 := e_fr.trans f36 (e_fr.mono q48 (fun c k q => by unfold mQ at q; unfold mRk mLv; omega))
        show e_Ok 20 elay ecode eI (d + 1) 374 (181, [(5, (0, z35)), (4, (0, p + 1)), (0, (1, 275)), (1, (0, w 328 (10000 * a + p))), (2, (0, w 329 (10000 * a + p))), (3, (0, p))], [(0, z47), (1, 275)], w45) _
        refine e_Ok.callV rfl (by omega) rfl rfl rfl rfl (c_363 (mT_Q q48 hT37) (e := dl p - 1) (e1 := dl p) ((q48 275 102 (by unfold mQ; omega)).trans (by rw [← hw33]; exact e_up_eq _ _ _ _)) (by omega) (by omega)) (fun r50 w51 h52 => ?_)
        obtain ⟨rfl, hw51⟩ := h52
        generalize hw53 : e_up w45 345 (dl p - 1) z47 = w53 at hw51
        have f54 : e_fr (mRk t) w w53 := e_fr.up f49 hw53 (by unfold mRk mLv; omega)
        have hT55 : e_Has mTy w53 := e_Has.ups (mT_Q q48 hT37) hw53 rfl
        have f56 : e_fr (mRk t) w w51 := e_fr.up f54 hw51 (by unfold mRk mLv; omega)
        have hT57 : e_Has mTy w51 := e_Has.ups hT55 hw51 rfl
        show e_Ok 20 elay ecode eI (d + 1) 374 (184, [(5, (0, z35)), (4, (0, p + 1)), (0, (1, 275)), (1, (0, w 328 (10000 * a + p))), (2, (0, w 329 (10000 * a + p))), (3, (0, p))], [], w51) _
        refine e_Ok.run (t' := (460, [(5, (0, z35)), (4, (0, p + 1)), (0, (1, 275)), (1, (0, w 328 (10000 * a + p))), (2, (0, w 329 (10000 * a + p))), (3, (0, p))], [(0, p + 1), (1, 275)], w51)) 3 rfl ?_
        refine e_Ok.callV rfl (by omega) rfl rfl rfl rfl (c_365 (by omega) hT57 (by omega) (by rw [← hw51]; exact (e_up_ne _ _ (Or.inr (by omega))).trans (by rw [← hw53]; exact (e_up_ne _ _ (Or.inl (by omega))).trans ((q48 275 97 (by unfold mQ; omega)).trans (by rw [← hw33]; exact (e_up_ne _ _ (Or.inr (by omega))).trans h97)))) (f := g + 1) (z := 1260 * t + 2 * g + 436) (by rw [← hw51]; exact (e_up_ne _ _ (Or.inl (by omega))).trans (by rw [← hw53]; exact (e_up_ne _ _ (Or.inl (by omega))).trans ((q48 276 (1260 * t + 428) (by unfold mQ; omega)).trans (by rw [← hw33]; exact (e_up_ne _ _ (Or.inl (by omega))).trans hF)))) (by omega) (by omega)) (fun r58 w59 h60 => ?_)
        obtain ⟨rfl, hw59⟩ := h60
        have f61 : e_fr (mRk t) w w59 := e_fr.up f56 hw59 (by unfold mRk mLv; omega)
        have hT62 : e_Has mTy w59 := e_Has.upr hT57 hw59 (nR_FRg t (g) (by omega) (by omega) (by omega)) (by omega)
        show e_Ok 20 elay ecode eI (d + 1) 374 (463, [(5, (0, z35)), (4, (0, p + 1)), (0, (1, 275)), (1, (0, w 328 (10000 * a + p))), (2, (0, w 329 (10000 * a + p))), (3, (0, p))], [], w59) _
        refine e_Ok.rets rfl rfl ?_
        have e63 : w59 276 5 = w 276 5 := (by rw [← hw59]; exact (e_up_ne _ _ (Or.inr (by omega))).trans (by rw [← hw51]; exact (e_up_ne _ _ (Or.inl (by omega))).trans (by rw [← hw53]; exact (e_up_ne _ _ (Or.inl (by omega))).trans ((q48 276 5 (by unfold mQ; omega)).trans (by rw [← hw33]; exact (e_up_ne _ _ (Or.inl (by omega))).trans rfl)))))
        have hrn := runOk.fr (w' := w59) (fun c k q1 q2 => (by rw [← hw59]; exact (e_up_ne _ _ (Or.inl (by omega))).trans (by rw [← hw51]; exact (e_up_ne _ _ (Or.inl (by omega))).trans (by rw [← hw53]; exact (e_up_ne _ _ (Or.inl (by omega))).trans ((f49 c k (by unfold mRk mLv; omega)).trans rfl))))) (fun i q1 q2 => ⟨(by rw [← hw59]; exact (e_up_ne _ _ (Or.inr (by omega))).trans (by rw [← hw51]; exact (e_up_ne _ _ (Or.inl (by omega))).trans (by rw [← hw53]; exact (e_up_ne _ _ (Or.inl (by omega))).trans ((q48 276 (1260 * t + 2 * i + 436) (by unfold mQ; omega)).trans (by rw [← hw33]; exact (e_up_ne _ _ (Or.inl (by omega))).trans rfl))))), (by rw [← hw59]; exact (e_up_ne _ _ (Or.inr (by omega))).trans (by rw [← hw51]; exact (e_up_ne _ _ (Or.inl (by omega))).trans (by rw [← hw53]; exact (e_up_ne _ _ (Or.inl (by omega))).trans ((q48 276 (1260 * t + 2 * i + 439) (by unfold mQ; omega)).trans (by rw [← hw33]; exact (e_up_ne _ _ (Or.inl (by omega))).trans rfl)))))⟩) (by rw [← hw59]; exact (e_up_ne _ _ (Or.inr (by omega))).trans (by rw [← hw51]; exact (e_up_ne _ _ (Or.inl (by omega))).trans (by rw [← hw53]; exact (e_up_ne _ _ (Or.inl (by omega))).trans ((q48 276 (1260 * t + 428) (by unfold mQ; omega)).trans (by rw [← hw33]; exact (e_up_ne _ _ (Or.inl (by omega))).trans rfl))))) (by rw [← hw59]; exact (e_up_ne _ _ (Or.inr (by omega))).trans (by rw [← hw51]; exact (e_up_ne _ _ (Or.inl (by omega))).trans (by rw [← hw53]; exact (e_up_ne _ _ (Or.inl (by omega))).trans ((q48 276 (1260 * t + 429) (by unfold mQ; omega)).trans (by rw [← hw33]; exact (e_up_ne _ _ (Or.inl (by omega))).trans rfl))))) (fun k q1 q2 => (by rw [← hw59]; exact (e_up_ne _ _ (Or.inr (by omega))).trans (by rw [← hw51]; exact (e_up_ne _ _ (Or.inl (by omega))).trans (by rw [← hw53]; exact (e_up_ne _ _ (Or.inl (by omega))).trans ((q48 276 (1260 * t + k + 476) (by unfold mQ; omega)).trans (by rw [← hw33]; exact (e_up_ne _ _ (Or.inl (by omega))).trans rfl)))))) (by omega) hru
        have erg : w59 330 (10000 * a + (p + 1)) = w 330 (10000 * a + p) := by rw [show 10000 * a + (p + 1) = 10000 * a + p + 1 by omega]; exact Eq.trans (by rw [← hw59]; exact (e_up_ne _ _ (Or.inl (by omega))).trans (by rw [← hw51]; exact (e_up_ne _ _ (Or.inl (by omega))).trans (by rw [← hw53]; exact (e_up_ne _ _ (Or.inl (by omega))).trans ((q48 330 (10000 * a + p + 1) (by unfold mQ; omega)).trans (by rw [← hw33]; exact (e_up_ne _ _ (Or.inl (by omega))).trans rfl))))) k1.2.2.2
        have ede : w59 275 102 = dl p := (by rw [← hw59]; exact (e_up_ne _ _ (Or.inl (by omega))).trans (by rw [← hw51]; exact e_up_eq _ _ _ _))
        exact ⟨rfl, ⟨f61, (sRel.up (sRel.up (sRel.up (sRel.fr (sRel.up sRel.refl hw33 (fun q b g1 g2 => by omega)) q48 (fun b g1 g2 => by unfold mQ; omega)) hw53 (fun q b g1 g2 => by omega)) hw51 (fun q b g1 g2 => by omega)) hw59 (fun q b g1 g2 => by omega))⟩, hT62, by omega, Or.inr ⟨(by rw [← hw59]; exact (e_up_ne _ _ (Or.inl (by omega))).trans (by rw [← hw51]; exact (e_up_ne _ _ (Or.inr (by omega))).trans (by rw [← hw53]; exact (e_up_ne _ _ (Or.inl (by omega))).trans ((q48 275 100 (by unfold mQ; omega)).trans (by rw [← hw33]; exact (e_up_ne _ _ (Or.inr (by omega))).trans rfl))))), (by rw [← hw59]; exact (e_up_ne _ _ (Or.inr (by omega))).trans (by rw [← hw51]; exact (e_up_ne _ _ (Or.inl (by omega))).trans (by rw [← hw53]; exact (e_up_ne _ _ (Or.inl (by omega))).trans ((q48 276 (1260 * t + 416) (by unfold mQ; omega)).trans (by rw [← hw33]; exact (e_up_ne _ _ (Or.inl (by omega))).trans rfl))))), by omega, p + 1, runOk.at hrn (by omega) (by rw [← hw59]; exact e_up_eq _ _ _ _) erg, by omega, e_kn.le (e_kn.oth (e_kn.oth (e_kn.put (b' := dl p - 1) (e_kn.fr q48 (fun k q => by unfold mQ at q; omega) (e_kn.oth hst hw33 (by decide))) hw53 (by omega) (by omega)) hw51 (by decide)) hw59 (by decide)) (by omega), by omega, by omega⟩⟩
      · replace h43 : (1 : Int) = 0 := by have q : ¬ ((1 : Int) ≠ 0) := h43; omega
        exfalso; omega
    · show e_Ok 20 elay ecode eI (d + 1) 374 (165, [(5, (0, z35)), (4, (0, p + 1)), (0, (1, 275)), (1, (0, w 328 (10000 * a + p))), (2, (0, w 329 (10000 * a + p))), (3, (0, p))], [(0, 0)], w33) _
      refine e_Ok.if1 rfl (fun h64 => ?_) (fun h64 => ?_)
      · replace h64 : (0 : Int) ≠ 0 := h64
        exfalso; omega
      · replace h64 : (0 : Int) = 0 := by have q : ¬ ((0 : Int) ≠ 0) := h64; omega
        refine e_Ok.run (t' := (170, [(5, (0, z35)), (4, (0, p + 1)), (0, (1, 275)), (1, (0, w 328 (10000 * a + p))), (2, (0, w 329 (10000 * a + p))), (3, (0, p))], [(0, 2), (1, 275)], w33)) 2 rfl ?_
        have e68 : w33 276 5 = w 276 5 := (by rw [← hw33]; exact (e_up_ne _ _ (Or.inl (by omega))).trans rfl)
        refine e_Ok.callV rfl (by omega) rfl rfl rfl rfl (c_369 (by omega) hT37 (by omega) (by omega) (by rw [← hw33]; exact (e_up_ne _ _ (Or.inr (by omega))).trans h96) (by rw [← hw33]; exact (e_up_ne _ _ (Or.inr (by omega))).trans h97) (by rw [← hw33]; exact (e_up_ne _ _ (Or.inr (by omega))).trans h98) (cOk.fr (fun c k q1 q2 => (by rw [← hw33]; exact (e_up_ne _ _ (Or.inl (by omega))).trans rfl)) hC) (runOk.at (runOk.fr (w' := w33) (fun c k q1 q2 => (by rw [← hw33]; exact (e_up_ne _ _ (Or.inl (by omega))).trans rfl)) (fun i q1 q2 => ⟨(by rw [← hw33]; exact (e_up_ne _ _ (Or.inl (by omega))).trans rfl), (by rw [← hw33]; exact (e_up_ne _ _ (Or.inl (by omega))).trans rfl)⟩) (by rw [← hw33]; exact (e_up_ne _ _ (Or.inl (by omega))).trans rfl) (by rw [← hw33]; exact (e_up_ne _ _ (Or.inl (by omega))).trans rfl) (fun k q1 q2 => (by rw [← hw33]; exact (e_up_ne _ _ (Or.inl (by omega))).trans rfl)) (by omega) hru) (by omega) (by rw [← hw33]; exact (e_up_ne _ _ (Or.inl (by omega))).trans hpc) (by rw [← hw33]; exact (e_up_ne _ _ (Or.inl (by omega))).trans rfl)) (by omega) (by omega)) (fun r65 w66 h67 => ?_)
        obtain ⟨rfl, ⟨q69, q69S⟩, q69T, q69n, q69d, q69c⟩ := h67
        have f70 : e_fr (mRk t) w w66 := e_fr.trans f36 (e_fr.mono q69 (fun c k q => by unfold mLv at q; unfold mRk mLv; omega))
        show e_Ok 20 elay ecode eI (d + 1) 374 (173, [(5, (0, z35)), (4, (0, p + 1)), (0, (1, 275)), (1, (0, w 328 (10000 * a + p))), (2, (0, w 329 (10000 * a + p))), (3, (0, p))], [], w66) _
        refine e_Ok.rets rfl rfl ?_
        exact ⟨rfl, ⟨f70, (sRel.trans (sRel.up sRel.refl hw33 (fun q b g1 g2 => by omega)) q69S)⟩, q69T, by omega, Or.inl ⟨q69d, q69c.imp id (fun h => ⟨h.1.trans (by rw [← hw33]; exact (e_up_ne _ _ (Or.inr (by omega))).trans rfl), h.2.1.trans (by rw [← hw33]; exact (e_up_ne _ _ (Or.inl (by omega))).trans rfl), h.2.2.1.trans (by rw [← hw33]; exact (e_up_ne _ _ (Or.inl (by omega))).trans rfl), h.2.2.2⟩)⟩⟩
  · refine e_Ok.sw (tg := 187) rfl (by rw [h1]; rfl) ?_
    have k1 := hi1 (by omega)
    unfold iFT at k1
    have k4 := hi4 (by omega)
    refine e_Ok.run (t' := (188, [(4, (0, p + 1)), (0, (1, 275)), (1, (0, w 328 (10000 * a + p))), (2, (0, w 329 (10000 * a + p))), (3, (0, p))], [(1, 275)], w)) 1 rfl ?_
    refine e_Ok.callV rfl (by omega) rfl rfl rfl rfl (c_364 hT (e := dl p) (u := dl p - 1) h102 (by omega) (by omega) (by have q : w 345 (dl p - 1) = w 345 (dl p - 1) := rfl; have q2 := (hst (dl p - 1) (by omega) (by omega)); omega)) (fun r71 w72 h73 => ?_)
    obtain ⟨rfl, hw72⟩ := h73
    generalize hz74 : w 345 (dl p - 1) = z74
    have z74r : z74 = w 345 (dl p - 1) := Eq.trans hz74.symm rfl
    have f75 : e_fr (mRk t) w w72 := e_fr.up (e_fr.refl w) hw72 (by unfold mRk mLv; omega)
    have hT76 : e_Has mTy w72 := e_Has.ups hT hw72 rfl
    show e_Ok 20 elay ecode eI (d + 1) 374 (191, [(4, (0, p + 1)), (0, (1, 275)), (1, (0, w 328 (10000 * a + p))), (2, (0, w 329 (10000 * a + p))), (3, (0, p))], [(0, z74)], w72) _
    refine e_Ok.run (t' := (195, [(6, (0, z74)), (4, (0, p + 1)), (0, (1, 275)), (1, (0, w 328 (10000 * a + p))), (2, (0, w 329 (10000 * a + p))), (3, (0, p))], [(1, 275), (1, 275)], w72)) 3 rfl ?_
    refine e_Ok.getf (z := a) rfl rfl rfl rfl (by rw [← hw72]; exact (e_up_ne _ _ (Or.inr (by omega))).trans h98) (by omega) ?_
    refine e_Ok.run (t' := (200, [(6, (0, z74)), (4, (0, p + 1)), (0, (1, 275)), (1, (0, w 328 (10000 * a + p))), (2, (0, w 329 (10000 * a + p))), (3, (0, p))], [(0, z74), (0, a), (1, 275)], w72)) 1 rfl ?_
    refine e_Ok.callV rfl (by omega) rfl rfl rfl rfl (c_271 (by omega) hT76) (fun r77 w78 h79 => ?_)
    obtain ⟨z80, rfl, rfl, q81⟩ := h79
    have h82 := e_Has.get hT76 (c := 275) (k := 10) (lo := 0) (hi := 4) rfl (by decide)
    have h83 := e_Has.get hT76 (c := 286) (k := a) (lo := 0) (hi := 6) rfl (by decide)
    obtain ⟨rfl, q81⟩ | ⟨rfl, q81⟩ := q81
    · show e_Ok 20 elay ecode eI (d + 1) 374 (203, [(6, (0, z74)), (4, (0, p + 1)), (0, (1, 275)), (1, (0, w 328 (10000 * a + p))), (2, (0, w 329 (10000 * a + p))), (3, (0, p))], [(0, 1)], w72) _
      refine e_Ok.if1 rfl (fun h84 => ?_) (fun h84 => ?_)
      · replace h84 : (1 : Int) ≠ 0 := h84
        refine e_Ok.run (t' := (214, [(6, (0, z74)), (4, (0, p + 1)), (0, (1, 275)), (1, (0, w 328 (10000 * a + p))), (2, (0, w 329 (10000 * a + p))), (3, (0, p))], [(1, 275), (1, 275)], w72)) 2 rfl ?_
        refine e_Ok.getr (z := 276) rfl rfl rfl rfl (by rw [← hw72]; exact (e_up_ne _ _ (Or.inr (by omega))).trans (e_Has.eq hT rfl)) (by omega) ?_
        refine e_Ok.run (t' := (218, [(6, (0, z74)), (4, (0, p + 1)), (0, (1, 275)), (1, (0, w 328 (10000 * a + p))), (2, (0, w 329 (10000 * a + p))), (3, (0, p))], [(1, 275), (1, 276), (1, 275)], w72)) 1 rfl ?_
        refine e_Ok.getf (z := a) rfl rfl rfl rfl (by rw [← hw72]; exact (e_up_ne _ _ (Or.inr (by omega))).trans h98) (by omega) ?_
        refine e_Ok.callS rfl (by omega) rfl rfl (c_268 (by omega)) (fun r85 w86 h87 => ?_)
        obtain ⟨rfl, rfl⟩ := h87
        show e_Ok 20 elay ecode eI (d + 1) 374 (224, [(6, (0, z74)), (4, (0, p + 1)), (0, (1, 275)), (1, (0, w 328 (10000 * a + p))), (2, (0, w 329 (10000 * a + p))), (3, (0, p))], [(0, 36 * a + 16), (1, 276), (1, 275)], w72) _
        refine e_Ok.run (t' := (226, [(6, (0, z74)), (4, (0, p + 1)), (0, (1, 275)), (1, (0, w 328 (10000 * a + p))), (2, (0, w 329 (10000 * a + p))), (3, (0, p))], [(0, 16), (0, 36 * a + 16), (1, 276), (1, 275)], w72)) 1 rfl ?_
        refine e_Ok.add (z := 36 * a + 32) rfl (by omega) (by omega) ?_
        refine e_Ok.run (t' := (229, [(6, (0, z74)), (4, (0, p + 1)), (0, (1, 275)), (1, (0, w 328 (10000 * a + p))), (2, (0, w 329 (10000 * a + p))), (3, (0, p))], [(0, z74), (0, 36 * a + 32), (1, 276), (1, 275)], w72)) 1 rfl ?_
        refine e_Ok.add (z := 36 * a + z74 + 32) rfl (by omega) (by omega) ?_
        have h88 := (e_Has.get hT (c := 276) (k := 36 * a + z74 + 32) (lo := (-100000)) (hi := 100000) (nR_VALUE (a := a) (j := z74) (by omega) (by omega)) (by decide))
        refine e_Ok.ald (z := w 276 (36 * a + z74 + 32)) rfl rfl rfl (by omega) (by rw [← hw72]; exact (e_up_ne _ _ (Or.inl (by omega))).trans rfl) (by omega) ?_
        refine e_Ok.callV rfl (by omega) rfl rfl rfl rfl (c_363 hT76 (e := dl p - 1) (e1 := dl p) (by rw [← hw72]; exact e_up_eq _ _ _ _) (by omega) (by omega)) (fun r89 w90 h91 => ?_)
        obtain ⟨rfl, hw90⟩ := h91
        generalize hw92 : e_up w72 345 (dl p - 1) (w 276 (36 * a + z74 + 32)) = w92 at hw90
        have f93 : e_fr (mRk t) w w92 := e_fr.up f75 hw92 (by unfold mRk mLv; omega)
        have hT94 : e_Has mTy w92 := e_Has.ups hT76 hw92 rfl
        have f95 : e_fr (mRk t) w w90 := e_fr.up f93 hw90 (by unfold mRk mLv; omega)
        have hT96 : e_Has mTy w90 := e_Has.ups hT94 hw90 rfl
        show e_Ok 20 elay ecode eI (d + 1) 374 (234, [(6, (0, z74)), (4, (0, p + 1)), (0, (1, 275)), (1, (0, w 328 (10000 * a + p))), (2, (0, w 329 (10000 * a + p))), (3, (0, p))], [], w90) _
        refine e_Ok.run (t' := (460, [(6, (0, z74)), (4, (0, p + 1)), (0, (1, 275)), (1, (0, w 328 (10000 * a + p))), (2, (0, w 329 (10000 * a + p))), (3, (0, p))], [(0, p + 1), (1, 275)], w90)) 3 rfl ?_
        refine e_Ok.callV rfl (by omega) rfl rfl rfl rfl (c_365 (by omega) hT96 (by omega) (by rw [← hw90]; exact (e_up_ne _ _ (Or.inr (by omega))).trans (by rw [← hw92]; exact (e_up_ne _ _ (Or.inl (by omega))).trans (by rw [← hw72]; exact (e_up_ne _ _ (Or.inr (by omega))).trans h97))) (f := g + 1) (z := 1260 * t + 2 * g + 436) (by rw [← hw90]; exact (e_up_ne _ _ (Or.inl (by omega))).trans (by rw [← hw92]; exact (e_up_ne _ _ (Or.inl (by omega))).trans (by rw [← hw72]; exact (e_up_ne _ _ (Or.inl (by omega))).trans hF))) (by omega) (by omega)) (fun r97 w98 h99 => ?_)
        obtain ⟨rfl, hw98⟩ := h99
        have f100 : e_fr (mRk t) w w98 := e_fr.up f95 hw98 (by unfold mRk mLv; omega)
        have hT101 : e_Has mTy w98 := e_Has.upr hT96 hw98 (nR_FRg t (g) (by omega) (by omega) (by omega)) (by omega)
        show e_Ok 20 elay ecode eI (d + 1) 374 (463, [(6, (0, z74)), (4, (0, p + 1)), (0, (1, 275)), (1, (0, w 328 (10000 * a + p))), (2, (0, w 329 (10000 * a + p))), (3, (0, p))], [], w98) _
        refine e_Ok.rets rfl rfl ?_
        have e102 : w98 276 5 = w 276 5 := (by rw [← hw98]; exact (e_up_ne _ _ (Or.inr (by omega))).trans (by rw [← hw90]; exact (e_up_ne _ _ (Or.inl (by omega))).trans (by rw [← hw92]; exact (e_up_ne _ _ (Or.inl (by omega))).trans (by rw [← hw72]; exact (e_up_ne _ _ (Or.inl (by omega))).trans rfl))))
        have hrn := runOk.fr (w' := w98) (fun c k q1 q2 => (by rw [← hw98]; exact (e_up_ne _ _ (Or.inl (by omega))).trans (by rw [← hw90]; exact (e_up_ne _ _ (Or.inl (by omega))).trans (by rw [← hw92]; exact (e_up_ne _ _ (Or.inl (by omega))).trans (by rw [← hw72]; exact (e_up_ne _ _ (Or.inl (by omega))).trans rfl))))) (fun i q1 q2 => ⟨(by rw [← hw98]; exact (e_up_ne _ _ (Or.inr (by omega))).trans (by rw [← hw90]; exact (e_up_ne _ _ (Or.inl (by omega))).trans (by rw [← hw92]; exact (e_up_ne _ _ (Or.inl (by omega))).trans (by rw [← hw72]; exact (e_up_ne _ _ (Or.inl (by omega))).trans rfl)))), (by rw [← hw98]; exact (e_up_ne _ _ (Or.inr (by omega))).trans (by rw [← hw90]; exact (e_up_ne _ _ (Or.inl (by omega))).trans (by rw [← hw92]; exact (e_up_ne _ _ (Or.inl (by omega))).trans (by rw [← hw72]; exact (e_up_ne _ _ (Or.inl (by omega))).trans rfl))))⟩) (by rw [← hw98]; exact (e_up_ne _ _ (Or.inr (by omega))).trans (by rw [← hw90]; exact (e_up_ne _ _ (Or.inl (by omega))).trans (by rw [← hw92]; exact (e_up_ne _ _ (Or.inl (by omega))).trans (by rw [← hw72]; exact (e_up_ne _ _ (Or.inl (by omega))).trans rfl)))) (by rw [← hw98]; exact (e_up_ne _ _ (Or.inr (by omega))).trans (by rw [← hw90]; exact (e_up_ne _ _ (Or.inl (by omega))).trans (by rw [← hw92]; exact (e_up_ne _ _ (Or.inl (by omega))).trans (by rw [← hw72]; exact (e_up_ne _ _ (Or.inl (by omega))).trans rfl)))) (fun k q1 q2 => (by rw [← hw98]; exact (e_up_ne _ _ (Or.inr (by omega))).trans (by rw [← hw90]; exact (e_up_ne _ _ (Or.inl (by omega))).trans (by rw [← hw92]; exact (e_up_ne _ _ (Or.inl (by omega))).trans (by rw [← hw72]; exact (e_up_ne _ _ (Or.inl (by omega))).trans rfl))))) (by omega) hru
        have erg : w98 330 (10000 * a + (p + 1)) = w 330 (10000 * a + p) := by rw [show 10000 * a + (p + 1) = 10000 * a + p + 1 by omega]; exact Eq.trans (by rw [← hw98]; exact (e_up_ne _ _ (Or.inl (by omega))).trans (by rw [← hw90]; exact (e_up_ne _ _ (Or.inl (by omega))).trans (by rw [← hw92]; exact (e_up_ne _ _ (Or.inl (by omega))).trans (by rw [← hw72]; exact (e_up_ne _ _ (Or.inl (by omega))).trans rfl)))) k1.2.2.2
        have ede : w98 275 102 = dl p := (by rw [← hw98]; exact (e_up_ne _ _ (Or.inl (by omega))).trans (by rw [← hw90]; exact e_up_eq _ _ _ _))
        exact ⟨rfl, ⟨f100, (sRel.up (sRel.up (sRel.up (sRel.up sRel.refl hw72 (fun q b g1 g2 => by omega)) hw92 (fun q b g1 g2 => by omega)) hw90 (fun q b g1 g2 => by omega)) hw98 (fun q b g1 g2 => by omega))⟩, hT101, by omega, Or.inr ⟨(by rw [← hw98]; exact (e_up_ne _ _ (Or.inl (by omega))).trans (by rw [← hw90]; exact (e_up_ne _ _ (Or.inr (by omega))).trans (by rw [← hw92]; exact (e_up_ne _ _ (Or.inl (by omega))).trans (by rw [← hw72]; exact (e_up_ne _ _ (Or.inr (by omega))).trans rfl)))), (by rw [← hw98]; exact (e_up_ne _ _ (Or.inr (by omega))).trans (by rw [← hw90]; exact (e_up_ne _ _ (Or.inl (by omega))).trans (by rw [← hw92]; exact (e_up_ne _ _ (Or.inl (by omega))).trans (by rw [← hw72]; exact (e_up_ne _ _ (Or.inl (by omega))).trans rfl)))), by omega, p + 1, runOk.at hrn (by omega) (by rw [← hw98]; exact e_up_eq _ _ _ _) erg, by omega, e_kn.le (e_kn.oth (e_kn.oth (e_kn.put (b' := dl p - 1) (e_kn.oth hst hw72 (by decide)) hw92 (by omega) (by omega)) hw90 (by decide)) hw98 (by decide)) (by omega), by omega, by omega⟩⟩
      · replace h84 : (1 : Int) = 0 := by have q : ¬ ((1 : Int) ≠ 0) := h84; omega
        exfalso; omega
    · show e_Ok 20 elay ecode eI (d + 1) 374 (203, [(6, (0, z74)), (4, (0, p + 1)), (0, (1, 275)), (1, (0, w 328 (10000 * a + p))), (2, (0, w 329 (10000 * a + p))), (3, (0, p))], [(0, 0)], w72) _
      refine e_Ok.if1 rfl (fun h103 => ?_) (fun h103 => ?_)
      · replace h103 : (0 : Int) ≠ 0 := h103
        exfalso; omega
      · replace h103 : (0 : Int) = 0 := by have q : ¬ ((0 : Int) ≠ 0) := h103; omega
        refine e_Ok.run (t' := (208, [(6, (0, z74)), (4, (0, p + 1)), (0, (1, 275)), (1, (0, w 328 (10000 * a + p))), (2, (0, w 329 (10000 * a + p))), (3, (0, p))], [(0, 2), (1, 275)], w72)) 2 rfl ?_
        have e107 : w72 276 5 = w 276 5 := (by rw [← hw72]; exact (e_up_ne _ _ (Or.inl (by omega))).trans rfl)
        refine e_Ok.callV rfl (by omega) rfl rfl rfl rfl (c_369 (by omega) hT76 (by omega) (by omega) (by rw [← hw72]; exact (e_up_ne _ _ (Or.inr (by omega))).trans h96) (by rw [← hw72]; exact (e_up_ne _ _ (Or.inr (by omega))).trans h97) (by rw [← hw72]; exact (e_up_ne _ _ (Or.inr (by omega))).trans h98) (cOk.fr (fun c k q1 q2 => (by rw [← hw72]; exact (e_up_ne _ _ (Or.inl (by omega))).trans rfl)) hC) (runOk.at (runOk.fr (w' := w72) (fun c k q1 q2 => (by rw [← hw72]; exact (e_up_ne _ _ (Or.inl (by omega))).trans rfl)) (fun i q1 q2 => ⟨(by rw [← hw72]; exact (e_up_ne _ _ (Or.inl (by omega))).trans rfl), (by rw [← hw72]; exact (e_up_ne _ _ (Or.inl (by omega))).trans rfl)⟩) (by rw [← hw72]; exact (e_up_ne _ _ (Or.inl (by omega))).trans rfl) (by rw [← hw72]; exact (e_up_ne _ _ (Or.inl (by omega))).trans rfl) (fun k q1 q2 => (by rw [← hw72]; exact (e_up_ne _ _ (Or.inl (by omega))).trans rfl)) (by omega) hru) (by omega) (by rw [← hw72]; exact (e_up_ne _ _ (Or.inl (by omega))).trans hpc) (by rw [← hw72]; exact (e_up_ne _ _ (Or.inl (by omega))).trans rfl)) (by omega) (by omega)) (fun r104 w105 h106 => ?_)
        obtain ⟨rfl, ⟨q108, q108S⟩, q108T, q108n, q108d, q108c⟩ := h106
        have f109 : e_fr (mRk t) w w105 := e_fr.trans f75 (e_fr.mono q108 (fun c k q => by unfold mLv at q; unfold mRk mLv; omega))
        show e_Ok 20 elay ecode eI (d + 1) 374 (211, [(6, (0, z74)), (4, (0, p + 1)), (0, (1, 275)), (1, (0, w 328 (10000 * a + p))), (2, (0, w 329 (10000 * a + p))), (3, (0, p))], [], w105) _
        refine e_Ok.rets rfl rfl ?_
        exact ⟨rfl, ⟨f109, (sRel.trans (sRel.up sRel.refl hw72 (fun q b g1 g2 => by omega)) q108S)⟩, q108T, by omega, Or.inl ⟨q108d, q108c.imp id (fun h => ⟨h.1.trans (by rw [← hw72]; exact (e_up_ne _ _ (Or.inr (by omega))).trans rfl), h.2.1.trans (by rw [← hw72]; exact (e_up_ne _ _ (Or.inl (by omega))).trans rfl), h.2.2.1.trans (by rw [← hw72]; exact (e_up_ne _ _ (Or.inl (by omega))).trans rfl), h.2.2.2⟩)⟩⟩
  · refine e_Ok.sw (tg := 237) rfl (by rw [h1]; rfl) ?_
    have k1 := hi1 (by omega)
    unfold iFT at k1
    have k2 := hi2 (by omega)
    refine e_Ok.run (t' := (239, [(4, (0, p + 1)), (0, (1, 275)), (1, (0, w 328 (10000 * a + p))), (2, (0, w 329 (10000 * a + p))), (3, (0, p))], [(1, 275), (1, 275)], w)) 2 rfl ?_
    refine e_Ok.getr (z := 276) rfl rfl rfl rfl (e_Has.eq hT rfl) (by omega) ?_
    refine e_Ok.run (t' := (243, [(4, (0, p + 1)), (0, (1, 275)), (1, (0, w 328 (10000 * a + p))), (2, (0, w 329 (10000 * a + p))), (3, (0, p))], [(0, 0), (1, 276), (1, 275)], w)) 1 rfl ?_
    have h110 := (e_Has.get hT (c := 276) (k := 0) (lo := 0) (hi := 6000) rfl (by decide))
    refine e_Ok.ald (z := w 276 0) rfl rfl rfl (by omega) rfl (by omega) ?_
    refine e_Ok.callV rfl (by omega) rfl rfl rfl rfl (c_363 hT (e := dl p) (e1 := dl p + 1) h102 (by omega) (by omega)) (fun r111 w112 h113 => ?_)
    obtain ⟨rfl, hw112⟩ := h113
    generalize hw114 : e_up w 345 (dl p) (w 276 0) = w114 at hw112
    have f115 : e_fr (mRk t) w w114 := e_fr.up (e_fr.refl w) hw114 (by unfold mRk mLv; omega)
    have hT116 : e_Has mTy w114 := e_Has.ups hT hw114 rfl
    have f117 : e_fr (mRk t) w w112 := e_fr.up f115 hw112 (by unfold mRk mLv; omega)
    have hT118 : e_Has mTy w112 := e_Has.ups hT116 hw112 rfl
    show e_Ok 20 elay ecode eI (d + 1) 374 (247, [(4, (0, p + 1)), (0, (1, 275)), (1, (0, w 328 (10000 * a + p))), (2, (0, w 329 (10000 * a + p))), (3, (0, p))], [], w112) _
    refine e_Ok.run (t' := (460, [(4, (0, p + 1)), (0, (1, 275)), (1, (0, w 328 (10000 * a + p))), (2, (0, w 329 (10000 * a + p))), (3, (0, p))], [(0, p + 1), (1, 275)], w112)) 3 rfl ?_
    refine e_Ok.callV rfl (by omega) rfl rfl rfl rfl (c_365 (by omega) hT118 (by omega) (by rw [← hw112]; exact (e_up_ne _ _ (Or.inr (by omega))).trans (by rw [← hw114]; exact (e_up_ne _ _ (Or.inl (by omega))).trans h97)) (f := g + 1) (z := 1260 * t + 2 * g + 436) (by rw [← hw112]; exact (e_up_ne _ _ (Or.inl (by omega))).trans (by rw [← hw114]; exact (e_up_ne _ _ (Or.inl (by omega))).trans hF)) (by omega) (by omega)) (fun r119 w120 h121 => ?_)
    obtain ⟨rfl, hw120⟩ := h121
    have f122 : e_fr (mRk t) w w120 := e_fr.up f117 hw120 (by unfold mRk mLv; omega)
    have hT123 : e_Has mTy w120 := e_Has.upr hT118 hw120 (nR_FRg t (g) (by omega) (by omega) (by omega)) (by omega)
    show e_Ok 20 elay ecode eI (d + 1) 374 (463, [(4, (0, p + 1)), (0, (1, 275)), (1, (0, w 328 (10000 * a + p))), (2, (0, w 329 (10000 * a + p))), (3, (0, p))], [], w120) _
    refine e_Ok.rets rfl rfl ?_
    have e124 : w120 276 5 = w 276 5 := (by rw [← hw120]; exact (e_up_ne _ _ (Or.inr (by omega))).trans (by rw [← hw112]; exact (e_up_ne _ _ (Or.inl (by omega))).trans (by rw [← hw114]; exact (e_up_ne _ _ (Or.inl (by omega))).trans rfl)))
    have hrn := runOk.fr (w' := w120) (fun c k q1 q2 => (by rw [← hw120]; exact (e_up_ne _ _ (Or.inl (by omega))).trans (by rw [← hw112]; exact (e_up_ne _ _ (Or.inl (by omega))).trans (by rw [← hw114]; exact (e_up_ne _ _ (Or.inl (by omega))).trans rfl)))) (fun i q1 q2 => ⟨(by rw [← hw120]; exact (e_up_ne _ _ (Or.inr (by omega))).trans (by rw [← hw112]; exact (e_up_ne _ _ (Or.inl (by omega))).trans (by rw [← hw114]; exact (e_up_ne _ _ (Or.inl (by omega))).trans rfl))), (by rw [← hw120]; exact (e_up_ne _ _ (Or.inr (by omega))).trans (by rw [← hw112]; exact (e_up_ne _ _ (Or.inl (by omega))).trans (by rw [← hw114]; exact (e_up_ne _ _ (Or.inl (by omega))).trans rfl)))⟩) (by rw [← hw120]; exact (e_up_ne _ _ (Or.inr (by omega))).trans (by rw [← hw112]; exact (e_up_ne _ _ (Or.inl (by omega))).trans (by rw [← hw114]; exact (e_up_ne _ _ (Or.inl (by omega))).trans rfl))) (by rw [← hw120]; exact (e_up_ne _ _ (Or.inr (by omega))).trans (by rw [← hw112]; exact (e_up_ne _ _ (Or.inl (by omega))).trans (by rw [← hw114]; exact (e_up_ne _ _ (Or.inl (by omega))).trans rfl))) (fun k q1 q2 => (by rw [← hw120]; exact (e_up_ne _ _ (Or.inr (by omega))).trans (by rw [← hw112]; exact (e_up_ne _ _ (Or.inl (by omega))).trans (by rw [← hw114]; exact (e_up_ne _ _ (Or.inl (by omega))).trans rfl)))) (by omega) hru
    have erg : w120 330 (10000 * a + (p + 1)) = w 330 (10000 * a + p) := by rw [show 10000 * a + (p + 1) = 10000 * a + p + 1 by omega]; exact Eq.trans (by rw [← hw120]; exact (e_up_ne _ _ (Or.inl (by omega))).trans (by rw [← hw112]; exact (e_up_ne _ _ (Or.inl (by omega))).trans (by rw [← hw114]; exact (e_up_ne _ _ (Or.inl (by omega))).trans rfl))) k1.2.2.2
    have ede : w120 275 102 = dl p + 1 := (by rw [← hw120]; exact (e_up_ne _ _ (Or.inl (by omega))).trans (by rw [← hw112]; exact e_up_eq _ _ _ _))
    exact ⟨rfl, ⟨f122, (sRel.up (sRel.up (sRel.up sRel.refl hw114 (fun q b g1 g2 => by omega)) hw112 (fun q b g1 g2 => by omega)) hw120 (fun q b g1 g2 => by omega))⟩, hT123, by omega, Or.inr ⟨(by rw [← hw120]; exact (e_up_ne _ _ (Or.inl (by omega))).trans (by rw [← hw112]; exact (e_up_ne _ _ (Or.inr (by omega))).trans (by rw [← hw114]; exact (e_up_ne _ _ (Or.inl (by omega))).trans rfl))), (by rw [← hw120]; exact (e_up_ne _ _ (Or.inr (by omega))).trans (by rw [← hw112]; exact (e_up_ne _ _ (Or.inl (by omega))).trans (by rw [← hw114]; exact (e_up_ne _ _ (Or.inl (by omega))).trans rfl))), by omega, p + 1, runOk.at hrn (by omega) (by rw [← hw120]; exact e_up_eq _ _ _ _) erg, by omega, e_kn.le (e_kn.oth (e_kn.oth (e_kn.put (b' := dl p) hst hw114 (by omega) (by omega)) hw112 (by decide)) hw120 (by decide)) (by omega), by omega, by omega⟩⟩
  · refine e_Ok.sw (tg := 250) rfl (by rw [h1]; rfl) ?_
    have k1 := hi1 (by omega)
    unfold iFT at k1
    have k2 := hi2 (by omega)
    refine e_Ok.run (t' := (252, [(4, (0, p + 1)), (0, (1, 275)), (1, (0, w 328 (10000 * a + p))), (2, (0, w 329 (10000 * a + p))), (3, (0, p))], [(1, 275), (1, 275)], w)) 2 rfl ?_
    refine e_Ok.getr (z := 276) rfl rfl rfl rfl (e_Has.eq hT rfl) (by omega) ?_
    refine e_Ok.run (t' := (256, [(4, (0, p + 1)), (0, (1, 275)), (1, (0, w 328 (10000 * a + p))), (2, (0, w 329 (10000 * a + p))), (3, (0, p))], [(1, 275), (1, 276), (1, 275)], w)) 1 rfl ?_
    refine e_Ok.getf (z := 1260 * t + 416) rfl rfl rfl rfl h97 (by omega) ?_
    refine e_Ok.run (t' := (260, [(4, (0, p + 1)), (0, (1, 275)), (1, (0, w 328 (10000 * a + p))), (2, (0, w 329 (10000 * a + p))), (3, (0, p))], [(0, 3), (0, 1260 * t + 416), (1, 276), (1, 275)], w)) 1 rfl ?_
    refine e_Ok.add (z := 1260 * t + 419) rfl (by omega) (by omega) ?_
    have h125 := (e_Has.get hT (c := 276) (k := 1260 * t + 419) (lo := (-2147483648)) (hi := 2147483647) (nR_CAUGHT (t := t) (by omega)) (by decide))
    refine e_Ok.ald (z := w 276 (1260 * t + 419)) rfl rfl rfl (by omega) rfl (by omega) ?_
    refine e_Ok.callV rfl (by omega) rfl rfl rfl rfl (c_363 hT (e := dl p) (e1 := dl p + 1) h102 (by omega) (by omega)) (fun r126 w127 h128 => ?_)
    obtain ⟨rfl, hw127⟩ := h128
    generalize hw129 : e_up w 345 (dl p) (w 276 (1260 * t + 419)) = w129 at hw127
    have f130 : e_fr (mRk t) w w129 := e_fr.up (e_fr.refl w) hw129 (by unfold mRk mLv; omega)
    have hT131 : e_Has mTy w129 := e_Has.ups hT hw129 rfl
    have f132 : e_fr (mRk t) w w127 := e_fr.up f130 hw127 (by unfold mRk mLv; omega)
    have hT133 : e_Has mTy w127 := e_Has.ups hT131 hw127 rfl
    show e_Ok 20 elay ecode eI (d + 1) 374 (265, [(4, (0, p + 1)), (0, (1, 275)), (1, (0, w 328 (10000 * a + p))), (2, (0, w 329 (10000 * a + p))), (3, (0, p))], [], w127) _
    refine e_Ok.run (t' := (460, [(4, (0, p + 1)), (0, (1, 275)), (1, (0, w 328 (10000 * a + p))), (2, (0, w 329 (10000 * a + p))), (3, (0, p))], [(0, p + 1), (1, 275)], w127)) 3 rfl ?_
    refine e_Ok.callV rfl (by omega) rfl rfl rfl rfl (c_365 (by omega) hT133 (by omega) (by rw [← hw127]; exact (e_up_ne _ _ (Or.inr (by omega))).trans (by rw [← hw129]; exact (e_up_ne _ _ (Or.inl (by omega))).trans h97)) (f := g + 1) (z := 1260 * t + 2 * g + 436) (by rw [← hw127]; exact (e_up_ne _ _ (Or.inl (by omega))).trans (by rw [← hw129]; exact (e_up_ne _ _ (Or.inl (by omega))).trans hF)) (by omega) (by omega)) (fun r134 w135 h136 => ?_)
    obtain ⟨rfl, hw135⟩ := h136
    have f137 : e_fr (mRk t) w w135 := e_fr.up f132 hw135 (by unfold mRk mLv; omega)
    have hT138 : e_Has mTy w135 := e_Has.upr hT133 hw135 (nR_FRg t (g) (by omega) (by omega) (by omega)) (by omega)
    show e_Ok 20 elay ecode eI (d + 1) 374 (463, [(4, (0, p + 1)), (0, (1, 275)), (1, (0, w 328 (10000 * a + p))), (2, (0, w 329 (10000 * a + p))), (3, (0, p))], [], w135) _
    refine e_Ok.rets rfl rfl ?_
    have e139 : w135 276 5 = w 276 5 := (by rw [← hw135]; exact (e_up_ne _ _ (Or.inr (by omega))).trans (by rw [← hw127]; exact (e_up_ne _ _ (Or.inl (by omega))).trans (by rw [← hw129]; exact (e_up_ne _ _ (Or.inl (by omega))).trans rfl)))
    have hrn := runOk.fr (w' := w135) (fun c k q1 q2 => (by rw [← hw135]; exact (e_up_ne _ _ (Or.inl (by omega))).trans (by rw [← hw127]; exact (e_up_ne _ _ (Or.inl (by omega))).trans (by rw [← hw129]; exact (e_up_ne _ _ (Or.inl (by omega))).trans rfl)))) (fun i q1 q2 => ⟨(by rw [← hw135]; exact (e_up_ne _ _ (Or.inr (by omega))).trans (by rw [← hw127]; exact (e_up_ne _ _ (Or.inl (by omega))).trans (by rw [← hw129]; exact (e_up_ne _ _ (Or.inl (by omega))).trans rfl))), (by rw [← hw135]; exact (e_up_ne _ _ (Or.inr (by omega))).trans (by rw [← hw127]; exact (e_up_ne _ _ (Or.inl (by omega))).trans (by rw [← hw129]; exact (e_up_ne _ _ (Or.inl (by omega))).trans rfl)))⟩) (by rw [← hw135]; exact (e_up_ne _ _ (Or.inr (by omega))).trans (by rw [← hw127]; exact (e_up_ne _ _ (Or.inl (by omega))).trans (by rw [← hw129]; exact (e_up_ne _ _ (Or.inl (by omega))).trans rfl))) (by rw [← hw135]; exact (e_up_ne _ _ (Or.inr (by omega))).trans (by rw [← hw127]; exact (e_up_ne _ _ (Or.inl (by omega))).trans (by rw [← hw129]; exact (e_up_ne _ _ (Or.inl (by omega))).trans rfl))) (fun k q1 q2 => (by rw [← hw135]; exact (e_up_ne _ _ (Or.inr (by omega))).trans (by rw [← hw127]; exact (e_up_ne _ _ (Or.inl (by omega))).trans (by rw [← hw129]; exact (e_up_ne _ _ (Or.inl (by omega))).trans rfl)))) (by omega) hru
    have erg : w135 330 (10000 * a + (p + 1)) = w 330 (10000 * a + p) := by rw [show 10000 * a + (p + 1) = 10000 * a + p + 1 by omega]; exact Eq.trans (by rw [← hw135]; exact (e_up_ne _ _ (Or.inl (by omega))).trans (by rw [← hw127]; exact (e_up_ne _ _ (Or.inl (by omega))).trans (by rw [← hw129]; exact (e_up_ne _ _ (Or.inl (by omega))).trans rfl))) k1.2.2.2
    have ede : w135 275 102 = dl p + 1 := (by rw [← hw135]; exact (e_up_ne _ _ (Or.inl (by omega))).trans (by rw [← hw127]; exact e_up_eq _ _ _ _))
    exact ⟨rfl, ⟨f137, (sRel.up (sRel.up (sRel.up sRel.refl hw129 (fun q b g1 g2 => by omega)) hw127 (fun q b g1 g2 => by omega)) hw135 (fun q b g1 g2 => by omega))⟩, hT138, by omega, Or.inr ⟨(by rw [← hw135]; exact (e_up_ne _ _ (Or.inl (by omega))).trans (by rw [← hw127]; exact (e_up_ne _ _ (Or.inr (by omega))).trans (by rw [← hw129]; exact (e_up_ne _ _ (Or.inl (by omega))).trans rfl))), (by rw [← hw135]; exact (e_up_ne _ _ (Or.inr (by omega))).trans (by rw [← hw127]; exact (e_up_ne _ _ (Or.inl (by omega))).trans (by rw [← hw129]; exact (e_up_ne _ _ (Or.inl (by omega))).trans rfl))), by omega, p + 1, runOk.at hrn (by omega) (by rw [← hw135]; exact e_up_eq _ _ _ _) erg, by omega, e_kn.le (e_kn.oth (e_kn.oth (e_kn.put (b' := dl p) hst hw129 (by omega) (by omega)) hw127 (by decide)) hw135 (by decide)) (by omega), by omega, by omega⟩⟩
  · refine e_Ok.sw (tg := 268) rfl (by rw [h1]; rfl) ?_
    have k1 := hi1 (by omega)
    unfold iFT at k1
    have k2 := hi2 (by omega)
    refine e_Ok.run (t' := (270, [(4, (0, p + 1)), (0, (1, 275)), (1, (0, w 328 (10000 * a + p))), (2, (0, w 329 (10000 * a + p))), (3, (0, p))], [(1, 275), (1, 275)], w)) 2 rfl ?_
    refine e_Ok.getr (z := 276) rfl rfl rfl rfl (e_Has.eq hT rfl) (by omega) ?_
    refine e_Ok.run (t' := (274, [(4, (0, p + 1)), (0, (1, 275)), (1, (0, w 328 (10000 * a + p))), (2, (0, w 329 (10000 * a + p))), (3, (0, p))], [(0, 1), (1, 276), (1, 275)], w)) 1 rfl ?_
    have h140 := (e_Has.get hT (c := 276) (k := 1) (lo := 0) (hi := 1) rfl (by decide))
    refine e_Ok.ald (z := w 276 1) rfl rfl rfl (by omega) rfl (by omega) ?_
    refine e_Ok.callV rfl (by omega) rfl rfl rfl rfl (c_363 hT (e := dl p) (e1 := dl p + 1) h102 (by omega) (by omega)) (fun r141 w142 h143 => ?_)
    obtain ⟨rfl, hw142⟩ := h143
    generalize hw144 : e_up w 345 (dl p) (w 276 1) = w144 at hw142
    have f145 : e_fr (mRk t) w w144 := e_fr.up (e_fr.refl w) hw144 (by unfold mRk mLv; omega)
    have hT146 : e_Has mTy w144 := e_Has.ups hT hw144 rfl
    have f147 : e_fr (mRk t) w w142 := e_fr.up f145 hw142 (by unfold mRk mLv; omega)
    have hT148 : e_Has mTy w142 := e_Has.ups hT146 hw142 rfl
    show e_Ok 20 elay ecode eI (d + 1) 374 (278, [(4, (0, p + 1)), (0, (1, 275)), (1, (0, w 328 (10000 * a + p))), (2, (0, w 329 (10000 * a + p))), (3, (0, p))], [], w142) _
    refine e_Ok.run (t' := (460, [(4, (0, p + 1)), (0, (1, 275)), (1, (0, w 328 (10000 * a + p))), (2, (0, w 329 (10000 * a + p))), (3, (0, p))], [(0, p + 1), (1, 275)], w142)) 3 rfl ?_
    refine e_Ok.callV rfl (by omega) rfl rfl rfl rfl (c_365 (by omega) hT148 (by omega) (by rw [← hw142]; exact (e_up_ne _ _ (Or.inr (by omega))).trans (by rw [← hw144]; exact (e_up_ne _ _ (Or.inl (by omega))).trans h97)) (f := g + 1) (z := 1260 * t + 2 * g + 436) (by rw [← hw142]; exact (e_up_ne _ _ (Or.inl (by omega))).trans (by rw [← hw144]; exact (e_up_ne _ _ (Or.inl (by omega))).trans hF)) (by omega) (by omega)) (fun r149 w150 h151 => ?_)
    obtain ⟨rfl, hw150⟩ := h151
    have f152 : e_fr (mRk t) w w150 := e_fr.up f147 hw150 (by unfold mRk mLv; omega)
    have hT153 : e_Has mTy w150 := e_Has.upr hT148 hw150 (nR_FRg t (g) (by omega) (by omega) (by omega)) (by omega)
    show e_Ok 20 elay ecode eI (d + 1) 374 (463, [(4, (0, p + 1)), (0, (1, 275)), (1, (0, w 328 (10000 * a + p))), (2, (0, w 329 (10000 * a + p))), (3, (0, p))], [], w150) _
    refine e_Ok.rets rfl rfl ?_
    have e154 : w150 276 5 = w 276 5 := (by rw [← hw150]; exact (e_up_ne _ _ (Or.inr (by omega))).trans (by rw [← hw142]; exact (e_up_ne _ _ (Or.inl (by omega))).trans (by rw [← hw144]; exact (e_up_ne _ _ (Or.inl (by omega))).trans rfl)))
    have hrn := runOk.fr (w' := w150) (fun c k q1 q2 => (by rw [← hw150]; exact (e_up_ne _ _ (Or.inl (by omega))).trans (by rw [← hw142]; exact (e_up_ne _ _ (Or.inl (by omega))).trans (by rw [← hw144]; exact (e_up_ne _ _ (Or.inl (by omega))).trans rfl)))) (fun i q1 q2 => ⟨(by rw [← hw150]; exact (e_up_ne _ _ (Or.inr (by omega))).trans (by rw [← hw142]; exact (e_up_ne _ _ (Or.inl (by omega))).trans (by rw [← hw144]; exact (e_up_ne _ _ (Or.inl (by omega))).trans rfl))), (by rw [← hw150]; exact (e_up_ne _ _ (Or.inr (by omega))).trans (by rw [← hw142]; exact (e_up_ne _ _ (Or.inl (by omega))).trans (by rw [← hw144]; exact (e_up_ne _ _ (Or.inl (by omega))).trans rfl)))⟩) (by rw [← hw150]; exact (e_up_ne _ _ (Or.inr (by omega))).trans (by rw [← hw142]; exact (e_up_ne _ _ (Or.inl (by omega))).trans (by rw [← hw144]; exact (e_up_ne _ _ (Or.inl (by omega))).trans rfl))) (by rw [← hw150]; exact (e_up_ne _ _ (Or.inr (by omega))).trans (by rw [← hw142]; exact (e_up_ne _ _ (Or.inl (by omega))).trans (by rw [← hw144]; exact (e_up_ne _ _ (Or.inl (by omega))).trans rfl))) (fun k q1 q2 => (by rw [← hw150]; exact (e_up_ne _ _ (Or.inr (by omega))).trans (by rw [← hw142]; exact (e_up_ne _ _ (Or.inl (by omega))).trans (by rw [← hw144]; exact (e_up_ne _ _ (Or.inl (by omega))).trans rfl)))) (by omega) hru
    have erg : w150 330 (10000 * a + (p + 1)) = w 330 (10000 * a + p) := by rw [show 10000 * a + (p + 1) = 10000 * a + p + 1 by omega]; exact Eq.trans (by rw [← hw150]; exact (e_up_ne _ _ (Or.inl (by omega))).trans (by rw [← hw142]; exact (e_up_ne _ _ (Or.inl (by omega))).trans (by rw [← hw144]; exact (e_up_ne _ _ (Or.inl (by omega))).trans rfl))) k1.2.2.2
    have ede : w150 275 102 = dl p + 1 := (by rw [← hw150]; exact (e_up_ne _ _ (Or.inl (by omega))).trans (by rw [← hw142]; exact e_up_eq _ _ _ _))
    exact ⟨rfl, ⟨f152, (sRel.up (sRel.up (sRel.up sRel.refl hw144 (fun q b g1 g2 => by omega)) hw142 (fun q b g1 g2 => by omega)) hw150 (fun q b g1 g2 => by omega))⟩, hT153, by omega, Or.inr ⟨(by rw [← hw150]; exact (e_up_ne _ _ (Or.inl (by omega))).trans (by rw [← hw142]; exact (e_up_ne _ _ (Or.inr (by omega))).trans (by rw [← hw144]; exact (e_up_ne _ _ (Or.inl (by omega))).trans rfl))), (by rw [← hw150]; exact (e_up_ne _ _ (Or.inr (by omega))).trans (by rw [← hw142]; exact (e_up_ne _ _ (Or.inl (by omega))).trans (by rw [← hw144]; exact (e_up_ne _ _ (Or.inl (by omega))).trans rfl))), by omega, p + 1, runOk.at hrn (by omega) (by rw [← hw150]; exact e_up_eq _ _ _ _) erg, by omega, e_kn.le (e_kn.oth (e_kn.oth (e_kn.put (b' := dl p) hst hw144 (by omega) (by omega)) hw142 (by decide)) hw150 (by decide)) (by omega), by omega, by omega⟩⟩
  · refine e_Ok.sw (tg := 281) rfl (by rw [h1]; rfl) ?_
    have k1 := hi1 (by omega)
    unfold iFT at k1
    have k2 := hi2 (by omega)
    refine e_Ok.run (t' := (283, [(4, (0, p + 1)), (0, (1, 275)), (1, (0, w 328 (10000 * a + p))), (2, (0, w 329 (10000 * a + p))), (3, (0, p))], [(1, 275), (1, 275)], w)) 2 rfl ?_
    refine e_Ok.getr (z := 276) rfl rfl rfl rfl (e_Has.eq hT rfl) (by omega) ?_
    refine e_Ok.run (t' := (287, [(4, (0, p + 1)), (0, (1, 275)), (1, (0, w 328 (10000 * a + p))), (2, (0, w 329 (10000 * a + p))), (3, (0, p))], [(1, 275), (1, 276), (1, 275)], w)) 1 rfl ?_
    refine e_Ok.getf (z := a) rfl rfl rfl rfl h98 (by omega) ?_
    refine e_Ok.callS rfl (by omega) rfl rfl (c_268 (by omega)) (fun r155 w156 h157 => ?_)
    obtain ⟨rfl, rfl⟩ := h157
    show e_Ok 20 elay ecode eI (d + 1) 374 (293, [(4, (0, p + 1)), (0, (1, 275)), (1, (0, w 328 (10000 * a + p))), (2, (0, w 329 (10000 * a + p))), (3, (0, p))], [(0, 36 * a + 16), (1, 276), (1, 275)], w) _
    refine e_Ok.run (t' := (294, [(4, (0, p + 1)), (0, (1, 275)), (1, (0, w 328 (10000 * a + p))), (2, (0, w 329 (10000 * a + p))), (3, (0, p))], [(0, 1), (0, 36 * a + 16), (1, 276), (1, 275)], w)) 1 rfl ?_
    refine e_Ok.add (z := 36 * a + 17) rfl (by omega) (by omega) ?_
    have h158 := (e_Has.get hT (c := 276) (k := 36 * a + 17) (lo := (-1)) (hi := 31) (nR_HOLDS (a := a) (by omega)) (by decide))
    refine e_Ok.ald (z := w 276 (36 * a + 17)) rfl rfl rfl (by omega) rfl (by omega) ?_
    refine e_Ok.if1 rfl (fun h159 => ?_) (fun h159 => ?_)
    · replace h159 : (w 276 (36 * a + 17) : Int) < 0 := h159
      refine e_Ok.run (t' := (304, [(4, (0, p + 1)), (0, (1, 275)), (1, (0, w 328 (10000 * a + p))), (2, (0, w 329 (10000 * a + p))), (3, (0, p))], [(0, 0), (1, 275)], w)) 1 rfl ?_
      refine e_Ok.callV rfl (by omega) rfl rfl rfl rfl (c_363 hT (e := dl p) (e1 := dl p + 1) h102 (by omega) (by omega)) (fun r160 w161 h162 => ?_)
      obtain ⟨rfl, hw161⟩ := h162
      generalize hw163 : e_up w 345 (dl p) 0 = w163 at hw161
      have f164 : e_fr (mRk t) w w163 := e_fr.up (e_fr.refl w) hw163 (by unfold mRk mLv; omega)
      have hT165 : e_Has mTy w163 := e_Has.ups hT hw163 rfl
      have f166 : e_fr (mRk t) w w161 := e_fr.up f164 hw161 (by unfold mRk mLv; omega)
      have hT167 : e_Has mTy w161 := e_Has.ups hT165 hw161 rfl
      show e_Ok 20 elay ecode eI (d + 1) 374 (307, [(4, (0, p + 1)), (0, (1, 275)), (1, (0, w 328 (10000 * a + p))), (2, (0, w 329 (10000 * a + p))), (3, (0, p))], [], w161) _
      refine e_Ok.run (t' := (460, [(4, (0, p + 1)), (0, (1, 275)), (1, (0, w 328 (10000 * a + p))), (2, (0, w 329 (10000 * a + p))), (3, (0, p))], [(0, p + 1), (1, 275)], w161)) 3 rfl ?_
      refine e_Ok.callV rfl (by omega) rfl rfl rfl rfl (c_365 (by omega) hT167 (by omega) (by rw [← hw161]; exact (e_up_ne _ _ (Or.inr (by omega))).trans (by rw [← hw163]; exact (e_up_ne _ _ (Or.inl (by omega))).trans h97)) (f := g + 1) (z := 1260 * t + 2 * g + 436) (by rw [← hw161]; exact (e_up_ne _ _ (Or.inl (by omega))).trans (by rw [← hw163]; exact (e_up_ne _ _ (Or.inl (by omega))).trans hF)) (by omega) (by omega)) (fun r168 w169 h170 => ?_)
      obtain ⟨rfl, hw169⟩ := h170
      have f171 : e_fr (mRk t) w w169 := e_fr.up f166 hw169 (by unfold mRk mLv; omega)
      have hT172 : e_Has mTy w169 := e_Has.upr hT167 hw169 (nR_FRg t (g) (by omega) (by omega) (by omega)) (by omega)
      show e_Ok 20 elay ecode eI (d + 1) 374 (463, [(4, (0, p + 1)), (0, (1, 275)), (1, (0, w 328 (10000 * a + p))), (2, (0, w 329 (10000 * a + p))), (3, (0, p))], [], w169) _
      refine e_Ok.rets rfl rfl ?_
      have e173 : w169 276 5 = w 276 5 := (by rw [← hw169]; exact (e_up_ne _ _ (Or.inr (by omega))).trans (by rw [← hw161]; exact (e_up_ne _ _ (Or.inl (by omega))).trans (by rw [← hw163]; exact (e_up_ne _ _ (Or.inl (by omega))).trans rfl)))
      have hrn := runOk.fr (w' := w169) (fun c k q1 q2 => (by rw [← hw169]; exact (e_up_ne _ _ (Or.inl (by omega))).trans (by rw [← hw161]; exact (e_up_ne _ _ (Or.inl (by omega))).trans (by rw [← hw163]; exact (e_up_ne _ _ (Or.inl (by omega))).trans rfl)))) (fun i q1 q2 => ⟨(by rw [← hw169]; exact (e_up_ne _ _ (Or.inr (by omega))).trans (by rw [← hw161]; exact (e_up_ne _ _ (Or.inl (by omega))).trans (by rw [← hw163]; exact (e_up_ne _ _ (Or.inl (by omega))).trans rfl))), (by rw [← hw169]; exact (e_up_ne _ _ (Or.inr (by omega))).trans (by rw [← hw161]; exact (e_up_ne _ _ (Or.inl (by omega))).trans (by rw [← hw163]; exact (e_up_ne _ _ (Or.inl (by omega))).trans rfl)))⟩) (by rw [← hw169]; exact (e_up_ne _ _ (Or.inr (by omega))).trans (by rw [← hw161]; exact (e_up_ne _ _ (Or.inl (by omega))).trans (by rw [← hw163]; exact (e_up_ne _ _ (Or.inl (by omega))).trans rfl))) (by rw [← hw169]; exact (e_up_ne _ _ (Or.inr (by omega))).trans (by rw [← hw161]; exact (e_up_ne _ _ (Or.inl (by omega))).trans (by rw [← hw163]; exact (e_up_ne _ _ (Or.inl (by omega))).trans rfl))) (fun k q1 q2 => (by rw [← hw169]; exact (e_up_ne _ _ (Or.inr (by omega))).trans (by rw [← hw161]; exact (e_up_ne _ _ (Or.inl (by omega))).trans (by rw [← hw163]; exact (e_up_ne _ _ (Or.inl (by omega))).trans rfl)))) (by omega) hru
      have erg : w169 330 (10000 * a + (p + 1)) = w 330 (10000 * a + p) := by rw [show 10000 * a + (p + 1) = 10000 * a + p + 1 by omega]; exact Eq.trans (by rw [← hw169]; exact (e_up_ne _ _ (Or.inl (by omega))).trans (by rw [← hw161]; exact (e_up_ne _ _ (Or.inl (by omega))).trans (by rw [← hw163]; exact (e_up_ne _ _ (Or.inl (by omega))).trans rfl))) k1.2.2.2
      have ede : w169 275 102 = dl p + 1 := (by rw [← hw169]; exact (e_up_ne _ _ (Or.inl (by omega))).trans (by rw [← hw161]; exact e_up_eq _ _ _ _))
      exact ⟨rfl, ⟨f171, (sRel.up (sRel.up (sRel.up sRel.refl hw163 (fun q b g1 g2 => by omega)) hw161 (fun q b g1 g2 => by omega)) hw169 (fun q b g1 g2 => by omega))⟩, hT172, by omega, Or.inr ⟨(by rw [← hw169]; exact (e_up_ne _ _ (Or.inl (by omega))).trans (by rw [← hw161]; exact (e_up_ne _ _ (Or.inr (by omega))).trans (by rw [← hw163]; exact (e_up_ne _ _ (Or.inl (by omega))).trans rfl))), (by rw [← hw169]; exact (e_up_ne _ _ (Or.inr (by omega))).trans (by rw [← hw161]; exact (e_up_ne _ _ (Or.inl (by omega))).trans (by rw [← hw163]; exact (e_up_ne _ _ (Or.inl (by omega))).trans rfl))), by omega, p + 1, runOk.at hrn (by omega) (by rw [← hw169]; exact e_up_eq _ _ _ _) erg, by omega, e_kn.le (e_kn.oth (e_kn.oth (e_kn.put (b' := dl p) hst hw163 (by omega) (by omega)) hw161 (by decide)) hw169 (by decide)) (by omega), by omega, by omega⟩⟩
    · replace h159 : (w 276 (36 * a + 17) : Int) ≥ 0 := by have q : ¬ ((w 276 (36 * a + 17) : Int) < 0) := h159; omega
      refine e_Ok.run (t' := (304, [(4, (0, p + 1)), (0, (1, 275)), (1, (0, w 328 (10000 * a + p))), (2, (0, w 329 (10000 * a + p))), (3, (0, p))], [(0, 1), (1, 275)], w)) 2 rfl ?_
      refine e_Ok.callV rfl (by omega) rfl rfl rfl rfl (c_363 hT (e := dl p) (e1 := dl p + 1) h102 (by omega) (by omega)) (fun r174 w175 h176 => ?_)
      obtain ⟨rfl, hw175⟩ := h176
      generalize hw177 : e_up w 345 (dl p) 1 = w177 at hw175
      have f178 : e_fr (mRk t) w w177 := e_fr.up (e_fr.refl w) hw177 (by unfold mRk mLv; omega)
      have hT179 : e_Has mTy w177 := e_Has.ups hT hw177 rfl
      have f180 : e_fr (mRk t) w w175 := e_fr.up f178 hw175 (by unfold mRk mLv; omega)
      have hT181 : e_Has mTy w175 := e_Has.ups hT179 hw175 rfl
      show e_Ok 20 elay ecode eI (d + 1) 374 (307, [(4, (0, p + 1)), (0, (1, 275)), (1, (0, w 328 (10000 * a + p))), (2, (0, w 329 (10000 * a + p))), (3, (0, p))], [], w175) _
      refine e_Ok.run (t' := (460, [(4, (0, p + 1)), (0, (1, 275)), (1, (0, w 328 (10000 * a + p))), (2, (0, w 329 (10000 * a + p))), (3, (0, p))], [(0, p + 1), (1, 275)], w175)) 3 rfl ?_
      refine e_Ok.callV rfl (by omega) rfl rfl rfl rfl (c_365 (by omega) hT181 (by omega) (by rw [← hw175]; exact (e_up_ne _ _ (Or.inr (by omega))).trans (by rw [← hw177]; exact (e_up_ne _ _ (Or.inl (by omega))).trans h97)) (f := g + 1) (z := 1260 * t + 2 * g + 436) (by rw [← hw175]; exact (e_up_ne _ _ (Or.inl (by omega))).trans (by rw [← hw177]; exact (e_up_ne _ _ (Or.inl (by omega))).trans hF)) (by omega) (by omega)) (fun r182 w183 h184 => ?_)
      obtain ⟨rfl, hw183⟩ := h184
      have f185 : e_fr (mRk t) w w183 := e_fr.up f180 hw183 (by unfold mRk mLv; omega)
      have hT186 : e_Has mTy w183 := e_Has.upr hT181 hw183 (nR_FRg t (g) (by omega) (by omega) (by omega)) (by omega)
      show e_Ok 20 elay ecode eI (d + 1) 374 (463, [(4, (0, p + 1)), (0, (1, 275)), (1, (0, w 328 (10000 * a + p))), (2, (0, w 329 (10000 * a + p))), (3, (0, p))], [], w183) _
      refine e_Ok.rets rfl rfl ?_
      have e187 : w183 276 5 = w 276 5 := (by rw [← hw183]; exact (e_up_ne _ _ (Or.inr (by omega))).trans (by rw [← hw175]; exact (e_up_ne _ _ (Or.inl (by omega))).trans (by rw [← hw177]; exact (e_up_ne _ _ (Or.inl (by omega))).trans rfl)))
      have hrn := runOk.fr (w' := w183) (fun c k q1 q2 => (by rw [← hw183]; exact (e_up_ne _ _ (Or.inl (by omega))).trans (by rw [← hw175]; exact (e_up_ne _ _ (Or.inl (by omega))).trans (by rw [← hw177]; exact (e_up_ne _ _ (Or.inl (by omega))).trans rfl)))) (fun i q1 q2 => ⟨(by rw [← hw183]; exact (e_up_ne _ _ (Or.inr (by omega))).trans (by rw [← hw175]; exact (e_up_ne _ _ (Or.inl (by omega))).trans (by rw [← hw177]; exact (e_up_ne _ _ (Or.inl (by omega))).trans rfl))), (by rw [← hw183]; exact (e_up_ne _ _ (Or.inr (by omega))).trans (by rw [← hw175]; exact (e_up_ne _ _ (Or.inl (by omega))).trans (by rw [← hw177]; exact (e_up_ne _ _ (Or.inl (by omega))).trans rfl)))⟩) (by rw [← hw183]; exact (e_up_ne _ _ (Or.inr (by omega))).trans (by rw [← hw175]; exact (e_up_ne _ _ (Or.inl (by omega))).trans (by rw [← hw177]; exact (e_up_ne _ _ (Or.inl (by omega))).trans rfl))) (by rw [← hw183]; exact (e_up_ne _ _ (Or.inr (by omega))).trans (by rw [← hw175]; exact (e_up_ne _ _ (Or.inl (by omega))).trans (by rw [← hw177]; exact (e_up_ne _ _ (Or.inl (by omega))).trans rfl))) (fun k q1 q2 => (by rw [← hw183]; exact (e_up_ne _ _ (Or.inr (by omega))).trans (by rw [← hw175]; exact (e_up_ne _ _ (Or.inl (by omega))).trans (by rw [← hw177]; exact (e_up_ne _ _ (Or.inl (by omega))).trans rfl)))) (by omega) hru
      have erg : w183 330 (10000 * a + (p + 1)) = w 330 (10000 * a + p) := by rw [show 10000 * a + (p + 1) = 10000 * a + p + 1 by omega]; exact Eq.trans (by rw [← hw183]; exact (e_up_ne _ _ (Or.inl (by omega))).trans (by rw [← hw175]; exact (e_up_ne _ _ (Or.inl (by omega))).trans (by rw [← hw177]; exact (e_up_ne _ _ (Or.inl (by omega))).trans rfl))) k1.2.2.2
      have ede : w183 275 102 = dl p + 1 := (by rw [← hw183]; exact (e_up_ne _ _ (Or.inl (by omega))).trans (by rw [← hw175]; exact e_up_eq _ _ _ _))
      exact ⟨rfl, ⟨f185, (sRel.up (sRel.up (sRel.up sRel.refl hw177 (fun q b g1 g2 => by omega)) hw175 (fun q b g1 g2 => by omega)) hw183 (fun q b g1 g2 => by omega))⟩, hT186, by omega, Or.inr ⟨(by rw [← hw183]; exact (e_up_ne _ _ (Or.inl (by omega))).trans (by rw [← hw175]; exact (e_up_ne _ _ (Or.inr (by omega))).trans (by rw [← hw177]; exact (e_up_ne _ _ (Or.inl (by omega))).trans rfl))), (by rw [← hw183]; exact (e_up_ne _ _ (Or.inr (by omega))).trans (by rw [← hw175]; exact (e_up_ne _ _ (Or.inl (by omega))).trans (by rw [← hw177]; exact (e_up_ne _ _ (Or.inl (by omega))).trans rfl))), by omega, p + 1, runOk.at hrn (by omega) (by rw [← hw183]; exact e_up_eq _ _ _ _) erg, by omega, e_kn.le (e_kn.oth (e_kn.oth (e_kn.put (b' := dl p) hst hw177 (by omega) (by omega)) hw175 (by decide)) hw183 (by decide)) (by omega), by omega, by omega⟩⟩
  · refine e_Ok.sw (tg := 310) rfl (by rw [h1]; rfl) ?_
    have k1 := hi1 (by omega)
    unfold iFT at k1
    have k4 := hi4 (by omega)
    refine e_Ok.run (t' := (312, [(4, (0, p + 1)), (0, (1, 275)), (1, (0, w 328 (10000 * a + p))), (2, (0, w 329 (10000 * a + p))), (3, (0, p))], [(1, 275), (1, 275)], w)) 2 rfl ?_
    refine e_Ok.callV rfl (by omega) rfl rfl rfl rfl (c_364 hT (e := dl p) (u := dl p - 1) h102 (by omega) (by omega) (by have q : w 345 (dl p - 1) = w 345 (dl p - 1) := rfl; have q2 := (hst (dl p - 1) (by omega) (by omega)); omega)) (fun r188 w189 h190 => ?_)
    obtain ⟨rfl, hw189⟩ := h190
    generalize hz191 : w 345 (dl p - 1) = z191
    have z191r : z191 = w 345 (dl p - 1) := Eq.trans hz191.symm rfl
    have f192 : e_fr (mRk t) w w189 := e_fr.up (e_fr.refl w) hw189 (by unfold mRk mLv; omega)
    have hT193 : e_Has mTy w189 := e_Has.ups hT hw189 rfl
    show e_Ok 20 elay ecode eI (d + 1) 374 (315, [(4, (0, p + 1)), (0, (1, 275)), (1, (0, w 328 (10000 * a + p))), (2, (0, w 329 (10000 * a + p))), (3, (0, p))], [(0, z191), (1, 275)], w189) _
    refine e_Ok.anyU rfl (fun z194 z194a z194b => ?_)
    refine e_Ok.callV rfl (by omega) rfl rfl rfl rfl (c_363 hT193 (e := dl p - 1) (e1 := dl p) (by rw [← hw189]; exact e_up_eq _ _ _ _) (by omega) (by omega)) (fun r195 w196 h197 => ?_)
    obtain ⟨rfl, hw196⟩ := h197
    generalize hw198 : e_up w189 345 (dl p - 1) z194 = w198 at hw196
    have f199 : e_fr (mRk t) w w198 := e_fr.up f192 hw198 (by unfold mRk mLv; omega)
    have hT200 : e_Has mTy w198 := e_Has.ups hT193 hw198 rfl
    have f201 : e_fr (mRk t) w w196 := e_fr.up f199 hw196 (by unfold mRk mLv; omega)
    have hT202 : e_Has mTy w196 := e_Has.ups hT200 hw196 rfl
    show e_Ok 20 elay ecode eI (d + 1) 374 (319, [(4, (0, p + 1)), (0, (1, 275)), (1, (0, w 328 (10000 * a + p))), (2, (0, w 329 (10000 * a + p))), (3, (0, p))], [], w196) _
    refine e_Ok.run (t' := (460, [(4, (0, p + 1)), (0, (1, 275)), (1, (0, w 328 (10000 * a + p))), (2, (0, w 329 (10000 * a + p))), (3, (0, p))], [(0, p + 1), (1, 275)], w196)) 3 rfl ?_
    refine e_Ok.callV rfl (by omega) rfl rfl rfl rfl (c_365 (by omega) hT202 (by omega) (by rw [← hw196]; exact (e_up_ne _ _ (Or.inr (by omega))).trans (by rw [← hw198]; exact (e_up_ne _ _ (Or.inl (by omega))).trans (by rw [← hw189]; exact (e_up_ne _ _ (Or.inr (by omega))).trans h97))) (f := g + 1) (z := 1260 * t + 2 * g + 436) (by rw [← hw196]; exact (e_up_ne _ _ (Or.inl (by omega))).trans (by rw [← hw198]; exact (e_up_ne _ _ (Or.inl (by omega))).trans (by rw [← hw189]; exact (e_up_ne _ _ (Or.inl (by omega))).trans hF))) (by omega) (by omega)) (fun r203 w204 h205 => ?_)
    obtain ⟨rfl, hw204⟩ := h205
    have f206 : e_fr (mRk t) w w204 := e_fr.up f201 hw204 (by unfold mRk mLv; omega)
    have hT207 : e_Has mTy w204 := e_Has.upr hT202 hw204 (nR_FRg t (g) (by omega) (by omega) (by omega)) (by omega)
    show e_Ok 20 elay ecode eI (d + 1) 374 (463, [(4, (0, p + 1)), (0, (1, 275)), (1, (0, w 328 (10000 * a + p))), (2, (0, w 329 (10000 * a + p))), (3, (0, p))], [], w204) _
    refine e_Ok.rets rfl rfl ?_
    have e208 : w204 276 5 = w 276 5 := (by rw [← hw204]; exact (e_up_ne _ _ (Or.inr (by omega))).trans (by rw [← hw196]; exact (e_up_ne _ _ (Or.inl (by omega))).trans (by rw [← hw198]; exact (e_up_ne _ _ (Or.inl (by omega))).trans (by rw [← hw189]; exact (e_up_ne _ _ (Or.inl (by omega))).trans rfl))))
    have hrn := runOk.fr (w' := w204) (fun c k q1 q2 => (by rw [← hw204]; exact (e_up_ne _ _ (Or.inl (by omega))).trans (by rw [← hw196]; exact (e_up_ne _ _ (Or.inl (by omega))).trans (by rw [← hw198]; exact (e_up_ne _ _ (Or.inl (by omega))).trans (by rw [← hw189]; exact (e_up_ne _ _ (Or.inl (by omega))).trans rfl))))) (fun i q1 q2 => ⟨(by rw [← hw204]; exact (e_up_ne _ _ (Or.inr (by omega))).trans (by rw [← hw196]; exact (e_up_ne _ _ (Or.inl (by omega))).trans (by rw [← hw198]; exact (e_up_ne _ _ (Or.inl (by omega))).trans (by rw [← hw189]; exact (e_up_ne _ _ (Or.inl (by omega))).trans rfl)))), (by rw [← hw204]; exact (e_up_ne _ _ (Or.inr (by omega))).trans (by rw [← hw196]; exact (e_up_ne _ _ (Or.inl (by omega))).trans (by rw [← hw198]; exact (e_up_ne _ _ (Or.inl (by omega))).trans (by rw [← hw189]; exact (e_up_ne _ _ (Or.inl (by omega))).trans rfl))))⟩) (by rw [← hw204]; exact (e_up_ne _ _ (Or.inr (by omega))).trans (by rw [← hw196]; exact (e_up_ne _ _ (Or.inl (by omega))).trans (by rw [← hw198]; exact (e_up_ne _ _ (Or.inl (by omega))).trans (by rw [← hw189]; exact (e_up_ne _ _ (Or.inl (by omega))).trans rfl)))) (by rw [← hw204]; exact (e_up_ne _ _ (Or.inr (by omega))).trans (by rw [← hw196]; exact (e_up_ne _ _ (Or.inl (by omega))).trans (by rw [← hw198]; exact (e_up_ne _ _ (Or.inl (by omega))).trans (by rw [← hw189]; exact (e_up_ne _ _ (Or.inl (by omega))).trans rfl)))) (fun k q1 q2 => (by rw [← hw204]; exact (e_up_ne _ _ (Or.inr (by omega))).trans (by rw [← hw196]; exact (e_up_ne _ _ (Or.inl (by omega))).trans (by rw [← hw198]; exact (e_up_ne _ _ (Or.inl (by omega))).trans (by rw [← hw189]; exact (e_up_ne _ _ (Or.inl (by omega))).trans rfl))))) (by omega) hru
    have erg : w204 330 (10000 * a + (p + 1)) = w 330 (10000 * a + p) := by rw [show 10000 * a + (p + 1) = 10000 * a + p + 1 by omega]; exact Eq.trans (by rw [← hw204]; exact (e_up_ne _ _ (Or.inl (by omega))).trans (by rw [← hw196]; exact (e_up_ne _ _ (Or.inl (by omega))).trans (by rw [← hw198]; exact (e_up_ne _ _ (Or.inl (by omega))).trans (by rw [← hw189]; exact (e_up_ne _ _ (Or.inl (by omega))).trans rfl)))) k1.2.2.2
    have ede : w204 275 102 = dl p := (by rw [← hw204]; exact (e_up_ne _ _ (Or.inl (by omega))).trans (by rw [← hw196]; exact e_up_eq _ _ _ _))
    exact ⟨rfl, ⟨f206, (sRel.up (sRel.up (sRel.up (sRel.up sRel.refl hw189 (fun q b g1 g2 => by omega)) hw198 (fun q b g1 g2 => by omega)) hw196 (fun q b g1 g2 => by omega)) hw204 (fun q b g1 g2 => by omega))⟩, hT207, by omega, Or.inr ⟨(by rw [← hw204]; exact (e_up_ne _ _ (Or.inl (by omega))).trans (by rw [← hw196]; exact (e_up_ne _ _ (Or.inr (by omega))).trans (by rw [← hw198]; exact (e_up_ne _ _ (Or.inl (by omega))).trans (by rw [← hw189]; exact (e_up_ne _ _ (Or.inr (by omega))).trans rfl)))), (by rw [← hw204]; exact (e_up_ne _ _ (Or.inr (by omega))).trans (by rw [← hw196]; exact (e_up_ne _ _ (Or.inl (by omega))).trans (by rw [← hw198]; exact (e_up_ne _ _ (Or.inl (by omega))).trans (by rw [← hw189]; exact (e_up_ne _ _ (Or.inl (by omega))).trans rfl)))), by omega, p + 1, runOk.at hrn (by omega) (by rw [← hw204]; exact e_up_eq _ _ _ _) erg, by omega, e_kn.le (e_kn.oth (e_kn.oth (e_kn.put (b' := dl p - 1) (e_kn.oth hst hw189 (by decide)) hw198 (by omega) (by omega)) hw196 (by decide)) hw204 (by decide)) (by omega), by omega, by omega⟩⟩
  · refine e_Ok.sw (tg := 410) rfl (by rcases h1 with h1 | h1 | h1 | h1 | h1 | h1 | h1 | h1 | h1 | h1 | h1 <;> (rw [h1]; rfl)) ?_
    have k1 := hi1 (by omega)
    unfold iFT at k1
    have k6 := hi6 (by omega)
    refine e_Ok.run (t' := (411, [(4, (0, p + 1)), (0, (1, 275)), (1, (0, w 328 (10000 * a + p))), (2, (0, w 329 (10000 * a + p))), (3, (0, p))], [(1, 275)], w)) 1 rfl ?_
    refine e_Ok.callV rfl (by omega) rfl rfl rfl rfl (c_364 hT (e := dl p) (u := dl p - 1) h102 (by omega) (by omega) (by have q : w 345 (dl p - 1) = w 345 (dl p - 1) := rfl; have q2 := (hst (dl p - 1) (by omega) (by omega)); omega)) (fun r209 w210 h211 => ?_)
    obtain ⟨rfl, hw210⟩ := h211
    generalize hz212 : w 345 (dl p - 1) = z212
    have z212r : z212 = w 345 (dl p - 1) := Eq.trans hz212.symm rfl
    have f213 : e_fr (mRk t) w w210 := e_fr.up (e_fr.refl w) hw210 (by unfold mRk mLv; omega)
    have hT214 : e_Has mTy w210 := e_Has.ups hT hw210 rfl
    show e_Ok 20 elay ecode eI (d + 1) 374 (414, [(4, (0, p + 1)), (0, (1, 275)), (1, (0, w 328 (10000 * a + p))), (2, (0, w 329 (10000 * a + p))), (3, (0, p))], [(0, z212)], w210) _
    refine e_Ok.run (t' := (417, [(8, (0, z212)), (4, (0, p + 1)), (0, (1, 275)), (1, (0, w 328 (10000 * a + p))), (2, (0, w 329 (10000 * a + p))), (3, (0, p))], [(1, 275)], w210)) 2 rfl ?_
    refine e_Ok.callV rfl (by omega) rfl rfl rfl rfl (c_364 hT214 (e := dl p - 1) (u := dl p - 2) (by rw [← hw210]; exact e_up_eq _ _ _ _) (by omega) (by omega) (by have q : w210 345 (dl p - 2) = w 345 (dl p - 2) := (by rw [← hw210]; exact (e_up_ne _ _ (Or.inl (by omega))).trans rfl); have q2 := (hst (dl p - 2) (by omega) (by omega)); omega)) (fun r215 w216 h217 => ?_)
    obtain ⟨rfl, hw216⟩ := h217
    generalize hz218 : w210 345 (dl p - 2) = z218
    have z218r : z218 = w 345 (dl p - 2) := Eq.trans hz218.symm (by rw [← hw210]; exact (e_up_ne _ _ (Or.inl (by omega))).trans rfl)
    have f219 : e_fr (mRk t) w w216 := e_fr.up f213 hw216 (by unfold mRk mLv; omega)
    have hT220 : e_Has mTy w216 := e_Has.ups hT214 hw216 rfl
    show e_Ok 20 elay ecode eI (d + 1) 374 (420, [(8, (0, z212)), (4, (0, p + 1)), (0, (1, 275)), (1, (0, w 328 (10000 * a + p))), (2, (0, w 329 (10000 * a + p))), (3, (0, p))], [(0, z218)], w216) _
    refine e_Ok.run (t' := (424, [(9, (0, z218)), (8, (0, z212)), (4, (0, p + 1)), (0, (1, 275)), (1, (0, w 328 (10000 * a + p))), (2, (0, w 329 (10000 * a + p))), (3, (0, p))], [(0, z212)], w216)) 2 rfl ?_
    refine e_Ok.if1 rfl (fun h221 => ?_) (fun h221 => ?_)
    · replace h221 : (z212 : Int) ≠ 0 := h221
      refine e_Ok.run (t' := (451, [(9, (0, z218)), (8, (0, z212)), (4, (0, p + 1)), (0, (1, 275)), (1, (0, w 328 (10000 * a + p))), (2, (0, w 329 (10000 * a + p))), (3, (0, p))], [(0, z212), (0, z218), (0, w 328 (10000 * a + p)), (1, 275)], w216)) 4 rfl ?_
      refine e_Ok.callS rfl (by omega) rfl rfl (c_375 (by omega) (fun q => by omega)) (fun r222 w223 h224 => ?_)
      obtain ⟨z225, rfl, rfl, q226a, q226b⟩ := h224
      show e_Ok 20 elay ecode eI (d + 1) 374 (454, [(9, (0, z218)), (8, (0, z212)), (4, (0, p + 1)), (0, (1, 275)), (1, (0, w 328 (10000 * a + p))), (2, (0, w 329 (10000 * a + p))), (3, (0, p))], [(0, z225), (1, 275)], w216) _
      refine e_Ok.callV rfl (by omega) rfl rfl rfl rfl (c_363 hT220 (e := dl p - 2) (e1 := dl p - 1) (by rw [← hw216]; exact e_up_eq _ _ _ _) (by omega) (by omega)) (fun r227 w228 h229 => ?_)
      obtain ⟨rfl, hw228⟩ := h229
      generalize hw230 : e_up w216 345 (dl p - 2) z225 = w230 at hw228
      have f231 : e_fr (mRk t) w w230 := e_fr.up f219 hw230 (by unfold mRk mLv; omega)
      have hT232 : e_Has mTy w230 := e_Has.ups hT220 hw230 rfl
      have f233 : e_fr (mRk t) w w228 := e_fr.up f231 hw228 (by unfold mRk mLv; omega)
      have hT234 : e_Has mTy w228 := e_Has.ups hT232 hw228 rfl
      show e_Ok 20 elay ecode eI (d + 1) 374 (457, [(9, (0, z218)), (8, (0, z212)), (4, (0, p + 1)), (0, (1, 275)), (1, (0, w 328 (10000 * a + p))), (2, (0, w 329 (10000 * a + p))), (3, (0, p))], [], w228) _
      refine e_Ok.run (t' := (460, [(9, (0, z218)), (8, (0, z212)), (4, (0, p + 1)), (0, (1, 275)), (1, (0, w 328 (10000 * a + p))), (2, (0, w 329 (10000 * a + p))), (3, (0, p))], [(0, p + 1), (1, 275)], w228)) 2 rfl ?_
      refine e_Ok.callV rfl (by omega) rfl rfl rfl rfl (c_365 (by omega) hT234 (by omega) (by rw [← hw228]; exact (e_up_ne _ _ (Or.inr (by omega))).trans (by rw [← hw230]; exact (e_up_ne _ _ (Or.inl (by omega))).trans (by rw [← hw216]; exact (e_up_ne _ _ (Or.inr (by omega))).trans (by rw [← hw210]; exact (e_up_ne _ _ (Or.inr (by omega))).trans h97)))) (f := g + 1) (z := 1260 * t + 2 * g + 436) (by rw [← hw228]; exact (e_up_ne _ _ (Or.inl (by omega))).trans (by rw [← hw230]; exact (e_up_ne _ _ (Or.inl (by omega))).trans (by rw [← hw216]; exact (e_up_ne _ _ (Or.inl (by omega))).trans (by rw [← hw210]; exact (e_up_ne _ _ (Or.inl (by omega))).trans hF)))) (by omega) (by omega)) (fun r235 w236 h237 => ?_)
      obtain ⟨rfl, hw236⟩ := h237
      have f238 : e_fr (mRk t) w w236 := e_fr.up f233 hw236 (by unfold mRk mLv; omega)
      have hT239 : e_Has mTy w236 := e_Has.upr hT234 hw236 (nR_FRg t (g) (by omega) (by omega) (by omega)) (by omega)
      show e_Ok 20 elay ecode eI (d + 1) 374 (463, [(9, (0, z218)), (8, (0, z212)), (4, (0, p + 1)), (0, (1, 275)), (1, (0, w 328 (10000 * a + p))), (2, (0, w 329 (10000 * a + p))), (3, (0, p))], [], w236) _
      refine e_Ok.rets rfl rfl ?_
      have e240 : w236 276 5 = w 276 5 := (by rw [← hw236]; exact (e_up_ne _ _ (Or.inr (by omega))).trans (by rw [← hw228]; exact (e_up_ne _ _ (Or.inl (by omega))).trans (by rw [← hw230]; exact (e_up_ne _ _ (Or.inl (by omega))).trans (by rw [← hw216]; exact (e_up_ne _ _ (Or.inl (by omega))).trans (by rw [← hw210]; exact (e_up_ne _ _ (Or.inl (by omega))).trans rfl)))))
      have hrn := runOk.fr (w' := w236) (fun c k q1 q2 => (by rw [← hw236]; exact (e_up_ne _ _ (Or.inl (by omega))).trans (by rw [← hw228]; exact (e_up_ne _ _ (Or.inl (by omega))).trans (by rw [← hw230]; exact (e_up_ne _ _ (Or.inl (by omega))).trans (by rw [← hw216]; exact (e_up_ne _ _ (Or.inl (by omega))).trans (by rw [← hw210]; exact (e_up_ne _ _ (Or.inl (by omega))).trans rfl)))))) (fun i q1 q2 => ⟨(by rw [← hw236]; exact (e_up_ne _ _ (Or.inr (by omega))).trans (by rw [← hw228]; exact (e_up_ne _ _ (Or.inl (by omega))).trans (by rw [← hw230]; exact (e_up_ne _ _ (Or.inl (by omega))).trans (by rw [← hw216]; exact (e_up_ne _ _ (Or.inl (by omega))).trans (by rw [← hw210]; exact (e_up_ne _ _ (Or.inl (by omega))).trans rfl))))), (by rw [← hw236]; exact (e_up_ne _ _ (Or.inr (by omega))).trans (by rw [← hw228]; exact (e_up_ne _ _ (Or.inl (by omega))).trans (by rw [← hw230]; exact (e_up_ne _ _ (Or.inl (by omega))).trans (by rw [← hw216]; exact (e_up_ne _ _ (Or.inl (by omega))).trans (by rw [← hw210]; exact (e_up_ne _ _ (Or.inl (by omega))).trans rfl)))))⟩) (by rw [← hw236]; exact (e_up_ne _ _ (Or.inr (by omega))).trans (by rw [← hw228]; exact (e_up_ne _ _ (Or.inl (by omega))).trans (by rw [← hw230]; exact (e_up_ne _ _ (Or.inl (by omega))).trans (by rw [← hw216]; exact (e_up_ne _ _ (Or.inl (by omega))).trans (by rw [← hw210]; exact (e_up_ne _ _ (Or.inl (by omega))).trans rfl))))) (by rw [← hw236]; exact (e_up_ne _ _ (Or.inr (by omega))).trans (by rw [← hw228]; exact (e_up_ne _ _ (Or.inl (by omega))).trans (by rw [← hw230]; exact (e_up_ne _ _ (Or.inl (by omega))).trans (by rw [← hw216]; exact (e_up_ne _ _ (Or.inl (by omega))).trans (by rw [← hw210]; exact (e_up_ne _ _ (Or.inl (by omega))).trans rfl))))) (fun k q1 q2 => (by rw [← hw236]; exact (e_up_ne _ _ (Or.inr (by omega))).trans (by rw [← hw228]; exact (e_up_ne _ _ (Or.inl (by omega))).trans (by rw [← hw230]; exact (e_up_ne _ _ (Or.inl (by omega))).trans (by rw [← hw216]; exact (e_up_ne _ _ (Or.inl (by omega))).trans (by rw [← hw210]; exact (e_up_ne _ _ (Or.inl (by omega))).trans rfl)))))) (by omega) hru
      have erg : w236 330 (10000 * a + (p + 1)) = w 330 (10000 * a + p) := by rw [show 10000 * a + (p + 1) = 10000 * a + p + 1 by omega]; exact Eq.trans (by rw [← hw236]; exact (e_up_ne _ _ (Or.inl (by omega))).trans (by rw [← hw228]; exact (e_up_ne _ _ (Or.inl (by omega))).trans (by rw [← hw230]; exact (e_up_ne _ _ (Or.inl (by omega))).trans (by rw [← hw216]; exact (e_up_ne _ _ (Or.inl (by omega))).trans (by rw [← hw210]; exact (e_up_ne _ _ (Or.inl (by omega))).trans rfl))))) k1.2.2.2
      have ede : w236 275 102 = dl p - 1 := (by rw [← hw236]; exact (e_up_ne _ _ (Or.inl (by omega))).trans (by rw [← hw228]; exact e_up_eq _ _ _ _))
      exact ⟨rfl, ⟨f238, (sRel.up (sRel.up (sRel.up (sRel.up (sRel.up sRel.refl hw210 (fun q b g1 g2 => by omega)) hw216 (fun q b g1 g2 => by omega)) hw230 (fun q b g1 g2 => by omega)) hw228 (fun q b g1 g2 => by omega)) hw236 (fun q b g1 g2 => by omega))⟩, hT239, by omega, Or.inr ⟨(by rw [← hw236]; exact (e_up_ne _ _ (Or.inl (by omega))).trans (by rw [← hw228]; exact (e_up_ne _ _ (Or.inr (by omega))).trans (by rw [← hw230]; exact (e_up_ne _ _ (Or.inl (by omega))).trans (by rw [← hw216]; exact (e_up_ne _ _ (Or.inr (by omega))).trans (by rw [← hw210]; exact (e_up_ne _ _ (Or.inr (by omega))).trans rfl))))), (by rw [← hw236]; exact (e_up_ne _ _ (Or.inr (by omega))).trans (by rw [← hw228]; exact (e_up_ne _ _ (Or.inl (by omega))).trans (by rw [← hw230]; exact (e_up_ne _ _ (Or.inl (by omega))).trans (by rw [← hw216]; exact (e_up_ne _ _ (Or.inl (by omega))).trans (by rw [← hw210]; exact (e_up_ne _ _ (Or.inl (by omega))).trans rfl))))), by omega, p + 1, runOk.at hrn (by omega) (by rw [← hw236]; exact e_up_eq _ _ _ _) erg, by omega, e_kn.le (e_kn.oth (e_kn.oth (e_kn.put (b' := dl p - 1) (e_kn.oth (e_kn.oth hst hw210 (by decide)) hw216 (by decide)) hw230 (by omega) (by omega)) hw228 (by decide)) hw236 (by decide)) (by omega), by omega, by omega⟩⟩
    · replace h221 : (z212 : Int) = 0 := by have q : ¬ ((z212 : Int) ≠ 0) := h221; omega
      refine e_Ok.run (t' := (430, [(9, (0, z218)), (8, (0, z212)), (4, (0, p + 1)), (0, (1, 275)), (1, (0, w 328 (10000 * a + p))), (2, (0, w 329 (10000 * a + p))), (3, (0, p))], [(0, 13), (0, w 328 (10000 * a + p))], w216)) 2 rfl ?_
      refine e_Ok.if2 rfl (fun h241 => ?_) (fun h241 => ?_)
      · replace h241 : (w 328 (10000 * a + p) : Int) = 13 := h241
        refine e_Ok.run (t' := (441, [(9, (0, z218)), (8, (0, z212)), (4, (0, p + 1)), (0, (1, 275)), (1, (0, w 328 (10000 * a + p))), (2, (0, w 329 (10000 * a + p))), (3, (0, p))], [(0, 1), (1, 275)], w216)) 2 rfl ?_
        have e245 : w216 276 5 = w 276 5 := (by rw [← hw216]; exact (e_up_ne _ _ (Or.inl (by omega))).trans (by rw [← hw210]; exact (e_up_ne _ _ (Or.inl (by omega))).trans rfl))
        refine e_Ok.callV rfl (by omega) rfl rfl rfl rfl (c_369 (by omega) hT220 (by omega) (by omega) (by rw [← hw216]; exact (e_up_ne _ _ (Or.inr (by omega))).trans (by rw [← hw210]; exact (e_up_ne _ _ (Or.inr (by omega))).trans h96)) (by rw [← hw216]; exact (e_up_ne _ _ (Or.inr (by omega))).trans (by rw [← hw210]; exact (e_up_ne _ _ (Or.inr (by omega))).trans h97)) (by rw [← hw216]; exact (e_up_ne _ _ (Or.inr (by omega))).trans (by rw [← hw210]; exact (e_up_ne _ _ (Or.inr (by omega))).trans h98)) (cOk.fr (fun c k q1 q2 => (by rw [← hw216]; exact (e_up_ne _ _ (Or.inl (by omega))).trans (by rw [← hw210]; exact (e_up_ne _ _ (Or.inl (by omega))).trans rfl))) hC) (runOk.at (runOk.fr (w' := w216) (fun c k q1 q2 => (by rw [← hw216]; exact (e_up_ne _ _ (Or.inl (by omega))).trans (by rw [← hw210]; exact (e_up_ne _ _ (Or.inl (by omega))).trans rfl))) (fun i q1 q2 => ⟨(by rw [← hw216]; exact (e_up_ne _ _ (Or.inl (by omega))).trans (by rw [← hw210]; exact (e_up_ne _ _ (Or.inl (by omega))).trans rfl)), (by rw [← hw216]; exact (e_up_ne _ _ (Or.inl (by omega))).trans (by rw [← hw210]; exact (e_up_ne _ _ (Or.inl (by omega))).trans rfl))⟩) (by rw [← hw216]; exact (e_up_ne _ _ (Or.inl (by omega))).trans (by rw [← hw210]; exact (e_up_ne _ _ (Or.inl (by omega))).trans rfl)) (by rw [← hw216]; exact (e_up_ne _ _ (Or.inl (by omega))).trans (by rw [← hw210]; exact (e_up_ne _ _ (Or.inl (by omega))).trans rfl)) (fun k q1 q2 => (by rw [← hw216]; exact (e_up_ne _ _ (Or.inl (by omega))).trans (by rw [← hw210]; exact (e_up_ne _ _ (Or.inl (by omega))).trans rfl))) (by omega) hru) (by omega) (by rw [← hw216]; exact (e_up_ne _ _ (Or.inl (by omega))).trans (by rw [← hw210]; exact (e_up_ne _ _ (Or.inl (by omega))).trans hpc)) (by rw [← hw216]; exact (e_up_ne _ _ (Or.inl (by omega))).trans (by rw [← hw210]; exact (e_up_ne _ _ (Or.inl (by omega))).trans rfl))) (by omega) (by omega)) (fun r242 w243 h244 => ?_)
        obtain ⟨rfl, ⟨q246, q246S⟩, q246T, q246n, q246d, q246c⟩ := h244
        have f247 : e_fr (mRk t) w w243 := e_fr.trans f219 (e_fr.mono q246 (fun c k q => by unfold mLv at q; unfold mRk mLv; omega))
        show e_Ok 20 elay ecode eI (d + 1) 374 (444, [(9, (0, z218)), (8, (0, z212)), (4, (0, p + 1)), (0, (1, 275)), (1, (0, w 328 (10000 * a + p))), (2, (0, w 329 (10000 * a + p))), (3, (0, p))], [], w243) _
        refine e_Ok.rets rfl rfl ?_
        exact ⟨rfl, ⟨f247, (sRel.trans (sRel.up (sRel.up sRel.refl hw210 (fun q b g1 g2 => by omega)) hw216 (fun q b g1 g2 => by omega)) q246S)⟩, q246T, by omega, Or.inl ⟨q246d, q246c.imp id (fun h => ⟨h.1.trans (by rw [← hw216]; exact (e_up_ne _ _ (Or.inr (by omega))).trans (by rw [← hw210]; exact (e_up_ne _ _ (Or.inr (by omega))).trans rfl)), h.2.1.trans (by rw [← hw216]; exact (e_up_ne _ _ (Or.inl (by omega))).trans (by rw [← hw210]; exact (e_up_ne _ _ (Or.inl (by omega))).trans rfl)), h.2.2.1.trans (by rw [← hw216]; exact (e_up_ne _ _ (Or.inl (by omega))).trans (by rw [← hw210]; exact (e_up_ne _ _ (Or.inl (by omega))).trans rfl)), h.2.2.2⟩)⟩⟩
      · replace h241 : (w 328 (10000 * a + p) : Int) ≠ 13 := by have q : ¬ ((w 328 (10000 * a + p) : Int) = 13) := h241; omega
        refine e_Ok.run (t' := (436, [(9, (0, z218)), (8, (0, z212)), (4, (0, p + 1)), (0, (1, 275)), (1, (0, w 328 (10000 * a + p))), (2, (0, w 329 (10000 * a + p))), (3, (0, p))], [(0, 14), (0, w 328 (10000 * a + p))], w216)) 2 rfl ?_
        refine e_Ok.if2 rfl (fun h248 => ?_) (fun h248 => ?_)
        · replace h248 : (w 328 (10000 * a + p) : Int) ≠ 14 := h248
          refine e_Ok.run (t' := (451, [(9, (0, z218)), (8, (0, z212)), (4, (0, p + 1)), (0, (1, 275)), (1, (0, w 328 (10000 * a + p))), (2, (0, w 329 (10000 * a + p))), (3, (0, p))], [(0, z212), (0, z218), (0, w 328 (10000 * a + p)), (1, 275)], w216)) 4 rfl ?_
          refine e_Ok.callS rfl (by omega) rfl rfl (c_375 (by omega) (fun q => by omega)) (fun r249 w250 h251 => ?_)
          obtain ⟨z252, rfl, rfl, q253a, q253b⟩ := h251
          show e_Ok 20 elay ecode eI (d + 1) 374 (454, [(9, (0, z218)), (8, (0, z212)), (4, (0, p + 1)), (0, (1, 275)), (1, (0, w 328 (10000 * a + p))), (2, (0, w 329 (10000 * a + p))), (3, (0, p))], [(0, z252), (1, 275)], w216) _
          refine e_Ok.callV rfl (by omega) rfl rfl rfl rfl (c_363 hT220 (e := dl p - 2) (e1 := dl p - 1) (by rw [← hw216]; exact e_up_eq _ _ _ _) (by omega) (by omega)) (fun r254 w255 h256 => ?_)
          obtain ⟨rfl, hw255⟩ := h256
          generalize hw257 : e_up w216 345 (dl p - 2) z252 = w257 at hw255
          have f258 : e_fr (mRk t) w w257 := e_fr.up f219 hw257 (by unfold mRk mLv; omega)
          have hT259 : e_Has mTy w257 := e_Has.ups hT220 hw257 rfl
          have f260 : e_fr (mRk t) w w255 := e_fr.up f258 hw255 (by unfold mRk mLv; omega)
          have hT261 : e_Has mTy w255 := e_Has.ups hT259 hw255 rfl
          show e_Ok 20 elay ecode eI (d + 1) 374 (457, [(9, (0, z218)), (8, (0, z212)), (4, (0, p + 1)), (0, (1, 275)), (1, (0, w 328 (10000 * a + p))), (2, (0, w 329 (10000 * a + p))), (3, (0, p))], [], w255) _
          refine e_Ok.run (t' := (460, [(9, (0, z218)), (8, (0, z212)), (4, (0, p + 1)), (0, (1, 275)), (1, (0, w 328 (10000 * a + p))), (2, (0, w 329 (10000 * a + p))), (3, (0, p))], [(0, p + 1), (1, 275)], w255)) 2 rfl ?_
          refine e_Ok.callV rfl (by omega) rfl rfl rfl rfl (c_365 (by omega) hT261 (by omega) (by rw [← hw255]; exact (e_up_ne _ _ (Or.inr (by omega))).trans (by rw [← hw257]; exact (e_up_ne _ _ (Or.inl (by omega))).trans (by rw [← hw216]; exact (e_up_ne _ _ (Or.inr (by omega))).trans (by rw [← hw210]; exact (e_up_ne _ _ (Or.inr (by omega))).trans h97)))) (f := g + 1) (z := 1260 * t + 2 * g + 436) (by rw [← hw255]; exact (e_up_ne _ _ (Or.inl (by omega))).trans (by rw [← hw257]; exact (e_up_ne _ _ (Or.inl (by omega))).trans (by rw [← hw216]; exact (e_up_ne _ _ (Or.inl (by omega))).trans (by rw [← hw210]; exact (e_up_ne _ _ (Or.inl (by omega))).trans hF)))) (by omega) (by omega)) (fun r262 w263 h264 => ?_)
          obtain ⟨rfl, hw263⟩ := h264
          have f265 : e_fr (mRk t) w w263 := e_fr.up f260 hw263 (by unfold mRk mLv; omega)
          have hT266 : e_Has mTy w263 := e_Has.upr hT261 hw263 (nR_FRg t (g) (by omega) (by omega) (by omega)) (by omega)
          show e_Ok 20 elay ecode eI (d + 1) 374 (463, [(9, (0, z218)), (8, (0, z212)), (4, (0, p + 1)), (0, (1, 275)), (1, (0, w 328 (10000 * a + p))), (2, (0, w 329 (10000 * a + p))), (3, (0, p))], [], w263) _
          refine e_Ok.rets rfl rfl ?_
          have e267 : w263 276 5 = w 276 5 := (by rw [← hw263]; exact (e_up_ne _ _ (Or.inr (by omega))).trans (by rw [← hw255]; exact (e_up_ne _ _ (Or.inl (by omega))).trans (by rw [← hw257]; exact (e_up_ne _ _ (Or.inl (by omega))).trans (by rw [← hw216]; exact (e_up_ne _ _ (Or.inl (by omega))).trans (by rw [← hw210]; exact (e_up_ne _ _ (Or.inl (by omega))).trans rfl)))))
          have hrn := runOk.fr (w' := w263) (fun c k q1 q2 => (by rw [← hw263]; exact (e_up_ne _ _ (Or.inl (by omega))).trans (by rw [← hw255]; exact (e_up_ne _ _ (Or.inl (by omega))).trans (by rw [← hw257]; exact (e_up_ne _ _ (Or.inl (by omega))).trans (by rw [← hw216]; exact (e_up_ne _ _ (Or.inl (by omega))).trans (by rw [← hw210]; exact (e_up_ne _ _ (Or.inl (by omega))).trans rfl)))))) (fun i q1 q2 => ⟨(by rw [← hw263]; exact (e_up_ne _ _ (Or.inr (by omega))).trans (by rw [← hw255]; exact (e_up_ne _ _ (Or.inl (by omega))).trans (by rw [← hw257]; exact (e_up_ne _ _ (Or.inl (by omega))).trans (by rw [← hw216]; exact (e_up_ne _ _ (Or.inl (by omega))).trans (by rw [← hw210]; exact (e_up_ne _ _ (Or.inl (by omega))).trans rfl))))), (by rw [← hw263]; exact (e_up_ne _ _ (Or.inr (by omega))).trans (by rw [← hw255]; exact (e_up_ne _ _ (Or.inl (by omega))).trans (by rw [← hw257]; exact (e_up_ne _ _ (Or.inl (by omega))).trans (by rw [← hw216]; exact (e_up_ne _ _ (Or.inl (by omega))).trans (by rw [← hw210]; exact (e_up_ne _ _ (Or.inl (by omega))).trans rfl)))))⟩) (by rw [← hw263]; exact (e_up_ne _ _ (Or.inr (by omega))).trans (by rw [← hw255]; exact (e_up_ne _ _ (Or.inl (by omega))).trans (by rw [← hw257]; exact (e_up_ne _ _ (Or.inl (by omega))).trans (by rw [← hw216]; exact (e_up_ne _ _ (Or.inl (by omega))).trans (by rw [← hw210]; exact (e_up_ne _ _ (Or.inl (by omega))).trans rfl))))) (by rw [← hw263]; exact (e_up_ne _ _ (Or.inr (by omega))).trans (by rw [← hw255]; exact (e_up_ne _ _ (Or.inl (by omega))).trans (by rw [← hw257]; exact (e_up_ne _ _ (Or.inl (by omega))).trans (by rw [← hw216]; exact (e_up_ne _ _ (Or.inl (by omega))).trans (by rw [← hw210]; exact (e_up_ne _ _ (Or.inl (by omega))).trans rfl))))) (fun k q1 q2 => (by rw [← hw263]; exact (e_up_ne _ _ (Or.inr (by omega))).trans (by rw [← hw255]; exact (e_up_ne _ _ (Or.inl (by omega))).trans (by rw [← hw257]; exact (e_up_ne _ _ (Or.inl (by omega))).trans (by rw [← hw216]; exact (e_up_ne _ _ (Or.inl (by omega))).trans (by rw [← hw210]; exact (e_up_ne _ _ (Or.inl (by omega))).trans rfl)))))) (by omega) hru
          have erg : w263 330 (10000 * a + (p + 1)) = w 330 (10000 * a + p) := by rw [show 10000 * a + (p + 1) = 10000 * a + p + 1 by omega]; exact Eq.trans (by rw [← hw263]; exact (e_up_ne _ _ (Or.inl (by omega))).trans (by rw [← hw255]; exact (e_up_ne _ _ (Or.inl (by omega))).trans (by rw [← hw257]; exact (e_up_ne _ _ (Or.inl (by omega))).trans (by rw [← hw216]; exact (e_up_ne _ _ (Or.inl (by omega))).trans (by rw [← hw210]; exact (e_up_ne _ _ (Or.inl (by omega))).trans rfl))))) k1.2.2.2
          have ede : w263 275 102 = dl p - 1 := (by rw [← hw263]; exact (e_up_ne _ _ (Or.inl (by omega))).trans (by rw [← hw255]; exact e_up_eq _ _ _ _))
          exact ⟨rfl, ⟨f265, (sRel.up (sRel.up (sRel.up (sRel.up (sRel.up sRel.refl hw210 (fun q b g1 g2 => by omega)) hw216 (fun q b g1 g2 => by omega)) hw257 (fun q b g1 g2 => by omega)) hw255 (fun q b g1 g2 => by omega)) hw263 (fun q b g1 g2 => by omega))⟩, hT266, by omega, Or.inr ⟨(by rw [← hw263]; exact (e_up_ne _ _ (Or.inl (by omega))).trans (by rw [← hw255]; exact (e_up_ne _ _ (Or.inr (by omega))).trans (by rw [← hw257]; exact (e_up_ne _ _ (Or.inl (by omega))).trans (by rw [← hw216]; exact (e_up_ne _ _ (Or.inr (by omega))).trans (by rw [← hw210]; exact (e_up_ne _ _ (Or.inr (by omega))).trans rfl))))), (by rw [← hw263]; exact (e_up_ne _ _ (Or.inr (by omega))).trans (by rw [← hw255]; exact (e_up_ne _ _ (Or.inl (by omega))).trans (by rw [← hw257]; exact (e_up_ne _ _ (Or.inl (by omega))).trans (by rw [← hw216]; exact (e_up_ne _ _ (Or.inl (by omega))).trans (by rw [← hw210]; exact (e_up_ne _ _ (Or.inl (by omega))).trans rfl))))), by omega, p + 1, runOk.at hrn (by omega) (by rw [← hw263]; exact e_up_eq _ _ _ _) erg, by omega, e_kn.le (e_kn.oth (e_kn.oth (e_kn.put (b' := dl p - 1) (e_kn.oth (e_kn.oth hst hw210 (by decide)) hw216 (by decide)) hw257 (by omega) (by omega)) hw255 (by decide)) hw263 (by decide)) (by omega), by omega, by omega⟩⟩
        · replace h248 : (w 328 (10000 * a + p) : Int) = 14 := by have q : ¬ ((w 328 (10000 * a + p) : Int) ≠ 14) := h248; omega
          refine e_Ok.run (t' := (441, [(9, (0, z218)), (8, (0, z212)), (4, (0, p + 1)), (0, (1, 275)), (1, (0, w 328 (10000 * a + p))), (2, (0, w 329 (10000 * a + p))), (3, (0, p))], [(0, 1), (1, 275)], w216)) 2 rfl ?_
          have e271 : w216 276 5 = w 276 5 := (by rw [← hw216]; exact (e_up_ne _ _ (Or.inl (by omega))).trans (by rw [← hw210]; exact (e_up_ne _ _ (Or.inl (by omega))).trans rfl))
          refine e_Ok.callV rfl (by omega) rfl rfl rfl rfl (c_369 (by omega) hT220 (by omega) (by omega) (by rw [← hw216]; exact (e_up_ne _ _ (Or.inr (by omega))).trans (by rw [← hw210]; exact (e_up_ne _ _ (Or.inr (by omega))).trans h96)) (by rw [← hw216]; exact (e_up_ne _ _ (Or.inr (by omega))).trans (by rw [← hw210]; exact (e_up_ne _ _ (Or.inr (by omega))).trans h97)) (by rw [← hw216]; exact (e_up_ne _ _ (Or.inr (by omega))).trans (by rw [← hw210]; exact (e_up_ne _ _ (Or.inr (by omega))).trans h98)) (cOk.fr (fun c k q1 q2 => (by rw [← hw216]; exact (e_up_ne _ _ (Or.inl (by omega))).trans (by rw [← hw210]; exact (e_up_ne _ _ (Or.inl (by omega))).trans rfl))) hC) (runOk.at (runOk.fr (w' := w216) (fun c k q1 q2 => (by rw [← hw216]; exact (e_up_ne _ _ (Or.inl (by omega))).trans (by rw [← hw210]; exact (e_up_ne _ _ (Or.inl (by omega))).trans rfl))) (fun i q1 q2 => ⟨(by rw [← hw216]; exact (e_up_ne _ _ (Or.inl (by omega))).trans (by rw [← hw210]; exact (e_up_ne _ _ (Or.inl (by omega))).trans rfl)), (by rw [← hw216]; exact (e_up_ne _ _ (Or.inl (by omega))).trans (by rw [← hw210]; exact (e_up_ne _ _ (Or.inl (by omega))).trans rfl))⟩) (by rw [← hw216]; exact (e_up_ne _ _ (Or.inl (by omega))).trans (by rw [← hw210]; exact (e_up_ne _ _ (Or.inl (by omega))).trans rfl)) (by rw [← hw216]; exact (e_up_ne _ _ (Or.inl (by omega))).trans (by rw [← hw210]; exact (e_up_ne _ _ (Or.inl (by omega))).trans rfl)) (fun k q1 q2 => (by rw [← hw216]; exact (e_up_ne _ _ (Or.inl (by omega))).trans (by rw [← hw210]; exact (e_up_ne _ _ (Or.inl (by omega))).trans rfl))) (by omega) hru) (by omega) (by rw [← hw216]; exact (e_up_ne _ _ (Or.inl (by omega))).trans (by rw [← hw210]; exact (e_up_ne _ _ (Or.inl (by omega))).trans hpc)) (by rw [← hw216]; exact (e_up_ne _ _ (Or.inl (by omega))).trans (by rw [← hw210]; exact (e_up_ne _ _ (Or.inl (by omega))).trans rfl))) (by omega) (by omega)) (fun r268 w269 h270 => ?_)
          obtain ⟨rfl, ⟨q272, q272S⟩, q272T, q272n, q272d, q272c⟩ := h270
          have f273 : e_fr (mRk t) w w269 := e_fr.trans f219 (e_fr.mono q272 (fun c k q => by unfold mLv at q; unfold mRk mLv; omega))
          show e_Ok 20 elay ecode eI (d + 1) 374 (444, [(9, (0, z218)), (8, (0, z212)), (4, (0, p + 1)), (0, (1, 275)), (1, (0, w 328 (10000 * a + p))), (2, (0, w 329 (10000 * a + p))), (3, (0, p))], [], w269) _
          refine e_Ok.rets rfl rfl ?_
          exact ⟨rfl, ⟨f273, (sRel.trans (sRel.up (sRel.up sRel.refl hw210 (fun q b g1 g2 => by omega)) hw216 (fun q b g1 g2 => by omega)) q272S)⟩, q272T, by omega, Or.inl ⟨q272d, q272c.imp id (fun h => ⟨h.1.trans (by rw [← hw216]; exact (e_up_ne _ _ (Or.inr (by omega))).trans (by rw [← hw210]; exact (e_up_ne _ _ (Or.inr (by omega))).trans rfl)), h.2.1.trans (by rw [← hw216]; exact (e_up_ne _ _ (Or.inl (by omega))).trans (by rw [← hw210]; exact (e_up_ne _ _ (Or.inl (by omega))).trans rfl)), h.2.2.1.trans (by rw [← hw216]; exact (e_up_ne _ _ (Or.inl (by omega))).trans (by rw [← hw210]; exact (e_up_ne _ _ (Or.inl (by omega))).trans rfl)), h.2.2.2⟩)⟩⟩
  · refine e_Ok.sw (tg := 322) rfl (by rw [h1]; rfl) ?_
    have k1 := hi1 (by omega)
    unfold iFT at k1
    have k4 := hi4 (by omega)
    refine e_Ok.run (t' := (324, [(4, (0, p + 1)), (0, (1, 275)), (1, (0, w 328 (10000 * a + p))), (2, (0, w 329 (10000 * a + p))), (3, (0, p))], [(1, 275), (1, 275)], w)) 2 rfl ?_
    refine e_Ok.callV rfl (by omega) rfl rfl rfl rfl (c_364 hT (e := dl p) (u := dl p - 1) h102 (by omega) (by omega) (by have q : w 345 (dl p - 1) = w 345 (dl p - 1) := rfl; have q2 := (hst (dl p - 1) (by omega) (by omega)); omega)) (fun r274 w275 h276 => ?_)
    obtain ⟨rfl, hw275⟩ := h276
    generalize hz277 : w 345 (dl p - 1) = z277
    have z277r : z277 = w 345 (dl p - 1) := Eq.trans hz277.symm rfl
    have f278 : e_fr (mRk t) w w275 := e_fr.up (e_fr.refl w) hw275 (by unfold mRk mLv; omega)
    have hT279 : e_Has mTy w275 := e_Has.ups hT hw275 rfl
    show e_Ok 20 elay ecode eI (d + 1) 374 (327, [(4, (0, p + 1)), (0, (1, 275)), (1, (0, w 328 (10000 * a + p))), (2, (0, w 329 (10000 * a + p))), (3, (0, p))], [(0, z277), (1, 275)], w275) _
    refine e_Ok.if1 rfl (fun h280 => ?_) (fun h280 => ?_)
    · replace h280 : (z277 : Int) ≠ 0 := h280
      refine e_Ok.run (t' := (335, [(4, (0, p + 1)), (0, (1, 275)), (1, (0, w 328 (10000 * a + p))), (2, (0, w 329 (10000 * a + p))), (3, (0, p))], [(0, 0), (1, 275)], w275)) 1 rfl ?_
      refine e_Ok.callV rfl (by omega) rfl rfl rfl rfl (c_363 hT279 (e := dl p - 1) (e1 := dl p) (by rw [← hw275]; exact e_up_eq _ _ _ _) (by omega) (by omega)) (fun r281 w282 h283 => ?_)
      obtain ⟨rfl, hw282⟩ := h283
      generalize hw284 : e_up w275 345 (dl p - 1) 0 = w284 at hw282
      have f285 : e_fr (mRk t) w w284 := e_fr.up f278 hw284 (by unfold mRk mLv; omega)
      have hT286 : e_Has mTy w284 := e_Has.ups hT279 hw284 rfl
      have f287 : e_fr (mRk t) w w282 := e_fr.up f285 hw282 (by unfold mRk mLv; omega)
      have hT288 : e_Has mTy w282 := e_Has.ups hT286 hw282 rfl
      show e_Ok 20 elay ecode eI (d + 1) 374 (338, [(4, (0, p + 1)), (0, (1, 275)), (1, (0, w 328 (10000 * a + p))), (2, (0, w 329 (10000 * a + p))), (3, (0, p))], [], w282) _
      refine e_Ok.run (t' := (460, [(4, (0, p + 1)), (0, (1, 275)), (1, (0, w 328 (10000 * a + p))), (2, (0, w 329 (10000 * a + p))), (3, (0, p))], [(0, p + 1), (1, 275)], w282)) 3 rfl ?_
      refine e_Ok.callV rfl (by omega) rfl rfl rfl rfl (c_365 (by omega) hT288 (by omega) (by rw [← hw282]; exact (e_up_ne _ _ (Or.inr (by omega))).trans (by rw [← hw284]; exact (e_up_ne _ _ (Or.inl (by omega))).trans (by rw [← hw275]; exact (e_up_ne _ _ (Or.inr (by omega))).trans h97))) (f := g + 1) (z := 1260 * t + 2 * g + 436) (by rw [← hw282]; exact (e_up_ne _ _ (Or.inl (by omega))).trans (by rw [← hw284]; exact (e_up_ne _ _ (Or.inl (by omega))).trans (by rw [← hw275]; exact (e_up_ne _ _ (Or.inl (by omega))).trans hF))) (by omega) (by omega)) (fun r289 w290 h291 => ?_)
      obtain ⟨rfl, hw290⟩ := h291
      have f292 : e_fr (mRk t) w w290 := e_fr.up f287 hw290 (by unfold mRk mLv; omega)
      have hT293 : e_Has mTy w290 := e_Has.upr hT288 hw290 (nR_FRg t (g) (by omega) (by omega) (by omega)) (by omega)
      show e_Ok 20 elay ecode eI (d + 1) 374 (463, [(4, (0, p + 1)), (0, (1, 275)), (1, (0, w 328 (10000 * a + p))), (2, (0, w 329 (10000 * a + p))), (3, (0, p))], [], w290) _
      refine e_Ok.rets rfl rfl ?_
      have e294 : w290 276 5 = w 276 5 := (by rw [← hw290]; exact (e_up_ne _ _ (Or.inr (by omega))).trans (by rw [← hw282]; exact (e_up_ne _ _ (Or.inl (by omega))).trans (by rw [← hw284]; exact (e_up_ne _ _ (Or.inl (by omega))).trans (by rw [← hw275]; exact (e_up_ne _ _ (Or.inl (by omega))).trans rfl))))
      have hrn := runOk.fr (w' := w290) (fun c k q1 q2 => (by rw [← hw290]; exact (e_up_ne _ _ (Or.inl (by omega))).trans (by rw [← hw282]; exact (e_up_ne _ _ (Or.inl (by omega))).trans (by rw [← hw284]; exact (e_up_ne _ _ (Or.inl (by omega))).trans (by rw [← hw275]; exact (e_up_ne _ _ (Or.inl (by omega))).trans rfl))))) (fun i q1 q2 => ⟨(by rw [← hw290]; exact (e_up_ne _ _ (Or.inr (by omega))).trans (by rw [← hw282]; exact (e_up_ne _ _ (Or.inl (by omega))).trans (by rw [← hw284]; exact (e_up_ne _ _ (Or.inl (by omega))).trans (by rw [← hw275]; exact (e_up_ne _ _ (Or.inl (by omega))).trans rfl)))), (by rw [← hw290]; exact (e_up_ne _ _ (Or.inr (by omega))).trans (by rw [← hw282]; exact (e_up_ne _ _ (Or.inl (by omega))).trans (by rw [← hw284]; exact (e_up_ne _ _ (Or.inl (by omega))).trans (by rw [← hw275]; exact (e_up_ne _ _ (Or.inl (by omega))).trans rfl))))⟩) (by rw [← hw290]; exact (e_up_ne _ _ (Or.inr (by omega))).trans (by rw [← hw282]; exact (e_up_ne _ _ (Or.inl (by omega))).trans (by rw [← hw284]; exact (e_up_ne _ _ (Or.inl (by omega))).trans (by rw [← hw275]; exact (e_up_ne _ _ (Or.inl (by omega))).trans rfl)))) (by rw [← hw290]; exact (e_up_ne _ _ (Or.inr (by omega))).trans (by rw [← hw282]; exact (e_up_ne _ _ (Or.inl (by omega))).trans (by rw [← hw284]; exact (e_up_ne _ _ (Or.inl (by omega))).trans (by rw [← hw275]; exact (e_up_ne _ _ (Or.inl (by omega))).trans rfl)))) (fun k q1 q2 => (by rw [← hw290]; exact (e_up_ne _ _ (Or.inr (by omega))).trans (by rw [← hw282]; exact (e_up_ne _ _ (Or.inl (by omega))).trans (by rw [← hw284]; exact (e_up_ne _ _ (Or.inl (by omega))).trans (by rw [← hw275]; exact (e_up_ne _ _ (Or.inl (by omega))).trans rfl))))) (by omega) hru
      have erg : w290 330 (10000 * a + (p + 1)) = w 330 (10000 * a + p) := by rw [show 10000 * a + (p + 1) = 10000 * a + p + 1 by omega]; exact Eq.trans (by rw [← hw290]; exact (e_up_ne _ _ (Or.inl (by omega))).trans (by rw [← hw282]; exact (e_up_ne _ _ (Or.inl (by omega))).trans (by rw [← hw284]; exact (e_up_ne _ _ (Or.inl (by omega))).trans (by rw [← hw275]; exact (e_up_ne _ _ (Or.inl (by omega))).trans rfl)))) k1.2.2.2
      have ede : w290 275 102 = dl p := (by rw [← hw290]; exact (e_up_ne _ _ (Or.inl (by omega))).trans (by rw [← hw282]; exact e_up_eq _ _ _ _))
      exact ⟨rfl, ⟨f292, (sRel.up (sRel.up (sRel.up (sRel.up sRel.refl hw275 (fun q b g1 g2 => by omega)) hw284 (fun q b g1 g2 => by omega)) hw282 (fun q b g1 g2 => by omega)) hw290 (fun q b g1 g2 => by omega))⟩, hT293, by omega, Or.inr ⟨(by rw [← hw290]; exact (e_up_ne _ _ (Or.inl (by omega))).trans (by rw [← hw282]; exact (e_up_ne _ _ (Or.inr (by omega))).trans (by rw [← hw284]; exact (e_up_ne _ _ (Or.inl (by omega))).trans (by rw [← hw275]; exact (e_up_ne _ _ (Or.inr (by omega))).trans rfl)))), (by rw [← hw290]; exact (e_up_ne _ _ (Or.inr (by omega))).trans (by rw [← hw282]; exact (e_up_ne _ _ (Or.inl (by omega))).trans (by rw [← hw284]; exact (e_up_ne _ _ (Or.inl (by omega))).trans (by rw [← hw275]; exact (e_up_ne _ _ (Or.inl (by omega))).trans rfl)))), by omega, p + 1, runOk.at hrn (by omega) (by rw [← hw290]; exact e_up_eq _ _ _ _) erg, by omega, e_kn.le (e_kn.oth (e_kn.oth (e_kn.put (b' := dl p - 1) (e_kn.oth hst hw275 (by decide)) hw284 (by omega) (by omega)) hw282 (by decide)) hw290 (by decide)) (by omega), by omega, by omega⟩⟩
    · replace h280 : (z277 : Int) = 0 := by have q : ¬ ((z277 : Int) ≠ 0) := h280; omega
      refine e_Ok.run (t' := (335, [(4, (0, p + 1)), (0, (1, 275)), (1, (0, w 328 (10000 * a + p))), (2, (0, w 329 (10000 * a + p))), (3, (0, p))], [(0, 1), (1, 275)], w275)) 2 rfl ?_
      refine e_Ok.callV rfl (by omega) rfl rfl rfl rfl (c_363 hT279 (e := dl p - 1) (e1 := dl p) (by rw [← hw275]; exact e_up_eq _ _ _ _) (by omega) (by omega)) (fun r295 w296 h297 => ?_)
      obtain ⟨rfl, hw296⟩ := h297
      generalize hw298 : e_up w275 345 (dl p - 1) 1 = w298 at hw296
      have f299 : e_fr (mRk t) w w298 := e_fr.up f278 hw298 (by unfold mRk mLv; omega)
      have hT300 : e_Has mTy w298 := e_Has.ups hT279 hw298 rfl
      have f301 : e_fr (mRk t) w w296 := e_fr.up f299 hw296 (by unfold mRk mLv; omega)
      have hT302 : e_Has mTy w296 := e_Has.ups hT300 hw296 rfl
      show e_Ok 20 elay ecode eI (d + 1) 374 (338, [(4, (0, p + 1)), (0, (1, 275)), (1, (0, w 328 (10000 * a + p))), (2, (0, w 329 (10000 * a + p))), (3, (0, p))], [], w296) _
      refine e_Ok.run (t' := (460, [(4, (0, p + 1)), (0, (1, 275)), (1, (0, w 328 (10000 * a + p))), (2, (0, w 329 (10000 * a + p))), (3, (0, p))], [(0, p + 1), (1, 275)], w296)) 3 rfl ?_
      refine e_Ok.callV rfl (by omega) rfl rfl rfl rfl (c_365 (by omega) hT302 (by omega) (by rw [← hw296]; exact (e_up_ne _ _ (Or.inr (by omega))).trans (by rw [← hw298]; exact (e_up_ne _ _ (Or.inl (by omega))).trans (by rw [← hw275]; exact (e_up_ne _ _ (Or.inr (by omega))).trans h97))) (f := g + 1) (z := 1260 * t + 2 * g + 436) (by rw [← hw296]; exact (e_up_ne _ _ (Or.inl (by omega))).trans (by rw [← hw298]; exact (e_up_ne _ _ (Or.inl (by omega))).trans (by rw [← hw275]; exact (e_up_ne _ _ (Or.inl (by omega))).trans hF))) (by omega) (by omega)) (fun r303 w304 h305 => ?_)
      obtain ⟨rfl, hw304⟩ := h305
      have f306 : e_fr (mRk t) w w304 := e_fr.up f301 hw304 (by unfold mRk mLv; omega)
      have hT307 : e_Has mTy w304 := e_Has.upr hT302 hw304 (nR_FRg t (g) (by omega) (by omega) (by omega)) (by omega)
      show e_Ok 20 elay ecode eI (d + 1) 374 (463, [(4, (0, p + 1)), (0, (1, 275)), (1, (0, w 328 (10000 * a + p))), (2, (0, w 329 (10000 * a + p))), (3, (0, p))], [], w304) _
      refine e_Ok.rets rfl rfl ?_
      have e308 : w304 276 5 = w 276 5 := (by rw [← hw304]; exact (e_up_ne _ _ (Or.inr (by omega))).trans (by rw [← hw296]; exact (e_up_ne _ _ (Or.inl (by omega))).trans (by rw [← hw298]; exact (e_up_ne _ _ (Or.inl (by omega))).trans (by rw [← hw275]; exact (e_up_ne _ _ (Or.inl (by omega))).trans rfl))))
      have hrn := runOk.fr (w' := w304) (fun c k q1 q2 => (by rw [← hw304]; exact (e_up_ne _ _ (Or.inl (by omega))).trans (by rw [← hw296]; exact (e_up_ne _ _ (Or.inl (by omega))).trans (by rw [← hw298]; exact (e_up_ne _ _ (Or.inl (by omega))).trans (by rw [← hw275]; exact (e_up_ne _ _ (Or.inl (by omega))).trans rfl))))) (fun i q1 q2 => ⟨(by rw [← hw304]; exact (e_up_ne _ _ (Or.inr (by omega))).trans (by rw [← hw296]; exact (e_up_ne _ _ (Or.inl (by omega))).trans (by rw [← hw298]; exact (e_up_ne _ _ (Or.inl (by omega))).trans (by rw [← hw275]; exact (e_up_ne _ _ (Or.inl (by omega))).trans rfl)))), (by rw [← hw304]; exact (e_up_ne _ _ (Or.inr (by omega))).trans (by rw [← hw296]; exact (e_up_ne _ _ (Or.inl (by omega))).trans (by rw [← hw298]; exact (e_up_ne _ _ (Or.inl (by omega))).trans (by rw [← hw275]; exact (e_up_ne _ _ (Or.inl (by omega))).trans rfl))))⟩) (by rw [← hw304]; exact (e_up_ne _ _ (Or.inr (by omega))).trans (by rw [← hw296]; exact (e_up_ne _ _ (Or.inl (by omega))).trans (by rw [← hw298]; exact (e_up_ne _ _ (Or.inl (by omega))).trans (by rw [← hw275]; exact (e_up_ne _ _ (Or.inl (by omega))).trans rfl)))) (by rw [← hw304]; exact (e_up_ne _ _ (Or.inr (by omega))).trans (by rw [← hw296]; exact (e_up_ne _ _ (Or.inl (by omega))).trans (by rw [← hw298]; exact (e_up_ne _ _ (Or.inl (by omega))).trans (by rw [← hw275]; exact (e_up_ne _ _ (Or.inl (by omega))).trans rfl)))) (fun k q1 q2 => (by rw [← hw304]; exact (e_up_ne _ _ (Or.inr (by omega))).trans (by rw [← hw296]; exact (e_up_ne _ _ (Or.inl (by omega))).trans (by rw [← hw298]; exact (e_up_ne _ _ (Or.inl (by omega))).trans (by rw [← hw275]; exact (e_up_ne _ _ (Or.inl (by omega))).trans rfl))))) (by omega) hru
      have erg : w304 330 (10000 * a + (p + 1)) = w 330 (10000 * a + p) := by rw [show 10000 * a + (p + 1) = 10000 * a + p + 1 by omega]; exact Eq.trans (by rw [← hw304]; exact (e_up_ne _ _ (Or.inl (by omega))).trans (by rw [← hw296]; exact (e_up_ne _ _ (Or.inl (by omega))).trans (by rw [← hw298]; exact (e_up_ne _ _ (Or.inl (by omega))).trans (by rw [← hw275]; exact (e_up_ne _ _ (Or.inl (by omega))).trans rfl)))) k1.2.2.2
      have ede : w304 275 102 = dl p := (by rw [← hw304]; exact (e_up_ne _ _ (Or.inl (by omega))).trans (by rw [← hw296]; exact e_up_eq _ _ _ _))
      exact ⟨rfl, ⟨f306, (sRel.up (sRel.up (sRel.up (sRel.up sRel.refl hw275 (fun q b g1 g2 => by omega)) hw298 (fun q b g1 g2 => by omega)) hw296 (fun q b g1 g2 => by omega)) hw304 (fun q b g1 g2 => by omega))⟩, hT307, by omega, Or.inr ⟨(by rw [← hw304]; exact (e_up_ne _ _ (Or.inl (by omega))).trans (by rw [← hw296]; exact (e_up_ne _ _ (Or.inr (by omega))).trans (by rw [← hw298]; exact (e_up_ne _ _ (Or.inl (by omega))).trans (by rw [← hw275]; exact (e_up_ne _ _ (Or.inr (by omega))).trans rfl)))), (by rw [← hw304]; exact (e_up_ne _ _ (Or.inr (by omega))).trans (by rw [← hw296]; exact (e_up_ne _ _ (Or.inl (by omega))).trans (by rw [← hw298]; exact (e_up_ne _ _ (Or.inl (by omega))).trans (by rw [← hw275]; exact (e_up_ne _ _ (Or.inl (by omega))).trans rfl)))), by omega, p + 1, runOk.at hrn (by omega) (by rw [← hw304]; exact e_up_eq _ _ _ _) erg, by omega, e_kn.le (e_kn.oth (e_kn.oth (e_kn.put (b' := dl p - 1) (e_kn.oth hst hw275 (by decide)) hw298 (by omega) (by omega)) hw296 (by decide)) hw304 (by decide)) (by omega), by omega, by omega⟩⟩
  · refine e_Ok.sw (tg := 360) rfl (by rw [h1]; rfl) ?_
    have k1 := hi1 (by omega)
    unfold iFT at k1
    have k5 := hi5 (by omega)
    refine e_Ok.run (t' := (361, [(4, (0, p + 1)), (0, (1, 275)), (1, (0, w 328 (10000 * a + p))), (2, (0, w 329 (10000 * a + p))), (3, (0, p))], [(1, 275)], w)) 1 rfl ?_
    refine e_Ok.callV rfl (by omega) rfl rfl rfl rfl (c_364 hT (e := dl p) (u := dl p - 1) h102 (by omega) (by omega) (by have q : w 345 (dl p - 1) = w 345 (dl p - 1) := rfl; have q2 := (hst (dl p - 1) (by omega) (by omega)); omega)) (fun r309 w310 h311 => ?_)
    obtain ⟨rfl, hw310⟩ := h311
    generalize hz312 : w 345 (dl p - 1) = z312
    have z312r : z312 = w 345 (dl p - 1) := Eq.trans hz312.symm rfl
    have f313 : e_fr (mRk t) w w310 := e_fr.up (e_fr.refl w) hw310 (by unfold mRk mLv; omega)
    have hT314 : e_Has mTy w310 := e_Has.ups hT hw310 rfl
    show e_Ok 20 elay ecode eI (d + 1) 374 (364, [(4, (0, p + 1)), (0, (1, 275)), (1, (0, w 328 (10000 * a + p))), (2, (0, w 329 (10000 * a + p))), (3, (0, p))], [(0, z312)], w310) _
    refine e_Ok.if1 rfl (fun h315 => ?_) (fun h315 => ?_)
    · replace h315 : (z312 : Int) = 0 := h315
      refine e_Ok.run (t' := (379, [(7, (0, 0)), (4, (0, p + 1)), (0, (1, 275)), (1, (0, w 328 (10000 * a + p))), (2, (0, w 329 (10000 * a + p))), (3, (0, p))], [(0, 22), (0, w 328 (10000 * a + p)), (0, 0)], w310)) 5 rfl ?_
      refine e_Ok.if2 rfl (fun h316 => ?_) (fun h316 => ?_)
      · replace h316 : (w 328 (10000 * a + p) : Int) ≠ 22 := h316
        exfalso; omega
      · replace h316 : (w 328 (10000 * a + p) : Int) = 22 := by have q : ¬ ((w 328 (10000 * a + p) : Int) ≠ 22) := h316; omega
        refine e_Ok.run (t' := (387, [(7, (0, 0)), (4, (0, p + 1)), (0, (1, 275)), (1, (0, w 328 (10000 * a + p))), (2, (0, w 329 (10000 * a + p))), (3, (0, p))], [(0, 1), (0, 0)], w310)) 2 rfl ?_
        refine e_Ok.if2 rfl (fun h317 => ?_) (fun h317 => ?_)
        · replace h317 : (0 : Int) ≠ 1 := h317
          refine e_Ok.run (t' := (460, [(7, (0, 0)), (4, (0, p + 1)), (0, (1, 275)), (1, (0, w 328 (10000 * a + p))), (2, (0, w 329 (10000 * a + p))), (3, (0, p))], [(0, p + 1), (1, 275)], w310)) 2 rfl ?_
          refine e_Ok.callV rfl (by omega) rfl rfl rfl rfl (c_365 (by omega) hT314 (by omega) (by rw [← hw310]; exact (e_up_ne _ _ (Or.inr (by omega))).trans h97) (f := g + 1) (z := 1260 * t + 2 * g + 436) (by rw [← hw310]; exact (e_up_ne _ _ (Or.inl (by omega))).trans hF) (by omega) (by omega)) (fun r318 w319 h320 => ?_)
          obtain ⟨rfl, hw319⟩ := h320
          have f321 : e_fr (mRk t) w w319 := e_fr.up f313 hw319 (by unfold mRk mLv; omega)
          have hT322 : e_Has mTy w319 := e_Has.upr hT314 hw319 (nR_FRg t (g) (by omega) (by omega) (by omega)) (by omega)
          show e_Ok 20 elay ecode eI (d + 1) 374 (463, [(7, (0, 0)), (4, (0, p + 1)), (0, (1, 275)), (1, (0, w 328 (10000 * a + p))), (2, (0, w 329 (10000 * a + p))), (3, (0, p))], [], w319) _
          refine e_Ok.rets rfl rfl ?_
          have e323 : w319 276 5 = w 276 5 := (by rw [← hw319]; exact (e_up_ne _ _ (Or.inr (by omega))).trans (by rw [← hw310]; exact (e_up_ne _ _ (Or.inl (by omega))).trans rfl))
          have hrn := runOk.fr (w' := w319) (fun c k q1 q2 => (by rw [← hw319]; exact (e_up_ne _ _ (Or.inl (by omega))).trans (by rw [← hw310]; exact (e_up_ne _ _ (Or.inl (by omega))).trans rfl))) (fun i q1 q2 => ⟨(by rw [← hw319]; exact (e_up_ne _ _ (Or.inr (by omega))).trans (by rw [← hw310]; exact (e_up_ne _ _ (Or.inl (by omega))).trans rfl)), (by rw [← hw319]; exact (e_up_ne _ _ (Or.inr (by omega))).trans (by rw [← hw310]; exact (e_up_ne _ _ (Or.inl (by omega))).trans rfl))⟩) (by rw [← hw319]; exact (e_up_ne _ _ (Or.inr (by omega))).trans (by rw [← hw310]; exact (e_up_ne _ _ (Or.inl (by omega))).trans rfl)) (by rw [← hw319]; exact (e_up_ne _ _ (Or.inr (by omega))).trans (by rw [← hw310]; exact (e_up_ne _ _ (Or.inl (by omega))).trans rfl)) (fun k q1 q2 => (by rw [← hw319]; exact (e_up_ne _ _ (Or.inr (by omega))).trans (by rw [← hw310]; exact (e_up_ne _ _ (Or.inl (by omega))).trans rfl))) (by omega) hru
          have erg : w319 330 (10000 * a + (p + 1)) = w 330 (10000 * a + p) := by rw [show 10000 * a + (p + 1) = 10000 * a + p + 1 by omega]; exact Eq.trans (by rw [← hw319]; exact (e_up_ne _ _ (Or.inl (by omega))).trans (by rw [← hw310]; exact (e_up_ne _ _ (Or.inl (by omega))).trans rfl)) k1.2.2.2
          have ede : w319 275 102 = dl p - 1 := (by rw [← hw319]; exact (e_up_ne _ _ (Or.inl (by omega))).trans (by rw [← hw310]; exact e_up_eq _ _ _ _))
          exact ⟨rfl, ⟨f321, (sRel.up (sRel.up sRel.refl hw310 (fun q b g1 g2 => by omega)) hw319 (fun q b g1 g2 => by omega))⟩, hT322, by omega, Or.inr ⟨(by rw [← hw319]; exact (e_up_ne _ _ (Or.inl (by omega))).trans (by rw [← hw310]; exact (e_up_ne _ _ (Or.inr (by omega))).trans rfl)), (by rw [← hw319]; exact (e_up_ne _ _ (Or.inr (by omega))).trans (by rw [← hw310]; exact (e_up_ne _ _ (Or.inl (by omega))).trans rfl)), by omega, p + 1, runOk.at hrn (by omega) (by rw [← hw319]; exact e_up_eq _ _ _ _) erg, by omega, e_kn.le (e_kn.oth (e_kn.oth hst hw310 (by decide)) hw319 (by decide)) (by omega), by omega, by omega⟩⟩
        · replace h317 : (0 : Int) = 1 := by have q : ¬ ((0 : Int) ≠ 1) := h317; omega
          exfalso; omega
    · replace h315 : (z312 : Int) ≠ 0 := by have q : ¬ ((z312 : Int) = 0) := h315; omega
      refine e_Ok.run (t' := (379, [(7, (0, 1)), (4, (0, p + 1)), (0, (1, 275)), (1, (0, w 328 (10000 * a + p))), (2, (0, w 329 (10000 * a + p))), (3, (0, p))], [(0, 22), (0, w 328 (10000 * a + p)), (0, 1)], w310)) 6 rfl ?_
      refine e_Ok.if2 rfl (fun h324 => ?_) (fun h324 => ?_)
      · replace h324 : (w 328 (10000 * a + p) : Int) ≠ 22 := h324
        exfalso; omega
      · replace h324 : (w 328 (10000 * a + p) : Int) = 22 := by have q : ¬ ((w 328 (10000 * a + p) : Int) ≠ 22) := h324; omega
        refine e_Ok.run (t' := (387, [(7, (0, 1)), (4, (0, p + 1)), (0, (1, 275)), (1, (0, w 328 (10000 * a + p))), (2, (0, w 329 (10000 * a + p))), (3, (0, p))], [(0, 1), (0, 1)], w310)) 2 rfl ?_
        refine e_Ok.if2 rfl (fun h325 => ?_) (fun h325 => ?_)
        · replace h325 : (1 : Int) ≠ 1 := h325
          exfalso; omega
        · replace h325 : (1 : Int) = 1 := by have q : ¬ ((1 : Int) ≠ 1) := h325; omega
          refine e_Ok.run (t' := (393, [(7, (0, 1)), (4, (0, p + 1)), (0, (1, 275)), (1, (0, w 328 (10000 * a + p))), (2, (0, w 329 (10000 * a + p))), (3, (0, p))], [(0, 1), (1, 275)], w310)) 2 rfl ?_
          refine e_Ok.if1 rfl (fun h326 => ?_) (fun h326 => ?_)
          · replace h326 : (1 : Int) = 0 := h326
            exfalso; omega
          · replace h326 : (1 : Int) ≠ 0 := by have q : ¬ ((1 : Int) = 0) := h326; omega
            refine e_Ok.run (t' := (401, [(7, (0, 1)), (4, (0, p + 1)), (0, (1, 275)), (1, (0, w 328 (10000 * a + p))), (2, (0, w 329 (10000 * a + p))), (3, (0, p))], [(0, 1), (1, 275)], w310)) 2 rfl ?_
            refine e_Ok.callV rfl (by omega) rfl rfl rfl rfl (c_363 hT314 (e := dl p - 1) (e1 := dl p) (by rw [← hw310]; exact e_up_eq _ _ _ _) (by omega) (by omega)) (fun r327 w328 h329 => ?_)
            obtain ⟨rfl, hw328⟩ := h329
            generalize hw330 : e_up w310 345 (dl p - 1) 1 = w330 at hw328
            have f331 : e_fr (mRk t) w w330 := e_fr.up f313 hw330 (by unfold mRk mLv; omega)
            have hT332 : e_Has mTy w330 := e_Has.ups hT314 hw330 rfl
            have f333 : e_fr (mRk t) w w328 := e_fr.up f331 hw328 (by unfold mRk mLv; omega)
            have hT334 : e_Has mTy w328 := e_Has.ups hT332 hw328 rfl
            show e_Ok 20 elay ecode eI (d + 1) 374 (404, [(7, (0, 1)), (4, (0, p + 1)), (0, (1, 275)), (1, (0, w 328 (10000 * a + p))), (2, (0, w 329 (10000 * a + p))), (3, (0, p))], [], w328) _
            refine e_Ok.run (t' := (460, [(4, (0, w 329 (10000 * a + p))), (7, (0, 1)), (0, (1, 275)), (1, (0, w 328 (10000 * a + p))), (2, (0, w 329 (10000 * a + p))), (3, (0, p))], [(0, w 329 (10000 * a + p)), (1, 275)], w328)) 5 rfl ?_
            refine e_Ok.callV rfl (by omega) rfl rfl rfl rfl (c_365 (by omega) hT334 (by omega) (by rw [← hw328]; exact (e_up_ne _ _ (Or.inr (by omega))).trans (by rw [← hw330]; exact (e_up_ne _ _ (Or.inl (by omega))).trans (by rw [← hw310]; exact (e_up_ne _ _ (Or.inr (by omega))).trans h97))) (f := g + 1) (z := 1260 * t + 2 * g + 436) (by rw [← hw328]; exact (e_up_ne _ _ (Or.inl (by omega))).trans (by rw [← hw330]; exact (e_up_ne _ _ (Or.inl (by omega))).trans (by rw [← hw310]; exact (e_up_ne _ _ (Or.inl (by omega))).trans hF))) (by omega) (by omega)) (fun r335 w336 h337 => ?_)
            obtain ⟨rfl, hw336⟩ := h337
            have f338 : e_fr (mRk t) w w336 := e_fr.up f333 hw336 (by unfold mRk mLv; omega)
            have hT339 : e_Has mTy w336 := e_Has.upr hT334 hw336 (nR_FRg t (g) (by omega) (by omega) (by omega)) (by omega)
            show e_Ok 20 elay ecode eI (d + 1) 374 (463, [(4, (0, w 329 (10000 * a + p))), (7, (0, 1)), (0, (1, 275)), (1, (0, w 328 (10000 * a + p))), (2, (0, w 329 (10000 * a + p))), (3, (0, p))], [], w336) _
            refine e_Ok.rets rfl rfl ?_
            have e340 : w336 276 5 = w 276 5 := (by rw [← hw336]; exact (e_up_ne _ _ (Or.inr (by omega))).trans (by rw [← hw328]; exact (e_up_ne _ _ (Or.inl (by omega))).trans (by rw [← hw330]; exact (e_up_ne _ _ (Or.inl (by omega))).trans (by rw [← hw310]; exact (e_up_ne _ _ (Or.inl (by omega))).trans rfl))))
            have hrn := runOk.fr (w' := w336) (fun c k q1 q2 => (by rw [← hw336]; exact (e_up_ne _ _ (Or.inl (by omega))).trans (by rw [← hw328]; exact (e_up_ne _ _ (Or.inl (by omega))).trans (by rw [← hw330]; exact (e_up_ne _ _ (Or.inl (by omega))).trans (by rw [← hw310]; exact (e_up_ne _ _ (Or.inl (by omega))).trans rfl))))) (fun i q1 q2 => ⟨(by rw [← hw336]; exact (e_up_ne _ _ (Or.inr (by omega))).trans (by rw [← hw328]; exact (e_up_ne _ _ (Or.inl (by omega))).trans (by rw [← hw330]; exact (e_up_ne _ _ (Or.inl (by omega))).trans (by rw [← hw310]; exact (e_up_ne _ _ (Or.inl (by omega))).trans rfl)))), (by rw [← hw336]; exact (e_up_ne _ _ (Or.inr (by omega))).trans (by rw [← hw328]; exact (e_up_ne _ _ (Or.inl (by omega))).trans (by rw [← hw330]; exact (e_up_ne _ _ (Or.inl (by omega))).trans (by rw [← hw310]; exact (e_up_ne _ _ (Or.inl (by omega))).trans rfl))))⟩) (by rw [← hw336]; exact (e_up_ne _ _ (Or.inr (by omega))).trans (by rw [← hw328]; exact (e_up_ne _ _ (Or.inl (by omega))).trans (by rw [← hw330]; exact (e_up_ne _ _ (Or.inl (by omega))).trans (by rw [← hw310]; exact (e_up_ne _ _ (Or.inl (by omega))).trans rfl)))) (by rw [← hw336]; exact (e_up_ne _ _ (Or.inr (by omega))).trans (by rw [← hw328]; exact (e_up_ne _ _ (Or.inl (by omega))).trans (by rw [← hw330]; exact (e_up_ne _ _ (Or.inl (by omega))).trans (by rw [← hw310]; exact (e_up_ne _ _ (Or.inl (by omega))).trans rfl)))) (fun k q1 q2 => (by rw [← hw336]; exact (e_up_ne _ _ (Or.inr (by omega))).trans (by rw [← hw328]; exact (e_up_ne _ _ (Or.inl (by omega))).trans (by rw [← hw330]; exact (e_up_ne _ _ (Or.inl (by omega))).trans (by rw [← hw310]; exact (e_up_ne _ _ (Or.inl (by omega))).trans rfl))))) (by omega) hru
            have erg : w336 330 (10000 * a + (w 329 (10000 * a + p))) = w 330 (10000 * a + p) := Eq.trans (by rw [← hw336]; exact (e_up_ne _ _ (Or.inl (by omega))).trans (by rw [← hw328]; exact (e_up_ne _ _ (Or.inl (by omega))).trans (by rw [← hw330]; exact (e_up_ne _ _ (Or.inl (by omega))).trans (by rw [← hw310]; exact (e_up_ne _ _ (Or.inl (by omega))).trans rfl)))) k5.2.2.2.2.2.2
            have ede : w336 275 102 = dl p := (by rw [← hw336]; exact (e_up_ne _ _ (Or.inl (by omega))).trans (by rw [← hw328]; exact e_up_eq _ _ _ _))
            exact ⟨rfl, ⟨f338, (sRel.up (sRel.up (sRel.up (sRel.up sRel.refl hw310 (fun q b g1 g2 => by omega)) hw330 (fun q b g1 g2 => by omega)) hw328 (fun q b g1 g2 => by omega)) hw336 (fun q b g1 g2 => by omega))⟩, hT339, by omega, Or.inr ⟨(by rw [← hw336]; exact (e_up_ne _ _ (Or.inl (by omega))).trans (by rw [← hw328]; exact (e_up_ne _ _ (Or.inr (by omega))).trans (by rw [← hw330]; exact (e_up_ne _ _ (Or.inl (by omega))).trans (by rw [← hw310]; exact (e_up_ne _ _ (Or.inr (by omega))).trans rfl)))), (by rw [← hw336]; exact (e_up_ne _ _ (Or.inr (by omega))).trans (by rw [← hw328]; exact (e_up_ne _ _ (Or.inl (by omega))).trans (by rw [← hw330]; exact (e_up_ne _ _ (Or.inl (by omega))).trans (by rw [← hw310]; exact (e_up_ne _ _ (Or.inl (by omega))).trans rfl)))), by omega, w 329 (10000 * a + p), runOk.at hrn (by omega) (by rw [← hw336]; exact e_up_eq _ _ _ _) erg, by omega, e_kn.le (e_kn.oth (e_kn.oth (e_kn.put (b' := dl p - 1) (e_kn.oth hst hw310 (by decide)) hw330 (by omega) (by omega)) hw328 (by decide)) hw336 (by decide)) (by omega), by omega, by omega⟩⟩
  · refine e_Ok.sw (tg := 360) rfl (by rw [h1]; rfl) ?_
    have k1 := hi1 (by omega)
    unfold iFT at k1
    have k5 := hi5 (by omega)
    refine e_Ok.run (t' := (361, [(4, (0, p + 1)), (0, (1, 275)), (1, (0, w 328 (10000 * a + p))), (2, (0, w 329 (10000 * a + p))), (3, (0, p))], [(1, 275)], w)) 1 rfl ?_
    refine e_Ok.callV rfl (by omega) rfl rfl rfl rfl (c_364 hT (e := dl p) (u := dl p - 1) h102 (by omega) (by omega) (by have q : w 345 (dl p - 1) = w 345 (dl p - 1) := rfl; have q2 := (hst (dl p - 1) (by omega) (by omega)); omega)) (fun r341 w342 h343 => ?_)
    obtain ⟨rfl, hw342⟩ := h343
    generalize hz344 : w 345 (dl p - 1) = z344
    have z344r : z344 = w 345 (dl p - 1) := Eq.trans hz344.symm rfl
    have f345 : e_fr (mRk t) w w342 := e_fr.up (e_fr.refl w) hw342 (by unfold mRk mLv; omega)
    have hT346 : e_Has mTy w342 := e_Has.ups hT hw342 rfl
    show e_Ok 20 elay ecode eI (d + 1) 374 (364, [(4, (0, p + 1)), (0, (1, 275)), (1, (0, w 328 (10000 * a + p))), (2, (0, w 329 (10000 * a + p))), (3, (0, p))], [(0, z344)], w342) _
    refine e_Ok.if1 rfl (fun h347 => ?_) (fun h347 => ?_)
    · replace h347 : (z344 : Int) = 0 := h347
      refine e_Ok.run (t' := (379, [(7, (0, 0)), (4, (0, p + 1)), (0, (1, 275)), (1, (0, w 328 (10000 * a + p))), (2, (0, w 329 (10000 * a + p))), (3, (0, p))], [(0, 22), (0, w 328 (10000 * a + p)), (0, 0)], w342)) 5 rfl ?_
      refine e_Ok.if2 rfl (fun h348 => ?_) (fun h348 => ?_)
      · replace h348 : (w 328 (10000 * a + p) : Int) ≠ 22 := h348
        refine e_Ok.run (t' := (387, [(7, (0, 0)), (4, (0, p + 1)), (0, (1, 275)), (1, (0, w 328 (10000 * a + p))), (2, (0, w 329 (10000 * a + p))), (3, (0, p))], [(0, 0), (0, 0)], w342)) 1 rfl ?_
        refine e_Ok.if2 rfl (fun h349 => ?_) (fun h349 => ?_)
        · replace h349 : (0 : Int) ≠ 0 := h349
          exfalso; omega
        · replace h349 : (0 : Int) = 0 := by have q : ¬ ((0 : Int) ≠ 0) := h349; omega
          refine e_Ok.run (t' := (393, [(7, (0, 0)), (4, (0, p + 1)), (0, (1, 275)), (1, (0, w 328 (10000 * a + p))), (2, (0, w 329 (10000 * a + p))), (3, (0, p))], [(0, 0), (1, 275)], w342)) 2 rfl ?_
          refine e_Ok.if1 rfl (fun h350 => ?_) (fun h350 => ?_)
          · replace h350 : (0 : Int) = 0 := h350
            refine e_Ok.run (t' := (401, [(7, (0, 0)), (4, (0, p + 1)), (0, (1, 275)), (1, (0, w 328 (10000 * a + p))), (2, (0, w 329 (10000 * a + p))), (3, (0, p))], [(0, 0), (1, 275)], w342)) 1 rfl ?_
            refine e_Ok.callV rfl (by omega) rfl rfl rfl rfl (c_363 hT346 (e := dl p - 1) (e1 := dl p) (by rw [← hw342]; exact e_up_eq _ _ _ _) (by omega) (by omega)) (fun r351 w352 h353 => ?_)
            obtain ⟨rfl, hw352⟩ := h353
            generalize hw354 : e_up w342 345 (dl p - 1) 0 = w354 at hw352
            have f355 : e_fr (mRk t) w w354 := e_fr.up f345 hw354 (by unfold mRk mLv; omega)
            have hT356 : e_Has mTy w354 := e_Has.ups hT346 hw354 rfl
            have f357 : e_fr (mRk t) w w352 := e_fr.up f355 hw352 (by unfold mRk mLv; omega)
            have hT358 : e_Has mTy w352 := e_Has.ups hT356 hw352 rfl
            show e_Ok 20 elay ecode eI (d + 1) 374 (404, [(7, (0, 0)), (4, (0, p + 1)), (0, (1, 275)), (1, (0, w 328 (10000 * a + p))), (2, (0, w 329 (10000 * a + p))), (3, (0, p))], [], w352) _
            refine e_Ok.run (t' := (460, [(4, (0, w 329 (10000 * a + p))), (7, (0, 0)), (0, (1, 275)), (1, (0, w 328 (10000 * a + p))), (2, (0, w 329 (10000 * a + p))), (3, (0, p))], [(0, w 329 (10000 * a + p)), (1, 275)], w352)) 5 rfl ?_
            refine e_Ok.callV rfl (by omega) rfl rfl rfl rfl (c_365 (by omega) hT358 (by omega) (by rw [← hw352]; exact (e_up_ne _ _ (Or.inr (by omega))).trans (by rw [← hw354]; exact (e_up_ne _ _ (Or.inl (by omega))).trans (by rw [← hw342]; exact (e_up_ne _ _ (Or.inr (by omega))).trans h97))) (f := g + 1) (z := 1260 * t + 2 * g + 436) (by rw [← hw352]; exact (e_up_ne _ _ (Or.inl (by omega))).trans (by rw [← hw354]; exact (e_up_ne _ _ (Or.inl (by omega))).trans (by rw [← hw342]; exact (e_up_ne _ _ (Or.inl (by omega))).trans hF))) (by omega) (by omega)) (fun r359 w360 h361 => ?_)
            obtain ⟨rfl, hw360⟩ := h361
            have f362 : e_fr (mRk t) w w360 := e_fr.up f357 hw360 (by unfold mRk mLv; omega)
            have hT363 : e_Has mTy w360 := e_Has.upr hT358 hw360 (nR_FRg t (g) (by omega) (by omega) (by omega)) (by omega)
            show e_Ok 20 elay ecode eI (d + 1) 374 (463, [(4, (0, w 329 (10000 * a + p))), (7, (0, 0)), (0, (1, 275)), (1, (0, w 328 (10000 * a + p))), (2, (0, w 329 (10000 * a + p))), (3, (0, p))], [], w360) _
            refine e_Ok.rets rfl rfl ?_
            have e364 : w360 276 5 = w 276 5 := (by rw [← hw360]; exact (e_up_ne _ _ (Or.inr (by omega))).trans (by rw [← hw352]; exact (e_up_ne _ _ (Or.inl (by omega))).trans (by rw [← hw354]; exact (e_up_ne _ _ (Or.inl (by omega))).trans (by rw [← hw342]; exact (e_up_ne _ _ (Or.inl (by omega))).trans rfl))))
            have hrn := runOk.fr (w' := w360) (fun c k q1 q2 => (by rw [← hw360]; exact (e_up_ne _ _ (Or.inl (by omega))).trans (by rw [← hw352]; exact (e_up_ne _ _ (Or.inl (by omega))).trans (by rw [← hw354]; exact (e_up_ne _ _ (Or.inl (by omega))).trans (by rw [← hw342]; exact (e_up_ne _ _ (Or.inl (by omega))).trans rfl))))) (fun i q1 q2 => ⟨(by rw [← hw360]; exact (e_up_ne _ _ (Or.inr (by omega))).trans (by rw [← hw352]; exact (e_up_ne _ _ (Or.inl (by omega))).trans (by rw [← hw354]; exact (e_up_ne _ _ (Or.inl (by omega))).trans (by rw [← hw342]; exact (e_up_ne _ _ (Or.inl (by omega))).trans rfl)))), (by rw [← hw360]; exact (e_up_ne _ _ (Or.inr (by omega))).trans (by rw [← hw352]; exact (e_up_ne _ _ (Or.inl (by omega))).trans (by rw [← hw354]; exact (e_up_ne _ _ (Or.inl (by omega))).trans (by rw [← hw342]; exact (e_up_ne _ _ (Or.inl (by omega))).trans rfl))))⟩) (by rw [← hw360]; exact (e_up_ne _ _ (Or.inr (by omega))).trans (by rw [← hw352]; exact (e_up_ne _ _ (Or.inl (by omega))).trans (by rw [← hw354]; exact (e_up_ne _ _ (Or.inl (by omega))).trans (by rw [← hw342]; exact (e_up_ne _ _ (Or.inl (by omega))).trans rfl)))) (by rw [← hw360]; exact (e_up_ne _ _ (Or.inr (by omega))).trans (by rw [← hw352]; exact (e_up_ne _ _ (Or.inl (by omega))).trans (by rw [← hw354]; exact (e_up_ne _ _ (Or.inl (by omega))).trans (by rw [← hw342]; exact (e_up_ne _ _ (Or.inl (by omega))).trans rfl)))) (fun k q1 q2 => (by rw [← hw360]; exact (e_up_ne _ _ (Or.inr (by omega))).trans (by rw [← hw352]; exact (e_up_ne _ _ (Or.inl (by omega))).trans (by rw [← hw354]; exact (e_up_ne _ _ (Or.inl (by omega))).trans (by rw [← hw342]; exact (e_up_ne _ _ (Or.inl (by omega))).trans rfl))))) (by omega) hru
            have erg : w360 330 (10000 * a + (w 329 (10000 * a + p))) = w 330 (10000 * a + p) := Eq.trans (by rw [← hw360]; exact (e_up_ne _ _ (Or.inl (by omega))).trans (by rw [← hw352]; exact (e_up_ne _ _ (Or.inl (by omega))).trans (by rw [← hw354]; exact (e_up_ne _ _ (Or.inl (by omega))).trans (by rw [← hw342]; exact (e_up_ne _ _ (Or.inl (by omega))).trans rfl)))) k5.2.2.2.2.2.2
            have ede : w360 275 102 = dl p := (by rw [← hw360]; exact (e_up_ne _ _ (Or.inl (by omega))).trans (by rw [← hw352]; exact e_up_eq _ _ _ _))
            exact ⟨rfl, ⟨f362, (sRel.up (sRel.up (sRel.up (sRel.up sRel.refl hw342 (fun q b g1 g2 => by omega)) hw354 (fun q b g1 g2 => by omega)) hw352 (fun q b g1 g2 => by omega)) hw360 (fun q b g1 g2 => by omega))⟩, hT363, by omega, Or.inr ⟨(by rw [← hw360]; exact (e_up_ne _ _ (Or.inl (by omega))).trans (by rw [← hw352]; exact (e_up_ne _ _ (Or.inr (by omega))).trans (by rw [← hw354]; exact (e_up_ne _ _ (Or.inl (by omega))).trans (by rw [← hw342]; exact (e_up_ne _ _ (Or.inr (by omega))).trans rfl)))), (by rw [← hw360]; exact (e_up_ne _ _ (Or.inr (by omega))).trans (by rw [← hw352]; exact (e_up_ne _ _ (Or.inl (by omega))).trans (by rw [← hw354]; exact (e_up_ne _ _ (Or.inl (by omega))).trans (by rw [← hw342]; exact (e_up_ne _ _ (Or.inl (by omega))).trans rfl)))), by omega, w 329 (10000 * a + p), runOk.at hrn (by omega) (by rw [← hw360]; exact e_up_eq _ _ _ _) erg, by omega, e_kn.le (e_kn.oth (e_kn.oth (e_kn.put (b' := dl p - 1) (e_kn.oth hst hw342 (by decide)) hw354 (by omega) (by omega)) hw352 (by decide)) hw360 (by decide)) (by omega), by omega, by omega⟩⟩
          · replace h350 : (0 : Int) ≠ 0 := by have q : ¬ ((0 : Int) = 0) := h350; omega
            exfalso; omega
      · replace h348 : (w 328 (10000 * a + p) : Int) = 22 := by have q : ¬ ((w 328 (10000 * a + p) : Int) ≠ 22) := h348; omega
        exfalso; omega
    · replace h347 : (z344 : Int) ≠ 0 := by have q : ¬ ((z344 : Int) = 0) := h347; omega
      refine e_Ok.run (t' := (379, [(7, (0, 1)), (4, (0, p + 1)), (0, (1, 275)), (1, (0, w 328 (10000 * a + p))), (2, (0, w 329 (10000 * a + p))), (3, (0, p))], [(0, 22), (0, w 328 (10000 * a + p)), (0, 1)], w342)) 6 rfl ?_
      refine e_Ok.if2 rfl (fun h365 => ?_) (fun h365 => ?_)
      · replace h365 : (w 328 (10000 * a + p) : Int) ≠ 22 := h365
        refine e_Ok.run (t' := (387, [(7, (0, 1)), (4, (0, p + 1)), (0, (1, 275)), (1, (0, w 328 (10000 * a + p))), (2, (0, w 329 (10000 * a + p))), (3, (0, p))], [(0, 0), (0, 1)], w342)) 1 rfl ?_
        refine e_Ok.if2 rfl (fun h366 => ?_) (fun h366 => ?_)
        · replace h366 : (1 : Int) ≠ 0 := h366
          refine e_Ok.run (t' := (460, [(7, (0, 1)), (4, (0, p + 1)), (0, (1, 275)), (1, (0, w 328 (10000 * a + p))), (2, (0, w 329 (10000 * a + p))), (3, (0, p))], [(0, p + 1), (1, 275)], w342)) 2 rfl ?_
          refine e_Ok.callV rfl (by omega) rfl rfl rfl rfl (c_365 (by omega) hT346 (by omega) (by rw [← hw342]; exact (e_up_ne _ _ (Or.inr (by omega))).trans h97) (f := g + 1) (z := 1260 * t + 2 * g + 436) (by rw [← hw342]; exact (e_up_ne _ _ (Or.inl (by omega))).trans hF) (by omega) (by omega)) (fun r367 w368 h369 => ?_)
          obtain ⟨rfl, hw368⟩ := h369
          have f370 : e_fr (mRk t) w w368 := e_fr.up f345 hw368 (by unfold mRk mLv; omega)
          have hT371 : e_Has mTy w368 := e_Has.upr hT346 hw368 (nR_FRg t (g) (by omega) (by omega) (by omega)) (by omega)
          show e_Ok 20 elay ecode eI (d + 1) 374 (463, [(7, (0, 1)), (4, (0, p + 1)), (0, (1, 275)), (1, (0, w 328 (10000 * a + p))), (2, (0, w 329 (10000 * a + p))), (3, (0, p))], [], w368) _
          refine e_Ok.rets rfl rfl ?_
          have e372 : w368 276 5 = w 276 5 := (by rw [← hw368]; exact (e_up_ne _ _ (Or.inr (by omega))).trans (by rw [← hw342]; exact (e_up_ne _ _ (Or.inl (by omega))).trans rfl))
          have hrn := runOk.fr (w' := w368) (fun c k q1 q2 => (by rw [← hw368]; exact (e_up_ne _ _ (Or.inl (by omega))).trans (by rw [← hw342]; exact (e_up_ne _ _ (Or.inl (by omega))).trans rfl))) (fun i q1 q2 => ⟨(by rw [← hw368]; exact (e_up_ne _ _ (Or.inr (by omega))).trans (by rw [← hw342]; exact (e_up_ne _ _ (Or.inl (by omega))).trans rfl)), (by rw [← hw368]; exact (e_up_ne _ _ (Or.inr (by omega))).trans (by rw [← hw342]; exact (e_up_ne _ _ (Or.inl (by omega))).trans rfl))⟩) (by rw [← hw368]; exact (e_up_ne _ _ (Or.inr (by omega))).trans (by rw [← hw342]; exact (e_up_ne _ _ (Or.inl (by omega))).trans rfl)) (by rw [← hw368]; exact (e_up_ne _ _ (Or.inr (by omega))).trans (by rw [← hw342]; exact (e_up_ne _ _ (Or.inl (by omega))).trans rfl)) (fun k q1 q2 => (by rw [← hw368]; exact (e_up_ne _ _ (Or.inr (by omega))).trans (by rw [← hw342]; exact (e_up_ne _ _ (Or.inl (by omega))).trans rfl))) (by omega) hru
          have erg : w368 330 (10000 * a + (p + 1)) = w 330 (10000 * a + p) := by rw [show 10000 * a + (p + 1) = 10000 * a + p + 1 by omega]; exact Eq.trans (by rw [← hw368]; exact (e_up_ne _ _ (Or.inl (by omega))).trans (by rw [← hw342]; exact (e_up_ne _ _ (Or.inl (by omega))).trans rfl)) k1.2.2.2
          have ede : w368 275 102 = dl p - 1 := (by rw [← hw368]; exact (e_up_ne _ _ (Or.inl (by omega))).trans (by rw [← hw342]; exact e_up_eq _ _ _ _))
          exact ⟨rfl, ⟨f370, (sRel.up (sRel.up sRel.refl hw342 (fun q b g1 g2 => by omega)) hw368 (fun q b g1 g2 => by omega))⟩, hT371, by omega, Or.inr ⟨(by rw [← hw368]; exact (e_up_ne _ _ (Or.inl (by omega))).trans (by rw [← hw342]; exact (e_up_ne _ _ (Or.inr (by omega))).trans rfl)), (by rw [← hw368]; exact (e_up_ne _ _ (Or.inr (by omega))).trans (by rw [← hw342]; exact (e_up_ne _ _ (Or.inl (by omega))).trans rfl)), by omega, p + 1, runOk.at hrn (by omega) (by rw [← hw368]; exact e_up_eq _ _ _ _) erg, by omega, e_kn.le (e_kn.oth (e_kn.oth hst hw342 (by decide)) hw368 (by decide)) (by omega), by omega, by omega⟩⟩
        · replace h366 : (1 : Int) = 0 := by have q : ¬ ((1 : Int) ≠ 0) := h366; omega
          exfalso; omega
      · replace h365 : (w 328 (10000 * a + p) : Int) = 22 := by have q : ¬ ((w 328 (10000 * a + p) : Int) ≠ 22) := h365; omega
        exfalso; omega
  · refine e_Ok.sw (tg := 341) rfl (by rw [h1]; rfl) ?_
    have k1 := hi1 (by omega)
    unfold iFT at k1
    have k4 := hi4 (by omega)
    refine e_Ok.run (t' := (343, [(4, (0, p + 1)), (0, (1, 275)), (1, (0, w 328 (10000 * a + p))), (2, (0, w 329 (10000 * a + p))), (3, (0, p))], [(1, 275), (1, 275)], w)) 2 rfl ?_
    refine e_Ok.callV rfl (by omega) rfl rfl rfl rfl (c_364 hT (e := dl p) (u := dl p - 1) h102 (by omega) (by omega) (by have q : w 345 (dl p - 1) = w 345 (dl p - 1) := rfl; have q2 := (hst (dl p - 1) (by omega) (by omega)); omega)) (fun r373 w374 h375 => ?_)
    obtain ⟨rfl, hw374⟩ := h375
    generalize hz376 : w 345 (dl p - 1) = z376
    have z376r : z376 = w 345 (dl p - 1) := Eq.trans hz376.symm rfl
    have f377 : e_fr (mRk t) w w374 := e_fr.up (e_fr.refl w) hw374 (by unfold mRk mLv; omega)
    have hT378 : e_Has mTy w374 := e_Has.ups hT hw374 rfl
    show e_Ok 20 elay ecode eI (d + 1) 374 (346, [(4, (0, p + 1)), (0, (1, 275)), (1, (0, w 328 (10000 * a + p))), (2, (0, w 329 (10000 * a + p))), (3, (0, p))], [(0, z376), (1, 275)], w374) _
    refine e_Ok.if1 rfl (fun h379 => ?_) (fun h379 => ?_)
    · replace h379 : (z376 : Int) ≠ 0 := h379
      refine e_Ok.run (t' := (354, [(4, (0, p + 1)), (0, (1, 275)), (1, (0, w 328 (10000 * a + p))), (2, (0, w 329 (10000 * a + p))), (3, (0, p))], [(0, 1), (1, 275)], w374)) 1 rfl ?_
      refine e_Ok.callV rfl (by omega) rfl rfl rfl rfl (c_363 hT378 (e := dl p - 1) (e1 := dl p) (by rw [← hw374]; exact e_up_eq _ _ _ _) (by omega) (by omega)) (fun r380 w381 h382 => ?_)
      obtain ⟨rfl, hw381⟩ := h382
      generalize hw383 : e_up w374 345 (dl p - 1) 1 = w383 at hw381
      have f384 : e_fr (mRk t) w w383 := e_fr.up f377 hw383 (by unfold mRk mLv; omega)
      have hT385 : e_Has mTy w383 := e_Has.ups hT378 hw383 rfl
      have f386 : e_fr (mRk t) w w381 := e_fr.up f384 hw381 (by unfold mRk mLv; omega)
      have hT387 : e_Has mTy w381 := e_Has.ups hT385 hw381 rfl
      show e_Ok 20 elay ecode eI (d + 1) 374 (357, [(4, (0, p + 1)), (0, (1, 275)), (1, (0, w 328 (10000 * a + p))), (2, (0, w 329 (10000 * a + p))), (3, (0, p))], [], w381) _
      refine e_Ok.run (t' := (460, [(4, (0, p + 1)), (0, (1, 275)), (1, (0, w 328 (10000 * a + p))), (2, (0, w 329 (10000 * a + p))), (3, (0, p))], [(0, p + 1), (1, 275)], w381)) 3 rfl ?_
      refine e_Ok.callV rfl (by omega) rfl rfl rfl rfl (c_365 (by omega) hT387 (by omega) (by rw [← hw381]; exact (e_up_ne _ _ (Or.inr (by omega))).trans (by rw [← hw383]; exact (e_up_ne _ _ (Or.inl (by omega))).trans (by rw [← hw374]; exact (e_up_ne _ _ (Or.inr (by omega))).trans h97))) (f := g + 1) (z := 1260 * t + 2 * g + 436) (by rw [← hw381]; exact (e_up_ne _ _ (Or.inl (by omega))).trans (by rw [← hw383]; exact (e_up_ne _ _ (Or.inl (by omega))).trans (by rw [← hw374]; exact (e_up_ne _ _ (Or.inl (by omega))).trans hF))) (by omega) (by omega)) (fun r388 w389 h390 => ?_)
      obtain ⟨rfl, hw389⟩ := h390
      have f391 : e_fr (mRk t) w w389 := e_fr.up f386 hw389 (by unfold mRk mLv; omega)
      have hT392 : e_Has mTy w389 := e_Has.upr hT387 hw389 (nR_FRg t (g) (by omega) (by omega) (by omega)) (by omega)
      show e_Ok 20 elay ecode eI (d + 1) 374 (463, [(4, (0, p + 1)), (0, (1, 275)), (1, (0, w 328 (10000 * a + p))), (2, (0, w 329 (10000 * a + p))), (3, (0, p))], [], w389) _
      refine e_Ok.rets rfl rfl ?_
      have e393 : w389 276 5 = w 276 5 := (by rw [← hw389]; exact (e_up_ne _ _ (Or.inr (by omega))).trans (by rw [← hw381]; exact (e_up_ne _ _ (Or.inl (by omega))).trans (by rw [← hw383]; exact (e_up_ne _ _ (Or.inl (by omega))).trans (by rw [← hw374]; exact (e_up_ne _ _ (Or.inl (by omega))).trans rfl))))
      have hrn := runOk.fr (w' := w389) (fun c k q1 q2 => (by rw [← hw389]; exact (e_up_ne _ _ (Or.inl (by omega))).trans (by rw [← hw381]; exact (e_up_ne _ _ (Or.inl (by omega))).trans (by rw [← hw383]; exact (e_up_ne _ _ (Or.inl (by omega))).trans (by rw [← hw374]; exact (e_up_ne _ _ (Or.inl (by omega))).trans rfl))))) (fun i q1 q2 => ⟨(by rw [← hw389]; exact (e_up_ne _ _ (Or.inr (by omega))).trans (by rw [← hw381]; exact (e_up_ne _ _ (Or.inl (by omega))).trans (by rw [← hw383]; exact (e_up_ne _ _ (Or.inl (by omega))).trans (by rw [← hw374]; exact (e_up_ne _ _ (Or.inl (by omega))).trans rfl)))), (by rw [← hw389]; exact (e_up_ne _ _ (Or.inr (by omega))).trans (by rw [← hw381]; exact (e_up_ne _ _ (Or.inl (by omega))).trans (by rw [← hw383]; exact (e_up_ne _ _ (Or.inl (by omega))).trans (by rw [← hw374]; exact (e_up_ne _ _ (Or.inl (by omega))).trans rfl))))⟩) (by rw [← hw389]; exact (e_up_ne _ _ (Or.inr (by omega))).trans (by rw [← hw381]; exact (e_up_ne _ _ (Or.inl (by omega))).trans (by rw [← hw383]; exact (e_up_ne _ _ (Or.inl (by omega))).trans (by rw [← hw374]; exact (e_up_ne _ _ (Or.inl (by omega))).trans rfl)))) (by rw [← hw389]; exact (e_up_ne _ _ (Or.inr (by omega))).trans (by rw [← hw381]; exact (e_up_ne _ _ (Or.inl (by omega))).trans (by rw [← hw383]; exact (e_up_ne _ _ (Or.inl (by omega))).trans (by rw [← hw374]; exact (e_up_ne _ _ (Or.inl (by omega))).trans rfl)))) (fun k q1 q2 => (by rw [← hw389]; exact (e_up_ne _ _ (Or.inr (by omega))).trans (by rw [← hw381]; exact (e_up_ne _ _ (Or.inl (by omega))).trans (by rw [← hw383]; exact (e_up_ne _ _ (Or.inl (by omega))).trans (by rw [← hw374]; exact (e_up_ne _ _ (Or.inl (by omega))).trans rfl))))) (by omega) hru
      have erg : w389 330 (10000 * a + (p + 1)) = w 330 (10000 * a + p) := by rw [show 10000 * a + (p + 1) = 10000 * a + p + 1 by omega]; exact Eq.trans (by rw [← hw389]; exact (e_up_ne _ _ (Or.inl (by omega))).trans (by rw [← hw381]; exact (e_up_ne _ _ (Or.inl (by omega))).trans (by rw [← hw383]; exact (e_up_ne _ _ (Or.inl (by omega))).trans (by rw [← hw374]; exact (e_up_ne _ _ (Or.inl (by omega))).trans rfl)))) k1.2.2.2
      have ede : w389 275 102 = dl p := (by rw [← hw389]; exact (e_up_ne _ _ (Or.inl (by omega))).trans (by rw [← hw381]; exact e_up_eq _ _ _ _))
      exact ⟨rfl, ⟨f391, (sRel.up (sRel.up (sRel.up (sRel.up sRel.refl hw374 (fun q b g1 g2 => by omega)) hw383 (fun q b g1 g2 => by omega)) hw381 (fun q b g1 g2 => by omega)) hw389 (fun q b g1 g2 => by omega))⟩, hT392, by omega, Or.inr ⟨(by rw [← hw389]; exact (e_up_ne _ _ (Or.inl (by omega))).trans (by rw [← hw381]; exact (e_up_ne _ _ (Or.inr (by omega))).trans (by rw [← hw383]; exact (e_up_ne _ _ (Or.inl (by omega))).trans (by rw [← hw374]; exact (e_up_ne _ _ (Or.inr (by omega))).trans rfl)))), (by rw [← hw389]; exact (e_up_ne _ _ (Or.inr (by omega))).trans (by rw [← hw381]; exact (e_up_ne _ _ (Or.inl (by omega))).trans (by rw [← hw383]; exact (e_up_ne _ _ (Or.inl (by omega))).trans (by rw [← hw374]; exact (e_up_ne _ _ (Or.inl (by omega))).trans rfl)))), by omega, p + 1, runOk.at hrn (by omega) (by rw [← hw389]; exact e_up_eq _ _ _ _) erg, by omega, e_kn.le (e_kn.oth (e_kn.oth (e_kn.put (b' := dl p - 1) (e_kn.oth hst hw374 (by decide)) hw383 (by omega) (by omega)) hw381 (by decide)) hw389 (by decide)) (by omega), by omega, by omega⟩⟩
    · replace h379 : (z376 : Int) = 0 := by have q : ¬ ((z376 : Int) ≠ 0) := h379; omega
      refine e_Ok.run (t' := (354, [(4, (0, p + 1)), (0, (1, 275)), (1, (0, w 328 (10000 * a + p))), (2, (0, w 329 (10000 * a + p))), (3, (0, p))], [(0, 0), (1, 275)], w374)) 2 rfl ?_
      refine e_Ok.callV rfl (by omega) rfl rfl rfl rfl (c_363 hT378 (e := dl p - 1) (e1 := dl p) (by rw [← hw374]; exact e_up_eq _ _ _ _) (by omega) (by omega)) (fun r394 w395 h396 => ?_)
      obtain ⟨rfl, hw395⟩ := h396
      generalize hw397 : e_up w374 345 (dl p - 1) 0 = w397 at hw395
      have f398 : e_fr (mRk t) w w397 := e_fr.up f377 hw397 (by unfold mRk mLv; omega)
      have hT399 : e_Has mTy w397 := e_Has.ups hT378 hw397 rfl
      have f400 : e_fr (mRk t) w w395 := e_fr.up f398 hw395 (by unfold mRk mLv; omega)
      have hT401 : e_Has mTy w395 := e_Has.ups hT399 hw395 rfl
      show e_Ok 20 elay ecode eI (d + 1) 374 (357, [(4, (0, p + 1)), (0, (1, 275)), (1, (0, w 328 (10000 * a + p))), (2, (0, w 329 (10000 * a + p))), (3, (0, p))], [], w395) _
      refine e_Ok.run (t' := (460, [(4, (0, p + 1)), (0, (1, 275)), (1, (0, w 328 (10000 * a + p))), (2, (0, w 329 (10000 * a + p))), (3, (0, p))], [(0, p + 1), (1, 275)], w395)) 3 rfl ?_
      refine e_Ok.callV rfl (by omega) rfl rfl rfl rfl (c_365 (by omega) hT401 (by omega) (by rw [← hw395]; exact (e_up_ne _ _ (Or.inr (by omega))).trans (by rw [← hw397]; exact (e_up_ne _ _ (Or.inl (by omega))).trans (by rw [← hw374]; exact (e_up_ne _ _ (Or.inr (by omega))).trans h97))) (f := g + 1) (z := 1260 * t + 2 * g + 436) (by rw [← hw395]; exact (e_up_ne _ _ (Or.inl (by omega))).trans (by rw [← hw397]; exact (e_up_ne _ _ (Or.inl (by omega))).trans (by rw [← hw374]; exact (e_up_ne _ _ (Or.inl (by omega))).trans hF))) (by omega) (by omega)) (fun r402 w403 h404 => ?_)
      obtain ⟨rfl, hw403⟩ := h404
      have f405 : e_fr (mRk t) w w403 := e_fr.up f400 hw403 (by unfold mRk mLv; omega)
      have hT406 : e_Has mTy w403 := e_Has.upr hT401 hw403 (nR_FRg t (g) (by omega) (by omega) (by omega)) (by omega)
      show e_Ok 20 elay ecode eI (d + 1) 374 (463, [(4, (0, p + 1)), (0, (1, 275)), (1, (0, w 328 (10000 * a + p))), (2, (0, w 329 (10000 * a + p))), (3, (0, p))], [], w403) _
      refine e_Ok.rets rfl rfl ?_
      have e407 : w403 276 5 = w 276 5 := (by rw [← hw403]; exact (e_up_ne _ _ (Or.inr (by omega))).trans (by rw [← hw395]; exact (e_up_ne _ _ (Or.inl (by omega))).trans (by rw [← hw397]; exact (e_up_ne _ _ (Or.inl (by omega))).trans (by rw [← hw374]; exact (e_up_ne _ _ (Or.inl (by omega))).trans rfl))))
      have hrn := runOk.fr (w' := w403) (fun c k q1 q2 => (by rw [← hw403]; exact (e_up_ne _ _ (Or.inl (by omega))).trans (by rw [← hw395]; exact (e_up_ne _ _ (Or.inl (by omega))).trans (by rw [← hw397]; exact (e_up_ne _ _ (Or.inl (by omega))).trans (by rw [← hw374]; exact (e_up_ne _ _ (Or.inl (by omega))).trans rfl))))) (fun i q1 q2 => ⟨(by rw [← hw403]; exact (e_up_ne _ _ (Or.inr (by omega))).trans (by rw [← hw395]; exact (e_up_ne _ _ (Or.inl (by omega))).trans (by rw [← hw397]; exact (e_up_ne _ _ (Or.inl (by omega))).trans (by rw [← hw374]; exact (e_up_ne _ _ (Or.inl (by omega))).trans rfl)))), (by rw [← hw403]; exact (e_up_ne _ _ (Or.inr (by omega))).trans (by rw [← hw395]; exact (e_up_ne _ _ (Or.inl (by omega))).trans (by rw [← hw397]; exact (e_up_ne _ _ (Or.inl (by omega))).trans (by rw [← hw374]; exact (e_up_ne _ _ (Or.inl (by omega))).trans rfl))))⟩) (by rw [← hw403]; exact (e_up_ne _ _ (Or.inr (by omega))).trans (by rw [← hw395]; exact (e_up_ne _ _ (Or.inl (by omega))).trans (by rw [← hw397]; exact (e_up_ne _ _ (Or.inl (by omega))).trans (by rw [← hw374]; exact (e_up_ne _ _ (Or.inl (by omega))).trans rfl)))) (by rw [← hw403]; exact (e_up_ne _ _ (Or.inr (by omega))).trans (by rw [← hw395]; exact (e_up_ne _ _ (Or.inl (by omega))).trans (by rw [← hw397]; exact (e_up_ne _ _ (Or.inl (by omega))).trans (by rw [← hw374]; exact (e_up_ne _ _ (Or.inl (by omega))).trans rfl)))) (fun k q1 q2 => (by rw [← hw403]; exact (e_up_ne _ _ (Or.inr (by omega))).trans (by rw [← hw395]; exact (e_up_ne _ _ (Or.inl (by omega))).trans (by rw [← hw397]; exact (e_up_ne _ _ (Or.inl (by omega))).trans (by rw [← hw374]; exact (e_up_ne _ _ (Or.inl (by omega))).trans rfl))))) (by omega) hru
      have erg : w403 330 (10000 * a + (p + 1)) = w 330 (10000 * a + p) := by rw [show 10000 * a + (p + 1) = 10000 * a + p + 1 by omega]; exact Eq.trans (by rw [← hw403]; exact (e_up_ne _ _ (Or.inl (by omega))).trans (by rw [← hw395]; exact (e_up_ne _ _ (Or.inl (by omega))).trans (by rw [← hw397]; exact (e_up_ne _ _ (Or.inl (by omega))).trans (by rw [← hw374]; exact (e_up_ne _ _ (Or.inl (by omega))).trans rfl)))) k1.2.2.2
      have ede : w403 275 102 = dl p := (by rw [← hw403]; exact (e_up_ne _ _ (Or.inl (by omega))).trans (by rw [← hw395]; exact e_up_eq _ _ _ _))
      exact ⟨rfl, ⟨f405, (sRel.up (sRel.up (sRel.up (sRel.up sRel.refl hw374 (fun q b g1 g2 => by omega)) hw397 (fun q b g1 g2 => by omega)) hw395 (fun q b g1 g2 => by omega)) hw403 (fun q b g1 g2 => by omega))⟩, hT406, by omega, Or.inr ⟨(by rw [← hw403]; exact (e_up_ne _ _ (Or.inl (by omega))).trans (by rw [← hw395]; exact (e_up_ne _ _ (Or.inr (by omega))).trans (by rw [← hw397]; exact (e_up_ne _ _ (Or.inl (by omega))).trans (by rw [← hw374]; exact (e_up_ne _ _ (Or.inr (by omega))).trans rfl)))), (by rw [← hw403]; exact (e_up_ne _ _ (Or.inr (by omega))).trans (by rw [← hw395]; exact (e_up_ne _ _ (Or.inl (by omega))).trans (by rw [← hw397]; exact (e_up_ne _ _ (Or.inl (by omega))).trans (by rw [← hw374]; exact (e_up_ne _ _ (Or.inl (by omega))).trans rfl)))), by omega, p + 1, runOk.at hrn (by omega) (by rw [← hw403]; exact e_up_eq _ _ _ _) erg, by omega, e_kn.le (e_kn.oth (e_kn.oth (e_kn.put (b' := dl p - 1) (e_kn.oth hst hw374 (by decide)) hw397 (by omega) (by omega)) hw395 (by decide)) hw403 (by decide)) (by omega), by omega, by omega⟩⟩
end
