noncomputable section
def Hd63 (p : Prop) : Prop := p
theorem Hd63.out {p : Prop} (h : Hd63 p) : p := h
theorem c_375 {d : Nat} {w : eW} {o x y : Int} (ho : 10 ≤ o ∧ o ≤ 20) (hz : (o = 13 ∨ o = 14) → y ≠ 0) : e_Ok 20 elay ecode eI d 375 (0, [(0, (0, o)), (1, (0, x)), (2, (0, y))], [], w) (fun r w' => ∃ z : Int, r = [(0, z)] ∧ w = w' ∧ -2147483648 ≤ z ∧ z ≤ 2147483647) := by
  refine e_Ok.run (t' := (1, [(0, (0, o)), (1, (0, x)), (2, (0, y))], [(0, o)], w)) 1 rfl ?_
  have hs2 : ∀ x : Int, 10 ≤ x ∧ x ≤ 20 → (x = 10) ∨ (x = 11) ∨ (x = 12) ∨ (x = 13) ∨ (x = 14) ∨ (x = 15) ∨ (x = 16) ∨ (x = 17) ∨ (x = 18) ∨ (x = 19) ∨ (x = 20) := fun x h => by omega
  obtain h1 | h1 | h1 | h1 | h1 | h1 | h1 | h1 | h1 | h1 | h1 := hs2 (o) (by omega)
  · refine e_Ok.sw (tg := 56) rfl (by rw [h1]; rfl) ?_
    refine e_Ok.run (t' := (58, [(0, (0, o)), (1, (0, x)), (2, (0, y))], [(0, y), (0, x)], w)) 2 rfl ?_
    refine e_Ok.any rfl (eF_add_any _ _) (fun z3 z3a z3b => ?_)
    refine e_Ok.rets rfl rfl ?_
    exact ⟨_, rfl, rfl, by omega, by omega⟩
  · refine e_Ok.sw (tg := 60) rfl (by rw [h1]; rfl) ?_
    refine e_Ok.run (t' := (62, [(0, (0, o)), (1, (0, x)), (2, (0, y))], [(0, y), (0, x)], w)) 2 rfl ?_
    refine e_Ok.any rfl (eF_sub_any _ _) (fun z4 z4a z4b => ?_)
    refine e_Ok.rets rfl rfl ?_
    exact ⟨_, rfl, rfl, by omega, by omega⟩
  · refine e_Ok.sw (tg := 64) rfl (by rw [h1]; rfl) ?_
    refine e_Ok.run (t' := (66, [(0, (0, o)), (1, (0, x)), (2, (0, y))], [(0, y), (0, x)], w)) 2 rfl ?_
    refine e_Ok.any rfl (eF_mul_any _ _) (fun z5 z5a z5b => ?_)
    refine e_Ok.rets rfl rfl ?_
    exact ⟨_, rfl, rfl, by omega, by omega⟩
  · refine e_Ok.sw (tg := 68) rfl (by rw [h1]; rfl) ?_
    have hyz := hz (by omega)
    refine e_Ok.run (t' := (70, [(0, (0, o)), (1, (0, x)), (2, (0, y))], [(0, y), (0, x)], w)) 2 rfl ?_
    refine e_Ok.any rfl (eF_div_any (by omega)) (fun z6 z6a z6b => ?_)
    refine e_Ok.rets rfl rfl ?_
    exact ⟨_, rfl, rfl, by omega, by omega⟩
  · refine e_Ok.sw (tg := 72) rfl (by rw [h1]; rfl) ?_
    have hyz := hz (by omega)
    refine e_Ok.run (t' := (74, [(0, (0, o)), (1, (0, x)), (2, (0, y))], [(0, y), (0, x)], w)) 2 rfl ?_
    refine e_Ok.any rfl (eF_rem_any (by omega)) (fun z7 z7a z7b => ?_)
    refine e_Ok.rets rfl rfl ?_
    exact ⟨_, rfl, rfl, by omega, by omega⟩
  · refine e_Ok.sw (tg := 76) rfl (by rw [h1]; rfl) ?_
    refine e_Ok.run (t' := (78, [(0, (0, o)), (1, (0, x)), (2, (0, y))], [(0, y), (0, x)], w)) 2 rfl ?_
    have hJ10 : ∀ m9 : Int, 0 ≤ m9 ∧ m9 ≤ 1 → e_Ok 20 elay ecode eI d 375 (86, [(0, (0, o)), (1, (0, x)), (2, (0, y))], [(0, m9)], w) (fun r w' => ∃ z : Int, r = [(0, z)] ∧ w = w' ∧ -2147483648 ≤ z ∧ z ≤ 2147483647) := by
      intro m9 m9r
      refine e_Ok.rets rfl rfl ?_
      exact ⟨_, rfl, rfl, by omega, by omega⟩
    refine e_Ok.if2 rfl (fun h8 => ?_) (fun h8 => ?_)
    · exact e_Ok.run 1 rfl (hJ10 0 (by omega))
    · exact e_Ok.run 2 rfl (hJ10 1 (by omega))
  · refine e_Ok.sw (tg := 87) rfl (by rw [h1]; rfl) ?_
    refine e_Ok.run (t' := (89, [(0, (0, o)), (1, (0, x)), (2, (0, y))], [(0, y), (0, x)], w)) 2 rfl ?_
    have hJ13 : ∀ m12 : Int, 0 ≤ m12 ∧ m12 ≤ 1 → e_Ok 20 elay ecode eI d 375 (97, [(0, (0, o)), (1, (0, x)), (2, (0, y))], [(0, m12)], w) (fun r w' => ∃ z : Int, r = [(0, z)] ∧ w = w' ∧ -2147483648 ≤ z ∧ z ≤ 2147483647) := by
      intro m12 m12r
      refine e_Ok.rets rfl rfl ?_
      exact ⟨_, rfl, rfl, by omega, by omega⟩
    refine e_Ok.if2 rfl (fun h11 => ?_) (fun h11 => ?_)
    · exact e_Ok.run 1 rfl (hJ13 0 (by omega))
    · exact e_Ok.run 2 rfl (hJ13 1 (by omega))
  · refine e_Ok.sw (tg := 98) rfl (by rw [h1]; rfl) ?_
    refine e_Ok.run (t' := (100, [(0, (0, o)), (1, (0, x)), (2, (0, y))], [(0, y), (0, x)], w)) 2 rfl ?_
    have hJ16 : ∀ m15 : Int, 0 ≤ m15 ∧ m15 ≤ 1 → e_Ok 20 elay ecode eI d 375 (108, [(0, (0, o)), (1, (0, x)), (2, (0, y))], [(0, m15)], w) (fun r w' => ∃ z : Int, r = [(0, z)] ∧ w = w' ∧ -2147483648 ≤ z ∧ z ≤ 2147483647) := by
      intro m15 m15r
      refine e_Ok.rets rfl rfl ?_
      exact ⟨_, rfl, rfl, by omega, by omega⟩
    refine e_Ok.if2 rfl (fun h14 => ?_) (fun h14 => ?_)
    · exact e_Ok.run 1 rfl (hJ16 0 (by omega))
    · exact e_Ok.run 2 rfl (hJ16 1 (by omega))
  · refine e_Ok.sw (tg := 109) rfl (by rw [h1]; rfl) ?_
    refine e_Ok.run (t' := (111, [(0, (0, o)), (1, (0, x)), (2, (0, y))], [(0, y), (0, x)], w)) 2 rfl ?_
    have hJ19 : ∀ m18 : Int, 0 ≤ m18 ∧ m18 ≤ 1 → e_Ok 20 elay ecode eI d 375 (119, [(0, (0, o)), (1, (0, x)), (2, (0, y))], [(0, m18)], w) (fun r w' => ∃ z : Int, r = [(0, z)] ∧ w = w' ∧ -2147483648 ≤ z ∧ z ≤ 2147483647) := by
      intro m18 m18r
      refine e_Ok.rets rfl rfl ?_
      exact ⟨_, rfl, rfl, by omega, by omega⟩
    refine e_Ok.if2 rfl (fun h17 => ?_) (fun h17 => ?_)
    · exact e_Ok.run 1 rfl (hJ19 0 (by omega))
    · exact e_Ok.run 2 rfl (hJ19 1 (by omega))
  · refine e_Ok.sw (tg := 120) rfl (by rw [h1]; rfl) ?_
    refine e_Ok.run (t' := (122, [(0, (0, o)), (1, (0, x)), (2, (0, y))], [(0, y), (0, x)], w)) 2 rfl ?_
    have hJ22 : ∀ m21 : Int, 0 ≤ m21 ∧ m21 ≤ 1 → e_Ok 20 elay ecode eI d 375 (130, [(0, (0, o)), (1, (0, x)), (2, (0, y))], [(0, m21)], w) (fun r w' => ∃ z : Int, r = [(0, z)] ∧ w = w' ∧ -2147483648 ≤ z ∧ z ≤ 2147483647) := by
      intro m21 m21r
      refine e_Ok.rets rfl rfl ?_
      exact ⟨_, rfl, rfl, by omega, by omega⟩
    refine e_Ok.if2 rfl (fun h20 => ?_) (fun h20 => ?_)
    · exact e_Ok.run 1 rfl (hJ22 0 (by omega))
    · exact e_Ok.run 2 rfl (hJ22 1 (by omega))
  · refine e_Ok.sw (tg := 131) rfl (by rw [h1]; rfl) ?_
    refine e_Ok.run (t' := (133, [(0, (0, o)), (1, (0, x)), (2, (0, y))], [(0, y), (0, x)], w)) 2 rfl ?_
    have hJ25 : ∀ m24 : Int, 0 ≤ m24 ∧ m24 ≤ 1 → e_Ok 20 elay ecode eI d 375 (141, [(0, (0, o)), (1, (0, x)), (2, (0, y))], [(0, m24)], w) (fun r w' => ∃ z : Int, r = [(0, z)] ∧ w = w' ∧ -2147483648 ≤ z ∧ z ≤ 2147483647) := by
      intro m24 m24r
      refine e_Ok.rets rfl rfl ?_
      exact ⟨_, rfl, rfl, by omega, by omega⟩
    refine e_Ok.if2 rfl (fun h23 => ?_) (fun h23 => ?_)
    · exact e_Ok.run 1 rfl (hJ25 0 (by omega))
    · exact e_Ok.run 2 rfl (hJ25 1 (by omega))
theorem no_63_0 {k : Int} : ¬ mQ 275 k := by unfold mQ; omega
theorem no_63_1 {k : Int} : ¬ mQ 276 k := by unfold mQ; omega
theorem no_63_2 {k : Int} : ¬ mQ 330 k := by unfold mQ; omega
theorem su_63_3 {t : Int} {c k : Int} (q : mQ c k) : mRk t c k := by
  unfold mQ at q
  rcases q with q
  · exact Or.inr (Or.inr (by omega))
theorem su_63_4 {t : Int} {c k : Int} (q : mLv t c k) : mRk t c k := Or.inl q
set_option maxHeartbeats 4000000 in
theorem c_374_a {d : Nat} (hd : 33 ≤ d) {w : eW} (hT : e_Has mTy w) (hA : mAc w) {t a g : Int} (ht : 0 ≤ t ∧ t ≤ 15) (ha : 0 ≤ a ∧ a ≤ 3) (h96 : w 275 96 = t) (h97 : w 275 97 = 1260 * t + 416) (h98 : w 275 98 = a) {n nt nw : Int} {dl sg pi en : Int → Int} {an br : Int → Int → Prop} {bs ow : Int → Int} (hC : cOk w a n nt nw dl sg pi en an br) {p : Int} (hP : topOk w a t g p n nt nw dl sg pi an br bs ow) (hE : w 276 5 ≤ 2147483000) (h102 : w 275 102 = dl p) (hst : e_kn w 345 0 (dl p - 1)) (hop : w 328 (10000 * a + p) < 30) (hsel : 1 ≤ w 328 (10000 * a + p) ∧ w 328 (10000 * a + p) ≤ 6) : e_Ok 20 elay ecode eI d 374 (0, [(0, (1, 275)), (1, (0, w 328 (10000 * a + p))), (2, (0, w 329 (10000 * a + p))), (3, (0, p))], [], w) (fun r' w' => r' = [] ∧ (e_fr (mRk t) w w' ∧ sRel w w') ∧ e_Has mTy w' ∧ (w 276 5 ≤ w' 276 5 ∧ w' 276 5 ≤ w 276 5 + 2) ∧ ((w' 275 102 = 0 ∧ ((w' 275 100 = 1 ∧ (w' 276 (1260 * t + 416) = 6 ∨ w' 276 (1260 * t + 416) = 7)) ∨ (w' 275 100 = w 275 100 ∧ w' 276 (1260 * t + 416) = w 276 (1260 * t + 416) ∧ w' 276 5 = w 276 5 ∧ ∃ (g' p' : Int) (bs' ow' : Int → Int), g' ≤ g ∧ (g' = g → p < p') ∧ topOk w' a t g' p' n nt nw dl sg pi an br bs' ow' ∧ dl p' = 0 ∧ sg p' = 0))) ∨ (w' 275 100 = w 275 100 ∧ w' 276 (1260 * t + 416) = w 276 (1260 * t + 416) ∧ w' 276 5 = w 276 5 ∧ ∃ p', topOk w' a t g p' n nt nw dl sg pi an br bs ow ∧ w' 275 102 = dl p' ∧ e_kn w' 345 0 (dl p' - 1) ∧ sg p' = 1 ∧ p < p'))) := by
  obtain ⟨d, rfl⟩ : ∃ e, d = e + 1 := ⟨d - 1, by omega⟩
  obtain ⟨hpn, hpc, hru⟩ := id hP
  obtain ⟨hg, hF, hlow, hrr, hPn, hch, hpe⟩ := id hru
  have hCn := hC.1
  have hins := hC.2.1 p hpn.1 hpn.2
  have hbg := hlow.2.1 g (by omega) (by omega)
  have hpen := hins.1.2.2.2.1
  have hpib := hC.2.2.2.1.2.1 _ hrr.1 hrr.2
  obtain ⟨hi0, hi1, hi2, hi3, hi4, hi5, hi6, -⟩ := id hins
  replace hi1 := (show Hd63 _ from hi1)
  replace hi2 := (show Hd63 _ from hi2)
  replace hi3 := (show Hd63 _ from hi3)
  replace hi4 := (show Hd63 _ from hi4)
  replace hi5 := (show Hd63 _ from hi5)
  replace hi6 := (show Hd63 _ from hi6)
  replace hins := (show Hd63 _ from hins)
  have hop24 : 1 ≤ w 328 (10000 * a + p) ∧ w 328 (10000 * a + p) ≤ 24 := ⟨hi0.1.1, hi0.1.2.2.resolve_right (Int.not_le.mpr hop)⟩
  have har := e_Has.get hT (c := 329) (k := 10000 * a + p) (lo := -2147483648) (hi := 2147483647) rfl (by decide)
  refine e_Ok.run (t' := (2, [(0, (1, 275)), (1, (0, w 328 (10000 * a + p))), (2, (0, w 329 (10000 * a + p))), (3, (0, p))], [(0, 1), (0, p)], w)) 2 rfl ?_
  refine e_Ok.add (z := p + 1) rfl (by omega) (by omega) ?_
  refine e_Ok.run (t' := (6, [(4, (0, p + 1)), (0, (1, 275)), (1, (0, w 328 (10000 * a + p))), (2, (0, w 329 (10000 * a + p))), (3, (0, p))], [(0, w 328 (10000 * a + p))], w)) 2 rfl ?_
  have hs2 : ∀ x : Int, 1 ≤ x ∧ x ≤ 24 → (x = 1) ∨ (x = 2) ∨ (x = 3) ∨ (x = 4) ∨ (x = 5) ∨ (x = 6) ∨ (x = 7) ∨ (x = 8) ∨ (x = 9) ∨ (x = 10 ∨ x = 11 ∨ x = 12 ∨ x = 13 ∨ x = 14 ∨ x = 15 ∨ x = 16 ∨ x = 17 ∨ x = 18 ∨ x = 19 ∨ x = 20) ∨ (x = 21) ∨ (x = 22) ∨ (x = 23) ∨ (x = 24) := fun x h => by omega
  obtain h1 | h1 | h1 | h1 | h1 | h1 | h1 | h1 | h1 | h1 | h1 | h1 | h1 | h1 := hs2 (w 328 (10000 * a + p)) (hop24)
  · refine e_Ok.sw (tg := 116) rfl (by rw [h1]; rfl) ?_
    have k1 := hi1.out (by omega)
    unfold iFT at k1
    have k2 := hi2.out (by omega)
    refine e_Ok.run (t' := (118, [(4, (0, p + 1)), (0, (1, 275)), (1, (0, w 328 (10000 * a + p))), (2, (0, w 329 (10000 * a + p))), (3, (0, p))], [(0, w 329 (10000 * a + p)), (1, 275)], w)) 2 rfl ?_
    refine e_Ok.callV rfl (by omega) rfl rfl rfl rfl (c_363 hT (e := dl p) (e1 := dl p + 1) h102 (by omega) (by omega)) (fun r3 w4 h5 => ?_)
    obtain ⟨rfl, hw4⟩ := h5
    generalize hw6 : e_up w 345 (dl p) (w 329 (10000 * a + p)) = w6 at hw4
    have f7 : e_fr (mRk t) w w6 := e_fr.up (e_fr.refl w) hw6 (by unfold mRk mLv; omega)
    have hT8 : e_Has mTy w6 := e_Has.ups hT hw6 rfl
    have f9 : e_fr (mRk t) w w4 := e_fr.up f7 hw4 (by unfold mRk mLv; omega)
    have hT10 : e_Has mTy w4 := e_Has.ups hT8 hw4 rfl
    show e_Ok 20 elay ecode eI (d + 1) 374 (121, [(4, (0, p + 1)), (0, (1, 275)), (1, (0, w 328 (10000 * a + p))), (2, (0, w 329 (10000 * a + p))), (3, (0, p))], [], w4) _
    refine e_Ok.run (t' := (460, [(4, (0, p + 1)), (0, (1, 275)), (1, (0, w 328 (10000 * a + p))), (2, (0, w 329 (10000 * a + p))), (3, (0, p))], [(0, p + 1), (1, 275)], w4)) 3 rfl ?_
    refine e_Ok.callV rfl (by omega) rfl rfl rfl rfl (c_365 (by omega) hT10 (by omega) (by rw [← hw4]; exact (e_up_ne _ _ (Or.inr (by omega))).trans (by rw [← hw6]; exact (e_up_ne _ _ (Or.inl (by omega))).trans h97)) (f := g + 1) (z := 1260 * t + 2 * g + 436) (by rw [← hw4]; exact (e_up_ne _ _ (Or.inl (by omega))).trans (by rw [← hw6]; exact (e_up_ne _ _ (Or.inl (by omega))).trans hF)) (by omega) (by omega)) (fun r11 w12 h13 => ?_)
    obtain ⟨rfl, hw12⟩ := h13
    have f14 : e_fr (mRk t) w w12 := e_fr.up f9 hw12 (by unfold mRk mLv; omega)
    have hT15 : e_Has mTy w12 := e_Has.upr hT10 hw12 (nR_FRg t (g) (by omega) (by omega) (by omega)) (by omega)
    show e_Ok 20 elay ecode eI (d + 1) 374 (463, [(4, (0, p + 1)), (0, (1, 275)), (1, (0, w 328 (10000 * a + p))), (2, (0, w 329 (10000 * a + p))), (3, (0, p))], [], w12) _
    refine e_Ok.rets rfl rfl ?_
    have e16 : w12 276 5 = w 276 5 := (by rw [← hw12]; exact (e_up_ne _ _ (Or.inr (by omega))).trans (by rw [← hw4]; exact (e_up_ne _ _ (Or.inl (by omega))).trans (by rw [← hw6]; exact (e_up_ne _ _ (Or.inl (by omega))).trans rfl)))
    have hrn := runOk.fr (w' := w12) (fun c k q1 q2 => (by rw [← hw12]; exact (e_up_ne _ _ (Or.inl (by omega))).trans (by rw [← hw4]; exact (e_up_ne _ _ (Or.inl (by omega))).trans (by rw [← hw6]; exact (e_up_ne _ _ (Or.inl (by omega))).trans rfl)))) (fun i q1 q2 => ⟨(by rw [← hw12]; exact (e_up_ne _ _ (Or.inr (by omega))).trans (by rw [← hw4]; exact (e_up_ne _ _ (Or.inl (by omega))).trans (by rw [← hw6]; exact (e_up_ne _ _ (Or.inl (by omega))).trans rfl))), (by rw [← hw12]; exact (e_up_ne _ _ (Or.inr (by omega))).trans (by rw [← hw4]; exact (e_up_ne _ _ (Or.inl (by omega))).trans (by rw [← hw6]; exact (e_up_ne _ _ (Or.inl (by omega))).trans rfl)))⟩) (by rw [← hw12]; exact (e_up_ne _ _ (Or.inr (by omega))).trans (by rw [← hw4]; exact (e_up_ne _ _ (Or.inl (by omega))).trans (by rw [← hw6]; exact (e_up_ne _ _ (Or.inl (by omega))).trans rfl))) (by rw [← hw12]; exact (e_up_ne _ _ (Or.inr (by omega))).trans (by rw [← hw4]; exact (e_up_ne _ _ (Or.inl (by omega))).trans (by rw [← hw6]; exact (e_up_ne _ _ (Or.inl (by omega))).trans rfl))) (fun k q1 q2 => (by rw [← hw12]; exact (e_up_ne _ _ (Or.inr (by omega))).trans (by rw [← hw4]; exact (e_up_ne _ _ (Or.inl (by omega))).trans (by rw [← hw6]; exact (e_up_ne _ _ (Or.inl (by omega))).trans rfl)))) (by omega) hru
    have erg : w12 330 (10000 * a + (p + 1)) = w 330 (10000 * a + p) := by rw [show 10000 * a + (p + 1) = 10000 * a + p + 1 by omega]; exact Eq.trans (by rw [← hw12]; exact (e_up_ne _ _ (Or.inl (by omega))).trans (by rw [← hw4]; exact (e_up_ne _ _ (Or.inl (by omega))).trans (by rw [← hw6]; exact (e_up_ne _ _ (Or.inl (by omega))).trans rfl))) k1.2.2.2
    have ede : w12 275 102 = dl p + 1 := (by rw [← hw12]; exact (e_up_ne _ _ (Or.inl (by omega))).trans (by rw [← hw4]; exact e_up_eq _ _ _ _))
    exact ⟨rfl, ⟨f14, (sRel.up (sRel.up (sRel.up sRel.refl hw6 (fun q b g1 g2 => by omega)) hw4 (fun q b g1 g2 => by omega)) hw12 (fun q b g1 g2 => by omega))⟩, hT15, by omega, Or.inr ⟨(by rw [← hw12]; exact (e_up_ne _ _ (Or.inl (by omega))).trans (by rw [← hw4]; exact (e_up_ne _ _ (Or.inr (by omega))).trans (by rw [← hw6]; exact (e_up_ne _ _ (Or.inl (by omega))).trans rfl))), (by rw [← hw12]; exact (e_up_ne _ _ (Or.inr (by omega))).trans (by rw [← hw4]; exact (e_up_ne _ _ (Or.inl (by omega))).trans (by rw [← hw6]; exact (e_up_ne _ _ (Or.inl (by omega))).trans rfl))), by omega, p + 1, runOk.at hrn (by omega) (by rw [← hw12]; exact e_up_eq _ _ _ _) erg, by omega, e_kn.le (e_kn.oth (e_kn.oth (e_kn.put (b' := dl p) hst hw6 (by omega) (by omega)) hw4 (by decide)) hw12 (by decide)) (by omega), by omega, by omega⟩⟩
  · refine e_Ok.sw (tg := 124) rfl (by rw [h1]; rfl) ?_
    have k1 := hi1.out (by omega)
    unfold iFT at k1
    have k2 := hi2.out (by omega)
    have k3 := hi3.out (by omega)
    refine e_Ok.run (t' := (126, [(4, (0, p + 1)), (0, (1, 275)), (1, (0, w 328 (10000 * a + p))), (2, (0, w 329 (10000 * a + p))), (3, (0, p))], [(1, 275), (1, 275)], w)) 2 rfl ?_
    refine e_Ok.getr (z := 276) rfl (el_o rfl) rfl rfl (e_Has.eq hT rfl) (by omega) ?_
    refine e_Ok.run (t' := (135, [(4, (0, p + 1)), (0, (1, 275)), (1, (0, w 328 (10000 * a + p))), (2, (0, w 329 (10000 * a + p))), (3, (0, p))], [(1, 275), (0, 32), (0, 20932), (1, 276), (1, 275)], w)) 3 rfl ?_
    refine e_Ok.getf (z := a) rfl (el_o rfl) rfl rfl h98 (by omega) ?_
    refine e_Ok.mul (z := 32 * a) rfl (by omega) (by omega) ?_
    refine e_Ok.add (z := 32 * a + 20932) rfl (by omega) (by omega) ?_
    refine e_Ok.run (t' := (141, [(4, (0, p + 1)), (0, (1, 275)), (1, (0, w 328 (10000 * a + p))), (2, (0, w 329 (10000 * a + p))), (3, (0, p))], [(0, w 329 (10000 * a + p)), (0, 32 * a + 20932), (1, 276), (1, 275)], w)) 1 rfl ?_
    refine e_Ok.add (z := 32 * a + w 329 (10000 * a + p) + 20932) rfl (by omega) (by omega) ?_
    have h17 := (e_Has.get hT (c := 276) (k := 32 * a + w 329 (10000 * a + p) + 20932) (lo := (-2147483648)) (hi := 2147483647) (nR_mid (by omega)) (by decide))
    refine e_Ok.ald (z := w 276 (32 * a + w 329 (10000 * a + p) + 20932)) rfl rfl rfl (by omega) rfl (by omega) ?_
    refine e_Ok.callV rfl (by omega) rfl rfl rfl rfl (c_363 hT (e := dl p) (e1 := dl p + 1) h102 (by omega) (by omega)) (fun r18 w19 h20 => ?_)
    obtain ⟨rfl, hw19⟩ := h20
    generalize hw21 : e_up w 345 (dl p) (w 276 (32 * a + w 329 (10000 * a + p) + 20932)) = w21 at hw19
    have f22 : e_fr (mRk t) w w21 := e_fr.up (e_fr.refl w) hw21 (by unfold mRk mLv; omega)
    have hT23 : e_Has mTy w21 := e_Has.ups hT hw21 rfl
    have f24 : e_fr (mRk t) w w19 := e_fr.up f22 hw19 (by unfold mRk mLv; omega)
    have hT25 : e_Has mTy w19 := e_Has.ups hT23 hw19 rfl
    show e_Ok 20 elay ecode eI (d + 1) 374 (146, [(4, (0, p + 1)), (0, (1, 275)), (1, (0, w 328 (10000 * a + p))), (2, (0, w 329 (10000 * a + p))), (3, (0, p))], [], w19) _
    refine e_Ok.run (t' := (460, [(4, (0, p + 1)), (0, (1, 275)), (1, (0, w 328 (10000 * a + p))), (2, (0, w 329 (10000 * a + p))), (3, (0, p))], [(0, p + 1), (1, 275)], w19)) 3 rfl ?_
    refine e_Ok.callV rfl (by omega) rfl rfl rfl rfl (c_365 (by omega) hT25 (by omega) (by rw [← hw19]; exact (e_up_ne _ _ (Or.inr (by omega))).trans (by rw [← hw21]; exact (e_up_ne _ _ (Or.inl (by omega))).trans h97)) (f := g + 1) (z := 1260 * t + 2 * g + 436) (by rw [← hw19]; exact (e_up_ne _ _ (Or.inl (by omega))).trans (by rw [← hw21]; exact (e_up_ne _ _ (Or.inl (by omega))).trans hF)) (by omega) (by omega)) (fun r26 w27 h28 => ?_)
    obtain ⟨rfl, hw27⟩ := h28
    have f29 : e_fr (mRk t) w w27 := e_fr.up f24 hw27 (by unfold mRk mLv; omega)
    have hT30 : e_Has mTy w27 := e_Has.upr hT25 hw27 (nR_FRg t (g) (by omega) (by omega) (by omega)) (by omega)
    show e_Ok 20 elay ecode eI (d + 1) 374 (463, [(4, (0, p + 1)), (0, (1, 275)), (1, (0, w 328 (10000 * a + p))), (2, (0, w 329 (10000 * a + p))), (3, (0, p))], [], w27) _
    refine e_Ok.rets rfl rfl ?_
    have e31 : w27 276 5 = w 276 5 := (by rw [← hw27]; exact (e_up_ne _ _ (Or.inr (by omega))).trans (by rw [← hw19]; exact (e_up_ne _ _ (Or.inl (by omega))).trans (by rw [← hw21]; exact (e_up_ne _ _ (Or.inl (by omega))).trans rfl)))
    have hrn := runOk.fr (w' := w27) (fun c k q1 q2 => (by rw [← hw27]; exact (e_up_ne _ _ (Or.inl (by omega))).trans (by rw [← hw19]; exact (e_up_ne _ _ (Or.inl (by omega))).trans (by rw [← hw21]; exact (e_up_ne _ _ (Or.inl (by omega))).trans rfl)))) (fun i q1 q2 => ⟨(by rw [← hw27]; exact (e_up_ne _ _ (Or.inr (by omega))).trans (by rw [← hw19]; exact (e_up_ne _ _ (Or.inl (by omega))).trans (by rw [← hw21]; exact (e_up_ne _ _ (Or.inl (by omega))).trans rfl))), (by rw [← hw27]; exact (e_up_ne _ _ (Or.inr (by omega))).trans (by rw [← hw19]; exact (e_up_ne _ _ (Or.inl (by omega))).trans (by rw [← hw21]; exact (e_up_ne _ _ (Or.inl (by omega))).trans rfl)))⟩) (by rw [← hw27]; exact (e_up_ne _ _ (Or.inr (by omega))).trans (by rw [← hw19]; exact (e_up_ne _ _ (Or.inl (by omega))).trans (by rw [← hw21]; exact (e_up_ne _ _ (Or.inl (by omega))).trans rfl))) (by rw [← hw27]; exact (e_up_ne _ _ (Or.inr (by omega))).trans (by rw [← hw19]; exact (e_up_ne _ _ (Or.inl (by omega))).trans (by rw [← hw21]; exact (e_up_ne _ _ (Or.inl (by omega))).trans rfl))) (fun k q1 q2 => (by rw [← hw27]; exact (e_up_ne _ _ (Or.inr (by omega))).trans (by rw [← hw19]; exact (e_up_ne _ _ (Or.inl (by omega))).trans (by rw [← hw21]; exact (e_up_ne _ _ (Or.inl (by omega))).trans rfl)))) (by omega) hru
    have erg : w27 330 (10000 * a + (p + 1)) = w 330 (10000 * a + p) := by rw [show 10000 * a + (p + 1) = 10000 * a + p + 1 by omega]; exact Eq.trans (by rw [← hw27]; exact (e_up_ne _ _ (Or.inl (by omega))).trans (by rw [← hw19]; exact (e_up_ne _ _ (Or.inl (by omega))).trans (by rw [← hw21]; exact (e_up_ne _ _ (Or.inl (by omega))).trans rfl))) k1.2.2.2
    have ede : w27 275 102 = dl p + 1 := (by rw [← hw27]; exact (e_up_ne _ _ (Or.inl (by omega))).trans (by rw [← hw19]; exact e_up_eq _ _ _ _))
    exact ⟨rfl, ⟨f29, (sRel.up (sRel.up (sRel.up sRel.refl hw21 (fun q b g1 g2 => by omega)) hw19 (fun q b g1 g2 => by omega)) hw27 (fun q b g1 g2 => by omega))⟩, hT30, by omega, Or.inr ⟨(by rw [← hw27]; exact (e_up_ne _ _ (Or.inl (by omega))).trans (by rw [← hw19]; exact (e_up_ne _ _ (Or.inr (by omega))).trans (by rw [← hw21]; exact (e_up_ne _ _ (Or.inl (by omega))).trans rfl))), (by rw [← hw27]; exact (e_up_ne _ _ (Or.inr (by omega))).trans (by rw [← hw19]; exact (e_up_ne _ _ (Or.inl (by omega))).trans (by rw [← hw21]; exact (e_up_ne _ _ (Or.inl (by omega))).trans rfl))), by omega, p + 1, runOk.at hrn (by omega) (by rw [← hw27]; exact e_up_eq _ _ _ _) erg, by omega, e_kn.le (e_kn.oth (e_kn.oth (e_kn.put (b' := dl p) hst hw21 (by omega) (by omega)) hw19 (by decide)) hw27 (by decide)) (by omega), by omega, by omega⟩⟩
  · refine e_Ok.sw (tg := 149) rfl (by rw [h1]; rfl) ?_
    have k1 := hi1.out (by omega)
    unfold iFT at k1
    have k4 := hi4.out (by omega)
    refine e_Ok.run (t' := (150, [(4, (0, p + 1)), (0, (1, 275)), (1, (0, w 328 (10000 * a + p))), (2, (0, w 329 (10000 * a + p))), (3, (0, p))], [(1, 275)], w)) 1 rfl ?_
    refine e_Ok.callV rfl (by omega) rfl rfl rfl rfl (c_364 hT (e := dl p) (u := dl p - 1) h102 (by omega) (by omega) (by have q : w 345 (dl p - 1) = w 345 (dl p - 1) := rfl; have q2 := (hst (dl p - 1) (by omega) (by omega)); omega)) (fun r32 w33 h34 => ?_)
    obtain ⟨rfl, hw33⟩ := h34
    generalize hz35 : w 345 (dl p - 1) = z35
    have z35r : z35 = w 345 (dl p - 1) := Eq.trans hz35.symm rfl
    have f36 : e_fr (mRk t) w w33 := e_fr.up (e_fr.refl w) hw33 (by unfold mRk mLv; omega)
    have hT37 : e_Has mTy w33 := e_Has.ups hT hw33 rfl
    show e_Ok 20 elay ecode eI (d + 1) 374 (153, [(4, (0, p + 1)), (0, (1, 275)), (1, (0, w 328 (10000 * a + p))), (2, (0, w 329 (10000 * a + p))), (3, (0, p))], [(0, z35)], w33) _
    refine e_Ok.run (t' := (162, [(5, (0, z35)), (4, (0, p + 1)), (0, (1, 275)), (1, (0, w 328 (10000 * a + p))), (2, (0, w 329 (10000 * a + p))), (3, (0, p))], [(4, 63), (4, 0), (4, z35)], w33)) 5 rfl ?_
    refine e_Ok.callS rfl (by omega) rfl rfl (c_266) (fun r38 w39 h40 => ?_)
    obtain ⟨z41, rfl, rfl, q42⟩ := h40
    obtain ⟨rfl, q42⟩ | ⟨rfl, q42⟩ := q42
    · show e_Ok 20 elay ecode eI (d + 1) 374 (165, [(5, (0, z35)), (4, (0, p + 1)), (0, (1, 275)), (1, (0, w 328 (10000 * a + p))), (2, (0, w 329 (10000 * a + p))), (3, (0, p))], [(0, 1)], w33) _
      refine e_Ok.if1 rfl (fun h43 => ?_) (fun h43 => ?_)
      · replace h43 : (1 : Int) ≠ 0 := h43
        refine e_Ok.run (t' := (178, [(5, (0, z35)), (4, (0, p + 1)), (0, (1, 275)), (1, (0, w 328 (10000 * a + p))), (2, (0, w 329 (10000 * a + p))), (3, (0, p))], [(0, z35), (1, 275), (1, 275)], w33)) 3 rfl ?_
        refine e_Ok.callV rfl (by omega) rfl rfl rfl rfl (c_320 hT37 (mAc.fr' (fun k q => by revert q; unfold mRk mLv; omega) f36 hA) (by omega)) (fun r44 w45 h46 => ?_)
        obtain ⟨z47, rfl, q48, q48a, q48b⟩ := h46
        have f49 : e_fr (mRk t) w w45 := e_fr.trans f36 (e_fr.mono q48 (fun c k q => by first | exact su_63_3 q | (unfold mQ at q; unfold mRk mLv; omega)))
        show e_Ok 20 elay ecode eI (d + 1) 374 (181, [(5, (0, z35)), (4, (0, p + 1)), (0, (1, 275)), (1, (0, w 328 (10000 * a + p))), (2, (0, w 329 (10000 * a + p))), (3, (0, p))], [(0, z47), (1, 275)], w45) _
        refine e_Ok.callV rfl (by omega) rfl rfl rfl rfl (c_363 (mT_Q q48 hT37) (e := dl p - 1) (e1 := dl p) ((q48 275 102 no_63_0).trans (by rw [← hw33]; exact e_up_eq _ _ _ _)) (by omega) (by omega)) (fun r50 w51 h52 => ?_)
        obtain ⟨rfl, hw51⟩ := h52
        generalize hw53 : e_up w45 345 (dl p - 1) z47 = w53 at hw51
        have f54 : e_fr (mRk t) w w53 := e_fr.up f49 hw53 (by unfold mRk mLv; omega)
        have hT55 : e_Has mTy w53 := e_Has.ups (mT_Q q48 hT37) hw53 rfl
        have f56 : e_fr (mRk t) w w51 := e_fr.up f54 hw51 (by unfold mRk mLv; omega)
        have hT57 : e_Has mTy w51 := e_Has.ups hT55 hw51 rfl
        show e_Ok 20 elay ecode eI (d + 1) 374 (184, [(5, (0, z35)), (4, (0, p + 1)), (0, (1, 275)), (1, (0, w 328 (10000 * a + p))), (2, (0, w 329 (10000 * a + p))), (3, (0, p))], [], w51) _
        refine e_Ok.run (t' := (460, [(5, (0, z35)), (4, (0, p + 1)), (0, (1, 275)), (1, (0, w 328 (10000 * a + p))), (2, (0, w 329 (10000 * a + p))), (3, (0, p))], [(0, p + 1), (1, 275)], w51)) 3 rfl ?_
        refine e_Ok.callV rfl (by omega) rfl rfl rfl rfl (c_365 (by omega) hT57 (by omega) (by rw [← hw51]; exact (e_up_ne _ _ (Or.inr (by omega))).trans (by rw [← hw53]; exact (e_up_ne _ _ (Or.inl (by omega))).trans ((q48 275 97 no_63_0).trans (by rw [← hw33]; exact (e_up_ne _ _ (Or.inr (by omega))).trans h97)))) (f := g + 1) (z := 1260 * t + 2 * g + 436) (by rw [← hw51]; exact (e_up_ne _ _ (Or.inl (by omega))).trans (by rw [← hw53]; exact (e_up_ne _ _ (Or.inl (by omega))).trans ((q48 276 (1260 * t + 428) no_63_1).trans (by rw [← hw33]; exact (e_up_ne _ _ (Or.inl (by omega))).trans hF)))) (by omega) (by omega)) (fun r58 w59 h60 => ?_)
        obtain ⟨rfl, hw59⟩ := h60
        have f61 : e_fr (mRk t) w w59 := e_fr.up f56 hw59 (by unfold mRk mLv; omega)
        have hT62 : e_Has mTy w59 := e_Has.upr hT57 hw59 (nR_FRg t (g) (by omega) (by omega) (by omega)) (by omega)
        show e_Ok 20 elay ecode eI (d + 1) 374 (463, [(5, (0, z35)), (4, (0, p + 1)), (0, (1, 275)), (1, (0, w 328 (10000 * a + p))), (2, (0, w 329 (10000 * a + p))), (3, (0, p))], [], w59) _
        refine e_Ok.rets rfl rfl ?_
        have e63 : w59 276 5 = w 276 5 := (by rw [← hw59]; exact (e_up_ne _ _ (Or.inr (by omega))).trans (by rw [← hw51]; exact (e_up_ne _ _ (Or.inl (by omega))).trans (by rw [← hw53]; exact (e_up_ne _ _ (Or.inl (by omega))).trans ((q48 276 5 no_63_1).trans (by rw [← hw33]; exact (e_up_ne _ _ (Or.inl (by omega))).trans rfl)))))
        have hrn := runOk.fr (w' := w59) (fun c k q1 q2 => (by rw [← hw59]; exact (e_up_ne _ _ (Or.inl (by omega))).trans (by rw [← hw51]; exact (e_up_ne _ _ (Or.inl (by omega))).trans (by rw [← hw53]; exact (e_up_ne _ _ (Or.inl (by omega))).trans ((f49 c k (by unfold mRk mLv; omega)).trans rfl))))) (fun i q1 q2 => ⟨(by rw [← hw59]; exact (e_up_ne _ _ (Or.inr (by omega))).trans (by rw [← hw51]; exact (e_up_ne _ _ (Or.inl (by omega))).trans (by rw [← hw53]; exact (e_up_ne _ _ (Or.inl (by omega))).trans ((q48 276 (1260 * t + 2 * i + 436) no_63_1).trans (by rw [← hw33]; exact (e_up_ne _ _ (Or.inl (by omega))).trans rfl))))), (by rw [← hw59]; exact (e_up_ne _ _ (Or.inr (by omega))).trans (by rw [← hw51]; exact (e_up_ne _ _ (Or.inl (by omega))).trans (by rw [← hw53]; exact (e_up_ne _ _ (Or.inl (by omega))).trans ((q48 276 (1260 * t + 2 * i + 439) no_63_1).trans (by rw [← hw33]; exact (e_up_ne _ _ (Or.inl (by omega))).trans rfl)))))⟩) (by rw [← hw59]; exact (e_up_ne _ _ (Or.inr (by omega))).trans (by rw [← hw51]; exact (e_up_ne _ _ (Or.inl (by omega))).trans (by rw [← hw53]; exact (e_up_ne _ _ (Or.inl (by omega))).trans ((q48 276 (1260 * t + 428) no_63_1).trans (by rw [← hw33]; exact (e_up_ne _ _ (Or.inl (by omega))).trans rfl))))) (by rw [← hw59]; exact (e_up_ne _ _ (Or.inr (by omega))).trans (by rw [← hw51]; exact (e_up_ne _ _ (Or.inl (by omega))).trans (by rw [← hw53]; exact (e_up_ne _ _ (Or.inl (by omega))).trans ((q48 276 (1260 * t + 429) no_63_1).trans (by rw [← hw33]; exact (e_up_ne _ _ (Or.inl (by omega))).trans rfl))))) (fun k q1 q2 => (by rw [← hw59]; exact (e_up_ne _ _ (Or.inr (by omega))).trans (by rw [← hw51]; exact (e_up_ne _ _ (Or.inl (by omega))).trans (by rw [← hw53]; exact (e_up_ne _ _ (Or.inl (by omega))).trans ((q48 276 (1260 * t + k + 476) no_63_1).trans (by rw [← hw33]; exact (e_up_ne _ _ (Or.inl (by omega))).trans rfl)))))) (by omega) hru
        have erg : w59 330 (10000 * a + (p + 1)) = w 330 (10000 * a + p) := by rw [show 10000 * a + (p + 1) = 10000 * a + p + 1 by omega]; exact Eq.trans (by rw [← hw59]; exact (e_up_ne _ _ (Or.inl (by omega))).trans (by rw [← hw51]; exact (e_up_ne _ _ (Or.inl (by omega))).trans (by rw [← hw53]; exact (e_up_ne _ _ (Or.inl (by omega))).trans ((q48 330 (10000 * a + p + 1) no_63_2).trans (by rw [← hw33]; exact (e_up_ne _ _ (Or.inl (by omega))).trans rfl))))) k1.2.2.2
        have ede : w59 275 102 = dl p := (by rw [← hw59]; exact (e_up_ne _ _ (Or.inl (by omega))).trans (by rw [← hw51]; exact e_up_eq _ _ _ _))
        exact ⟨rfl, ⟨f61, (sRel.up (sRel.up (sRel.up (sRel.fr (sRel.up sRel.refl hw33 (fun q b g1 g2 => by omega)) q48 (fun b g1 g2 => by unfold mQ; omega)) hw53 (fun q b g1 g2 => by omega)) hw51 (fun q b g1 g2 => by omega)) hw59 (fun q b g1 g2 => by omega))⟩, hT62, by omega, Or.inr ⟨(by rw [← hw59]; exact (e_up_ne _ _ (Or.inl (by omega))).trans (by rw [← hw51]; exact (e_up_ne _ _ (Or.inr (by omega))).trans (by rw [← hw53]; exact (e_up_ne _ _ (Or.inl (by omega))).trans ((q48 275 100 no_63_0).trans (by rw [← hw33]; exact (e_up_ne _ _ (Or.inr (by omega))).trans rfl))))), (by rw [← hw59]; exact (e_up_ne _ _ (Or.inr (by omega))).trans (by rw [← hw51]; exact (e_up_ne _ _ (Or.inl (by omega))).trans (by rw [← hw53]; exact (e_up_ne _ _ (Or.inl (by omega))).trans ((q48 276 (1260 * t + 416) no_63_1).trans (by rw [← hw33]; exact (e_up_ne _ _ (Or.inl (by omega))).trans rfl))))), by omega, p + 1, runOk.at hrn (by omega) (by rw [← hw59]; exact e_up_eq _ _ _ _) erg, by omega, e_kn.le (e_kn.oth (e_kn.oth (e_kn.put (b' := dl p - 1) (e_kn.fr q48 (fun k q => by unfold mQ at q; omega) (e_kn.oth hst hw33 (by decide))) hw53 (by omega) (by omega)) hw51 (by decide)) hw59 (by decide)) (by omega), by omega, by omega⟩⟩
      · replace h43 : (1 : Int) = 0 := by have q : ¬ ((1 : Int) ≠ 0) := h43; omega
        exfalso; omega
    · show e_Ok 20 elay ecode eI (d + 1) 374 (165, [(5, (0, z35)), (4, (0, p + 1)), (0, (1, 275)), (1, (0, w 328 (10000 * a + p))), (2, (0, w 329 (10000 * a + p))), (3, (0, p))], [(0, 0)], w33) _
      refine e_Ok.if1 rfl (fun h64 => ?_) (fun h64 => ?_)
      · replace h64 : (0 : Int) ≠ 0 := h64
        exfalso; omega
      · replace h64 : (0 : Int) = 0 := by have q : ¬ ((0 : Int) ≠ 0) := h64; omega
        refine e_Ok.run (t' := (170, [(5, (0, z35)), (4, (0, p + 1)), (0, (1, 275)), (1, (0, w 328 (10000 * a + p))), (2, (0, w 329 (10000 * a + p))), (3, (0, p))], [(0, 2), (1, 275)], w33)) 2 rfl ?_
        have e68 : w33 276 5 = w 276 5 := (by rw [← hw33]; exact (e_up_ne _ _ (Or.inl (by omega))).trans rfl)
        refine e_Ok.callV rfl (by omega) rfl rfl rfl rfl (c_369 (by omega) hT37 (by omega) (by omega) (by rw [← hw33]; exact (e_up_ne _ _ (Or.inr (by omega))).trans h96) (by rw [← hw33]; exact (e_up_ne _ _ (Or.inr (by omega))).trans h97) (by rw [← hw33]; exact (e_up_ne _ _ (Or.inr (by omega))).trans h98) (cOk.fr (fun c k q1 q2 => (by rw [← hw33]; exact (e_up_ne _ _ (Or.inl (by omega))).trans rfl)) hC) (runOk.at (runOk.fr (w' := w33) (fun c k q1 q2 => (by rw [← hw33]; exact (e_up_ne _ _ (Or.inl (by omega))).trans rfl)) (fun i q1 q2 => ⟨(by rw [← hw33]; exact (e_up_ne _ _ (Or.inl (by omega))).trans rfl), (by rw [← hw33]; exact (e_up_ne _ _ (Or.inl (by omega))).trans rfl)⟩) (by rw [← hw33]; exact (e_up_ne _ _ (Or.inl (by omega))).trans rfl) (by rw [← hw33]; exact (e_up_ne _ _ (Or.inl (by omega))).trans rfl) (fun k q1 q2 => (by rw [← hw33]; exact (e_up_ne _ _ (Or.inl (by omega))).trans rfl)) (by omega) hru) (by omega) (by rw [← hw33]; exact (e_up_ne _ _ (Or.inl (by omega))).trans hpc) (by rw [← hw33]; exact (e_up_ne _ _ (Or.inl (by omega))).trans rfl)) (by omega) (by omega)) (fun r65 w66 h67 => ?_)
        obtain ⟨rfl, ⟨q69, q69S⟩, q69T, q69n, q69d, q69c⟩ := h67
        have f70 : e_fr (mRk t) w w66 := e_fr.trans f36 (e_fr.mono q69 (fun c k q => by first | exact su_63_4 q | (unfold mLv at q; unfold mRk mLv; omega)))
        show e_Ok 20 elay ecode eI (d + 1) 374 (173, [(5, (0, z35)), (4, (0, p + 1)), (0, (1, 275)), (1, (0, w 328 (10000 * a + p))), (2, (0, w 329 (10000 * a + p))), (3, (0, p))], [], w66) _
        refine e_Ok.rets rfl rfl ?_
        exact ⟨rfl, ⟨f70, (sRel.trans (sRel.up sRel.refl hw33 (fun q b g1 g2 => by omega)) q69S)⟩, q69T, by omega, Or.inl ⟨q69d, q69c.imp id (fun h => ⟨h.1.trans (by rw [← hw33]; exact (e_up_ne _ _ (Or.inr (by omega))).trans rfl), h.2.1.trans (by rw [← hw33]; exact (e_up_ne _ _ (Or.inl (by omega))).trans rfl), h.2.2.1.trans (by rw [← hw33]; exact (e_up_ne _ _ (Or.inl (by omega))).trans rfl), h.2.2.2⟩)⟩⟩
  · refine e_Ok.sw (tg := 187) rfl (by rw [h1]; rfl) ?_
    have k1 := hi1.out (by omega)
    unfold iFT at k1
    have k4 := hi4.out (by omega)
    refine e_Ok.run (t' := (188, [(4, (0, p + 1)), (0, (1, 275)), (1, (0, w 328 (10000 * a + p))), (2, (0, w 329 (10000 * a + p))), (3, (0, p))], [(1, 275)], w)) 1 rfl ?_
    refine e_Ok.callV rfl (by omega) rfl rfl rfl rfl (c_364 hT (e := dl p) (u := dl p - 1) h102 (by omega) (by omega) (by have q : w 345 (dl p - 1) = w 345 (dl p - 1) := rfl; have q2 := (hst (dl p - 1) (by omega) (by omega)); omega)) (fun r71 w72 h73 => ?_)
    obtain ⟨rfl, hw72⟩ := h73
    generalize hz74 : w 345 (dl p - 1) = z74
    have z74r : z74 = w 345 (dl p - 1) := Eq.trans hz74.symm rfl
    have f75 : e_fr (mRk t) w w72 := e_fr.up (e_fr.refl w) hw72 (by unfold mRk mLv; omega)
    have hT76 : e_Has mTy w72 := e_Has.ups hT hw72 rfl
    show e_Ok 20 elay ecode eI (d + 1) 374 (191, [(4, (0, p + 1)), (0, (1, 275)), (1, (0, w 328 (10000 * a + p))), (2, (0, w 329 (10000 * a + p))), (3, (0, p))], [(0, z74)], w72) _
    refine e_Ok.run (t' := (195, [(6, (0, z74)), (4, (0, p + 1)), (0, (1, 275)), (1, (0, w 328 (10000 * a + p))), (2, (0, w 329 (10000 * a + p))), (3, (0, p))], [(1, 275), (1, 275)], w72)) 3 rfl ?_
    refine e_Ok.getf (z := a) rfl (el_o rfl) rfl rfl (by rw [← hw72]; exact (e_up_ne _ _ (Or.inr (by omega))).trans h98) (by omega) ?_
    refine e_Ok.run (t' := (200, [(6, (0, z74)), (4, (0, p + 1)), (0, (1, 275)), (1, (0, w 328 (10000 * a + p))), (2, (0, w 329 (10000 * a + p))), (3, (0, p))], [(0, z74), (0, a), (1, 275)], w72)) 1 rfl ?_
    refine e_Ok.callV rfl (by omega) rfl rfl rfl rfl (c_271 (by omega) hT76) (fun r77 w78 h79 => ?_)
    obtain ⟨z80, rfl, rfl, q81⟩ := h79
    have h82 := e_Has.get hT76 (c := 275) (k := 10) (lo := 0) (hi := 4) rfl (by decide)
    have h83 := e_Has.get hT76 (c := 286) (k := a) (lo := 0) (hi := 6) rfl (by decide)
    obtain ⟨rfl, q81⟩ | ⟨rfl, q81⟩ := q81
    · show e_Ok 20 elay ecode eI (d + 1) 374 (203, [(6, (0, z74)), (4, (0, p + 1)), (0, (1, 275)), (1, (0, w 328 (10000 * a + p))), (2, (0, w 329 (10000 * a + p))), (3, (0, p))], [(0, 1)], w72) _
      refine e_Ok.if1 rfl (fun h84 => ?_) (fun h84 => ?_)
      · replace h84 : (1 : Int) ≠ 0 := h84
        refine e_Ok.run (t' := (214, [(6, (0, z74)), (4, (0, p + 1)), (0, (1, 275)), (1, (0, w 328 (10000 * a + p))), (2, (0, w 329 (10000 * a + p))), (3, (0, p))], [(1, 275), (1, 275)], w72)) 2 rfl ?_
        refine e_Ok.getr (z := 276) rfl (el_o rfl) rfl rfl (by rw [← hw72]; exact (e_up_ne _ _ (Or.inr (by omega))).trans (e_Has.eq hT rfl)) (by omega) ?_
        refine e_Ok.run (t' := (218, [(6, (0, z74)), (4, (0, p + 1)), (0, (1, 275)), (1, (0, w 328 (10000 * a + p))), (2, (0, w 329 (10000 * a + p))), (3, (0, p))], [(1, 275), (1, 276), (1, 275)], w72)) 1 rfl ?_
        refine e_Ok.getf (z := a) rfl (el_o rfl) rfl rfl (by rw [← hw72]; exact (e_up_ne _ _ (Or.inr (by omega))).trans h98) (by omega) ?_
        refine e_Ok.callS rfl (by omega) rfl rfl (c_268 (by omega)) (fun r85 w86 h87 => ?_)
        obtain ⟨rfl, rfl⟩ := h87
        show e_Ok 20 elay ecode eI (d + 1) 374 (224, [(6, (0, z74)), (4, (0, p + 1)), (0, (1, 275)), (1, (0, w 328 (10000 * a + p))), (2, (0, w 329 (10000 * a + p))), (3, (0, p))], [(0, 36 * a + 16), (1, 276), (1, 275)], w72) _
        refine e_Ok.run (t' := (226, [(6, (0, z74)), (4, (0, p + 1)), (0, (1, 275)), (1, (0, w 328 (10000 * a + p))), (2, (0, w 329 (10000 * a + p))), (3, (0, p))], [(0, 16), (0, 36 * a + 16), (1, 276), (1, 275)], w72)) 1 rfl ?_
        refine e_Ok.add (z := 36 * a + 32) rfl (by omega) (by omega) ?_
        refine e_Ok.run (t' := (229, [(6, (0, z74)), (4, (0, p + 1)), (0, (1, 275)), (1, (0, w 328 (10000 * a + p))), (2, (0, w 329 (10000 * a + p))), (3, (0, p))], [(0, z74), (0, 36 * a + 32), (1, 276), (1, 275)], w72)) 1 rfl ?_
        refine e_Ok.add (z := 36 * a + z74 + 32) rfl (by omega) (by omega) ?_
        have h88 := (e_Has.get hT (c := 276) (k := 36 * a + z74 + 32) (lo := (-100000)) (hi := 100000) (nR_VALUE (a := a) (j := z74) (by omega) (by omega)) (by decide))
        refine e_Ok.ald (z := w 276 (36 * a + z74 + 32)) rfl (el_o rfl) rfl (by omega) (by rw [← hw72]; exact (e_up_ne _ _ (Or.inl (by omega))).trans rfl) (by omega) ?_
        refine e_Ok.callV rfl (by omega) rfl rfl rfl rfl (c_363 hT76 (e := dl p - 1) (e1 := dl p) (by rw [← hw72]; exact e_up_eq _ _ _ _) (by omega) (by omega)) (fun r89 w90 h91 => ?_)
        obtain ⟨rfl, hw90⟩ := h91
        generalize hw92 : e_up w72 345 (dl p - 1) (w 276 (36 * a + z74 + 32)) = w92 at hw90
        have f93 : e_fr (mRk t) w w92 := e_fr.up f75 hw92 (by unfold mRk mLv; omega)
        have hT94 : e_Has mTy w92 := e_Has.ups hT76 hw92 rfl
        have f95 : e_fr (mRk t) w w90 := e_fr.up f93 hw90 (by unfold mRk mLv; omega)
        have hT96 : e_Has mTy w90 := e_Has.ups hT94 hw90 rfl
        show e_Ok 20 elay ecode eI (d + 1) 374 (234, [(6, (0, z74)), (4, (0, p + 1)), (0, (1, 275)), (1, (0, w 328 (10000 * a + p))), (2, (0, w 329 (10000 * a + p))), (3, (0, p))], [], w90) _
        refine e_Ok.run (t' := (460, [(6, (0, z74)), (4, (0, p + 1)), (0, (1, 275)), (1, (0, w 328 (10000 * a + p))), (2, (0, w 329 (10000 * a + p))), (3, (0, p))], [(0, p + 1), (1, 275)], w90)) 3 rfl ?_
        refine e_Ok.callV rfl (by omega) rfl rfl rfl rfl (c_365 (by omega) hT96 (by omega) (by rw [← hw90]; exact (e_up_ne _ _ (Or.inr (by omega))).trans (by rw [← hw92]; exact (e_up_ne _ _ (Or.inl (by omega))).trans (by rw [← hw72]; exact (e_up_ne _ _ (Or.inr (by omega))).trans h97))) (f := g + 1) (z := 1260 * t + 2 * g + 436) (by rw [← hw90]; exact (e_up_ne _ _ (Or.inl (by omega))).trans (by rw [← hw92]; exact (e_up_ne _ _ (Or.inl (by omega))).trans (by rw [← hw72]; exact (e_up_ne _ _ (Or.inl (by omega))).trans hF))) (by omega) (by omega)) (fun r97 w98 h99 => ?_)
        obtain ⟨rfl, hw98⟩ := h99
        have f100 : e_fr (mRk t) w w98 := e_fr.up f95 hw98 (by unfold mRk mLv; omega)
        have hT101 : e_Has mTy w98 := e_Has.upr hT96 hw98 (nR_FRg t (g) (by omega) (by omega) (by omega)) (by omega)
        show e_Ok 20 elay ecode eI (d + 1) 374 (463, [(6, (0, z74)), (4, (0, p + 1)), (0, (1, 275)), (1, (0, w 328 (10000 * a + p))), (2, (0, w 329 (10000 * a + p))), (3, (0, p))], [], w98) _
        refine e_Ok.rets rfl rfl ?_
        have e102 : w98 276 5 = w 276 5 := (by rw [← hw98]; exact (e_up_ne _ _ (Or.inr (by omega))).trans (by rw [← hw90]; exact (e_up_ne _ _ (Or.inl (by omega))).trans (by rw [← hw92]; exact (e_up_ne _ _ (Or.inl (by omega))).trans (by rw [← hw72]; exact (e_up_ne _ _ (Or.inl (by omega))).trans rfl))))
        have hrn := runOk.fr (w' := w98) (fun c k q1 q2 => (by rw [← hw98]; exact (e_up_ne _ _ (Or.inl (by omega))).trans (by rw [← hw90]; exact (e_up_ne _ _ (Or.inl (by omega))).trans (by rw [← hw92]; exact (e_up_ne _ _ (Or.inl (by omega))).trans (by rw [← hw72]; exact (e_up_ne _ _ (Or.inl (by omega))).trans rfl))))) (fun i q1 q2 => ⟨(by rw [← hw98]; exact (e_up_ne _ _ (Or.inr (by omega))).trans (by rw [← hw90]; exact (e_up_ne _ _ (Or.inl (by omega))).trans (by rw [← hw92]; exact (e_up_ne _ _ (Or.inl (by omega))).trans (by rw [← hw72]; exact (e_up_ne _ _ (Or.inl (by omega))).trans rfl)))), (by rw [← hw98]; exact (e_up_ne _ _ (Or.inr (by omega))).trans (by rw [← hw90]; exact (e_up_ne _ _ (Or.inl (by omega))).trans (by rw [← hw92]; exact (e_up_ne _ _ (Or.inl (by omega))).trans (by rw [← hw72]; exact (e_up_ne _ _ (Or.inl (by omega))).trans rfl))))⟩) (by rw [← hw98]; exact (e_up_ne _ _ (Or.inr (by omega))).trans (by rw [← hw90]; exact (e_up_ne _ _ (Or.inl (by omega))).trans (by rw [← hw92]; exact (e_up_ne _ _ (Or.inl (by omega))).trans (by rw [← hw72]; exact (e_up_ne _ _ (Or.inl (by omega))).trans rfl)))) (by rw [← hw98]; exact (e_up_ne _ _ (Or.inr (by omega))).trans (by rw [← hw90]; exact (e_up_ne _ _ (Or.inl (by omega))).trans (by rw [← hw92]; exact (e_up_ne _ _ (Or.inl (by omega))).trans (by rw [← hw72]; exact (e_up_ne _ _ (Or.inl (by omega))).trans rfl)))) (fun k q1 q2 => (by rw [← hw98]; exact (e_up_ne _ _ (Or.inr (by omega))).trans (by rw [← hw90]; exact (e_up_ne _ _ (Or.inl (by omega))).trans (by rw [← hw92]; exact (e_up_ne _ _ (Or.inl (by omega))).trans (by rw [← hw72]; exact (e_up_ne _ _ (Or.inl (by omega))).trans rfl))))) (by omega) hru
        have erg : w98 330 (10000 * a + (p + 1)) = w 330 (10000 * a + p) := by rw [show 10000 * a + (p + 1) = 10000 * a + p + 1 by omega]; exact Eq.trans (by rw [← hw98]; exact (e_up_ne _ _ (Or.inl (by omega))).trans (by rw [← hw90]; exact (e_up_ne _ _ (Or.inl (by omega))).trans (by rw [← hw92]; exact (e_up_ne _ _ (Or.inl (by omega))).trans (by rw [← hw72]; exact (e_up_ne _ _ (Or.inl (by omega))).trans rfl)))) k1.2.2.2
        have ede : w98 275 102 = dl p := (by rw [← hw98]; exact (e_up_ne _ _ (Or.inl (by omega))).trans (by rw [← hw90]; exact e_up_eq _ _ _ _))
        exact ⟨rfl, ⟨f100, (sRel.up (sRel.up (sRel.up (sRel.up sRel.refl hw72 (fun q b g1 g2 => by omega)) hw92 (fun q b g1 g2 => by omega)) hw90 (fun q b g1 g2 => by omega)) hw98 (fun q b g1 g2 => by omega))⟩, hT101, by omega, Or.inr ⟨(by rw [← hw98]; exact (e_up_ne _ _ (Or.inl (by omega))).trans (by rw [← hw90]; exact (e_up_ne _ _ (Or.inr (by omega))).trans (by rw [← hw92]; exact (e_up_ne _ _ (Or.inl (by omega))).trans (by rw [← hw72]; exact (e_up_ne _ _ (Or.inr (by omega))).trans rfl)))), (by rw [← hw98]; exact (e_up_ne _ _ (Or.inr (by omega))).trans (by rw [← hw90]; exact (e_up_ne _ _ (Or.inl (by omega))).trans (by rw [← hw92]; exact (e_up_ne _ _ (Or.inl (by omega))).trans (by rw [← hw72]; exact (e_up_ne _ _ (Or.inl (by omega))).trans rfl)))), by omega, p + 1, runOk.at hrn (by omega) (by rw [← hw98]; exact e_up_eq _ _ _ _) erg, by omega, e_kn.le (e_kn.oth (e_kn.oth (e_kn.put (b' := dl p - 1) (e_kn.oth hst hw72 (by decide)) hw92 (by omega) (by omega)) hw90 (by decide)) hw98 (by decide)) (by omega), by omega, by omega⟩⟩
      · replace h84 : (1 : Int) = 0 := by have q : ¬ ((1 : Int) ≠ 0) := h84; omega
        exfalso; omega
    · show e_Ok 20 elay ecode eI (d + 1) 374 (203, [(6, (0, z74)), (4, (0, p + 1)), (0, (1, 275)), (1, (0, w 328 (10000 * a + p))), (2, (0, w 329 (10000 * a + p))), (3, (0, p))], [(0, 0)], w72) _
      refine e_Ok.if1 rfl (fun h103 => ?_) (fun h103 => ?_)
      · replace h103 : (0 : Int) ≠ 0 := h103
        exfalso; omega
      · replace h103 : (0 : Int) = 0 := by have q : ¬ ((0 : Int) ≠ 0) := h103; omega
        refine e_Ok.run (t' := (208, [(6, (0, z74)), (4, (0, p + 1)), (0, (1, 275)), (1, (0, w 328 (10000 * a + p))), (2, (0, w 329 (10000 * a + p))), (3, (0, p))], [(0, 2), (1, 275)], w72)) 2 rfl ?_
        have e107 : w72 276 5 = w 276 5 := (by rw [← hw72]; exact (e_up_ne _ _ (Or.inl (by omega))).trans rfl)
        refine e_Ok.callV rfl (by omega) rfl rfl rfl rfl (c_369 (by omega) hT76 (by omega) (by omega) (by rw [← hw72]; exact (e_up_ne _ _ (Or.inr (by omega))).trans h96) (by rw [← hw72]; exact (e_up_ne _ _ (Or.inr (by omega))).trans h97) (by rw [← hw72]; exact (e_up_ne _ _ (Or.inr (by omega))).trans h98) (cOk.fr (fun c k q1 q2 => (by rw [← hw72]; exact (e_up_ne _ _ (Or.inl (by omega))).trans rfl)) hC) (runOk.at (runOk.fr (w' := w72) (fun c k q1 q2 => (by rw [← hw72]; exact (e_up_ne _ _ (Or.inl (by omega))).trans rfl)) (fun i q1 q2 => ⟨(by rw [← hw72]; exact (e_up_ne _ _ (Or.inl (by omega))).trans rfl), (by rw [← hw72]; exact (e_up_ne _ _ (Or.inl (by omega))).trans rfl)⟩) (by rw [← hw72]; exact (e_up_ne _ _ (Or.inl (by omega))).trans rfl) (by rw [← hw72]; exact (e_up_ne _ _ (Or.inl (by omega))).trans rfl) (fun k q1 q2 => (by rw [← hw72]; exact (e_up_ne _ _ (Or.inl (by omega))).trans rfl)) (by omega) hru) (by omega) (by rw [← hw72]; exact (e_up_ne _ _ (Or.inl (by omega))).trans hpc) (by rw [← hw72]; exact (e_up_ne _ _ (Or.inl (by omega))).trans rfl)) (by omega) (by omega)) (fun r104 w105 h106 => ?_)
        obtain ⟨rfl, ⟨q108, q108S⟩, q108T, q108n, q108d, q108c⟩ := h106
        have f109 : e_fr (mRk t) w w105 := e_fr.trans f75 (e_fr.mono q108 (fun c k q => by first | exact su_63_4 q | (unfold mLv at q; unfold mRk mLv; omega)))
        show e_Ok 20 elay ecode eI (d + 1) 374 (211, [(6, (0, z74)), (4, (0, p + 1)), (0, (1, 275)), (1, (0, w 328 (10000 * a + p))), (2, (0, w 329 (10000 * a + p))), (3, (0, p))], [], w105) _
        refine e_Ok.rets rfl rfl ?_
        exact ⟨rfl, ⟨f109, (sRel.trans (sRel.up sRel.refl hw72 (fun q b g1 g2 => by omega)) q108S)⟩, q108T, by omega, Or.inl ⟨q108d, q108c.imp id (fun h => ⟨h.1.trans (by rw [← hw72]; exact (e_up_ne _ _ (Or.inr (by omega))).trans rfl), h.2.1.trans (by rw [← hw72]; exact (e_up_ne _ _ (Or.inl (by omega))).trans rfl), h.2.2.1.trans (by rw [← hw72]; exact (e_up_ne _ _ (Or.inl (by omega))).trans rfl), h.2.2.2⟩)⟩⟩
  · refine e_Ok.sw (tg := 237) rfl (by rw [h1]; rfl) ?_
    have k1 := hi1.out (by omega)
    unfold iFT at k1
    have k2 := hi2.out (by omega)
    refine e_Ok.run (t' := (239, [(4, (0, p + 1)), (0, (1, 275)), (1, (0, w 328 (10000 * a + p))), (2, (0, w 329 (10000 * a + p))), (3, (0, p))], [(1, 275), (1, 275)], w)) 2 rfl ?_
    refine e_Ok.getr (z := 276) rfl (el_o rfl) rfl rfl (e_Has.eq hT rfl) (by omega) ?_
    refine e_Ok.run (t' := (243, [(4, (0, p + 1)), (0, (1, 275)), (1, (0, w 328 (10000 * a + p))), (2, (0, w 329 (10000 * a + p))), (3, (0, p))], [(0, 0), (1, 276), (1, 275)], w)) 1 rfl ?_
    have h110 := (e_Has.get hT (c := 276) (k := 0) (lo := 0) (hi := 6000) rfl (by decide))
    refine e_Ok.ald (z := w 276 0) rfl (el_o rfl) rfl (by omega) rfl (by omega) ?_
    refine e_Ok.callV rfl (by omega) rfl rfl rfl rfl (c_363 hT (e := dl p) (e1 := dl p + 1) h102 (by omega) (by omega)) (fun r111 w112 h113 => ?_)
    obtain ⟨rfl, hw112⟩ := h113
    generalize hw114 : e_up w 345 (dl p) (w 276 0) = w114 at hw112
    have f115 : e_fr (mRk t) w w114 := e_fr.up (e_fr.refl w) hw114 (by unfold mRk mLv; omega)
    have hT116 : e_Has mTy w114 := e_Has.ups hT hw114 rfl
    have f117 : e_fr (mRk t) w w112 := e_fr.up f115 hw112 (by unfold mRk mLv; omega)
    have hT118 : e_Has mTy w112 := e_Has.ups hT116 hw112 rfl
    show e_Ok 20 elay ecode eI (d + 1) 374 (247, [(4, (0, p + 1)), (0, (1, 275)), (1, (0, w 328 (10000 * a + p))), (2, (0, w 329 (10000 * a + p))), (3, (0, p))], [], w112) _
    refine e_Ok.run (t' := (460, [(4, (0, p + 1)), (0, (1, 275)), (1, (0, w 328 (10000 * a + p))), (2, (0, w 329 (10000 * a + p))), (3, (0, p))], [(0, p + 1), (1, 275)], w112)) 3 rfl ?_
    refine e_Ok.callV rfl (by omega) rfl rfl rfl rfl (c_365 (by omega) hT118 (by omega) (by rw [← hw112]; exact (e_up_ne _ _ (Or.inr (by omega))).trans (by rw [← hw114]; exact (e_up_ne _ _ (Or.inl (by omega))).trans h97)) (f := g + 1) (z := 1260 * t + 2 * g + 436) (by rw [← hw112]; exact (e_up_ne _ _ (Or.inl (by omega))).trans (by rw [← hw114]; exact (e_up_ne _ _ (Or.inl (by omega))).trans hF)) (by omega) (by omega)) (fun r119 w120 h121 => ?_)
    obtain ⟨rfl, hw120⟩ := h121
    have f122 : e_fr (mRk t) w w120 := e_fr.up f117 hw120 (by unfold mRk mLv; omega)
    have hT123 : e_Has mTy w120 := e_Has.upr hT118 hw120 (nR_FRg t (g) (by omega) (by omega) (by omega)) (by omega)
    show e_Ok 20 elay ecode eI (d + 1) 374 (463, [(4, (0, p + 1)), (0, (1, 275)), (1, (0, w 328 (10000 * a + p))), (2, (0, w 329 (10000 * a + p))), (3, (0, p))], [], w120) _
    refine e_Ok.rets rfl rfl ?_
    have e124 : w120 276 5 = w 276 5 := (by rw [← hw120]; exact (e_up_ne _ _ (Or.inr (by omega))).trans (by rw [← hw112]; exact (e_up_ne _ _ (Or.inl (by omega))).trans (by rw [← hw114]; exact (e_up_ne _ _ (Or.inl (by omega))).trans rfl)))
    have hrn := runOk.fr (w' := w120) (fun c k q1 q2 => (by rw [← hw120]; exact (e_up_ne _ _ (Or.inl (by omega))).trans (by rw [← hw112]; exact (e_up_ne _ _ (Or.inl (by omega))).trans (by rw [← hw114]; exact (e_up_ne _ _ (Or.inl (by omega))).trans rfl)))) (fun i q1 q2 => ⟨(by rw [← hw120]; exact (e_up_ne _ _ (Or.inr (by omega))).trans (by rw [← hw112]; exact (e_up_ne _ _ (Or.inl (by omega))).trans (by rw [← hw114]; exact (e_up_ne _ _ (Or.inl (by omega))).trans rfl))), (by rw [← hw120]; exact (e_up_ne _ _ (Or.inr (by omega))).trans (by rw [← hw112]; exact (e_up_ne _ _ (Or.inl (by omega))).trans (by rw [← hw114]; exact (e_up_ne _ _ (Or.inl (by omega))).trans rfl)))⟩) (by rw [← hw120]; exact (e_up_ne _ _ (Or.inr (by omega))).trans (by rw [← hw112]; exact (e_up_ne _ _ (Or.inl (by omega))).trans (by rw [← hw114]; exact (e_up_ne _ _ (Or.inl (by omega))).trans rfl))) (by rw [← hw120]; exact (e_up_ne _ _ (Or.inr (by omega))).trans (by rw [← hw112]; exact (e_up_ne _ _ (Or.inl (by omega))).trans (by rw [← hw114]; exact (e_up_ne _ _ (Or.inl (by omega))).trans rfl))) (fun k q1 q2 => (by rw [← hw120]; exact (e_up_ne _ _ (Or.inr (by omega))).trans (by rw [← hw112]; exact (e_up_ne _ _ (Or.inl (by omega))).trans (by rw [← hw114]; exact (e_up_ne _ _ (Or.inl (by omega))).trans rfl)))) (by omega) hru
    have erg : w120 330 (10000 * a + (p + 1)) = w 330 (10000 * a + p) := by rw [show 10000 * a + (p + 1) = 10000 * a + p + 1 by omega]; exact Eq.trans (by rw [← hw120]; exact (e_up_ne _ _ (Or.inl (by omega))).trans (by rw [← hw112]; exact (e_up_ne _ _ (Or.inl (by omega))).trans (by rw [← hw114]; exact (e_up_ne _ _ (Or.inl (by omega))).trans rfl))) k1.2.2.2
    have ede : w120 275 102 = dl p + 1 := (by rw [← hw120]; exact (e_up_ne _ _ (Or.inl (by omega))).trans (by rw [← hw112]; exact e_up_eq _ _ _ _))
    exact ⟨rfl, ⟨f122, (sRel.up (sRel.up (sRel.up sRel.refl hw114 (fun q b g1 g2 => by omega)) hw112 (fun q b g1 g2 => by omega)) hw120 (fun q b g1 g2 => by omega))⟩, hT123, by omega, Or.inr ⟨(by rw [← hw120]; exact (e_up_ne _ _ (Or.inl (by omega))).trans (by rw [← hw112]; exact (e_up_ne _ _ (Or.inr (by omega))).trans (by rw [← hw114]; exact (e_up_ne _ _ (Or.inl (by omega))).trans rfl))), (by rw [← hw120]; exact (e_up_ne _ _ (Or.inr (by omega))).trans (by rw [← hw112]; exact (e_up_ne _ _ (Or.inl (by omega))).trans (by rw [← hw114]; exact (e_up_ne _ _ (Or.inl (by omega))).trans rfl))), by omega, p + 1, runOk.at hrn (by omega) (by rw [← hw120]; exact e_up_eq _ _ _ _) erg, by omega, e_kn.le (e_kn.oth (e_kn.oth (e_kn.put (b' := dl p) hst hw114 (by omega) (by omega)) hw112 (by decide)) hw120 (by decide)) (by omega), by omega, by omega⟩⟩
  · refine e_Ok.sw (tg := 250) rfl (by rw [h1]; rfl) ?_
    have k1 := hi1.out (by omega)
    unfold iFT at k1
    have k2 := hi2.out (by omega)
    refine e_Ok.run (t' := (252, [(4, (0, p + 1)), (0, (1, 275)), (1, (0, w 328 (10000 * a + p))), (2, (0, w 329 (10000 * a + p))), (3, (0, p))], [(1, 275), (1, 275)], w)) 2 rfl ?_
    refine e_Ok.getr (z := 276) rfl (el_o rfl) rfl rfl (e_Has.eq hT rfl) (by omega) ?_
    refine e_Ok.run (t' := (256, [(4, (0, p + 1)), (0, (1, 275)), (1, (0, w 328 (10000 * a + p))), (2, (0, w 329 (10000 * a + p))), (3, (0, p))], [(1, 275), (1, 276), (1, 275)], w)) 1 rfl ?_
    refine e_Ok.getf (z := 1260 * t + 416) rfl (el_o rfl) rfl rfl h97 (by omega) ?_
    refine e_Ok.run (t' := (260, [(4, (0, p + 1)), (0, (1, 275)), (1, (0, w 328 (10000 * a + p))), (2, (0, w 329 (10000 * a + p))), (3, (0, p))], [(0, 3), (0, 1260 * t + 416), (1, 276), (1, 275)], w)) 1 rfl ?_
    refine e_Ok.add (z := 1260 * t + 419) rfl (by omega) (by omega) ?_
    have h125 := (e_Has.get hT (c := 276) (k := 1260 * t + 419) (lo := (-2147483648)) (hi := 2147483647) (nR_CAUGHT (t := t) (by omega)) (by decide))
    refine e_Ok.ald (z := w 276 (1260 * t + 419)) rfl (el_o rfl) rfl (by omega) rfl (by omega) ?_
    refine e_Ok.callV rfl (by omega) rfl rfl rfl rfl (c_363 hT (e := dl p) (e1 := dl p + 1) h102 (by omega) (by omega)) (fun r126 w127 h128 => ?_)
    obtain ⟨rfl, hw127⟩ := h128
    generalize hw129 : e_up w 345 (dl p) (w 276 (1260 * t + 419)) = w129 at hw127
    have f130 : e_fr (mRk t) w w129 := e_fr.up (e_fr.refl w) hw129 (by unfold mRk mLv; omega)
    have hT131 : e_Has mTy w129 := e_Has.ups hT hw129 rfl
    have f132 : e_fr (mRk t) w w127 := e_fr.up f130 hw127 (by unfold mRk mLv; omega)
    have hT133 : e_Has mTy w127 := e_Has.ups hT131 hw127 rfl
    show e_Ok 20 elay ecode eI (d + 1) 374 (265, [(4, (0, p + 1)), (0, (1, 275)), (1, (0, w 328 (10000 * a + p))), (2, (0, w 329 (10000 * a + p))), (3, (0, p))], [], w127) _
    refine e_Ok.run (t' := (460, [(4, (0, p + 1)), (0, (1, 275)), (1, (0, w 328 (10000 * a + p))), (2, (0, w 329 (10000 * a + p))), (3, (0, p))], [(0, p + 1), (1, 275)], w127)) 3 rfl ?_
    refine e_Ok.callV rfl (by omega) rfl rfl rfl rfl (c_365 (by omega) hT133 (by omega) (by rw [← hw127]; exact (e_up_ne _ _ (Or.inr (by omega))).trans (by rw [← hw129]; exact (e_up_ne _ _ (Or.inl (by omega))).trans h97)) (f := g + 1) (z := 1260 * t + 2 * g + 436) (by rw [← hw127]; exact (e_up_ne _ _ (Or.inl (by omega))).trans (by rw [← hw129]; exact (e_up_ne _ _ (Or.inl (by omega))).trans hF)) (by omega) (by omega)) (fun r134 w135 h136 => ?_)
    obtain ⟨rfl, hw135⟩ := h136
    have f137 : e_fr (mRk t) w w135 := e_fr.up f132 hw135 (by unfold mRk mLv; omega)
    have hT138 : e_Has mTy w135 := e_Has.upr hT133 hw135 (nR_FRg t (g) (by omega) (by omega) (by omega)) (by omega)
    show e_Ok 20 elay ecode eI (d + 1) 374 (463, [(4, (0, p + 1)), (0, (1, 275)), (1, (0, w 328 (10000 * a + p))), (2, (0, w 329 (10000 * a + p))), (3, (0, p))], [], w135) _
    refine e_Ok.rets rfl rfl ?_
    have e139 : w135 276 5 = w 276 5 := (by rw [← hw135]; exact (e_up_ne _ _ (Or.inr (by omega))).trans (by rw [← hw127]; exact (e_up_ne _ _ (Or.inl (by omega))).trans (by rw [← hw129]; exact (e_up_ne _ _ (Or.inl (by omega))).trans rfl)))
    have hrn := runOk.fr (w' := w135) (fun c k q1 q2 => (by rw [← hw135]; exact (e_up_ne _ _ (Or.inl (by omega))).trans (by rw [← hw127]; exact (e_up_ne _ _ (Or.inl (by omega))).trans (by rw [← hw129]; exact (e_up_ne _ _ (Or.inl (by omega))).trans rfl)))) (fun i q1 q2 => ⟨(by rw [← hw135]; exact (e_up_ne _ _ (Or.inr (by omega))).trans (by rw [← hw127]; exact (e_up_ne _ _ (Or.inl (by omega))).trans (by rw [← hw129]; exact (e_up_ne _ _ (Or.inl (by omega))).trans rfl))), (by rw [← hw135]; exact (e_up_ne _ _ (Or.inr (by omega))).trans (by rw [← hw127]; exact (e_up_ne _ _ (Or.inl (by omega))).trans (by rw [← hw129]; exact (e_up_ne _ _ (Or.inl (by omega))).trans rfl)))⟩) (by rw [← hw135]; exact (e_up_ne _ _ (Or.inr (by omega))).trans (by rw [← hw127]; exact (e_up_ne _ _ (Or.inl (by omega))).trans (by rw [← hw129]; exact (e_up_ne _ _ (Or.inl (by omega))).trans rfl))) (by rw [← hw135]; exact (e_up_ne _ _ (Or.inr (by omega))).trans (by rw [← hw127]; exact (e_up_ne _ _ (Or.inl (by omega))).trans (by rw [← hw129]; exact (e_up_ne _ _ (Or.inl (by omega))).trans rfl))) (fun k q1 q2 => (by rw [← hw135]; exact (e_up_ne _ _ (Or.inr (by omega))).trans (by rw [← hw127]; exact (e_up_ne _ _ (Or.inl (by omega))).trans (by rw [← hw129]; exact (e_up_ne _ _ (Or.inl (by omega))).trans rfl)))) (by omega) hru
    have erg : w135 330 (10000 * a + (p + 1)) = w 330 (10000 * a + p) := by rw [show 10000 * a + (p + 1) = 10000 * a + p + 1 by omega]; exact Eq.trans (by rw [← hw135]; exact (e_up_ne _ _ (Or.inl (by omega))).trans (by rw [← hw127]; exact (e_up_ne _ _ (Or.inl (by omega))).trans (by rw [← hw129]; exact (e_up_ne _ _ (Or.inl (by omega))).trans rfl))) k1.2.2.2
    have ede : w135 275 102 = dl p + 1 := (by rw [← hw135]; exact (e_up_ne _ _ (Or.inl (by omega))).trans (by rw [← hw127]; exact e_up_eq _ _ _ _))
    exact ⟨rfl, ⟨f137, (sRel.up (sRel.up (sRel.up sRel.refl hw129 (fun q b g1 g2 => by omega)) hw127 (fun q b g1 g2 => by omega)) hw135 (fun q b g1 g2 => by omega))⟩, hT138, by omega, Or.inr ⟨(by rw [← hw135]; exact (e_up_ne _ _ (Or.inl (by omega))).trans (by rw [← hw127]; exact (e_up_ne _ _ (Or.inr (by omega))).trans (by rw [← hw129]; exact (e_up_ne _ _ (Or.inl (by omega))).trans rfl))), (by rw [← hw135]; exact (e_up_ne _ _ (Or.inr (by omega))).trans (by rw [← hw127]; exact (e_up_ne _ _ (Or.inl (by omega))).trans (by rw [← hw129]; exact (e_up_ne _ _ (Or.inl (by omega))).trans rfl))), by omega, p + 1, runOk.at hrn (by omega) (by rw [← hw135]; exact e_up_eq _ _ _ _) erg, by omega, e_kn.le (e_kn.oth (e_kn.oth (e_kn.put (b' := dl p) hst hw129 (by omega) (by omega)) hw127 (by decide)) hw135 (by decide)) (by omega), by omega, by omega⟩⟩
  · exfalso; omega
  · exfalso; omega
  · exfalso; omega
  · exfalso; omega
  · exfalso; omega
  · exfalso; omega
  · exfalso; omega
  · exfalso; omega
end
