noncomputable section
def mTk (t c k : Int) : Prop := (c = 275 ∧ k = 100) ∨ (c = 276 ∧ ((20868 ≤ k ∧ k ≤ 20875) ∨ k = 6 ∨ k = 1260 * t + 416 ∨ k = 1260 * t + 421 ∨ k = 1260 * t + 422))
set_option maxHeartbeats 4000000 in
theorem c_377 {d : Nat} (hd : 29 ≤ d) {w : eW} (hT : e_Has mTy w) {t a g : Int} (ht : 0 ≤ t ∧ t ≤ 15) (ha : 0 ≤ a ∧ a ≤ 3) (h96 : w 275 96 = t) (h97 : w 275 97 = 1260 * t + 416) (h98 : w 275 98 = a) {n nt nw : Int} {dl sg pi en : Int → Int} {an br : Int → Int → Prop} {bs ow : Int → Int} (hC : cOk w a n nt nw dl sg pi en an br) {p : Int} (hP : topOk w a t g p n nt nw dl sg pi an br bs ow) (hE : w 276 5 ≤ 2147483000) {z : Int} (hz : 0 ≤ z ∧ z < nt) (hrz : w 330 (10000 * a + p) = 3 * z + 2) (h102 : w 275 102 = 0) : e_Ok 20 elay ecode eI d 377 (0, [(0, (1, 275)), (1, (0, 900 * a + z))], [], w) (fun r' w' => r' = [] ∧ (e_fr (mLv t) w w' ∧ sRel w w') ∧ e_Has mTy w' ∧ (w 276 5 ≤ w' 276 5 ∧ w' 276 5 ≤ w 276 5 + 2) ∧ w' 275 102 = 0 ∧ ((w' 275 100 = 1 ∧ (w' 276 (1260 * t + 416) = 6 ∨ w' 276 (1260 * t + 416) = 7)) ∨ (w' 275 100 = w 275 100 ∧ w' 276 (1260 * t + 416) = w 276 (1260 * t + 416) ∧ w' 276 5 = w 276 5 ∧ ∃ (g' p' : Int) (bs' ow' : Int → Int), g' ≤ g ∧ (g' = g → p < p') ∧ topOk w' a t g' p' n nt nw dl sg pi an br bs' ow' ∧ dl p' = 0 ∧ sg p' = 0))) := by
  obtain ⟨d, rfl⟩ : ∃ e, d = e + 1 := ⟨d - 1, by omega⟩
  obtain ⟨hpn, hpc, hru⟩ := id hP
  obtain ⟨hg, hF, hlow, hrr, hPn, hch, hpe⟩ := id hru
  have hCn := hC.1
  have hins := hC.2.1 p hpn.1 hpn.2
  have hbg := hlow.2.1 g (by omega) (by omega)
  have hpen := hins.1.2.2.2.1
  have hpib := hC.2.2.2.1.2.1 _ hrr.1 hrr.2
  obtain ⟨hti, hpi3, -, -, hend, han1, han2⟩ := id (hC.2.2.1 z hz.1 hz.2)
  have hall := (hC.2.2.1 z hz.1 hz.2).all (y := w 330 (10000 * a + p)) (k := 2) (by omega) (by omega)
  unfold tgt at hend
  have hpz := hC.2.2.2.1.2.1 (w 331 (900 * a + z)) (by omega) (by omega)
  have how := hch (w 330 (10000 * a + p)) (hC.2.2.2.1.2.2.1 _) (by omega) (by omega)
  have hpd := hpe (bs g + pi (w 330 (10000 * a + p)) - 1) (by omega) (by omega)
  unfold pendOk at hpd
  rw [how, show (w 330 (10000 * a + p)) / 3 = z by omega, show 1260 * t + 2 * (bs g + pi (w 330 (10000 * a + p)) - 1) + 476 = 1260 * t + 2 * bs g + 2 * pi (w 330 (10000 * a + p)) + 474 by omega, show 1260 * t + 2 * (bs g + pi (w 330 (10000 * a + p)) - 1) + 477 = 1260 * t + 2 * bs g + 2 * pi (w 330 (10000 * a + p)) + 475 by omega] at hpd
  refine e_Ok.run (t' := (1, [(0, (1, 275)), (1, (0, 900 * a + z))], [(1, 275)], w)) 1 rfl ?_
  refine e_Ok.getr (z := 276) rfl (el_o rfl) rfl rfl (e_Has.eq hT rfl) (by omega) ?_
  refine e_Ok.run (t' := (5, [(0, (1, 275)), (1, (0, 900 * a + z))], [(1, 275), (1, 276)], w)) 1 rfl ?_
  refine e_Ok.getf (z := 1260 * t + 416) rfl (el_o rfl) rfl rfl h97 (by omega) ?_
  refine e_Ok.run (t' := (10, [(0, (1, 275)), (1, (0, 900 * a + z))], [(0, 13), (0, 1260 * t + 416), (1, 276)], w)) 1 rfl ?_
  refine e_Ok.add (z := 1260 * t + 429) rfl (by omega) (by omega) ?_
  refine e_Ok.run (t' := (12, [(0, (1, 275)), (1, (0, 900 * a + z))], [(0, 1260 * t + 429), (1, 276), (0, 1260 * t + 429), (1, 276)], w)) 1 rfl ?_
  refine e_Ok.ald (z := bs g + pi (w 330 (10000 * a + p))) rfl rfl rfl (by omega) hPn (by omega) ?_
  refine e_Ok.run (t' := (14, [(0, (1, 275)), (1, (0, 900 * a + z))], [(0, 1), (0, bs g + pi (w 330 (10000 * a + p))), (0, 1260 * t + 429), (1, 276)], w)) 1 rfl ?_
  refine e_Ok.sub' (z := bs g + pi (w 330 (10000 * a + p)) - 1) rfl (by omega) (by omega) ?_
  refine e_Ok.ast rfl (el_o rfl) rfl rfl (by omega) ?_
  generalize hw1 : e_up w 276 (1260 * t + 429) (bs g + pi (w 330 (10000 * a + p)) - 1) = w1
  have f2 : e_fr (mLv t) w w1 := e_fr.up (e_fr.refl w) hw1 (by unfold mLv; omega)
  have hT3 : e_Has mTy w1 := e_Has.upr hT hw1 (nR_PENDS (t := t) (by omega)) (by omega)
  refine e_Ok.run (t' := (17, [(0, (1, 275)), (1, (0, 900 * a + z))], [(1, 275)], w1)) 1 rfl ?_
  refine e_Ok.getf (z := 1260 * t + 416) rfl (el_o rfl) rfl rfl (by rw [← hw1]; exact (e_up_ne _ _ (Or.inl (by omega))).trans h97) (by omega) ?_
  refine e_Ok.run (t' := (22, [(0, (1, 275)), (1, (0, 900 * a + z))], [(0, 60), (0, 1260 * t + 416)], w1)) 1 rfl ?_
  refine e_Ok.add (z := 1260 * t + 476) rfl (by omega) (by omega) ?_
  refine e_Ok.run (t' := (25, [(0, (1, 275)), (1, (0, 900 * a + z))], [(1, 275), (0, 2), (0, 1260 * t + 476)], w1)) 2 rfl ?_
  refine e_Ok.getr (z := 276) rfl (el_o rfl) rfl rfl (by rw [← hw1]; exact (e_up_ne _ _ (Or.inl (by omega))).trans (e_Has.eq hT rfl)) (by omega) ?_
  refine e_Ok.run (t' := (29, [(0, (1, 275)), (1, (0, 900 * a + z))], [(1, 275), (1, 276), (0, 2), (0, 1260 * t + 476)], w1)) 1 rfl ?_
  refine e_Ok.getf (z := 1260 * t + 416) rfl (el_o rfl) rfl rfl (by rw [← hw1]; exact (e_up_ne _ _ (Or.inl (by omega))).trans h97) (by omega) ?_
  refine e_Ok.run (t' := (34, [(0, (1, 275)), (1, (0, 900 * a + z))], [(0, 13), (0, 1260 * t + 416), (1, 276), (0, 2), (0, 1260 * t + 476)], w1)) 1 rfl ?_
  refine e_Ok.add (z := 1260 * t + 429) rfl (by omega) (by omega) ?_
  refine e_Ok.ald (z := bs g + pi (w 330 (10000 * a + p)) - 1) rfl rfl rfl (by omega) (by rw [← hw1]; exact e_up_eq _ _ _ _) (by omega) ?_
  refine e_Ok.mul (z := 2 * bs g + 2 * pi (w 330 (10000 * a + p)) - 2) rfl (by omega) (by omega) ?_
  refine e_Ok.add (z := 1260 * t + 2 * bs g + 2 * pi (w 330 (10000 * a + p)) + 474) rfl (by omega) (by omega) ?_
  refine e_Ok.run (t' := (40, [(2, (0, 1260 * t + 2 * bs g + 2 * pi (w 330 (10000 * a + p)) + 474)), (0, (1, 275)), (1, (0, 900 * a + z))], [(1, 275)], w1)) 2 rfl ?_
  refine e_Ok.getr (z := 276) rfl (el_o rfl) rfl rfl (by rw [← hw1]; exact (e_up_ne _ _ (Or.inl (by omega))).trans (e_Has.eq hT rfl)) (by omega) ?_
  refine e_Ok.run (t' := (44, [(2, (0, 1260 * t + 2 * bs g + 2 * pi (w 330 (10000 * a + p)) + 474)), (0, (1, 275)), (1, (0, 900 * a + z))], [(0, 1260 * t + 2 * bs g + 2 * pi (w 330 (10000 * a + p)) + 474), (1, 276)], w1)) 1 rfl ?_
  have h4 := (e_Has.get hT (c := 276) (k := 1260 * t + 2 * bs g + 2 * pi (w 330 (10000 * a + p)) + 474) (lo := (-2147483648)) (hi := 2147483647) (nR_PEg t (by omega) (by omega)) (by decide))
  refine e_Ok.ald (z := w 276 (1260 * t + 2 * bs g + 2 * pi (w 330 (10000 * a + p)) + 474)) rfl rfl rfl (by omega) (by rw [← hw1]; exact (e_up_ne _ _ (Or.inr (by omega))).trans rfl) (by omega) ?_
  refine e_Ok.if1 rfl (fun h5 => ?_) (fun h5 => ?_)
  · replace h5 : (w 276 (1260 * t + 2 * bs g + 2 * pi (w 330 (10000 * a + p)) + 474) : Int) ≠ 0 := h5
    refine e_Ok.run (t' := (63, [(2, (0, 1260 * t + 2 * bs g + 2 * pi (w 330 (10000 * a + p)) + 474)), (0, (1, 275)), (1, (0, 900 * a + z))], [(1, 275), (1, 275)], w1)) 2 rfl ?_
    refine e_Ok.getr (z := 331) rfl (el_o rfl) rfl rfl (by rw [← hw1]; exact (e_up_ne _ _ (Or.inl (by omega))).trans (e_Has.eq hT rfl)) (by omega) ?_
    refine e_Ok.run (t' := (67, [(2, (0, 1260 * t + 2 * bs g + 2 * pi (w 330 (10000 * a + p)) + 474)), (0, (1, 275)), (1, (0, 900 * a + z))], [(0, 900 * a + z), (1, 331), (1, 275)], w1)) 1 rfl ?_
    refine e_Ok.ald (z := w 331 (900 * a + z)) rfl (el_o rfl) rfl (by omega) (by rw [← hw1]; exact (e_up_ne _ _ (Or.inl (by omega))).trans rfl) (by omega) ?_
    refine e_Ok.run (t' := (69, [(2, (0, 1260 * t + 2 * bs g + 2 * pi (w 330 (10000 * a + p)) + 474)), (0, (1, 275)), (1, (0, 900 * a + z))], [(1, 275), (0, w 331 (900 * a + z)), (1, 275)], w1)) 1 rfl ?_
    refine e_Ok.getr (z := 276) rfl (el_o rfl) rfl rfl (by rw [← hw1]; exact (e_up_ne _ _ (Or.inl (by omega))).trans (e_Has.eq hT rfl)) (by omega) ?_
    refine e_Ok.run (t' := (73, [(2, (0, 1260 * t + 2 * bs g + 2 * pi (w 330 (10000 * a + p)) + 474)), (0, (1, 275)), (1, (0, 900 * a + z))], [(0, 1260 * t + 2 * bs g + 2 * pi (w 330 (10000 * a + p)) + 474), (1, 276), (0, w 331 (900 * a + z)), (1, 275)], w1)) 1 rfl ?_
    refine e_Ok.ald (z := w 276 (1260 * t + 2 * bs g + 2 * pi (w 330 (10000 * a + p)) + 474)) rfl rfl rfl (by omega) (by rw [← hw1]; exact (e_up_ne _ _ (Or.inr (by omega))).trans rfl) (by omega) ?_
    refine e_Ok.run (t' := (75, [(2, (0, 1260 * t + 2 * bs g + 2 * pi (w 330 (10000 * a + p)) + 474)), (0, (1, 275)), (1, (0, 900 * a + z))], [(1, 275), (0, w 276 (1260 * t + 2 * bs g + 2 * pi (w 330 (10000 * a + p)) + 474)), (0, w 331 (900 * a + z)), (1, 275)], w1)) 1 rfl ?_
    refine e_Ok.getr (z := 276) rfl (el_o rfl) rfl rfl (by rw [← hw1]; exact (e_up_ne _ _ (Or.inl (by omega))).trans (e_Has.eq hT rfl)) (by omega) ?_
    refine e_Ok.run (t' := (80, [(2, (0, 1260 * t + 2 * bs g + 2 * pi (w 330 (10000 * a + p)) + 474)), (0, (1, 275)), (1, (0, 900 * a + z))], [(0, 1), (0, 1260 * t + 2 * bs g + 2 * pi (w 330 (10000 * a + p)) + 474), (1, 276), (0, w 276 (1260 * t + 2 * bs g + 2 * pi (w 330 (10000 * a + p)) + 474)), (0, w 331 (900 * a + z)), (1, 275)], w1)) 2 rfl ?_
    refine e_Ok.add (z := 1260 * t + 2 * bs g + 2 * pi (w 330 (10000 * a + p)) + 475) rfl (by omega) (by omega) ?_
    have h6 := (e_Has.get hT (c := 276) (k := 1260 * t + 2 * bs g + 2 * pi (w 330 (10000 * a + p)) + 475) (lo := (-2147483648)) (hi := 2147483647) (nR_PEg t (by omega) (by omega)) (by decide))
    refine e_Ok.ald (z := w 276 (1260 * t + 2 * bs g + 2 * pi (w 330 (10000 * a + p)) + 475)) rfl rfl rfl (by omega) (by rw [← hw1]; exact (e_up_ne _ _ (Or.inr (by omega))).trans rfl) (by omega) ?_
    have e10 : w1 276 5 = w 276 5 := (by rw [← hw1]; exact (e_up_ne _ _ (Or.inr (by omega))).trans rfl)
    have e336 : ∀ k, w1 336 k = w 336 k := fun k => (by rw [← hw1]; exact (e_up_ne _ _ (Or.inl (by omega))).trans rfl)
    refine e_Ok.callV rfl (by omega) rfl rfl rfl rfl (c_371 (by omega) hT3 (by omega) (by omega) (by rw [← hw1]; exact (e_up_ne _ _ (Or.inl (by omega))).trans h96) (by rw [← hw1]; exact (e_up_ne _ _ (Or.inl (by omega))).trans h97) (by rw [← hw1]; exact (e_up_ne _ _ (Or.inl (by omega))).trans h98) (cOk.fr (fun c k q1 q2 => (by rw [← hw1]; exact (e_up_ne _ _ (Or.inl (by omega))).trans rfl)) hC) (runOk.to (w' := w1) (r' := w 331 (900 * a + z)) hru (fun c k q1 q2 => (by rw [← hw1]; exact (e_up_ne _ _ (Or.inl (by omega))).trans rfl)) (fun i q1 q2 => ⟨(by rw [← hw1]; exact (e_up_ne _ _ (Or.inr (by omega))).trans rfl), (by rw [← hw1]; exact (e_up_ne _ _ (Or.inr (by omega))).trans rfl)⟩) (by rw [← hw1]; exact (e_up_ne _ _ (Or.inr (by omega))).trans rfl) (by have q : w1 276 (1260 * t + 429) = bs g + pi (w 330 (10000 * a + p)) - 1 := (by rw [← hw1]; exact e_up_eq _ _ _ _); omega) (fun k q1 q2 => (by rw [← hw1]; exact (e_up_ne _ _ (Or.inr (by omega))).trans rfl)) (by omega) (by omega) (by omega) (fun q q1 q2 q3 => by have := han2 2 q (by omega) (by omega) q1; rwa [show 3 * z + 2 = w 330 (10000 * a + p) by omega] at this)) ⟨hpn.1, by omega⟩ (by omega) (by omega) (by omega) (fun e3 => by have q := hpd.2 (by omega); rw [e336]; exact ⟨q.1, q.2.1, q.2.2.1, by omega⟩)) (fun r7 w8 h9 => ?_)
    obtain ⟨rfl, ⟨q11, q11S⟩, q11T, q11n, q11d, q11c⟩ := h9
    have f12 : e_fr (mLv t) w w8 := e_fr.trans f2 (e_fr.mono q11 (fun c k q => by exact q))
    show e_Ok 20 elay ecode eI (d + 1) 377 (85, [(2, (0, 1260 * t + 2 * bs g + 2 * pi (w 330 (10000 * a + p)) + 474)), (0, (1, 275)), (1, (0, 900 * a + z))], [], w8) _
    refine e_Ok.rets rfl rfl ?_
    exact ⟨rfl, ⟨f12, (sRel.trans (sRel.up sRel.refl hw1 (fun q b g1 g2 => by omega)) q11S)⟩, q11T, by omega, q11d, q11c.imp id (fun h => ⟨h.1.trans (by rw [← hw1]; exact (e_up_ne _ _ (Or.inl (by omega))).trans rfl), h.2.1.trans (by rw [← hw1]; exact (e_up_ne _ _ (Or.inr (by omega))).trans rfl), h.2.2.1.trans (by rw [← hw1]; exact (e_up_ne _ _ (Or.inr (by omega))).trans rfl), h.2.2.2⟩)⟩
  · replace h5 : (w 276 (1260 * t + 2 * bs g + 2 * pi (w 330 (10000 * a + p)) + 474) : Int) = 0 := by have q : ¬ ((w 276 (1260 * t + 2 * bs g + 2 * pi (w 330 (10000 * a + p)) + 474) : Int) ≠ 0) := h5; omega
    refine e_Ok.run (t' := (50, [(2, (0, 1260 * t + 2 * bs g + 2 * pi (w 330 (10000 * a + p)) + 474)), (0, (1, 275)), (1, (0, 900 * a + z))], [(1, 275), (1, 275)], w1)) 2 rfl ?_
    refine e_Ok.getr (z := 334) rfl (el_o rfl) rfl rfl (by rw [← hw1]; exact (e_up_ne _ _ (Or.inl (by omega))).trans (e_Has.eq hT rfl)) (by omega) ?_
    refine e_Ok.run (t' := (54, [(2, (0, 1260 * t + 2 * bs g + 2 * pi (w 330 (10000 * a + p)) + 474)), (0, (1, 275)), (1, (0, 900 * a + z))], [(0, 900 * a + z), (1, 334), (1, 275)], w1)) 1 rfl ?_
    refine e_Ok.ald (z := w 334 (900 * a + z)) rfl (el_o rfl) rfl (by omega) (by rw [← hw1]; exact (e_up_ne _ _ (Or.inl (by omega))).trans rfl) (by omega) ?_
    refine e_Ok.callV rfl (by omega) rfl rfl rfl rfl (c_365 (by omega) hT3 (by omega) (by rw [← hw1]; exact (e_up_ne _ _ (Or.inl (by omega))).trans h97) (f := g + 1) (z := 1260 * t + 2 * g + 436) (by rw [← hw1]; exact (e_up_ne _ _ (Or.inr (by omega))).trans hF) (by omega) (by omega)) (fun r13 w14 h15 => ?_)
    obtain ⟨rfl, hw14⟩ := h15
    have f16 : e_fr (mLv t) w w14 := e_fr.up f2 hw14 (by unfold mLv; omega)
    have hT17 : e_Has mTy w14 := e_Has.upr hT3 hw14 (nR_FRg t (g) (by omega) (by omega) (by omega)) (by omega)
    show e_Ok 20 elay ecode eI (d + 1) 377 (58, [(2, (0, 1260 * t + 2 * bs g + 2 * pi (w 330 (10000 * a + p)) + 474)), (0, (1, 275)), (1, (0, 900 * a + z))], [], w14) _
    refine e_Ok.run (t' := (85, [(2, (0, 1260 * t + 2 * bs g + 2 * pi (w 330 (10000 * a + p)) + 474)), (0, (1, 275)), (1, (0, 900 * a + z))], [], w14)) 1 rfl ?_
    refine e_Ok.rets rfl rfl ?_
    have e18 : w14 276 5 = w 276 5 := (by rw [← hw14]; exact (e_up_ne _ _ (Or.inr (by omega))).trans (by rw [← hw1]; exact (e_up_ne _ _ (Or.inr (by omega))).trans rfl))
    have hrn := (runOk.to (w' := w14) (r' := w 331 (900 * a + z)) hru (fun c k q1 q2 => (by rw [← hw14]; exact (e_up_ne _ _ (Or.inl (by omega))).trans (by rw [← hw1]; exact (e_up_ne _ _ (Or.inl (by omega))).trans rfl))) (fun i q1 q2 => ⟨(by rw [← hw14]; exact (e_up_ne _ _ (Or.inr (by omega))).trans (by rw [← hw1]; exact (e_up_ne _ _ (Or.inr (by omega))).trans rfl)), (by rw [← hw14]; exact (e_up_ne _ _ (Or.inr (by omega))).trans (by rw [← hw1]; exact (e_up_ne _ _ (Or.inr (by omega))).trans rfl))⟩) (by rw [← hw14]; exact (e_up_ne _ _ (Or.inr (by omega))).trans (by rw [← hw1]; exact (e_up_ne _ _ (Or.inr (by omega))).trans rfl)) (by have q : w14 276 (1260 * t + 429) = bs g + pi (w 330 (10000 * a + p)) - 1 := (by rw [← hw14]; exact (e_up_ne _ _ (Or.inr (by omega))).trans (by rw [← hw1]; exact e_up_eq _ _ _ _)); omega) (fun k q1 q2 => (by rw [← hw14]; exact (e_up_ne _ _ (Or.inr (by omega))).trans (by rw [← hw1]; exact (e_up_ne _ _ (Or.inr (by omega))).trans rfl))) (by omega) (by omega) (by omega) (fun q q1 q2 q3 => by have := han2 2 q (by omega) (by omega) q1; rwa [show 3 * z + 2 = w 330 (10000 * a + p) by omega] at this))
    exact ⟨rfl, ⟨f16, (sRel.up (sRel.up sRel.refl hw1 (fun q b g1 g2 => by omega)) hw14 (fun q b g1 g2 => by omega))⟩, hT17, by omega, (Eq.trans (by rw [← hw14]; exact (e_up_ne _ _ (Or.inl (by omega))).trans (by rw [← hw1]; exact (e_up_ne _ _ (Or.inl (by omega))).trans rfl)) h102), Or.inr ⟨(by rw [← hw14]; exact (e_up_ne _ _ (Or.inl (by omega))).trans (by rw [← hw1]; exact (e_up_ne _ _ (Or.inl (by omega))).trans rfl)), (by rw [← hw14]; exact (e_up_ne _ _ (Or.inr (by omega))).trans (by rw [← hw1]; exact (e_up_ne _ _ (Or.inr (by omega))).trans rfl)), by omega, g, w 334 (900 * a + z), bs, ow, by omega, fun _ => by omega, runOk.at hrn (by omega) (by rw [← hw14]; exact e_up_eq _ _ _ _) (Eq.trans (show w14 330 (10000 * a + (w 334 (900 * a + z))) = w 330 (10000 * a + (w 334 (900 * a + z))) from (by rw [← hw14]; exact (e_up_ne _ _ (Or.inl (by omega))).trans (by rw [← hw1]; exact (e_up_ne _ _ (Or.inl (by omega))).trans rfl))) (by omega)), by omega, by omega⟩⟩
theorem c_379 {d : Nat} (hd : 22 ≤ d) {w : eW} (hT : e_Has mTy w) {t x : Int} (ht : 0 ≤ t ∧ t ≤ 15) (h96 : w 275 96 = t) (h97 : w 275 97 = 1260 * t + 416) (hx : -2147483648 ≤ x ∧ x ≤ 2147483647) : e_Ok 20 elay ecode eI d 379 (0, [(0, (1, 275)), (1, (0, x))], [], w) (fun r w' => ∃ z : Int, r = [(0, z)] ∧ e_fr (mTk t) w w' ∧ e_Has mTy w' ∧ ((z ≠ 0 ∧ w' 275 100 = w 275 100 ∧ w' 276 (1260 * t + 416) = w 276 (1260 * t + 416) ∧ 0 ≤ z ∧ z ≤ 9) ∨ (z = 0 ∧ w' 275 100 = w 275 100 ∧ w' 276 (1260 * t + 416) = w 276 (1260 * t + 416)) ∨ (z = 0 ∧ w' 275 100 = 1 ∧ w' 276 (1260 * t + 416) = 5))) := by
  obtain ⟨d, rfl⟩ : ∃ e, d = e + 1 := ⟨d - 1, by omega⟩
  refine e_Ok.run (t' := (6, [(0, (1, 275)), (1, (0, x))], [(4, 7), (4, 0), (4, x)], w)) 4 rfl ?_
  refine e_Ok.callS rfl (by omega) rfl rfl (c_266) (fun r1 w2 h3 => ?_)
  obtain ⟨z4, rfl, rfl, q5⟩ := h3
  obtain ⟨rfl, q5⟩ | ⟨rfl, q5⟩ := q5
  · show e_Ok 20 elay ecode eI (d + 1) 379 (9, [(0, (1, 275)), (1, (0, x))], [(0, 1)], w) _
    refine e_Ok.if1 rfl (fun h6 => ?_) (fun h6 => ?_)
    · replace h6 : (1 : Int) ≠ 0 := h6
      refine e_Ok.run (t' := (15, [(0, (1, 275)), (1, (0, x))], [(1, 275)], w)) 1 rfl ?_
      refine e_Ok.getr (z := 276) rfl (el_o rfl) rfl rfl (e_Has.eq hT rfl) (by omega) ?_
      refine e_Ok.run (t' := (22, [(0, (1, 275)), (1, (0, x))], [(0, x), (0, 20868), (1, 276)], w)) 2 rfl ?_
      refine e_Ok.add (z := x + 20868) rfl (by omega) (by omega) ?_
      have h7 := (e_Has.get hT (c := 276) (k := x + 20868) (lo := (-1)) (hi := 15) (nR_LOCK (l := x) (by omega)) (by decide))
      refine e_Ok.ald (z := w 276 (x + 20868)) rfl (el_o rfl) rfl (by omega) rfl (by omega) ?_
      refine e_Ok.run (t' := (25, [(0, (1, 275)), (1, (0, x))], [(1, 275), (0, w 276 (x + 20868))], w)) 1 rfl ?_
      refine e_Ok.getf (z := t) rfl (el_o rfl) rfl rfl h96 (by omega) ?_
      refine e_Ok.if2 rfl (fun h8 => ?_) (fun h8 => ?_)
      · replace h8 : (w 276 (x + 20868) : Int) ≠ t := h8
        refine e_Ok.run (t' := (35, [(0, (1, 275)), (1, (0, x))], [(1, 275)], w)) 1 rfl ?_
        refine e_Ok.getr (z := 276) rfl (el_o rfl) rfl rfl (e_Has.eq hT rfl) (by omega) ?_
        refine e_Ok.run (t' := (42, [(0, (1, 275)), (1, (0, x))], [(0, x), (0, 20868), (1, 276)], w)) 2 rfl ?_
        refine e_Ok.add (z := x + 20868) rfl (by omega) (by omega) ?_
        refine e_Ok.ald (z := w 276 (x + 20868)) rfl (el_o rfl) rfl (by omega) rfl (by omega) ?_
        refine e_Ok.if1 rfl (fun h9 => ?_) (fun h9 => ?_)
        · replace h9 : (w 276 (x + 20868) : Int) ≥ 0 := h9
          refine e_Ok.run (t' := (65, [(0, (1, 275)), (1, (0, x))], [(1, 275)], w)) 1 rfl ?_
          refine e_Ok.getr (z := 276) rfl (el_o rfl) rfl rfl (e_Has.eq hT rfl) (by omega) ?_
          refine e_Ok.run (t' := (69, [(0, (1, 275)), (1, (0, x))], [(1, 275), (1, 276)], w)) 1 rfl ?_
          refine e_Ok.getf (z := 1260 * t + 416) rfl (el_o rfl) rfl rfl h97 (by omega) ?_
          refine e_Ok.run (t' := (73, [(0, (1, 275)), (1, (0, x))], [(0, 5), (0, 1260 * t + 416), (1, 276)], w)) 1 rfl ?_
          refine e_Ok.ast rfl (el_o rfl) rfl rfl (by omega) ?_
          generalize hw10 : e_up w 276 (1260 * t + 416) 5 = w10
          have f11 : e_fr (mTk t) w w10 := e_fr.up (e_fr.refl w) hw10 (by unfold mTk; omega)
          have hT12 : e_Has mTy w10 := e_Has.upr hT hw10 (nR_TSTATE (t := t) (by omega)) (by omega)
          refine e_Ok.run (t' := (75, [(0, (1, 275)), (1, (0, x))], [(1, 275)], w10)) 1 rfl ?_
          refine e_Ok.getr (z := 276) rfl (el_o rfl) rfl rfl (by rw [← hw10]; exact (e_up_ne _ _ (Or.inl (by omega))).trans (e_Has.eq hT rfl)) (by omega) ?_
          refine e_Ok.run (t' := (79, [(0, (1, 275)), (1, (0, x))], [(1, 275), (1, 276)], w10)) 1 rfl ?_
          refine e_Ok.getf (z := 1260 * t + 416) rfl (el_o rfl) rfl rfl (by rw [← hw10]; exact (e_up_ne _ _ (Or.inl (by omega))).trans h97) (by omega) ?_
          refine e_Ok.run (t' := (83, [(0, (1, 275)), (1, (0, x))], [(0, 5), (0, 1260 * t + 416), (1, 276)], w10)) 1 rfl ?_
          refine e_Ok.add (z := 1260 * t + 421) rfl (by omega) (by omega) ?_
          refine e_Ok.run (t' := (85, [(0, (1, 275)), (1, (0, x))], [(0, x), (0, 1260 * t + 421), (1, 276)], w10)) 1 rfl ?_
          refine e_Ok.ast rfl (el_o rfl) rfl rfl (by omega) ?_
          generalize hw13 : e_up w10 276 (1260 * t + 421) x = w13
          have f14 : e_fr (mTk t) w w13 := e_fr.up f11 hw13 (by unfold mTk; omega)
          have hT15 : e_Has mTy w13 := e_Has.upr hT12 hw13 (nR_WANT (t := t) (by omega)) (by omega)
          refine e_Ok.run (t' := (87, [(0, (1, 275)), (1, (0, x))], [(1, 275)], w13)) 1 rfl ?_
          refine e_Ok.getr (z := 276) rfl (el_o rfl) rfl rfl (by rw [← hw13]; exact (e_up_ne _ _ (Or.inl (by omega))).trans (by rw [← hw10]; exact (e_up_ne _ _ (Or.inl (by omega))).trans (e_Has.eq hT rfl))) (by omega) ?_
          refine e_Ok.run (t' := (91, [(0, (1, 275)), (1, (0, x))], [(1, 275), (1, 276)], w13)) 1 rfl ?_
          refine e_Ok.getf (z := 1260 * t + 416) rfl (el_o rfl) rfl rfl (by rw [← hw13]; exact (e_up_ne _ _ (Or.inl (by omega))).trans (by rw [← hw10]; exact (e_up_ne _ _ (Or.inl (by omega))).trans h97)) (by omega) ?_
          refine e_Ok.run (t' := (96, [(0, (1, 275)), (1, (0, x))], [(0, 6), (0, 1260 * t + 416), (1, 276)], w13)) 1 rfl ?_
          refine e_Ok.add (z := 1260 * t + 422) rfl (by omega) (by omega) ?_
          refine e_Ok.run (t' := (98, [(0, (1, 275)), (1, (0, x))], [(1, 275), (0, 1260 * t + 422), (1, 276)], w13)) 1 rfl ?_
          refine e_Ok.getr (z := 276) rfl (el_o rfl) rfl rfl (by rw [← hw13]; exact (e_up_ne _ _ (Or.inl (by omega))).trans (by rw [← hw10]; exact (e_up_ne _ _ (Or.inl (by omega))).trans (e_Has.eq hT rfl))) (by omega) ?_
          refine e_Ok.run (t' := (103, [(0, (1, 275)), (1, (0, x))], [(0, 6), (1, 276), (0, 1260 * t + 422), (1, 276)], w13)) 1 rfl ?_
          have h16 := (e_Has.get hT (c := 276) (k := 6) (lo := (-2147483648)) (hi := 2147483647) rfl (by decide))
          refine e_Ok.ald (z := w 276 6) rfl (el_o rfl) rfl (by omega) (by rw [← hw13]; exact (e_up_ne _ _ (Or.inr (by omega))).trans (by rw [← hw10]; exact (e_up_ne _ _ (Or.inr (by omega))).trans rfl)) (by omega) ?_
          refine e_Ok.ast rfl (el_o rfl) rfl rfl (by omega) ?_
          generalize hw17 : e_up w13 276 (1260 * t + 422) (w 276 6) = w17
          have f18 : e_fr (mTk t) w w17 := e_fr.up f14 hw17 (by unfold mTk; omega)
          have hT19 : e_Has mTy w17 := e_Has.upr hT15 hw17 (nR_ORDER_IN (t := t) (by omega)) (by omega)
          refine e_Ok.run (t' := (106, [(0, (1, 275)), (1, (0, x))], [(1, 275)], w17)) 1 rfl ?_
          refine e_Ok.getr (z := 276) rfl (el_o rfl) rfl rfl (by rw [← hw17]; exact (e_up_ne _ _ (Or.inl (by omega))).trans (by rw [← hw13]; exact (e_up_ne _ _ (Or.inl (by omega))).trans (by rw [← hw10]; exact (e_up_ne _ _ (Or.inl (by omega))).trans (e_Has.eq hT rfl)))) (by omega) ?_
          refine e_Ok.run (t' := (112, [(0, (1, 275)), (1, (0, x))], [(0, 6), (1, 276), (0, 6), (1, 276)], w17)) 2 rfl ?_
          refine e_Ok.ald (z := w 276 6) rfl (el_o rfl) rfl (by omega) (by rw [← hw17]; exact (e_up_ne _ _ (Or.inr (by omega))).trans (by rw [← hw13]; exact (e_up_ne _ _ (Or.inr (by omega))).trans (by rw [← hw10]; exact (e_up_ne _ _ (Or.inr (by omega))).trans rfl))) (by omega) ?_
          refine e_Ok.run (t' := (114, [(0, (1, 275)), (1, (0, x))], [(0, 1), (0, w 276 6), (0, 6), (1, 276)], w17)) 1 rfl ?_
          refine e_Ok.any rfl (eF_add_any _ _) (fun z20 z20a z20b => ?_)
          refine e_Ok.ast rfl (el_o rfl) rfl rfl (by omega) ?_
          generalize hw21 : e_up w17 276 6 z20 = w21
          have f22 : e_fr (mTk t) w w21 := e_fr.up f18 hw21 (by unfold mTk; omega)
          have hT23 : e_Has mTy w21 := e_Has.upr hT19 hw21 rfl (by omega)
          refine e_Ok.run (t' := (118, [(0, (1, 275)), (1, (0, x))], [(0, 1), (1, 275)], w21)) 2 rfl ?_
          refine e_Ok.putb rfl (el_o rfl) rfl rfl (by omega) ?_
          generalize hw24 : e_up w21 275 100 1 = w24
          have f25 : e_fr (mTk t) w w24 := e_fr.up f22 hw24 (by unfold mTk; omega)
          have hT26 : e_Has mTy w24 := e_Has.ups hT23 hw24 rfl
          refine e_Ok.run (t' := (122, [(0, (1, 275)), (1, (0, x))], [(0, 0)], w24)) 1 rfl ?_
          refine e_Ok.rets rfl rfl ?_
          have eo : w24 275 100 = 1 := (by rw [← hw24]; exact e_up_eq _ _ _ _)
          have es : w24 276 (1260 * t + 416) = 5 := (by rw [← hw24]; exact (e_up_ne _ _ (Or.inl (by omega))).trans (by rw [← hw21]; exact (e_up_ne _ _ (Or.inr (by omega))).trans (by rw [← hw17]; exact (e_up_ne _ _ (Or.inr (by omega))).trans (by rw [← hw13]; exact (e_up_ne _ _ (Or.inr (by omega))).trans (by rw [← hw10]; exact e_up_eq _ _ _ _)))))
          exact ⟨_, rfl, f25, hT26, by omega⟩
        · replace h9 : (w 276 (x + 20868) : Int) < 0 := by have q : ¬ ((w 276 (x + 20868) : Int) ≥ 0) := h9; omega
          refine e_Ok.run (t' := (48, [(0, (1, 275)), (1, (0, x))], [(1, 275)], w)) 1 rfl ?_
          refine e_Ok.getr (z := 276) rfl (el_o rfl) rfl rfl (e_Has.eq hT rfl) (by omega) ?_
          refine e_Ok.run (t' := (55, [(0, (1, 275)), (1, (0, x))], [(0, x), (0, 20868), (1, 276)], w)) 2 rfl ?_
          refine e_Ok.add (z := x + 20868) rfl (by omega) (by omega) ?_
          refine e_Ok.run (t' := (57, [(0, (1, 275)), (1, (0, x))], [(1, 275), (0, x + 20868), (1, 276)], w)) 1 rfl ?_
          refine e_Ok.getf (z := t) rfl (el_o rfl) rfl rfl h96 (by omega) ?_
          refine e_Ok.ast rfl (el_o rfl) rfl rfl (by omega) ?_
          generalize hw27 : e_up w 276 (x + 20868) t = w27
          have f28 : e_fr (mTk t) w w27 := e_fr.up (e_fr.refl w) hw27 (by unfold mTk; omega)
          have hT29 : e_Has mTy w27 := e_Has.upr hT hw27 (nR_LOCK (l := x) (by omega)) (by omega)
          refine e_Ok.run (t' := (122, [(0, (1, 275)), (1, (0, x))], [(0, 0)], w27)) 2 rfl ?_
          refine e_Ok.rets rfl rfl ?_
          have eo : w27 275 100 = w 275 100 := (by rw [← hw27]; exact (e_up_ne _ _ (Or.inl (by omega))).trans rfl)
          have es : w27 276 (1260 * t + 416) = w 276 (1260 * t + 416) := (by rw [← hw27]; exact (e_up_ne _ _ (Or.inr (by omega))).trans rfl)
          exact ⟨_, rfl, f28, hT29, by omega⟩
      · replace h8 : (w 276 (x + 20868) : Int) = t := by have q : ¬ ((w 276 (x + 20868) : Int) ≠ t) := h8; omega
        refine e_Ok.run (t' := (33, [(0, (1, 275)), (1, (0, x))], [(0, 9)], w)) 1 rfl ?_
        refine e_Ok.rets rfl rfl ?_
        have eo : w 275 100 = w 275 100 := rfl
        have es : w 276 (1260 * t + 416) = w 276 (1260 * t + 416) := rfl
        exact ⟨_, rfl, (e_fr.refl w), hT, by omega⟩
    · replace h6 : (1 : Int) = 0 := by have q : ¬ ((1 : Int) ≠ 0) := h6; omega
      exfalso; omega
  · show e_Ok 20 elay ecode eI (d + 1) 379 (9, [(0, (1, 275)), (1, (0, x))], [(0, 0)], w) _
    refine e_Ok.if1 rfl (fun h30 => ?_) (fun h30 => ?_)
    · replace h30 : (0 : Int) ≠ 0 := h30
      exfalso; omega
    · replace h30 : (0 : Int) = 0 := by have q : ¬ ((0 : Int) ≠ 0) := h30; omega
      refine e_Ok.run (t' := (13, [(0, (1, 275)), (1, (0, x))], [(0, 2)], w)) 1 rfl ?_
      refine e_Ok.rets rfl rfl ?_
      have eo : w 275 100 = w 275 100 := rfl
      have es : w 276 (1260 * t + 416) = w 276 (1260 * t + 416) := rfl
      exact ⟨_, rfl, (e_fr.refl w), hT, by omega⟩
end
