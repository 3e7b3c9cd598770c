noncomputable section
theorem c_369 {d : Nat} (hd : 29 ≤ d) {w : eW} (hT : e_Has mTy w) {t a g : Int} (ht : 0 ≤ t ∧ t ≤ 15) (ha : 0 ≤ a ∧ a ≤ 3) (h96 : w 275 96 = t) (h97 : w 275 97 = 1260 * t + 416) (h98 : w 275 98 = a) {n nt nw : Int} {dl sg pi en : Int → Int} {an br : Int → Int → Prop} {bs ow : Int → Int} (hC : cOk w a n nt nw dl sg pi en an br) {p : Int} (hP : topOk w a t g p n nt nw dl sg pi an br bs ow) (hE : w 276 5 ≤ 2147483000) {y : Int} (hy : -2147483648 ≤ y ∧ y ≤ 2147483647) : e_Ok 20 elay ecode eI d 369 (0, [(0, (1, 275)), (1, (0, y))], [], w) (fun r' w' => r' = [] ∧ (e_fr (mLv t) w w' ∧ sRel w w') ∧ e_Has mTy w' ∧ (w 276 5 ≤ w' 276 5 ∧ w' 276 5 ≤ w 276 5 + 2) ∧ w' 275 102 = 0 ∧ ((w' 275 100 = 1 ∧ (w' 276 (1260 * t + 416) = 6 ∨ w' 276 (1260 * t + 416) = 7)) ∨ (w' 275 100 = w 275 100 ∧ w' 276 (1260 * t + 416) = w 276 (1260 * t + 416) ∧ w' 276 5 = w 276 5 ∧ ∃ (g' p' : Int) (bs' ow' : Int → Int), g' ≤ g ∧ (g' = g → p < p') ∧ topOk w' a t g' p' n nt nw dl sg pi an br bs' ow' ∧ dl p' = 0 ∧ sg p' = 0))) := by
  obtain ⟨d, rfl⟩ : ∃ e, d = e + 1 := ⟨d - 1, by omega⟩
  obtain ⟨hpn, hpc, hru⟩ := id hP
  obtain ⟨hg, hF, hlow, hrr, hPn, hch, hpe⟩ := id hru
  have hCn := hC.1
  have hins := hC.2.1 p hpn.1 hpn.2
  have hbg := hlow.2.1 g (by omega) (by omega)
  have hpen := hins.1.2.2.2.1
  have hpib := hC.2.2.2.1.2.1 _ hrr.1 hrr.2
  refine e_Ok.run (t' := (2, [(0, (1, 275)), (1, (0, y))], [(1, 275), (1, 275)], w)) 2 rfl ?_
  refine e_Ok.getr (z := 330) rfl (el_o rfl) rfl rfl (e_Has.eq hT rfl) (by omega) ?_
  refine e_Ok.run (t' := (9, [(0, (1, 275)), (1, (0, y))], [(1, 275), (0, 10000), (1, 330), (1, 275)], w)) 2 rfl ?_
  refine e_Ok.getf (z := a) rfl (el_o rfl) rfl rfl h98 (by omega) ?_
  refine e_Ok.mul (z := 10000 * a) rfl (by omega) (by omega) ?_
  refine e_Ok.run (t' := (14, [(0, (1, 275)), (1, (0, y))], [(1, 275), (0, 10000 * a), (1, 330), (1, 275)], w)) 1 rfl ?_
  refine e_Ok.getr (z := 276) rfl (el_o rfl) rfl rfl (e_Has.eq hT rfl) (by omega) ?_
  refine e_Ok.run (t' := (18, [(0, (1, 275)), (1, (0, y))], [(1, 275), (1, 276), (0, 10000 * a), (1, 330), (1, 275)], w)) 1 rfl ?_
  refine e_Ok.callV rfl (by omega) rfl rfl rfl rfl (c_362 hT (by omega) h97 (f := g + 1) (z := 1260 * t + 2 * g + 436) hF (by omega) (by omega)) (fun r1 w2 h3 => ?_)
  obtain ⟨rfl, rfl⟩ := h3
  show e_Ok 20 elay ecode eI (d + 1) 369 (21, [(0, (1, 275)), (1, (0, y))], [(0, 1260 * t + 2 * g + 436), (1, 276), (0, 10000 * a), (1, 330), (1, 275)], w) _
  refine e_Ok.ald (z := p) rfl (el_o rfl) rfl (by omega) hpc (by omega) ?_
  refine e_Ok.add (z := 10000 * a + p) rfl (by omega) (by omega) ?_
  refine e_Ok.ald (z := w 330 (10000 * a + p)) rfl (el_o rfl) rfl (by omega) rfl (by omega) ?_
  refine e_Ok.run (t' := (26, [(0, (1, 275)), (1, (0, y))], [(0, y), (0, 1), (0, w 330 (10000 * a + p)), (1, 275)], w)) 2 rfl ?_
  refine e_Ok.callV rfl (by omega) rfl rfl rfl rfl (c_371 (by omega) hT (by omega) (by omega) h96 h97 h98 hC hru ⟨hpn.1, hins.1.2.2.2.1⟩ (by omega) (by omega) (by omega) (fun e => by omega)) (fun r4 w5 h6 => ?_)
  obtain ⟨rfl, ⟨q7, q7S⟩, q7T, q7n, q7d, q7c⟩ := h6
  have f8 : e_fr (mLv t) w w5 := e_fr.trans (e_fr.refl w) (e_fr.mono q7 (fun c k q => by exact q))
  show e_Ok 20 elay ecode eI (d + 1) 369 (29, [(0, (1, 275)), (1, (0, y))], [], w5) _
  refine e_Ok.rets rfl rfl ?_
  exact ⟨rfl, ⟨f8, (sRel.trans sRel.refl q7S)⟩, q7T, by omega, q7d, q7c⟩
set_option maxHeartbeats 4000000 in
theorem c_367 {d : Nat} (hd : 31 ≤ d) {w : eW} (hT : e_Has mTy w) {t a g : Int} (ht : 0 ≤ t ∧ t ≤ 15) (ha : 0 ≤ a ∧ a ≤ 3) (h96 : w 275 96 = t) (h97 : w 275 97 = 1260 * t + 416) (h98 : w 275 98 = a) {n nt nw : Int} {dl sg pi en : Int → Int} {an br : Int → Int → Prop} {bs ow : Int → Int} (hC : cOk w a n nt nw dl sg pi en an br) {p : Int} (hP : topOk w a t g p n nt nw dl sg pi an br bs ow) (hE : w 276 5 ≤ 2147483000) {y b : Int} (hy : 0 ≤ y ∧ y < w 338 a) (hb : 0 ≤ b ∧ b ≤ 1) (hb0 : b ≠ 1 → iFT w a n p ∧ dl (p + 1) = 0 ∧ sg (p + 1) = 0) (hb1 : b = 1 → dl p = 0 ∧ sg p = 0) : e_Ok 20 elay ecode eI d 367 (0, [(0, (1, 275)), (1, (0, y)), (2, (0, b))], [], w) (fun r' w' => r' = [] ∧ (e_fr (mLv t) w w' ∧ sRel w w') ∧ e_Has mTy w' ∧ (w 276 5 ≤ w' 276 5 ∧ w' 276 5 ≤ w 276 5 + 2) ∧ ((w' 275 102 = 0 ∧ ((w' 275 100 = 1 ∧ (w' 276 (1260 * t + 416) = 6 ∨ w' 276 (1260 * t + 416) = 7)) ∨ (w' 275 100 = w 275 100 ∧ w' 276 (1260 * t + 416) = w 276 (1260 * t + 416) ∧ w' 276 5 = w 276 5 ∧ ∃ (g' p' : Int) (bs' ow' : Int → Int), g' ≤ g ∧ (g' = g → p < p') ∧ topOk w' a t g' p' n nt nw dl sg pi an br bs' ow' ∧ dl p' = 0 ∧ sg p' = 0))) ∨ (w' 275 102 = w 275 102 ∧ w' 275 100 = w 275 100 ∧ w' 276 (1260 * t + 416) = w 276 (1260 * t + 416) ∧ w' 276 5 = w 276 5 ∧ g ≤ 18 ∧ ∃ (p' : Int) (bs' ow' : Int → Int), topOk w' a t (g + 1) p' n nt nw dl sg pi an br bs' ow' ∧ dl p' = 0 ∧ sg p' = 0))) := by
  obtain ⟨d, rfl⟩ : ∃ e, d = e + 1 := ⟨d - 1, by omega⟩
  obtain ⟨hpn, hpc, hru⟩ := id hP
  obtain ⟨hg, hF, hlow, hrr, hPn, hch, hpe⟩ := id hru
  have hCn := hC.1
  have hins := hC.2.1 p hpn.1 hpn.2
  have hbg := hlow.2.1 g (by omega) (by omega)
  have hpen := hins.1.2.2.2.1
  have hpib := hC.2.2.2.1.2.1 _ hrr.1 hrr.2
  have hrn := e_Has.get hT (c := 338) (k := a) (lo := 0) (hi := 32) rfl (by decide)
  refine e_Ok.run (t' := (1, [(0, (1, 275)), (1, (0, y)), (2, (0, b))], [(1, 275)], w)) 1 rfl ?_
  refine e_Ok.getr (z := 276) rfl (el_o rfl) rfl rfl (e_Has.eq hT rfl) (by omega) ?_
  refine e_Ok.run (t' := (5, [(0, (1, 275)), (1, (0, y)), (2, (0, b))], [(1, 275), (1, 276)], w)) 1 rfl ?_
  refine e_Ok.getf (z := 1260 * t + 416) rfl (el_o rfl) rfl rfl h97 (by omega) ?_
  refine e_Ok.run (t' := (10, [(0, (1, 275)), (1, (0, y)), (2, (0, b))], [(0, 12), (0, 1260 * t + 416), (1, 276)], w)) 1 rfl ?_
  refine e_Ok.add (z := 1260 * t + 428) rfl (by omega) (by omega) ?_
  refine e_Ok.ald (z := g + 1) rfl (el_o rfl) rfl (by omega) hF (by omega) ?_
  refine e_Ok.run (t' := (14, [(0, (1, 275)), (1, (0, y)), (2, (0, b))], [(0, 20), (0, g + 1)], w)) 1 rfl ?_
  refine e_Ok.if2 rfl (fun h1 => ?_) (fun h1 => ?_)
  · replace h1 : (g + 1 : Int) ≠ 20 := h1
    have hrt := hC.2.2.2.2.2.2 y hy.1 hy.2
    unfold tgt at hrt
    refine e_Ok.run (t' := (25, [(0, (1, 275)), (1, (0, y)), (2, (0, b))], [(1, 275)], w)) 1 rfl ?_
    refine e_Ok.getr (z := 276) rfl (el_o rfl) rfl rfl (e_Has.eq hT rfl) (by omega) ?_
    refine e_Ok.run (t' := (29, [(0, (1, 275)), (1, (0, y)), (2, (0, b))], [(1, 275), (1, 276)], w)) 1 rfl ?_
    refine e_Ok.getf (z := 1260 * t + 416) rfl (el_o rfl) rfl rfl h97 (by omega) ?_
    refine e_Ok.run (t' := (34, [(0, (1, 275)), (1, (0, y)), (2, (0, b))], [(0, 12), (0, 1260 * t + 416), (1, 276)], w)) 1 rfl ?_
    refine e_Ok.add (z := 1260 * t + 428) rfl (by omega) (by omega) ?_
    refine e_Ok.run (t' := (36, [(0, (1, 275)), (1, (0, y)), (2, (0, b))], [(0, 1260 * t + 428), (1, 276), (0, 1260 * t + 428), (1, 276)], w)) 1 rfl ?_
    refine e_Ok.ald (z := g + 1) rfl (el_o rfl) rfl (by omega) hF (by omega) ?_
    refine e_Ok.run (t' := (38, [(0, (1, 275)), (1, (0, y)), (2, (0, b))], [(0, 1), (0, g + 1), (0, 1260 * t + 428), (1, 276)], w)) 1 rfl ?_
    refine e_Ok.add (z := g + 2) rfl (by omega) (by omega) ?_
    refine e_Ok.ast rfl (el_o rfl) rfl rfl (by omega) ?_
    generalize hw2 : e_up w 276 (1260 * t + 428) (g + 2) = w2
    have f3 : e_fr (mLv t) w w2 := e_fr.up (e_fr.refl w) hw2 (by unfold mLv; omega)
    have hT4 : e_Has mTy w2 := e_Has.upr hT hw2 (nR_FRAMES (t := t) (by omega)) (by omega)
    refine e_Ok.run (t' := (42, [(0, (1, 275)), (1, (0, y)), (2, (0, b))], [(1, 275), (1, 275)], w2)) 2 rfl ?_
    refine e_Ok.getr (z := 337) rfl (el_o rfl) rfl rfl (by rw [← hw2]; exact (e_up_ne _ _ (Or.inl (by omega))).trans (e_Has.eq hT rfl)) (by omega) ?_
    refine e_Ok.run (t' := (48, [(0, (1, 275)), (1, (0, y)), (2, (0, b))], [(1, 275), (0, 32), (1, 337), (1, 275)], w2)) 2 rfl ?_
    refine e_Ok.getf (z := a) rfl (el_o rfl) rfl rfl (by rw [← hw2]; exact (e_up_ne _ _ (Or.inl (by omega))).trans h98) (by omega) ?_
    refine e_Ok.mul (z := 32 * a) rfl (by omega) (by omega) ?_
    refine e_Ok.run (t' := (53, [(0, (1, 275)), (1, (0, y)), (2, (0, b))], [(0, y), (0, 32 * a), (1, 337), (1, 275)], w2)) 1 rfl ?_
    refine e_Ok.add (z := 32 * a + y) rfl (by omega) (by omega) ?_
    refine e_Ok.ald (z := w 337 (32 * a + y)) rfl (el_o rfl) rfl (by omega) (by rw [← hw2]; exact (e_up_ne _ _ (Or.inl (by omega))).trans rfl) (by omega) ?_
    refine e_Ok.callV rfl (by omega) rfl rfl rfl rfl (c_365 (by omega) hT4 (by omega) (by rw [← hw2]; exact (e_up_ne _ _ (Or.inl (by omega))).trans h97) (f := g + 2) (z := 1260 * t + 2 * g + 438) (by rw [← hw2]; exact e_up_eq _ _ _ _) (by omega) (by omega)) (fun r5 w6 h7 => ?_)
    obtain ⟨rfl, hw6⟩ := h7
    have f8 : e_fr (mLv t) w w6 := e_fr.up f3 hw6 (by unfold mLv; omega)
    have hT9 : e_Has mTy w6 := e_Has.upr hT4 hw6 (nR_FRg t (g + 1) (by omega) (by omega) (by omega)) (by omega)
    show e_Ok 20 elay ecode eI (d + 1) 367 (58, [(0, (1, 275)), (1, (0, y)), (2, (0, b))], [], w6) _
    refine e_Ok.run (t' := (59, [(0, (1, 275)), (1, (0, y)), (2, (0, b))], [(1, 275)], w6)) 1 rfl ?_
    refine e_Ok.getr (z := 276) rfl (el_o rfl) rfl rfl (by rw [← hw6]; exact (e_up_ne _ _ (Or.inl (by omega))).trans (by rw [← hw2]; exact (e_up_ne _ _ (Or.inl (by omega))).trans (e_Has.eq hT rfl))) (by omega) ?_
    refine e_Ok.run (t' := (63, [(0, (1, 275)), (1, (0, y)), (2, (0, b))], [(1, 275), (1, 276)], w6)) 1 rfl ?_
    refine e_Ok.callV rfl (by omega) rfl rfl rfl rfl (c_362 hT9 (by omega) (by rw [← hw6]; exact (e_up_ne _ _ (Or.inl (by omega))).trans (by rw [← hw2]; exact (e_up_ne _ _ (Or.inl (by omega))).trans h97)) (f := g + 2) (z := 1260 * t + 2 * g + 438) (by rw [← hw6]; exact (e_up_ne _ _ (Or.inr (by omega))).trans (by rw [← hw2]; exact e_up_eq _ _ _ _)) (by omega) (by omega)) (fun r10 w11 h12 => ?_)
    obtain ⟨rfl, rfl⟩ := h12
    show e_Ok 20 elay ecode eI (d + 1) 367 (66, [(0, (1, 275)), (1, (0, y)), (2, (0, b))], [(0, 1260 * t + 2 * g + 438), (1, 276)], w6) _
    refine e_Ok.run (t' := (67, [(0, (1, 275)), (1, (0, y)), (2, (0, b))], [(0, 1), (0, 1260 * t + 2 * g + 438), (1, 276)], w6)) 1 rfl ?_
    refine e_Ok.add (z := 1260 * t + 2 * g + 439) rfl (by omega) (by omega) ?_
    refine e_Ok.run (t' := (69, [(0, (1, 275)), (1, (0, y)), (2, (0, b))], [(0, b), (0, 1260 * t + 2 * g + 439), (1, 276)], w6)) 1 rfl ?_
    refine e_Ok.ast rfl (el_o rfl) rfl rfl (by omega) ?_
    generalize hw13 : e_up w6 276 (1260 * t + 2 * g + 439) b = w13
    have f14 : e_fr (mLv t) w w13 := e_fr.up f8 hw13 (by unfold mLv; omega)
    have hT15 : e_Has mTy w13 := e_Has.upr hT9 hw13 (nR_FRWg t (g + 1) (by omega) (by omega) (by omega)) (by omega)
    refine e_Ok.run (t' := (71, [(0, (1, 275)), (1, (0, y)), (2, (0, b))], [(1, 275)], w13)) 1 rfl ?_
    refine e_Ok.getr (z := 276) rfl (el_o rfl) rfl rfl (by rw [← hw13]; exact (e_up_ne _ _ (Or.inl (by omega))).trans (by rw [← hw6]; exact (e_up_ne _ _ (Or.inl (by omega))).trans (by rw [← hw2]; exact (e_up_ne _ _ (Or.inl (by omega))).trans (e_Has.eq hT rfl)))) (by omega) ?_
    refine e_Ok.run (t' := (75, [(0, (1, 275)), (1, (0, y)), (2, (0, b))], [(1, 275), (1, 276)], w13)) 1 rfl ?_
    refine e_Ok.getf (z := 1260 * t + 416) rfl (el_o rfl) rfl rfl (by rw [← hw13]; exact (e_up_ne _ _ (Or.inl (by omega))).trans (by rw [← hw6]; exact (e_up_ne _ _ (Or.inl (by omega))).trans (by rw [← hw2]; exact (e_up_ne _ _ (Or.inl (by omega))).trans h97))) (by omega) ?_
    refine e_Ok.run (t' := (80, [(0, (1, 275)), (1, (0, y)), (2, (0, b))], [(0, 14), (0, 1260 * t + 416), (1, 276)], w13)) 1 rfl ?_
    refine e_Ok.add (z := 1260 * t + 430) rfl (by omega) (by omega) ?_
    refine e_Ok.run (t' := (82, [(0, (1, 275)), (1, (0, y)), (2, (0, b))], [(0, 1260 * t + 430), (1, 276), (0, 1260 * t + 430), (1, 276)], w13)) 1 rfl ?_
    have h16 := (e_Has.get hT (c := 276) (k := 1260 * t + 430) (lo := (-2147483648)) (hi := 2147483647) (nR_IN_WATCH (t := t) (by omega)) (by decide))
    refine e_Ok.ald (z := w 276 (1260 * t + 430)) rfl (el_o rfl) rfl (by omega) (by rw [← hw13]; exact (e_up_ne _ _ (Or.inr (by omega))).trans (by rw [← hw6]; exact (e_up_ne _ _ (Or.inr (by omega))).trans (by rw [← hw2]; exact (e_up_ne _ _ (Or.inr (by omega))).trans rfl))) (by omega) ?_
    refine e_Ok.run (t' := (84, [(0, (1, 275)), (1, (0, y)), (2, (0, b))], [(0, b), (0, w 276 (1260 * t + 430)), (0, 1260 * t + 430), (1, 276)], w13)) 1 rfl ?_
    refine e_Ok.any rfl (eF_add_any _ _) (fun z17 z17a z17b => ?_)
    refine e_Ok.ast rfl (el_o rfl) rfl rfl (by omega) ?_
    generalize hw18 : e_up w13 276 (1260 * t + 430) z17 = w18
    have f19 : e_fr (mLv t) w w18 := e_fr.up f14 hw18 (by unfold mLv; omega)
    have hT20 : e_Has mTy w18 := e_Has.upr hT15 hw18 (nR_IN_WATCH (t := t) (by omega)) (by omega)
    refine e_Ok.rets rfl rfl ?_
    have e21 : w18 276 5 = w 276 5 := (by rw [← hw18]; exact (e_up_ne _ _ (Or.inr (by omega))).trans (by rw [← hw13]; exact (e_up_ne _ _ (Or.inr (by omega))).trans (by rw [← hw6]; exact (e_up_ne _ _ (Or.inr (by omega))).trans (by rw [← hw2]; exact (e_up_ne _ _ (Or.inr (by omega))).trans rfl))))
    have hpu := topOk.push (w' := w18) (b := b) (q := y) hC hP (by omega) hb0 hb1 hy (fun c k q1 q2 => (by rw [← hw18]; exact (e_up_ne _ _ (Or.inl (by omega))).trans (by rw [← hw13]; exact (e_up_ne _ _ (Or.inl (by omega))).trans (by rw [← hw6]; exact (e_up_ne _ _ (Or.inl (by omega))).trans (by rw [← hw2]; exact (e_up_ne _ _ (Or.inl (by omega))).trans rfl))))) (fun i q1 q2 => ⟨(by rw [← hw18]; exact (e_up_ne _ _ (Or.inr (by omega))).trans (by rw [← hw13]; exact (e_up_ne _ _ (Or.inr (by omega))).trans (by rw [← hw6]; exact (e_up_ne _ _ (Or.inr (by omega))).trans (by rw [← hw2]; exact (e_up_ne _ _ (Or.inr (by omega))).trans rfl)))), (by rw [← hw18]; exact (e_up_ne _ _ (Or.inr (by omega))).trans (by rw [← hw13]; exact (e_up_ne _ _ (Or.inr (by omega))).trans (by rw [← hw6]; exact (e_up_ne _ _ (Or.inr (by omega))).trans (by rw [← hw2]; exact (e_up_ne _ _ (Or.inr (by omega))).trans rfl))))⟩) (by rw [← hw18]; exact (e_up_ne _ _ (Or.inr (by omega))).trans (by rw [← hw13]; exact (e_up_ne _ _ (Or.inr (by omega))).trans (by rw [← hw6]; exact (e_up_ne _ _ (Or.inr (by omega))).trans (by rw [← hw2]; exact (e_up_ne _ _ (Or.inr (by omega))).trans hpc)))) (by rw [← hw18]; exact (e_up_ne _ _ (Or.inr (by omega))).trans (by rw [← hw13]; exact e_up_eq _ _ _ _)) (by rw [← hw18]; exact (e_up_ne _ _ (Or.inr (by omega))).trans (by rw [← hw13]; exact (e_up_ne _ _ (Or.inr (by omega))).trans (by rw [← hw6]; exact e_up_eq _ _ _ _))) (by rw [← hw18]; exact (e_up_ne _ _ (Or.inr (by omega))).trans (by rw [← hw13]; exact (e_up_ne _ _ (Or.inr (by omega))).trans (by rw [← hw6]; exact (e_up_ne _ _ (Or.inr (by omega))).trans (by rw [← hw2]; exact e_up_eq _ _ _ _)))) (by rw [← hw18]; exact (e_up_ne _ _ (Or.inr (by omega))).trans (by rw [← hw13]; exact (e_up_ne _ _ (Or.inr (by omega))).trans (by rw [← hw6]; exact (e_up_ne _ _ (Or.inr (by omega))).trans (by rw [← hw2]; exact (e_up_ne _ _ (Or.inr (by omega))).trans rfl)))) (fun k q1 q2 => (by rw [← hw18]; exact (e_up_ne _ _ (Or.inr (by omega))).trans (by rw [← hw13]; exact (e_up_ne _ _ (Or.inr (by omega))).trans (by rw [← hw6]; exact (e_up_ne _ _ (Or.inr (by omega))).trans (by rw [← hw2]; exact (e_up_ne _ _ (Or.inr (by omega))).trans rfl)))))
    exact ⟨rfl, ⟨f19, (sRel.up (sRel.up (sRel.up (sRel.up sRel.refl hw2 (fun q b g1 g2 => by omega)) hw6 (fun q b g1 g2 => by omega)) hw13 (fun q b g1 g2 => by omega)) hw18 (fun q b g1 g2 => by omega))⟩, hT20, by omega, Or.inr ⟨(by rw [← hw18]; exact (e_up_ne _ _ (Or.inl (by omega))).trans (by rw [← hw13]; exact (e_up_ne _ _ (Or.inl (by omega))).trans (by rw [← hw6]; exact (e_up_ne _ _ (Or.inl (by omega))).trans (by rw [← hw2]; exact (e_up_ne _ _ (Or.inl (by omega))).trans rfl)))), (by rw [← hw18]; exact (e_up_ne _ _ (Or.inl (by omega))).trans (by rw [← hw13]; exact (e_up_ne _ _ (Or.inl (by omega))).trans (by rw [← hw6]; exact (e_up_ne _ _ (Or.inl (by omega))).trans (by rw [← hw2]; exact (e_up_ne _ _ (Or.inl (by omega))).trans rfl)))), (by rw [← hw18]; exact (e_up_ne _ _ (Or.inr (by omega))).trans (by rw [← hw13]; exact (e_up_ne _ _ (Or.inr (by omega))).trans (by rw [← hw6]; exact (e_up_ne _ _ (Or.inr (by omega))).trans (by rw [← hw2]; exact (e_up_ne _ _ (Or.inr (by omega))).trans rfl)))), by omega, by omega, _, _, _, hpu⟩⟩
  · replace h1 : (g + 1 : Int) = 20 := by have q : ¬ ((g + 1 : Int) ≠ 20) := h1; omega
    refine e_Ok.run (t' := (20, [(0, (1, 275)), (1, (0, y)), (2, (0, b))], [(0, 8), (1, 275)], w)) 2 rfl ?_
    refine e_Ok.callV rfl (by omega) rfl rfl rfl rfl (c_369 (by omega) hT (by omega) (by omega) h96 h97 h98 hC hP (by omega) (by omega)) (fun r22 w23 h24 => ?_)
    obtain ⟨rfl, ⟨q25, q25S⟩, q25T, q25n, q25d, q25c⟩ := h24
    have f26 : e_fr (mLv t) w w23 := e_fr.trans (e_fr.refl w) (e_fr.mono q25 (fun c k q => by exact q))
    show e_Ok 20 elay ecode eI (d + 1) 367 (23, [(0, (1, 275)), (1, (0, y)), (2, (0, b))], [], w23) _
    refine e_Ok.rets rfl rfl ?_
    exact ⟨rfl, ⟨f26, (sRel.trans sRel.refl q25S)⟩, q25T, by omega, Or.inl ⟨q25d, q25c⟩⟩
end
