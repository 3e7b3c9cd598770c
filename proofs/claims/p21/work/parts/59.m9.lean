noncomputable section
theorem no_59_0 {k : Int} : ¬ mE 275 k := by unfold mE; omega
theorem no_59_1 : ¬ mLk 276 5 := by unfold mLk; omega
theorem no_59_2 {t : Int} (ht : 0 ≤ t ∧ t ≤ 15) : ¬ mLk 276 (1260 * t + 416) := by unfold mLk; omega
theorem no_59_3 {t : Int} (ht : 0 ≤ t ∧ t ≤ 15) : ¬ mE 276 (1260 * t + 416) := by unfold mE; omega
theorem no_59_4 {k : Int} : ¬ mLk 275 k := by unfold mLk; omega
theorem no_59_5 {t : Int} (ht : 0 ≤ t ∧ t ≤ 15) : ¬ mBr 276 (1260 * t + 416) := by unfold mBr; omega
theorem no_59_6 {k : Int} : ¬ mBr 275 k := by unfold mBr; omega
theorem su_59_7 {t : Int} {c k : Int} (q : mE c k) : mLv t c k := by
  unfold mE at q
  rcases q with ⟨q, (q | q)⟩
  · exact Or.inr ⟨(by omega), Or.inl (by omega)⟩
  · exact Or.inr ⟨(by omega), Or.inr (Or.inl (by omega))⟩
theorem su_59_8 {t : Int} {c k : Int} (q : mLk c k) : mLv t c k := by
  unfold mLk at q
  rcases q with ⟨q, ⟨q, q⟩⟩
  · exact Or.inr ⟨(by omega), Or.inr (Or.inr (Or.inl ⟨(by omega), (by omega)⟩))⟩
theorem su_59_9 {t : Int} {c k : Int} (q : mBr c k) : mLv t c k := by
  unfold mBr at q
  rcases q with ⟨q, (q | q | ⟨q, (⟨q, (q | q)⟩)⟩ | ⟨q, ⟨q, q⟩⟩ | ⟨q, ⟨q, q⟩⟩)⟩
  · exact Or.inr ⟨(by omega), Or.inl (by omega)⟩
  · exact Or.inr ⟨(by omega), Or.inr (Or.inl (by omega))⟩
  · exact Or.inr ⟨(by omega), Or.inr (Or.inr (Or.inr (Or.inl ⟨(by omega), ⟨(by omega), Or.inr (Or.inr (Or.inl (by omega)))⟩⟩)))⟩
  · unfold mLv; omega
  · exact Or.inr ⟨(by omega), Or.inr (Or.inr (Or.inr (Or.inr (Or.inl ⟨(by omega), ⟨(by omega), (by omega)⟩⟩))))⟩
  · exact Or.inr ⟨(by omega), Or.inr (Or.inr (Or.inr (Or.inl ⟨(by omega), ⟨(by omega), Or.inl (by omega)⟩⟩)))⟩
set_option maxHeartbeats 4000000 in
theorem c_372 {d : Nat} (hd : 25 ≤ d) {w : eW} (hT : e_Has mTy w) {t a g : Int} (ht : 0 ≤ t ∧ t ≤ 15) (ha : 0 ≤ a ∧ a ≤ 3) (h96 : w 275 96 = t) (h97 : w 275 97 = 1260 * t + 416) (h98 : w 275 98 = a) {n nt nw : Int} {dl sg pi en : Int → Int} {an br : Int → Int → Prop} {bs ow : Int → Int} (hC : cOk w a n nt nw dl sg pi en an br) (hR : runOk w a t g (-1) n nt nw dl sg pi an br bs ow) (hE : w 276 5 ≤ 2147483600) {x y : Int} (hy : -2147483648 ≤ y ∧ y ≤ 2147483647) : e_Ok 20 elay ecode eI d 372 (0, [(0, (1, 275)), (1, (0, x)), (2, (0, y))], [], w) (fun r w' => ∃ z : Int, r = [(0, z)] ∧ (e_fr (mLv t) w w' ∧ sRel w w') ∧ e_Has mTy w' ∧ (w 276 5 ≤ w' 276 5 ∧ w' 276 5 ≤ w 276 5 + 2) ∧ w' 275 102 = w 275 102 ∧ ((1 ≤ g ∧ x = 1 ∧ z = w 330 (10000 * a + w 276 (1260 * t + 2 * g + 434)) ∧ runOk w' a t (g - 1) z n nt nw dl sg pi an br bs ow ∧ w' 275 100 = w 275 100 ∧ w' 276 5 = w 276 5 ∧ w' 276 (1260 * t + 416) = w 276 (1260 * t + 416)) ∨ (1 ≤ g ∧ x ≠ 1 ∧ z = -2 ∧ ∃ p, topOk w' a t (g - 1) p n nt nw dl sg pi an br bs ow ∧ dl p = 0 ∧ sg p = 0 ∧ w' 275 100 = w 275 100 ∧ w' 276 5 = w 276 5 ∧ w' 276 (1260 * t + 416) = w 276 (1260 * t + 416)) ∨ (g = 0 ∧ z = -2 ∧ w' 275 100 = 1 ∧ (w' 276 (1260 * t + 416) = 6 ∨ w' 276 (1260 * t + 416) = 7)))) := by
  obtain ⟨d, rfl⟩ : ∃ e, d = e + 1 := ⟨d - 1, by omega⟩
  obtain ⟨hg, hF, hlow, -, hPn, -, -⟩ := id hR
  refine e_Ok.run (t' := (1, [(0, (1, 275)), (1, (0, x)), (2, (0, y))], [(1, 275)], w)) 1 rfl ?_
  refine e_Ok.getr (z := 276) rfl (el_o rfl) rfl rfl (e_Has.eq hT rfl) (by omega) ?_
  refine e_Ok.run (t' := (5, [(0, (1, 275)), (1, (0, x)), (2, (0, y))], [(1, 275), (1, 276)], w)) 1 rfl ?_
  refine e_Ok.callV rfl (by omega) rfl rfl rfl rfl (c_362 hT (by omega) h97 (f := g + 1) (z := 1260 * t + 2 * g + 436) hF (by omega) (by omega)) (fun r1 w2 h3 => ?_)
  obtain ⟨rfl, rfl⟩ := h3
  show e_Ok 20 elay ecode eI (d + 1) 372 (8, [(0, (1, 275)), (1, (0, x)), (2, (0, y))], [(0, 1260 * t + 2 * g + 436), (1, 276)], w) _
  refine e_Ok.run (t' := (9, [(0, (1, 275)), (1, (0, x)), (2, (0, y))], [(0, 1), (0, 1260 * t + 2 * g + 436), (1, 276)], w)) 1 rfl ?_
  refine e_Ok.add (z := 1260 * t + 2 * g + 437) rfl (by omega) (by omega) ?_
  have h4 := (e_Has.get hT (c := 276) (k := 1260 * t + 2 * g + 437) (lo := 0) (hi := 1) (nR_FRWg t (g) (by omega) (by omega) (by omega)) (by decide))
  refine e_Ok.ald (z := w 276 (1260 * t + 2 * g + 437)) rfl (el_o rfl) rfl (by omega) rfl (by omega) ?_
  refine e_Ok.run (t' := (12, [(0, (1, 275)), (1, (0, x)), (2, (0, y))], [(0, 1), (0, w 276 (1260 * t + 2 * g + 437))], w)) 1 rfl ?_
  refine e_Ok.if2 rfl (fun h5 => ?_) (fun h5 => ?_)
  · replace h5 : (w 276 (1260 * t + 2 * g + 437) : Int) ≠ 1 := h5
    refine e_Ok.run (t' := (22, [(3, (0, 0)), (0, (1, 275)), (1, (0, x)), (2, (0, y))], [(1, 275)], w)) 3 rfl ?_
    refine e_Ok.getr (z := 276) rfl (el_o rfl) rfl rfl (e_Has.eq hT rfl) (by omega) ?_
    refine e_Ok.run (t' := (26, [(3, (0, 0)), (0, (1, 275)), (1, (0, x)), (2, (0, y))], [(1, 275), (1, 276)], w)) 1 rfl ?_
    refine e_Ok.getf (z := 1260 * t + 416) rfl (el_o rfl) rfl rfl h97 (by omega) ?_
    refine e_Ok.run (t' := (31, [(3, (0, 0)), (0, (1, 275)), (1, (0, x)), (2, (0, y))], [(0, 12), (0, 1260 * t + 416), (1, 276)], w)) 1 rfl ?_
    refine e_Ok.add (z := 1260 * t + 428) rfl (by omega) (by omega) ?_
    refine e_Ok.run (t' := (33, [(3, (0, 0)), (0, (1, 275)), (1, (0, x)), (2, (0, y))], [(0, 1260 * t + 428), (1, 276), (0, 1260 * t + 428), (1, 276)], w)) 1 rfl ?_
    refine e_Ok.ald (z := g + 1) rfl (el_o rfl) rfl (by omega) hF (by omega) ?_
    refine e_Ok.run (t' := (35, [(3, (0, 0)), (0, (1, 275)), (1, (0, x)), (2, (0, y))], [(0, 1), (0, g + 1), (0, 1260 * t + 428), (1, 276)], w)) 1 rfl ?_
    refine e_Ok.sub' (z := g) rfl (by omega) (by omega) ?_
    refine e_Ok.ast rfl (el_o rfl) rfl rfl (by omega) ?_
    generalize hw6 : e_up w 276 (1260 * t + 428) g = w6
    have f7 : e_fr (mLv t) w w6 := e_fr.up (e_fr.refl w) hw6 (by unfold mLv; omega)
    have hT8 : e_Has mTy w6 := e_Has.upr hT hw6 (nR_FRAMES (t := t) (by omega)) (by omega)
    refine e_Ok.run (t' := (38, [(3, (0, 0)), (0, (1, 275)), (1, (0, x)), (2, (0, y))], [(1, 275)], w6)) 1 rfl ?_
    refine e_Ok.getr (z := 276) rfl (el_o rfl) rfl rfl (by rw [← hw6]; exact (e_up_ne _ _ (Or.inl (by omega))).trans (e_Has.eq hT rfl)) (by omega) ?_
    refine e_Ok.run (t' := (42, [(3, (0, 0)), (0, (1, 275)), (1, (0, x)), (2, (0, y))], [(1, 275), (1, 276)], w6)) 1 rfl ?_
    refine e_Ok.getf (z := 1260 * t + 416) rfl (el_o rfl) rfl rfl (by rw [← hw6]; exact (e_up_ne _ _ (Or.inl (by omega))).trans h97) (by omega) ?_
    refine e_Ok.run (t' := (47, [(3, (0, 0)), (0, (1, 275)), (1, (0, x)), (2, (0, y))], [(0, 14), (0, 1260 * t + 416), (1, 276)], w6)) 1 rfl ?_
    refine e_Ok.add (z := 1260 * t + 430) rfl (by omega) (by omega) ?_
    refine e_Ok.run (t' := (49, [(3, (0, 0)), (0, (1, 275)), (1, (0, x)), (2, (0, y))], [(0, 1260 * t + 430), (1, 276), (0, 1260 * t + 430), (1, 276)], w6)) 1 rfl ?_
    have h9 := (e_Has.get hT (c := 276) (k := 1260 * t + 430) (lo := (-2147483648)) (hi := 2147483647) (nR_IN_WATCH (t := t) (by omega)) (by decide))
    refine e_Ok.ald (z := w 276 (1260 * t + 430)) rfl (el_o rfl) rfl (by omega) (by rw [← hw6]; exact (e_up_ne _ _ (Or.inr (by omega))).trans rfl) (by omega) ?_
    refine e_Ok.run (t' := (51, [(3, (0, 0)), (0, (1, 275)), (1, (0, x)), (2, (0, y))], [(0, 0), (0, w 276 (1260 * t + 430)), (0, 1260 * t + 430), (1, 276)], w6)) 1 rfl ?_
    refine e_Ok.if1 rfl (fun h10 => ?_) (fun h10 => ?_)
    · replace h10 : (0 : Int) = 0 := h10
      refine e_Ok.run (t' := (59, [(3, (0, 0)), (0, (1, 275)), (1, (0, x)), (2, (0, y))], [(0, 0), (0, w 276 (1260 * t + 430)), (0, 1260 * t + 430), (1, 276)], w6)) 1 rfl ?_
      refine e_Ok.sub' (z := w 276 (1260 * t + 430)) rfl (by omega) (by omega) ?_
      refine e_Ok.ast rfl (el_o rfl) rfl rfl (by omega) ?_
      generalize hw11 : e_up w6 276 (1260 * t + 430) (w 276 (1260 * t + 430)) = w11
      have f12 : e_fr (mLv t) w w11 := e_fr.up f7 hw11 (by unfold mLv; omega)
      have hT13 : e_Has mTy w11 := e_Has.upr hT8 hw11 (nR_IN_WATCH (t := t) (by omega)) (by omega)
      refine e_Ok.run (t' := (62, [(3, (0, 0)), (0, (1, 275)), (1, (0, x)), (2, (0, y))], [(1, 275)], w11)) 1 rfl ?_
      refine e_Ok.getr (z := 276) rfl (el_o rfl) rfl rfl (by rw [← hw11]; exact (e_up_ne _ _ (Or.inl (by omega))).trans (by rw [← hw6]; exact (e_up_ne _ _ (Or.inl (by omega))).trans (e_Has.eq hT rfl))) (by omega) ?_
      refine e_Ok.run (t' := (66, [(3, (0, 0)), (0, (1, 275)), (1, (0, x)), (2, (0, y))], [(1, 275), (1, 276)], w11)) 1 rfl ?_
      refine e_Ok.getf (z := 1260 * t + 416) rfl (el_o rfl) rfl rfl (by rw [← hw11]; exact (e_up_ne _ _ (Or.inl (by omega))).trans (by rw [← hw6]; exact (e_up_ne _ _ (Or.inl (by omega))).trans h97)) (by omega) ?_
      refine e_Ok.run (t' := (71, [(3, (0, 0)), (0, (1, 275)), (1, (0, x)), (2, (0, y))], [(0, 12), (0, 1260 * t + 416), (1, 276)], w11)) 1 rfl ?_
      refine e_Ok.add (z := 1260 * t + 428) rfl (by omega) (by omega) ?_
      refine e_Ok.ald (z := g) rfl (el_o rfl) rfl (by omega) (by rw [← hw11]; exact (e_up_ne _ _ (Or.inr (by omega))).trans (by rw [← hw6]; exact e_up_eq _ _ _ _)) (by omega) ?_
      refine e_Ok.if1 rfl (fun h14 => ?_) (fun h14 => ?_)
      · replace h14 : (g : Int) ≤ 0 := h14
        refine e_Ok.run (t' := (133, [(3, (0, 0)), (0, (1, 275)), (1, (0, x)), (2, (0, y))], [(0, 1), (1, 275)], w11)) 2 rfl ?_
        refine e_Ok.putb rfl (el_o rfl) rfl rfl (by omega) ?_
        generalize hw15 : e_up w11 275 100 1 = w15
        have f16 : e_fr (mLv t) w w15 := e_fr.up f12 hw15 (by unfold mLv; omega)
        have hT17 : e_Has mTy w15 := e_Has.ups hT13 hw15 rfl
        refine e_Ok.run (t' := (138, [(3, (0, 0)), (0, (1, 275)), (1, (0, x)), (2, (0, y))], [(0, 1), (0, x)], w15)) 2 rfl ?_
        refine e_Ok.if2 rfl (fun h18 => ?_) (fun h18 => ?_)
        · replace h18 : (x : Int) ≠ 1 := h18
          refine e_Ok.run (t' := (212, [(3, (0, 0)), (0, (1, 275)), (1, (0, x)), (2, (0, y))], [(1, 275)], w15)) 1 rfl ?_
          refine e_Ok.getr (z := 276) rfl (el_o rfl) rfl rfl (by rw [← hw15]; exact (e_up_ne _ _ (Or.inr (by omega))).trans (by rw [← hw11]; exact (e_up_ne _ _ (Or.inl (by omega))).trans (by rw [← hw6]; exact (e_up_ne _ _ (Or.inl (by omega))).trans (e_Has.eq hT rfl)))) (by omega) ?_
          refine e_Ok.run (t' := (216, [(3, (0, 0)), (0, (1, 275)), (1, (0, x)), (2, (0, y))], [(1, 275), (1, 276)], w15)) 1 rfl ?_
          refine e_Ok.getf (z := 1260 * t + 416) rfl (el_o rfl) rfl rfl (by rw [← hw15]; exact (e_up_ne _ _ (Or.inr (by omega))).trans (by rw [← hw11]; exact (e_up_ne _ _ (Or.inl (by omega))).trans (by rw [← hw6]; exact (e_up_ne _ _ (Or.inl (by omega))).trans h97))) (by omega) ?_
          refine e_Ok.run (t' := (221, [(3, (0, 0)), (0, (1, 275)), (1, (0, x)), (2, (0, y))], [(0, 6), (0, 1260 * t + 416), (1, 276)], w15)) 1 rfl ?_
          refine e_Ok.ast rfl (el_o rfl) rfl rfl (by omega) ?_
          generalize hw19 : e_up w15 276 (1260 * t + 416) 6 = w19
          have f20 : e_fr (mLv t) w w19 := e_fr.up f16 hw19 (by unfold mLv; omega)
          have hT21 : e_Has mTy w19 := e_Has.upr hT17 hw19 (nR_TSTATE (t := t) (by omega)) (by omega)
          refine e_Ok.run (t' := (225, [(3, (0, 0)), (0, (1, 275)), (1, (0, x)), (2, (0, y))], [(1, 275), (0, 4), (1, 275)], w19)) 3 rfl ?_
          refine e_Ok.getf (z := t) rfl (el_o rfl) rfl rfl (by rw [← hw19]; exact (e_up_ne _ _ (Or.inl (by omega))).trans (by rw [← hw15]; exact (e_up_ne _ _ (Or.inr (by omega))).trans (by rw [← hw11]; exact (e_up_ne _ _ (Or.inl (by omega))).trans (by rw [← hw6]; exact (e_up_ne _ _ (Or.inl (by omega))).trans h96)))) (by omega) ?_
          refine e_Ok.run (t' := (229, [(3, (0, 0)), (0, (1, 275)), (1, (0, x)), (2, (0, y))], [(0, 0), (0, t), (0, 4), (1, 275)], w19)) 1 rfl ?_
          have e25 : w19 276 5 = w 276 5 := (by rw [← hw19]; exact (e_up_ne _ _ (Or.inr (by omega))).trans (by rw [← hw15]; exact (e_up_ne _ _ (Or.inl (by omega))).trans (by rw [← hw11]; exact (e_up_ne _ _ (Or.inr (by omega))).trans (by rw [← hw6]; exact (e_up_ne _ _ (Or.inr (by omega))).trans rfl))))
          refine e_Ok.callV rfl (by omega) rfl rfl rfl rfl (c_319 hT21 (by omega) (by omega) (by omega) (by omega)) (fun r22 w23 h24 => ?_)
          obtain ⟨rfl, q26, q26T, q26n⟩ := h24
          have f27 : e_fr (mLv t) w w23 := e_fr.trans f20 (e_fr.mono q26 (fun c k q => by first | exact su_59_7 q | (unfold mE at q; unfold mLv; omega)))
          show e_Ok 20 elay ecode eI (d + 1) 372 (232, [(3, (0, 0)), (0, (1, 275)), (1, (0, x)), (2, (0, y))], [], w23) _
          refine e_Ok.run (t' := (234, [(3, (0, 0)), (0, (1, 275)), (1, (0, x)), (2, (0, y))], [(1, 275), (1, 275)], w23)) 2 rfl ?_
          refine e_Ok.getf (z := t) rfl (el_o rfl) rfl rfl ((q26 275 96 no_59_0).trans (by rw [← hw19]; exact (e_up_ne _ _ (Or.inl (by omega))).trans (by rw [← hw15]; exact (e_up_ne _ _ (Or.inr (by omega))).trans (by rw [← hw11]; exact (e_up_ne _ _ (Or.inl (by omega))).trans (by rw [← hw6]; exact (e_up_ne _ _ (Or.inl (by omega))).trans h96))))) (by omega) ?_
          refine e_Ok.callV rfl (by omega) rfl rfl rfl rfl (c_361 (by omega) q26T) (fun r28 w29 h30 => ?_)
          obtain ⟨rfl, q31, q31T⟩ := h30
          have f32 : e_fr (mLv t) w w29 := e_fr.trans f27 (e_fr.mono q31 (fun c k q => by first | exact su_59_8 q | (unfold mLk at q; unfold mLv; omega)))
          show e_Ok 20 elay ecode eI (d + 1) 372 (240, [(3, (0, 0)), (0, (1, 275)), (1, (0, x)), (2, (0, y))], [], w29) _
          refine e_Ok.run (t' := (242, [(3, (0, 0)), (0, (1, 275)), (1, (0, x)), (2, (0, y))], [(0, (-2))], w29)) 1 rfl ?_
          refine e_Ok.rets rfl rfl ?_
          have e33 : w29 276 5 = w23 276 5 := ((q31 276 5 no_59_1).trans rfl)
          have est : w29 276 (1260 * t + 416) = 6 := ((q31 276 (1260 * t + 416) (by first | exact no_59_2 (by omega) | (unfold mLk; omega))).trans ((q26 276 (1260 * t + 416) (by first | exact no_59_3 (by omega) | (unfold mE; omega))).trans (by rw [← hw19]; exact e_up_eq _ _ _ _)))
          exact ⟨_, rfl, ⟨f32, (sRel.fr (sRel.fr (sRel.up (sRel.up (sRel.up (sRel.up sRel.refl hw6 (fun q b g1 g2 => by omega)) hw11 (fun q b g1 g2 => by omega)) hw15 (fun q b g1 g2 => by omega)) hw19 (fun q b g1 g2 => by omega)) q26 (fun b g1 g2 => by unfold mE; omega)) q31 (fun b g1 g2 => by unfold mLk; omega))⟩, q31T, by omega, ((q31 275 102 no_59_4).trans ((q26 275 102 no_59_0).trans (by rw [← hw19]; exact (e_up_ne _ _ (Or.inl (by omega))).trans (by rw [← hw15]; exact (e_up_ne _ _ (Or.inr (by omega))).trans (by rw [← hw11]; exact (e_up_ne _ _ (Or.inl (by omega))).trans (by rw [← hw6]; exact (e_up_ne _ _ (Or.inl (by omega))).trans rfl)))))), Or.inr (Or.inr ⟨by omega, rfl, ((q31 275 100 no_59_4).trans ((q26 275 100 no_59_0).trans (by rw [← hw19]; exact (e_up_ne _ _ (Or.inl (by omega))).trans (by rw [← hw15]; exact e_up_eq _ _ _ _)))), by omega⟩)⟩
        · replace h18 : (x : Int) = 1 := by have q : ¬ ((x : Int) ≠ 1) := h18; omega
          refine e_Ok.run (t' := (142, [(3, (0, 0)), (0, (1, 275)), (1, (0, x)), (2, (0, y))], [(1, 275)], w15)) 1 rfl ?_
          refine e_Ok.getr (z := 276) rfl (el_o rfl) rfl rfl (by rw [← hw15]; exact (e_up_ne _ _ (Or.inr (by omega))).trans (by rw [← hw11]; exact (e_up_ne _ _ (Or.inl (by omega))).trans (by rw [← hw6]; exact (e_up_ne _ _ (Or.inl (by omega))).trans (e_Has.eq hT rfl)))) (by omega) ?_
          refine e_Ok.run (t' := (146, [(3, (0, 0)), (0, (1, 275)), (1, (0, x)), (2, (0, y))], [(1, 275), (1, 276)], w15)) 1 rfl ?_
          refine e_Ok.getf (z := 1260 * t + 416) rfl (el_o rfl) rfl rfl (by rw [← hw15]; exact (e_up_ne _ _ (Or.inr (by omega))).trans (by rw [← hw11]; exact (e_up_ne _ _ (Or.inl (by omega))).trans (by rw [← hw6]; exact (e_up_ne _ _ (Or.inl (by omega))).trans h97))) (by omega) ?_
          refine e_Ok.run (t' := (151, [(3, (0, 0)), (0, (1, 275)), (1, (0, x)), (2, (0, y))], [(0, 7), (0, 1260 * t + 416), (1, 276)], w15)) 1 rfl ?_
          refine e_Ok.ast rfl (el_o rfl) rfl rfl (by omega) ?_
          generalize hw34 : e_up w15 276 (1260 * t + 416) 7 = w34
          have f35 : e_fr (mLv t) w w34 := e_fr.up f16 hw34 (by unfold mLv; omega)
          have hT36 : e_Has mTy w34 := e_Has.upr hT17 hw34 (nR_TSTATE (t := t) (by omega)) (by omega)
          refine e_Ok.run (t' := (153, [(3, (0, 0)), (0, (1, 275)), (1, (0, x)), (2, (0, y))], [(1, 275)], w34)) 1 rfl ?_
          refine e_Ok.getr (z := 276) rfl (el_o rfl) rfl rfl (by rw [← hw34]; exact (e_up_ne _ _ (Or.inl (by omega))).trans (by rw [← hw15]; exact (e_up_ne _ _ (Or.inr (by omega))).trans (by rw [← hw11]; exact (e_up_ne _ _ (Or.inl (by omega))).trans (by rw [← hw6]; exact (e_up_ne _ _ (Or.inl (by omega))).trans (e_Has.eq hT rfl))))) (by omega) ?_
          refine e_Ok.run (t' := (157, [(3, (0, 0)), (0, (1, 275)), (1, (0, x)), (2, (0, y))], [(1, 275), (1, 276)], w34)) 1 rfl ?_
          refine e_Ok.getf (z := 1260 * t + 416) rfl (el_o rfl) rfl rfl (by rw [← hw34]; exact (e_up_ne _ _ (Or.inl (by omega))).trans (by rw [← hw15]; exact (e_up_ne _ _ (Or.inr (by omega))).trans (by rw [← hw11]; exact (e_up_ne _ _ (Or.inl (by omega))).trans (by rw [← hw6]; exact (e_up_ne _ _ (Or.inl (by omega))).trans h97)))) (by omega) ?_
          refine e_Ok.run (t' := (161, [(3, (0, 0)), (0, (1, 275)), (1, (0, x)), (2, (0, y))], [(0, 2), (0, 1260 * t + 416), (1, 276)], w34)) 1 rfl ?_
          refine e_Ok.add (z := 1260 * t + 418) rfl (by omega) (by omega) ?_
          refine e_Ok.run (t' := (163, [(3, (0, 0)), (0, (1, 275)), (1, (0, x)), (2, (0, y))], [(0, y), (0, 1260 * t + 418), (1, 276)], w34)) 1 rfl ?_
          refine e_Ok.ast rfl (el_o rfl) rfl rfl (by omega) ?_
          generalize hw37 : e_up w34 276 (1260 * t + 418) y = w37
          have f38 : e_fr (mLv t) w w37 := e_fr.up f35 hw37 (by unfold mLv; omega)
          have hT39 : e_Has mTy w37 := e_Has.upr hT36 hw37 (nR_FAULT (t := t) (by omega)) (by omega)
          refine e_Ok.run (t' := (165, [(3, (0, 0)), (0, (1, 275)), (1, (0, x)), (2, (0, y))], [(1, 275)], w37)) 1 rfl ?_
          refine e_Ok.getr (z := 276) rfl (el_o rfl) rfl rfl (by rw [← hw37]; exact (e_up_ne _ _ (Or.inl (by omega))).trans (by rw [← hw34]; exact (e_up_ne _ _ (Or.inl (by omega))).trans (by rw [← hw15]; exact (e_up_ne _ _ (Or.inr (by omega))).trans (by rw [← hw11]; exact (e_up_ne _ _ (Or.inl (by omega))).trans (by rw [← hw6]; exact (e_up_ne _ _ (Or.inl (by omega))).trans (e_Has.eq hT rfl)))))) (by omega) ?_
          refine e_Ok.run (t' := (169, [(3, (0, 0)), (0, (1, 275)), (1, (0, x)), (2, (0, y))], [(1, 275), (1, 276)], w37)) 1 rfl ?_
          refine e_Ok.getf (z := a) rfl (el_o rfl) rfl rfl (by rw [← hw37]; exact (e_up_ne _ _ (Or.inl (by omega))).trans (by rw [← hw34]; exact (e_up_ne _ _ (Or.inl (by omega))).trans (by rw [← hw15]; exact (e_up_ne _ _ (Or.inr (by omega))).trans (by rw [← hw11]; exact (e_up_ne _ _ (Or.inl (by omega))).trans (by rw [← hw6]; exact (e_up_ne _ _ (Or.inl (by omega))).trans h98))))) (by omega) ?_
          refine e_Ok.callS rfl (by omega) rfl rfl (c_268 (by omega)) (fun r40 w41 h42 => ?_)
          obtain ⟨rfl, rfl⟩ := h42
          show e_Ok 20 elay ecode eI (d + 1) 372 (175, [(3, (0, 0)), (0, (1, 275)), (1, (0, x)), (2, (0, y))], [(0, 36 * a + 16), (1, 276)], w37) _
          refine e_Ok.run (t' := (176, [(3, (0, 0)), (0, (1, 275)), (1, (0, x)), (2, (0, y))], [(0, 2), (0, 36 * a + 16), (1, 276)], w37)) 1 rfl ?_
          refine e_Ok.add (z := 36 * a + 18) rfl (by omega) (by omega) ?_
          refine e_Ok.run (t' := (178, [(3, (0, 0)), (0, (1, 275)), (1, (0, x)), (2, (0, y))], [(1, 275), (0, 36 * a + 18), (1, 276)], w37)) 1 rfl ?_
          refine e_Ok.getf (z := t) rfl (el_o rfl) rfl rfl (by rw [← hw37]; exact (e_up_ne _ _ (Or.inl (by omega))).trans (by rw [← hw34]; exact (e_up_ne _ _ (Or.inl (by omega))).trans (by rw [← hw15]; exact (e_up_ne _ _ (Or.inr (by omega))).trans (by rw [← hw11]; exact (e_up_ne _ _ (Or.inl (by omega))).trans (by rw [← hw6]; exact (e_up_ne _ _ (Or.inl (by omega))).trans h96))))) (by omega) ?_
          refine e_Ok.ast rfl (el_o rfl) rfl rfl (by omega) ?_
          generalize hw43 : e_up w37 276 (36 * a + 18) t = w43
          have f44 : e_fr (mLv t) w w43 := e_fr.up f38 hw43 (by unfold mLv; omega)
          have hT45 : e_Has mTy w43 := e_Has.upr hT39 hw43 (nR_STUCK (a := a) (by omega)) (by omega)
          refine e_Ok.run (t' := (185, [(3, (0, 0)), (0, (1, 275)), (1, (0, x)), (2, (0, y))], [(1, 275), (0, 5), (1, 275)], w43)) 3 rfl ?_
          refine e_Ok.getf (z := t) rfl (el_o rfl) rfl rfl (by rw [← hw43]; exact (e_up_ne _ _ (Or.inl (by omega))).trans (by rw [← hw37]; exact (e_up_ne _ _ (Or.inl (by omega))).trans (by rw [← hw34]; exact (e_up_ne _ _ (Or.inl (by omega))).trans (by rw [← hw15]; exact (e_up_ne _ _ (Or.inr (by omega))).trans (by rw [← hw11]; exact (e_up_ne _ _ (Or.inl (by omega))).trans (by rw [← hw6]; exact (e_up_ne _ _ (Or.inl (by omega))).trans h96)))))) (by omega) ?_
          refine e_Ok.run (t' := (189, [(3, (0, 0)), (0, (1, 275)), (1, (0, x)), (2, (0, y))], [(0, y), (0, t), (0, 5), (1, 275)], w43)) 1 rfl ?_
          have e49 : w43 276 5 = w 276 5 := (by rw [← hw43]; exact (e_up_ne _ _ (Or.inr (by omega))).trans (by rw [← hw37]; exact (e_up_ne _ _ (Or.inr (by omega))).trans (by rw [← hw34]; exact (e_up_ne _ _ (Or.inr (by omega))).trans (by rw [← hw15]; exact (e_up_ne _ _ (Or.inl (by omega))).trans (by rw [← hw11]; exact (e_up_ne _ _ (Or.inr (by omega))).trans (by rw [← hw6]; exact (e_up_ne _ _ (Or.inr (by omega))).trans rfl))))))
          refine e_Ok.callV rfl (by omega) rfl rfl rfl rfl (c_319 hT45 (by omega) (by omega) (by omega) (by omega)) (fun r46 w47 h48 => ?_)
          obtain ⟨rfl, q50, q50T, q50n⟩ := h48
          have f51 : e_fr (mLv t) w w47 := e_fr.trans f44 (e_fr.mono q50 (fun c k q => by first | exact su_59_7 q | (unfold mE at q; unfold mLv; omega)))
          show e_Ok 20 elay ecode eI (d + 1) 372 (192, [(3, (0, 0)), (0, (1, 275)), (1, (0, x)), (2, (0, y))], [], w47) _
          refine e_Ok.run (t' := (194, [(3, (0, 0)), (0, (1, 275)), (1, (0, x)), (2, (0, y))], [(1, 275), (1, 275)], w47)) 2 rfl ?_
          refine e_Ok.getf (z := t) rfl (el_o rfl) rfl rfl ((q50 275 96 no_59_0).trans (by rw [← hw43]; exact (e_up_ne _ _ (Or.inl (by omega))).trans (by rw [← hw37]; exact (e_up_ne _ _ (Or.inl (by omega))).trans (by rw [← hw34]; exact (e_up_ne _ _ (Or.inl (by omega))).trans (by rw [← hw15]; exact (e_up_ne _ _ (Or.inr (by omega))).trans (by rw [← hw11]; exact (e_up_ne _ _ (Or.inl (by omega))).trans (by rw [← hw6]; exact (e_up_ne _ _ (Or.inl (by omega))).trans h96))))))) (by omega) ?_
          refine e_Ok.callV rfl (by omega) rfl rfl rfl rfl (c_361 (by omega) q50T) (fun r52 w53 h54 => ?_)
          obtain ⟨rfl, q55, q55T⟩ := h54
          have f56 : e_fr (mLv t) w w53 := e_fr.trans f51 (e_fr.mono q55 (fun c k q => by first | exact su_59_8 q | (unfold mLk at q; unfold mLv; omega)))
          show e_Ok 20 elay ecode eI (d + 1) 372 (200, [(3, (0, 0)), (0, (1, 275)), (1, (0, x)), (2, (0, y))], [], w53) _
          refine e_Ok.run (t' := (202, [(3, (0, 0)), (0, (1, 275)), (1, (0, x)), (2, (0, y))], [(1, 275), (1, 275)], w53)) 2 rfl ?_
          refine e_Ok.getf (z := a) rfl (el_o rfl) rfl rfl ((q55 275 98 no_59_4).trans ((q50 275 98 no_59_0).trans (by rw [← hw43]; exact (e_up_ne _ _ (Or.inl (by omega))).trans (by rw [← hw37]; exact (e_up_ne _ _ (Or.inl (by omega))).trans (by rw [← hw34]; exact (e_up_ne _ _ (Or.inl (by omega))).trans (by rw [← hw15]; exact (e_up_ne _ _ (Or.inr (by omega))).trans (by rw [← hw11]; exact (e_up_ne _ _ (Or.inl (by omega))).trans (by rw [← hw6]; exact (e_up_ne _ _ (Or.inl (by omega))).trans h98)))))))) (by omega) ?_
          have e60 : w53 276 5 = w47 276 5 := ((q55 276 5 no_59_1).trans rfl)
          refine e_Ok.callV rfl (by omega) rfl rfl rfl rfl (c_384 (by omega) q55T (by omega) (by omega)) (fun r57 w58 h59 => ?_)
          obtain ⟨rfl, q61, q61T, q61n, q61s⟩ := h59
          have f62 : e_fr (mLv t) w w58 := e_fr.trans f56 (e_fr.mono q61 (fun c k q => by first | exact su_59_9 q | (unfold mBr at q; unfold mLv; omega)))
          show e_Ok 20 elay ecode eI (d + 1) 372 (208, [(3, (0, 0)), (0, (1, 275)), (1, (0, x)), (2, (0, y))], [], w58) _
          refine e_Ok.run (t' := (242, [(3, (0, 0)), (0, (1, 275)), (1, (0, x)), (2, (0, y))], [(0, (-2))], w58)) 2 rfl ?_
          refine e_Ok.rets rfl rfl ?_
          have e63 : w58 276 5 = w58 276 5 := rfl
          have est : w58 276 (1260 * t + 416) = 7 := ((q61 276 (1260 * t + 416) (by first | exact no_59_5 (by omega) | (unfold mBr; omega))).trans ((q55 276 (1260 * t + 416) (by first | exact no_59_2 (by omega) | (unfold mLk; omega))).trans ((q50 276 (1260 * t + 416) (by first | exact no_59_3 (by omega) | (unfold mE; omega))).trans (by rw [← hw43]; exact (e_up_ne _ _ (Or.inr (by omega))).trans (by rw [← hw37]; exact (e_up_ne _ _ (Or.inr (by omega))).trans (by rw [← hw34]; exact e_up_eq _ _ _ _))))))
          exact ⟨_, rfl, ⟨f62, (sRel.trans (sRel.fr (sRel.fr (sRel.up (sRel.up (sRel.up (sRel.up (sRel.up (sRel.up sRel.refl hw6 (fun q b g1 g2 => by omega)) hw11 (fun q b g1 g2 => by omega)) hw15 (fun q b g1 g2 => by omega)) hw34 (fun q b g1 g2 => by omega)) hw37 (fun q b g1 g2 => by omega)) hw43 (fun q b g1 g2 => by omega)) q50 (fun b g1 g2 => by unfold mE; omega)) q55 (fun b g1 g2 => by unfold mLk; omega)) q61s)⟩, q61T, by omega, ((q61 275 102 no_59_6).trans ((q55 275 102 no_59_4).trans ((q50 275 102 no_59_0).trans (by rw [← hw43]; exact (e_up_ne _ _ (Or.inl (by omega))).trans (by rw [← hw37]; exact (e_up_ne _ _ (Or.inl (by omega))).trans (by rw [← hw34]; exact (e_up_ne _ _ (Or.inl (by omega))).trans (by rw [← hw15]; exact (e_up_ne _ _ (Or.inr (by omega))).trans (by rw [← hw11]; exact (e_up_ne _ _ (Or.inl (by omega))).trans (by rw [← hw6]; exact (e_up_ne _ _ (Or.inl (by omega))).trans rfl))))))))), Or.inr (Or.inr ⟨by omega, rfl, ((q61 275 100 no_59_6).trans ((q55 275 100 no_59_4).trans ((q50 275 100 no_59_0).trans (by rw [← hw43]; exact (e_up_ne _ _ (Or.inl (by omega))).trans (by rw [← hw37]; exact (e_up_ne _ _ (Or.inl (by omega))).trans (by rw [← hw34]; exact (e_up_ne _ _ (Or.inl (by omega))).trans (by rw [← hw15]; exact e_up_eq _ _ _ _))))))), by omega⟩)⟩
      · replace h14 : (g : Int) > 0 := by have q : ¬ ((g : Int) ≤ 0) := h14; omega
        refine e_Ok.run (t' := (78, [(3, (0, 0)), (0, (1, 275)), (1, (0, x)), (2, (0, y))], [(0, 1), (0, x)], w11)) 2 rfl ?_
        refine e_Ok.if2 rfl (fun h64 => ?_) (fun h64 => ?_)
        · replace h64 : (x : Int) ≠ 1 := h64
          have hlt := hlow.top (by omega)
          have hn := hC.1
          have hlt2 := hlt.2.2.2.1 (by omega)
          unfold iFT at hlt2
          refine e_Ok.run (t' := (107, [(3, (0, 0)), (0, (1, 275)), (1, (0, x)), (2, (0, y))], [(1, 275), (1, 275)], w11)) 2 rfl ?_
          refine e_Ok.getr (z := 276) rfl (el_o rfl) rfl rfl (by rw [← hw11]; exact (e_up_ne _ _ (Or.inl (by omega))).trans (by rw [← hw6]; exact (e_up_ne _ _ (Or.inl (by omega))).trans (e_Has.eq hT rfl))) (by omega) ?_
          refine e_Ok.run (t' := (111, [(3, (0, 0)), (0, (1, 275)), (1, (0, x)), (2, (0, y))], [(1, 275), (1, 276), (1, 275)], w11)) 1 rfl ?_
          refine e_Ok.callV rfl (by omega) rfl rfl rfl rfl (c_362 hT13 (by omega) (by rw [← hw11]; exact (e_up_ne _ _ (Or.inl (by omega))).trans (by rw [← hw6]; exact (e_up_ne _ _ (Or.inl (by omega))).trans h97)) (f := g) (z := 1260 * t + 2 * g + 434) (by rw [← hw11]; exact (e_up_ne _ _ (Or.inr (by omega))).trans (by rw [← hw6]; exact e_up_eq _ _ _ _)) (by omega) (by omega)) (fun r65 w66 h67 => ?_)
          obtain ⟨rfl, rfl⟩ := h67
          show e_Ok 20 elay ecode eI (d + 1) 372 (114, [(3, (0, 0)), (0, (1, 275)), (1, (0, x)), (2, (0, y))], [(0, 1260 * t + 2 * g + 434), (1, 276), (1, 275)], w11) _
          have h68 := (e_Has.get hT (c := 276) (k := 1260 * t + 2 * g + 434) (lo := 0) (hi := 9999) (nR_FRg t (g - 1) (by omega) (by omega) (by omega)) (by decide))
          refine e_Ok.ald (z := w 276 (1260 * t + 2 * g + 434)) rfl (el_o rfl) rfl (by omega) (by rw [← hw11]; exact (e_up_ne _ _ (Or.inr (by omega))).trans (by rw [← hw6]; exact (e_up_ne _ _ (Or.inr (by omega))).trans rfl)) (by omega) ?_
          refine e_Ok.run (t' := (116, [(3, (0, 0)), (0, (1, 275)), (1, (0, x)), (2, (0, y))], [(0, 0), (0, w 276 (1260 * t + 2 * g + 434)), (1, 275)], w11)) 1 rfl ?_
          refine e_Ok.if1 rfl (fun h69 => ?_) (fun h69 => ?_)
          · replace h69 : (0 : Int) = 0 := h69
            refine e_Ok.run (t' := (124, [(3, (0, 0)), (0, (1, 275)), (1, (0, x)), (2, (0, y))], [(0, 1), (0, w 276 (1260 * t + 2 * g + 434)), (1, 275)], w11)) 1 rfl ?_
            refine e_Ok.add (z := w 276 (1260 * t + 2 * g + 434) + 1) rfl (by omega) (by omega) ?_
            refine e_Ok.callV rfl (by omega) rfl rfl rfl rfl (c_365 (by omega) hT13 (by omega) (by rw [← hw11]; exact (e_up_ne _ _ (Or.inl (by omega))).trans (by rw [← hw6]; exact (e_up_ne _ _ (Or.inl (by omega))).trans h97)) (f := g) (z := 1260 * t + 2 * g + 434) (by rw [← hw11]; exact (e_up_ne _ _ (Or.inr (by omega))).trans (by rw [← hw6]; exact e_up_eq _ _ _ _)) (by omega) (by omega)) (fun r70 w71 h72 => ?_)
            obtain ⟨rfl, hw71⟩ := h72
            have f73 : e_fr (mLv t) w w71 := e_fr.up f12 hw71 (by unfold mLv; omega)
            have hT74 : e_Has mTy w71 := e_Has.upr hT13 hw71 (nR_FRg t (g - 1) (by omega) (by omega) (by omega)) (by omega)
            show e_Ok 20 elay ecode eI (d + 1) 372 (128, [(3, (0, 0)), (0, (1, 275)), (1, (0, x)), (2, (0, y))], [], w71) _
            refine e_Ok.run (t' := (130, [(3, (0, 0)), (0, (1, 275)), (1, (0, x)), (2, (0, y))], [(0, (-2))], w71)) 1 rfl ?_
            refine e_Ok.rets rfl rfl ?_
            have e75 : w71 276 5 = w 276 5 := (by rw [← hw71]; exact (e_up_ne _ _ (Or.inr (by omega))).trans (by rw [← hw11]; exact (e_up_ne _ _ (Or.inr (by omega))).trans (by rw [← hw6]; exact (e_up_ne _ _ (Or.inr (by omega))).trans rfl)))
            have hru := runOk.pop (w' := w71) hC hR (by omega) (fun c k q1 q2 => (by rw [← hw71]; exact (e_up_ne _ _ (Or.inl (by omega))).trans (by rw [← hw11]; exact (e_up_ne _ _ (Or.inl (by omega))).trans (by rw [← hw6]; exact (e_up_ne _ _ (Or.inl (by omega))).trans rfl)))) (fun i q1 q2 => ⟨(by rw [← hw71]; exact (e_up_ne _ _ (Or.inr (by omega))).trans (by rw [← hw11]; exact (e_up_ne _ _ (Or.inr (by omega))).trans (by rw [← hw6]; exact (e_up_ne _ _ (Or.inr (by omega))).trans rfl))), (by rw [← hw71]; exact (e_up_ne _ _ (Or.inr (by omega))).trans (by rw [← hw11]; exact (e_up_ne _ _ (Or.inr (by omega))).trans (by rw [← hw6]; exact (e_up_ne _ _ (Or.inr (by omega))).trans rfl)))⟩) (by rw [← hw71]; exact (e_up_ne _ _ (Or.inr (by omega))).trans (by rw [← hw11]; exact (e_up_ne _ _ (Or.inr (by omega))).trans (by rw [← hw6]; exact e_up_eq _ _ _ _))) (by rw [← hw71]; exact (e_up_ne _ _ (Or.inr (by omega))).trans (by rw [← hw11]; exact (e_up_ne _ _ (Or.inr (by omega))).trans (by rw [← hw6]; exact (e_up_ne _ _ (Or.inr (by omega))).trans rfl))) (fun k q1 q2 => (by rw [← hw71]; exact (e_up_ne _ _ (Or.inr (by omega))).trans (by rw [← hw11]; exact (e_up_ne _ _ (Or.inr (by omega))).trans (by rw [← hw6]; exact (e_up_ne _ _ (Or.inr (by omega))).trans rfl))))
            have evp : w71 276 (1260 * t + 2 * g + 434) = w 276 (1260 * t + 2 * g + 434) + 1 := (by rw [← hw71]; exact e_up_eq _ _ _ _)
            exact ⟨_, rfl, ⟨f73, (sRel.up (sRel.up (sRel.up sRel.refl hw6 (fun q b g1 g2 => by omega)) hw11 (fun q b g1 g2 => by omega)) hw71 (fun q b g1 g2 => by omega))⟩, hT74, by omega, (by rw [← hw71]; exact (e_up_ne _ _ (Or.inl (by omega))).trans (by rw [← hw11]; exact (e_up_ne _ _ (Or.inl (by omega))).trans (by rw [← hw6]; exact (e_up_ne _ _ (Or.inl (by omega))).trans rfl))), Or.inr (Or.inl ⟨by omega, by omega, rfl, w 276 (1260 * t + 2 * g + 434) + 1, runOk.at hru (by omega) (by rw [show 1260 * t + 2 * (g - 1) + 436 = 1260 * t + 2 * g + 434 by omega]; exact evp) (by rw [show w71 330 (10000 * a + (w 276 (1260 * t + 2 * g + 434) + 1)) = w 330 (10000 * a + w 276 (1260 * t + 2 * g + 434) + 1) from by rw [show 10000 * a + (w 276 (1260 * t + 2 * g + 434) + 1) = 10000 * a + w 276 (1260 * t + 2 * g + 434) + 1 by omega]; exact (by rw [← hw71]; exact (e_up_ne _ _ (Or.inl (by omega))).trans (by rw [← hw11]; exact (e_up_ne _ _ (Or.inl (by omega))).trans (by rw [← hw6]; exact (e_up_ne _ _ (Or.inl (by omega))).trans rfl)))]; exact hlt2.1.2), by omega, by omega, (by rw [← hw71]; exact (e_up_ne _ _ (Or.inl (by omega))).trans (by rw [← hw11]; exact (e_up_ne _ _ (Or.inl (by omega))).trans (by rw [← hw6]; exact (e_up_ne _ _ (Or.inl (by omega))).trans rfl))), by omega, (by rw [← hw71]; exact (e_up_ne _ _ (Or.inr (by omega))).trans (by rw [← hw11]; exact (e_up_ne _ _ (Or.inr (by omega))).trans (by rw [← hw6]; exact (e_up_ne _ _ (Or.inr (by omega))).trans rfl)))⟩)⟩
          · replace h69 : (0 : Int) ≠ 0 := by have q : ¬ ((0 : Int) = 0) := h69; omega
            exfalso; omega
        · replace h64 : (x : Int) = 1 := by have q : ¬ ((x : Int) ≠ 1) := h64; omega
          have hlt := hlow.top (by omega)
          refine e_Ok.run (t' := (82, [(3, (0, 0)), (0, (1, 275)), (1, (0, x)), (2, (0, y))], [(1, 275)], w11)) 1 rfl ?_
          refine e_Ok.getr (z := 330) rfl (el_o rfl) rfl rfl (by rw [← hw11]; exact (e_up_ne _ _ (Or.inl (by omega))).trans (by rw [← hw6]; exact (e_up_ne _ _ (Or.inl (by omega))).trans (e_Has.eq hT rfl))) (by omega) ?_
          refine e_Ok.run (t' := (89, [(3, (0, 0)), (0, (1, 275)), (1, (0, x)), (2, (0, y))], [(1, 275), (0, 10000), (1, 330)], w11)) 2 rfl ?_
          refine e_Ok.getf (z := a) rfl (el_o rfl) rfl rfl (by rw [← hw11]; exact (e_up_ne _ _ (Or.inl (by omega))).trans (by rw [← hw6]; exact (e_up_ne _ _ (Or.inl (by omega))).trans h98)) (by omega) ?_
          refine e_Ok.mul (z := 10000 * a) rfl (by omega) (by omega) ?_
          refine e_Ok.run (t' := (94, [(3, (0, 0)), (0, (1, 275)), (1, (0, x)), (2, (0, y))], [(1, 275), (0, 10000 * a), (1, 330)], w11)) 1 rfl ?_
          refine e_Ok.getr (z := 276) rfl (el_o rfl) rfl rfl (by rw [← hw11]; exact (e_up_ne _ _ (Or.inl (by omega))).trans (by rw [← hw6]; exact (e_up_ne _ _ (Or.inl (by omega))).trans (e_Has.eq hT rfl))) (by omega) ?_
          refine e_Ok.run (t' := (98, [(3, (0, 0)), (0, (1, 275)), (1, (0, x)), (2, (0, y))], [(1, 275), (1, 276), (0, 10000 * a), (1, 330)], w11)) 1 rfl ?_
          refine e_Ok.callV rfl (by omega) rfl rfl rfl rfl (c_362 hT13 (by omega) (by rw [← hw11]; exact (e_up_ne _ _ (Or.inl (by omega))).trans (by rw [← hw6]; exact (e_up_ne _ _ (Or.inl (by omega))).trans h97)) (f := g) (z := 1260 * t + 2 * g + 434) (by rw [← hw11]; exact (e_up_ne _ _ (Or.inr (by omega))).trans (by rw [← hw6]; exact e_up_eq _ _ _ _)) (by omega) (by omega)) (fun r76 w77 h78 => ?_)
          obtain ⟨rfl, rfl⟩ := h78
          show e_Ok 20 elay ecode eI (d + 1) 372 (101, [(3, (0, 0)), (0, (1, 275)), (1, (0, x)), (2, (0, y))], [(0, 1260 * t + 2 * g + 434), (1, 276), (0, 10000 * a), (1, 330)], w11) _
          have h79 := (e_Has.get hT (c := 276) (k := 1260 * t + 2 * g + 434) (lo := 0) (hi := 9999) (nR_FRg t (g - 1) (by omega) (by omega) (by omega)) (by decide))
          refine e_Ok.ald (z := w 276 (1260 * t + 2 * g + 434)) rfl (el_o rfl) rfl (by omega) (by rw [← hw11]; exact (e_up_ne _ _ (Or.inr (by omega))).trans (by rw [← hw6]; exact (e_up_ne _ _ (Or.inr (by omega))).trans rfl)) (by omega) ?_
          refine e_Ok.add (z := 10000 * a + w 276 (1260 * t + 2 * g + 434)) rfl (by omega) (by omega) ?_
          have h80 := (e_Has.get hT (c := 330) (k := 10000 * a + w 276 (1260 * t + 2 * g + 434)) (lo := (-2147483648)) (hi := 2147483647) rfl (by decide))
          refine e_Ok.ald (z := w 330 (10000 * a + w 276 (1260 * t + 2 * g + 434))) rfl rfl rfl (by omega) (by rw [← hw11]; exact (e_up_ne _ _ (Or.inl (by omega))).trans (by rw [← hw6]; exact (e_up_ne _ _ (Or.inl (by omega))).trans rfl)) (by omega) ?_
          refine e_Ok.rets rfl rfl ?_
          have e81 : w11 276 5 = w 276 5 := (by rw [← hw11]; exact (e_up_ne _ _ (Or.inr (by omega))).trans (by rw [← hw6]; exact (e_up_ne _ _ (Or.inr (by omega))).trans rfl))
          exact ⟨_, rfl, ⟨f12, (sRel.up (sRel.up sRel.refl hw6 (fun q b g1 g2 => by omega)) hw11 (fun q b g1 g2 => by omega))⟩, hT13, by omega, (by rw [← hw11]; exact (e_up_ne _ _ (Or.inl (by omega))).trans (by rw [← hw6]; exact (e_up_ne _ _ (Or.inl (by omega))).trans rfl)), Or.inl ⟨by omega, by omega, rfl, runOk.pop hC hR (by omega) (fun c k q1 q2 => (by rw [← hw11]; exact (e_up_ne _ _ (Or.inl (by omega))).trans (by rw [← hw6]; exact (e_up_ne _ _ (Or.inl (by omega))).trans rfl))) (fun i q1 q2 => ⟨(by rw [← hw11]; exact (e_up_ne _ _ (Or.inr (by omega))).trans (by rw [← hw6]; exact (e_up_ne _ _ (Or.inr (by omega))).trans rfl)), (by rw [← hw11]; exact (e_up_ne _ _ (Or.inr (by omega))).trans (by rw [← hw6]; exact (e_up_ne _ _ (Or.inr (by omega))).trans rfl))⟩) (by rw [← hw11]; exact (e_up_ne _ _ (Or.inr (by omega))).trans (by rw [← hw6]; exact e_up_eq _ _ _ _)) (by rw [← hw11]; exact (e_up_ne _ _ (Or.inr (by omega))).trans (by rw [← hw6]; exact (e_up_ne _ _ (Or.inr (by omega))).trans rfl)) (fun k q1 q2 => (by rw [← hw11]; exact (e_up_ne _ _ (Or.inr (by omega))).trans (by rw [← hw6]; exact (e_up_ne _ _ (Or.inr (by omega))).trans rfl))), (by rw [← hw11]; exact (e_up_ne _ _ (Or.inl (by omega))).trans (by rw [← hw6]; exact (e_up_ne _ _ (Or.inl (by omega))).trans rfl)), by omega, (by rw [← hw11]; exact (e_up_ne _ _ (Or.inr (by omega))).trans (by rw [← hw6]; exact (e_up_ne _ _ (Or.inr (by omega))).trans rfl))⟩⟩
    · replace h10 : (0 : Int) ≠ 0 := by have q : ¬ ((0 : Int) = 0) := h10; omega
      exfalso; omega
  · replace h5 : (w 276 (1260 * t + 2 * g + 437) : Int) = 1 := by have q : ¬ ((w 276 (1260 * t + 2 * g + 437) : Int) ≠ 1) := h5; omega
    refine e_Ok.run (t' := (22, [(3, (0, 1)), (0, (1, 275)), (1, (0, x)), (2, (0, y))], [(1, 275)], w)) 4 rfl ?_
    refine e_Ok.getr (z := 276) rfl (el_o rfl) rfl rfl (e_Has.eq hT rfl) (by omega) ?_
    refine e_Ok.run (t' := (26, [(3, (0, 1)), (0, (1, 275)), (1, (0, x)), (2, (0, y))], [(1, 275), (1, 276)], w)) 1 rfl ?_
    refine e_Ok.getf (z := 1260 * t + 416) rfl (el_o rfl) rfl rfl h97 (by omega) ?_
    refine e_Ok.run (t' := (31, [(3, (0, 1)), (0, (1, 275)), (1, (0, x)), (2, (0, y))], [(0, 12), (0, 1260 * t + 416), (1, 276)], w)) 1 rfl ?_
    refine e_Ok.add (z := 1260 * t + 428) rfl (by omega) (by omega) ?_
    refine e_Ok.run (t' := (33, [(3, (0, 1)), (0, (1, 275)), (1, (0, x)), (2, (0, y))], [(0, 1260 * t + 428), (1, 276), (0, 1260 * t + 428), (1, 276)], w)) 1 rfl ?_
    refine e_Ok.ald (z := g + 1) rfl (el_o rfl) rfl (by omega) hF (by omega) ?_
    refine e_Ok.run (t' := (35, [(3, (0, 1)), (0, (1, 275)), (1, (0, x)), (2, (0, y))], [(0, 1), (0, g + 1), (0, 1260 * t + 428), (1, 276)], w)) 1 rfl ?_
    refine e_Ok.sub' (z := g) rfl (by omega) (by omega) ?_
    refine e_Ok.ast rfl (el_o rfl) rfl rfl (by omega) ?_
    generalize hw82 : e_up w 276 (1260 * t + 428) g = w82
    have f83 : e_fr (mLv t) w w82 := e_fr.up (e_fr.refl w) hw82 (by unfold mLv; omega)
    have hT84 : e_Has mTy w82 := e_Has.upr hT hw82 (nR_FRAMES (t := t) (by omega)) (by omega)
    refine e_Ok.run (t' := (38, [(3, (0, 1)), (0, (1, 275)), (1, (0, x)), (2, (0, y))], [(1, 275)], w82)) 1 rfl ?_
    refine e_Ok.getr (z := 276) rfl (el_o rfl) rfl rfl (by rw [← hw82]; exact (e_up_ne _ _ (Or.inl (by omega))).trans (e_Has.eq hT rfl)) (by omega) ?_
    refine e_Ok.run (t' := (42, [(3, (0, 1)), (0, (1, 275)), (1, (0, x)), (2, (0, y))], [(1, 275), (1, 276)], w82)) 1 rfl ?_
    refine e_Ok.getf (z := 1260 * t + 416) rfl (el_o rfl) rfl rfl (by rw [← hw82]; exact (e_up_ne _ _ (Or.inl (by omega))).trans h97) (by omega) ?_
    refine e_Ok.run (t' := (47, [(3, (0, 1)), (0, (1, 275)), (1, (0, x)), (2, (0, y))], [(0, 14), (0, 1260 * t + 416), (1, 276)], w82)) 1 rfl ?_
    refine e_Ok.add (z := 1260 * t + 430) rfl (by omega) (by omega) ?_
    refine e_Ok.run (t' := (49, [(3, (0, 1)), (0, (1, 275)), (1, (0, x)), (2, (0, y))], [(0, 1260 * t + 430), (1, 276), (0, 1260 * t + 430), (1, 276)], w82)) 1 rfl ?_
    have h85 := (e_Has.get hT (c := 276) (k := 1260 * t + 430) (lo := (-2147483648)) (hi := 2147483647) (nR_IN_WATCH (t := t) (by omega)) (by decide))
    refine e_Ok.ald (z := w 276 (1260 * t + 430)) rfl (el_o rfl) rfl (by omega) (by rw [← hw82]; exact (e_up_ne _ _ (Or.inr (by omega))).trans rfl) (by omega) ?_
    refine e_Ok.run (t' := (51, [(3, (0, 1)), (0, (1, 275)), (1, (0, x)), (2, (0, y))], [(0, 1), (0, w 276 (1260 * t + 430)), (0, 1260 * t + 430), (1, 276)], w82)) 1 rfl ?_
    refine e_Ok.if1 rfl (fun h86 => ?_) (fun h86 => ?_)
    · replace h86 : (1 : Int) = 0 := h86
      exfalso; omega
    · replace h86 : (1 : Int) ≠ 0 := by have q : ¬ ((1 : Int) = 0) := h86; omega
      refine e_Ok.run (t' := (59, [(3, (0, 1)), (0, (1, 275)), (1, (0, x)), (2, (0, y))], [(0, 1), (0, w 276 (1260 * t + 430)), (0, 1260 * t + 430), (1, 276)], w82)) 2 rfl ?_
      refine e_Ok.any rfl (eF_sub_any _ _) (fun z87 z87a z87b => ?_)
      refine e_Ok.ast rfl (el_o rfl) rfl rfl (by omega) ?_
      generalize hw88 : e_up w82 276 (1260 * t + 430) z87 = w88
      have f89 : e_fr (mLv t) w w88 := e_fr.up f83 hw88 (by unfold mLv; omega)
      have hT90 : e_Has mTy w88 := e_Has.upr hT84 hw88 (nR_IN_WATCH (t := t) (by omega)) (by omega)
      refine e_Ok.run (t' := (62, [(3, (0, 1)), (0, (1, 275)), (1, (0, x)), (2, (0, y))], [(1, 275)], w88)) 1 rfl ?_
      refine e_Ok.getr (z := 276) rfl (el_o rfl) rfl rfl (by rw [← hw88]; exact (e_up_ne _ _ (Or.inl (by omega))).trans (by rw [← hw82]; exact (e_up_ne _ _ (Or.inl (by omega))).trans (e_Has.eq hT rfl))) (by omega) ?_
      refine e_Ok.run (t' := (66, [(3, (0, 1)), (0, (1, 275)), (1, (0, x)), (2, (0, y))], [(1, 275), (1, 276)], w88)) 1 rfl ?_
      refine e_Ok.getf (z := 1260 * t + 416) rfl (el_o rfl) rfl rfl (by rw [← hw88]; exact (e_up_ne _ _ (Or.inl (by omega))).trans (by rw [← hw82]; exact (e_up_ne _ _ (Or.inl (by omega))).trans h97)) (by omega) ?_
      refine e_Ok.run (t' := (71, [(3, (0, 1)), (0, (1, 275)), (1, (0, x)), (2, (0, y))], [(0, 12), (0, 1260 * t + 416), (1, 276)], w88)) 1 rfl ?_
      refine e_Ok.add (z := 1260 * t + 428) rfl (by omega) (by omega) ?_
      refine e_Ok.ald (z := g) rfl (el_o rfl) rfl (by omega) (by rw [← hw88]; exact (e_up_ne _ _ (Or.inr (by omega))).trans (by rw [← hw82]; exact e_up_eq _ _ _ _)) (by omega) ?_
      refine e_Ok.if1 rfl (fun h91 => ?_) (fun h91 => ?_)
      · replace h91 : (g : Int) ≤ 0 := h91
        refine e_Ok.run (t' := (133, [(3, (0, 1)), (0, (1, 275)), (1, (0, x)), (2, (0, y))], [(0, 1), (1, 275)], w88)) 2 rfl ?_
        refine e_Ok.putb rfl (el_o rfl) rfl rfl (by omega) ?_
        generalize hw92 : e_up w88 275 100 1 = w92
        have f93 : e_fr (mLv t) w w92 := e_fr.up f89 hw92 (by unfold mLv; omega)
        have hT94 : e_Has mTy w92 := e_Has.ups hT90 hw92 rfl
        refine e_Ok.run (t' := (138, [(3, (0, 1)), (0, (1, 275)), (1, (0, x)), (2, (0, y))], [(0, 1), (0, x)], w92)) 2 rfl ?_
        refine e_Ok.if2 rfl (fun h95 => ?_) (fun h95 => ?_)
        · replace h95 : (x : Int) ≠ 1 := h95
          refine e_Ok.run (t' := (212, [(3, (0, 1)), (0, (1, 275)), (1, (0, x)), (2, (0, y))], [(1, 275)], w92)) 1 rfl ?_
          refine e_Ok.getr (z := 276) rfl (el_o rfl) rfl rfl (by rw [← hw92]; exact (e_up_ne _ _ (Or.inr (by omega))).trans (by rw [← hw88]; exact (e_up_ne _ _ (Or.inl (by omega))).trans (by rw [← hw82]; exact (e_up_ne _ _ (Or.inl (by omega))).trans (e_Has.eq hT rfl)))) (by omega) ?_
          refine e_Ok.run (t' := (216, [(3, (0, 1)), (0, (1, 275)), (1, (0, x)), (2, (0, y))], [(1, 275), (1, 276)], w92)) 1 rfl ?_
          refine e_Ok.getf (z := 1260 * t + 416) rfl (el_o rfl) rfl rfl (by rw [← hw92]; exact (e_up_ne _ _ (Or.inr (by omega))).trans (by rw [← hw88]; exact (e_up_ne _ _ (Or.inl (by omega))).trans (by rw [← hw82]; exact (e_up_ne _ _ (Or.inl (by omega))).trans h97))) (by omega) ?_
          refine e_Ok.run (t' := (221, [(3, (0, 1)), (0, (1, 275)), (1, (0, x)), (2, (0, y))], [(0, 6), (0, 1260 * t + 416), (1, 276)], w92)) 1 rfl ?_
          refine e_Ok.ast rfl (el_o rfl) rfl rfl (by omega) ?_
          generalize hw96 : e_up w92 276 (1260 * t + 416) 6 = w96
          have f97 : e_fr (mLv t) w w96 := e_fr.up f93 hw96 (by unfold mLv; omega)
          have hT98 : e_Has mTy w96 := e_Has.upr hT94 hw96 (nR_TSTATE (t := t) (by omega)) (by omega)
          refine e_Ok.run (t' := (225, [(3, (0, 1)), (0, (1, 275)), (1, (0, x)), (2, (0, y))], [(1, 275), (0, 4), (1, 275)], w96)) 3 rfl ?_
          refine e_Ok.getf (z := t) rfl (el_o rfl) rfl rfl (by rw [← hw96]; exact (e_up_ne _ _ (Or.inl (by omega))).trans (by rw [← hw92]; exact (e_up_ne _ _ (Or.inr (by omega))).trans (by rw [← hw88]; exact (e_up_ne _ _ (Or.inl (by omega))).trans (by rw [← hw82]; exact (e_up_ne _ _ (Or.inl (by omega))).trans h96)))) (by omega) ?_
          refine e_Ok.run (t' := (229, [(3, (0, 1)), (0, (1, 275)), (1, (0, x)), (2, (0, y))], [(0, 0), (0, t), (0, 4), (1, 275)], w96)) 1 rfl ?_
          have e102 : w96 276 5 = w 276 5 := (by rw [← hw96]; exact (e_up_ne _ _ (Or.inr (by omega))).trans (by rw [← hw92]; exact (e_up_ne _ _ (Or.inl (by omega))).trans (by rw [← hw88]; exact (e_up_ne _ _ (Or.inr (by omega))).trans (by rw [← hw82]; exact (e_up_ne _ _ (Or.inr (by omega))).trans rfl))))
          refine e_Ok.callV rfl (by omega) rfl rfl rfl rfl (c_319 hT98 (by omega) (by omega) (by omega) (by omega)) (fun r99 w100 h101 => ?_)
          obtain ⟨rfl, q103, q103T, q103n⟩ := h101
          have f104 : e_fr (mLv t) w w100 := e_fr.trans f97 (e_fr.mono q103 (fun c k q => by first | exact su_59_7 q | (unfold mE at q; unfold mLv; omega)))
          show e_Ok 20 elay ecode eI (d + 1) 372 (232, [(3, (0, 1)), (0, (1, 275)), (1, (0, x)), (2, (0, y))], [], w100) _
          refine e_Ok.run (t' := (234, [(3, (0, 1)), (0, (1, 275)), (1, (0, x)), (2, (0, y))], [(1, 275), (1, 275)], w100)) 2 rfl ?_
          refine e_Ok.getf (z := t) rfl (el_o rfl) rfl rfl ((q103 275 96 no_59_0).trans (by rw [← hw96]; exact (e_up_ne _ _ (Or.inl (by omega))).trans (by rw [← hw92]; exact (e_up_ne _ _ (Or.inr (by omega))).trans (by rw [← hw88]; exact (e_up_ne _ _ (Or.inl (by omega))).trans (by rw [← hw82]; exact (e_up_ne _ _ (Or.inl (by omega))).trans h96))))) (by omega) ?_
          refine e_Ok.callV rfl (by omega) rfl rfl rfl rfl (c_361 (by omega) q103T) (fun r105 w106 h107 => ?_)
          obtain ⟨rfl, q108, q108T⟩ := h107
          have f109 : e_fr (mLv t) w w106 := e_fr.trans f104 (e_fr.mono q108 (fun c k q => by first | exact su_59_8 q | (unfold mLk at q; unfold mLv; omega)))
          show e_Ok 20 elay ecode eI (d + 1) 372 (240, [(3, (0, 1)), (0, (1, 275)), (1, (0, x)), (2, (0, y))], [], w106) _
          refine e_Ok.run (t' := (242, [(3, (0, 1)), (0, (1, 275)), (1, (0, x)), (2, (0, y))], [(0, (-2))], w106)) 1 rfl ?_
          refine e_Ok.rets rfl rfl ?_
          have e110 : w106 276 5 = w100 276 5 := ((q108 276 5 no_59_1).trans rfl)
          have est : w106 276 (1260 * t + 416) = 6 := ((q108 276 (1260 * t + 416) (by first | exact no_59_2 (by omega) | (unfold mLk; omega))).trans ((q103 276 (1260 * t + 416) (by first | exact no_59_3 (by omega) | (unfold mE; omega))).trans (by rw [← hw96]; exact e_up_eq _ _ _ _)))
          exact ⟨_, rfl, ⟨f109, (sRel.fr (sRel.fr (sRel.up (sRel.up (sRel.up (sRel.up sRel.refl hw82 (fun q b g1 g2 => by omega)) hw88 (fun q b g1 g2 => by omega)) hw92 (fun q b g1 g2 => by omega)) hw96 (fun q b g1 g2 => by omega)) q103 (fun b g1 g2 => by unfold mE; omega)) q108 (fun b g1 g2 => by unfold mLk; omega))⟩, q108T, by omega, ((q108 275 102 no_59_4).trans ((q103 275 102 no_59_0).trans (by rw [← hw96]; exact (e_up_ne _ _ (Or.inl (by omega))).trans (by rw [← hw92]; exact (e_up_ne _ _ (Or.inr (by omega))).trans (by rw [← hw88]; exact (e_up_ne _ _ (Or.inl (by omega))).trans (by rw [← hw82]; exact (e_up_ne _ _ (Or.inl (by omega))).trans rfl)))))), Or.inr (Or.inr ⟨by omega, rfl, ((q108 275 100 no_59_4).trans ((q103 275 100 no_59_0).trans (by rw [← hw96]; exact (e_up_ne _ _ (Or.inl (by omega))).trans (by rw [← hw92]; exact e_up_eq _ _ _ _)))), by omega⟩)⟩
        · replace h95 : (x : Int) = 1 := by have q : ¬ ((x : Int) ≠ 1) := h95; omega
          refine e_Ok.run (t' := (142, [(3, (0, 1)), (0, (1, 275)), (1, (0, x)), (2, (0, y))], [(1, 275)], w92)) 1 rfl ?_
          refine e_Ok.getr (z := 276) rfl (el_o rfl) rfl rfl (by rw [← hw92]; exact (e_up_ne _ _ (Or.inr (by omega))).trans (by rw [← hw88]; exact (e_up_ne _ _ (Or.inl (by omega))).trans (by rw [← hw82]; exact (e_up_ne _ _ (Or.inl (by omega))).trans (e_Has.eq hT rfl)))) (by omega) ?_
          refine e_Ok.run (t' := (146, [(3, (0, 1)), (0, (1, 275)), (1, (0, x)), (2, (0, y))], [(1, 275), (1, 276)], w92)) 1 rfl ?_
          refine e_Ok.getf (z := 1260 * t + 416) rfl (el_o rfl) rfl rfl (by rw [← hw92]; exact (e_up_ne _ _ (Or.inr (by omega))).trans (by rw [← hw88]; exact (e_up_ne _ _ (Or.inl (by omega))).trans (by rw [← hw82]; exact (e_up_ne _ _ (Or.inl (by omega))).trans h97))) (by omega) ?_
          refine e_Ok.run (t' := (151, [(3, (0, 1)), (0, (1, 275)), (1, (0, x)), (2, (0, y))], [(0, 7), (0, 1260 * t + 416), (1, 276)], w92)) 1 rfl ?_
          refine e_Ok.ast rfl (el_o rfl) rfl rfl (by omega) ?_
          generalize hw111 : e_up w92 276 (1260 * t + 416) 7 = w111
          have f112 : e_fr (mLv t) w w111 := e_fr.up f93 hw111 (by unfold mLv; omega)
          have hT113 : e_Has mTy w111 := e_Has.upr hT94 hw111 (nR_TSTATE (t := t) (by omega)) (by omega)
          refine e_Ok.run (t' := (153, [(3, (0, 1)), (0, (1, 275)), (1, (0, x)), (2, (0, y))], [(1, 275)], w111)) 1 rfl ?_
          refine e_Ok.getr (z := 276) rfl (el_o rfl) rfl rfl (by rw [← hw111]; exact (e_up_ne _ _ (Or.inl (by omega))).trans (by rw [← hw92]; exact (e_up_ne _ _ (Or.inr (by omega))).trans (by rw [← hw88]; exact (e_up_ne _ _ (Or.inl (by omega))).trans (by rw [← hw82]; exact (e_up_ne _ _ (Or.inl (by omega))).trans (e_Has.eq hT rfl))))) (by omega) ?_
          refine e_Ok.run (t' := (157, [(3, (0, 1)), (0, (1, 275)), (1, (0, x)), (2, (0, y))], [(1, 275), (1, 276)], w111)) 1 rfl ?_
          refine e_Ok.getf (z := 1260 * t + 416) rfl (el_o rfl) rfl rfl (by rw [← hw111]; exact (e_up_ne _ _ (Or.inl (by omega))).trans (by rw [← hw92]; exact (e_up_ne _ _ (Or.inr (by omega))).trans (by rw [← hw88]; exact (e_up_ne _ _ (Or.inl (by omega))).trans (by rw [← hw82]; exact (e_up_ne _ _ (Or.inl (by omega))).trans h97)))) (by omega) ?_
          refine e_Ok.run (t' := (161, [(3, (0, 1)), (0, (1, 275)), (1, (0, x)), (2, (0, y))], [(0, 2), (0, 1260 * t + 416), (1, 276)], w111)) 1 rfl ?_
          refine e_Ok.add (z := 1260 * t + 418) rfl (by omega) (by omega) ?_
          refine e_Ok.run (t' := (163, [(3, (0, 1)), (0, (1, 275)), (1, (0, x)), (2, (0, y))], [(0, y), (0, 1260 * t + 418), (1, 276)], w111)) 1 rfl ?_
          refine e_Ok.ast rfl (el_o rfl) rfl rfl (by omega) ?_
          generalize hw114 : e_up w111 276 (1260 * t + 418) y = w114
          have f115 : e_fr (mLv t) w w114 := e_fr.up f112 hw114 (by unfold mLv; omega)
          have hT116 : e_Has mTy w114 := e_Has.upr hT113 hw114 (nR_FAULT (t := t) (by omega)) (by omega)
          refine e_Ok.run (t' := (165, [(3, (0, 1)), (0, (1, 275)), (1, (0, x)), (2, (0, y))], [(1, 275)], w114)) 1 rfl ?_
          refine e_Ok.getr (z := 276) rfl (el_o rfl) rfl rfl (by rw [← hw114]; exact (e_up_ne _ _ (Or.inl (by omega))).trans (by rw [← hw111]; exact (e_up_ne _ _ (Or.inl (by omega))).trans (by rw [← hw92]; exact (e_up_ne _ _ (Or.inr (by omega))).trans (by rw [← hw88]; exact (e_up_ne _ _ (Or.inl (by omega))).trans (by rw [← hw82]; exact (e_up_ne _ _ (Or.inl (by omega))).trans (e_Has.eq hT rfl)))))) (by omega) ?_
          refine e_Ok.run (t' := (169, [(3, (0, 1)), (0, (1, 275)), (1, (0, x)), (2, (0, y))], [(1, 275), (1, 276)], w114)) 1 rfl ?_
          refine e_Ok.getf (z := a) rfl (el_o rfl) rfl rfl (by rw [← hw114]; exact (e_up_ne _ _ (Or.inl (by omega))).trans (by rw [← hw111]; exact (e_up_ne _ _ (Or.inl (by omega))).trans (by rw [← hw92]; exact (e_up_ne _ _ (Or.inr (by omega))).trans (by rw [← hw88]; exact (e_up_ne _ _ (Or.inl (by omega))).trans (by rw [← hw82]; exact (e_up_ne _ _ (Or.inl (by omega))).trans h98))))) (by omega) ?_
          refine e_Ok.callS rfl (by omega) rfl rfl (c_268 (by omega)) (fun r117 w118 h119 => ?_)
          obtain ⟨rfl, rfl⟩ := h119
          show e_Ok 20 elay ecode eI (d + 1) 372 (175, [(3, (0, 1)), (0, (1, 275)), (1, (0, x)), (2, (0, y))], [(0, 36 * a + 16), (1, 276)], w114) _
          refine e_Ok.run (t' := (176, [(3, (0, 1)), (0, (1, 275)), (1, (0, x)), (2, (0, y))], [(0, 2), (0, 36 * a + 16), (1, 276)], w114)) 1 rfl ?_
          refine e_Ok.add (z := 36 * a + 18) rfl (by omega) (by omega) ?_
          refine e_Ok.run (t' := (178, [(3, (0, 1)), (0, (1, 275)), (1, (0, x)), (2, (0, y))], [(1, 275), (0, 36 * a + 18), (1, 276)], w114)) 1 rfl ?_
          refine e_Ok.getf (z := t) rfl (el_o rfl) rfl rfl (by rw [← hw114]; exact (e_up_ne _ _ (Or.inl (by omega))).trans (by rw [← hw111]; exact (e_up_ne _ _ (Or.inl (by omega))).trans (by rw [← hw92]; exact (e_up_ne _ _ (Or.inr (by omega))).trans (by rw [← hw88]; exact (e_up_ne _ _ (Or.inl (by omega))).trans (by rw [← hw82]; exact (e_up_ne _ _ (Or.inl (by omega))).trans h96))))) (by omega) ?_
          refine e_Ok.ast rfl (el_o rfl) rfl rfl (by omega) ?_
          generalize hw120 : e_up w114 276 (36 * a + 18) t = w120
          have f121 : e_fr (mLv t) w w120 := e_fr.up f115 hw120 (by unfold mLv; omega)
          have hT122 : e_Has mTy w120 := e_Has.upr hT116 hw120 (nR_STUCK (a := a) (by omega)) (by omega)
          refine e_Ok.run (t' := (185, [(3, (0, 1)), (0, (1, 275)), (1, (0, x)), (2, (0, y))], [(1, 275), (0, 5), (1, 275)], w120)) 3 rfl ?_
          refine e_Ok.getf (z := t) rfl (el_o rfl) rfl rfl (by rw [← hw120]; exact (e_up_ne _ _ (Or.inl (by omega))).trans (by rw [← hw114]; exact (e_up_ne _ _ (Or.inl (by omega))).trans (by rw [← hw111]; exact (e_up_ne _ _ (Or.inl (by omega))).trans (by rw [← hw92]; exact (e_up_ne _ _ (Or.inr (by omega))).trans (by rw [← hw88]; exact (e_up_ne _ _ (Or.inl (by omega))).trans (by rw [← hw82]; exact (e_up_ne _ _ (Or.inl (by omega))).trans h96)))))) (by omega) ?_
          refine e_Ok.run (t' := (189, [(3, (0, 1)), (0, (1, 275)), (1, (0, x)), (2, (0, y))], [(0, y), (0, t), (0, 5), (1, 275)], w120)) 1 rfl ?_
          have e126 : w120 276 5 = w 276 5 := (by rw [← hw120]; exact (e_up_ne _ _ (Or.inr (by omega))).trans (by rw [← hw114]; exact (e_up_ne _ _ (Or.inr (by omega))).trans (by rw [← hw111]; exact (e_up_ne _ _ (Or.inr (by omega))).trans (by rw [← hw92]; exact (e_up_ne _ _ (Or.inl (by omega))).trans (by rw [← hw88]; exact (e_up_ne _ _ (Or.inr (by omega))).trans (by rw [← hw82]; exact (e_up_ne _ _ (Or.inr (by omega))).trans rfl))))))
          refine e_Ok.callV rfl (by omega) rfl rfl rfl rfl (c_319 hT122 (by omega) (by omega) (by omega) (by omega)) (fun r123 w124 h125 => ?_)
          obtain ⟨rfl, q127, q127T, q127n⟩ := h125
          have f128 : e_fr (mLv t) w w124 := e_fr.trans f121 (e_fr.mono q127 (fun c k q => by first | exact su_59_7 q | (unfold mE at q; unfold mLv; omega)))
          show e_Ok 20 elay ecode eI (d + 1) 372 (192, [(3, (0, 1)), (0, (1, 275)), (1, (0, x)), (2, (0, y))], [], w124) _
          refine e_Ok.run (t' := (194, [(3, (0, 1)), (0, (1, 275)), (1, (0, x)), (2, (0, y))], [(1, 275), (1, 275)], w124)) 2 rfl ?_
          refine e_Ok.getf (z := t) rfl (el_o rfl) rfl rfl ((q127 275 96 no_59_0).trans (by rw [← hw120]; exact (e_up_ne _ _ (Or.inl (by omega))).trans (by rw [← hw114]; exact (e_up_ne _ _ (Or.inl (by omega))).trans (by rw [← hw111]; exact (e_up_ne _ _ (Or.inl (by omega))).trans (by rw [← hw92]; exact (e_up_ne _ _ (Or.inr (by omega))).trans (by rw [← hw88]; exact (e_up_ne _ _ (Or.inl (by omega))).trans (by rw [← hw82]; exact (e_up_ne _ _ (Or.inl (by omega))).trans h96))))))) (by omega) ?_
          refine e_Ok.callV rfl (by omega) rfl rfl rfl rfl (c_361 (by omega) q127T) (fun r129 w130 h131 => ?_)
          obtain ⟨rfl, q132, q132T⟩ := h131
          have f133 : e_fr (mLv t) w w130 := e_fr.trans f128 (e_fr.mono q132 (fun c k q => by first | exact su_59_8 q | (unfold mLk at q; unfold mLv; omega)))
          show e_Ok 20 elay ecode eI (d + 1) 372 (200, [(3, (0, 1)), (0, (1, 275)), (1, (0, x)), (2, (0, y))], [], w130) _
          refine e_Ok.run (t' := (202, [(3, (0, 1)), (0, (1, 275)), (1, (0, x)), (2, (0, y))], [(1, 275), (1, 275)], w130)) 2 rfl ?_
          refine e_Ok.getf (z := a) rfl (el_o rfl) rfl rfl ((q132 275 98 no_59_4).trans ((q127 275 98 no_59_0).trans (by rw [← hw120]; exact (e_up_ne _ _ (Or.inl (by omega))).trans (by rw [← hw114]; exact (e_up_ne _ _ (Or.inl (by omega))).trans (by rw [← hw111]; exact (e_up_ne _ _ (Or.inl (by omega))).trans (by rw [← hw92]; exact (e_up_ne _ _ (Or.inr (by omega))).trans (by rw [← hw88]; exact (e_up_ne _ _ (Or.inl (by omega))).trans (by rw [← hw82]; exact (e_up_ne _ _ (Or.inl (by omega))).trans h98)))))))) (by omega) ?_
          have e137 : w130 276 5 = w124 276 5 := ((q132 276 5 no_59_1).trans rfl)
          refine e_Ok.callV rfl (by omega) rfl rfl rfl rfl (c_384 (by omega) q132T (by omega) (by omega)) (fun r134 w135 h136 => ?_)
          obtain ⟨rfl, q138, q138T, q138n, q138s⟩ := h136
          have f139 : e_fr (mLv t) w w135 := e_fr.trans f133 (e_fr.mono q138 (fun c k q => by first | exact su_59_9 q | (unfold mBr at q; unfold mLv; omega)))
          show e_Ok 20 elay ecode eI (d + 1) 372 (208, [(3, (0, 1)), (0, (1, 275)), (1, (0, x)), (2, (0, y))], [], w135) _
          refine e_Ok.run (t' := (242, [(3, (0, 1)), (0, (1, 275)), (1, (0, x)), (2, (0, y))], [(0, (-2))], w135)) 2 rfl ?_
          refine e_Ok.rets rfl rfl ?_
          have e140 : w135 276 5 = w135 276 5 := rfl
          have est : w135 276 (1260 * t + 416) = 7 := ((q138 276 (1260 * t + 416) (by first | exact no_59_5 (by omega) | (unfold mBr; omega))).trans ((q132 276 (1260 * t + 416) (by first | exact no_59_2 (by omega) | (unfold mLk; omega))).trans ((q127 276 (1260 * t + 416) (by first | exact no_59_3 (by omega) | (unfold mE; omega))).trans (by rw [← hw120]; exact (e_up_ne _ _ (Or.inr (by omega))).trans (by rw [← hw114]; exact (e_up_ne _ _ (Or.inr (by omega))).trans (by rw [← hw111]; exact e_up_eq _ _ _ _))))))
          exact ⟨_, rfl, ⟨f139, (sRel.trans (sRel.fr (sRel.fr (sRel.up (sRel.up (sRel.up (sRel.up (sRel.up (sRel.up sRel.refl hw82 (fun q b g1 g2 => by omega)) hw88 (fun q b g1 g2 => by omega)) hw92 (fun q b g1 g2 => by omega)) hw111 (fun q b g1 g2 => by omega)) hw114 (fun q b g1 g2 => by omega)) hw120 (fun q b g1 g2 => by omega)) q127 (fun b g1 g2 => by unfold mE; omega)) q132 (fun b g1 g2 => by unfold mLk; omega)) q138s)⟩, q138T, by omega, ((q138 275 102 no_59_6).trans ((q132 275 102 no_59_4).trans ((q127 275 102 no_59_0).trans (by rw [← hw120]; exact (e_up_ne _ _ (Or.inl (by omega))).trans (by rw [← hw114]; exact (e_up_ne _ _ (Or.inl (by omega))).trans (by rw [← hw111]; exact (e_up_ne _ _ (Or.inl (by omega))).trans (by rw [← hw92]; exact (e_up_ne _ _ (Or.inr (by omega))).trans (by rw [← hw88]; exact (e_up_ne _ _ (Or.inl (by omega))).trans (by rw [← hw82]; exact (e_up_ne _ _ (Or.inl (by omega))).trans rfl))))))))), Or.inr (Or.inr ⟨by omega, rfl, ((q138 275 100 no_59_6).trans ((q132 275 100 no_59_4).trans ((q127 275 100 no_59_0).trans (by rw [← hw120]; exact (e_up_ne _ _ (Or.inl (by omega))).trans (by rw [← hw114]; exact (e_up_ne _ _ (Or.inl (by omega))).trans (by rw [← hw111]; exact (e_up_ne _ _ (Or.inl (by omega))).trans (by rw [← hw92]; exact e_up_eq _ _ _ _))))))), by omega⟩)⟩
      · replace h91 : (g : Int) > 0 := by have q : ¬ ((g : Int) ≤ 0) := h91; omega
        refine e_Ok.run (t' := (78, [(3, (0, 1)), (0, (1, 275)), (1, (0, x)), (2, (0, y))], [(0, 1), (0, x)], w88)) 2 rfl ?_
        refine e_Ok.if2 rfl (fun h141 => ?_) (fun h141 => ?_)
        · replace h141 : (x : Int) ≠ 1 := h141
          have hlt := hlow.top (by omega)
          have hn := hC.1
          have hlt3 := hlt.2.2.2.2 (by omega)
          refine e_Ok.run (t' := (107, [(3, (0, 1)), (0, (1, 275)), (1, (0, x)), (2, (0, y))], [(1, 275), (1, 275)], w88)) 2 rfl ?_
          refine e_Ok.getr (z := 276) rfl (el_o rfl) rfl rfl (by rw [← hw88]; exact (e_up_ne _ _ (Or.inl (by omega))).trans (by rw [← hw82]; exact (e_up_ne _ _ (Or.inl (by omega))).trans (e_Has.eq hT rfl))) (by omega) ?_
          refine e_Ok.run (t' := (111, [(3, (0, 1)), (0, (1, 275)), (1, (0, x)), (2, (0, y))], [(1, 275), (1, 276), (1, 275)], w88)) 1 rfl ?_
          refine e_Ok.callV rfl (by omega) rfl rfl rfl rfl (c_362 hT90 (by omega) (by rw [← hw88]; exact (e_up_ne _ _ (Or.inl (by omega))).trans (by rw [← hw82]; exact (e_up_ne _ _ (Or.inl (by omega))).trans h97)) (f := g) (z := 1260 * t + 2 * g + 434) (by rw [← hw88]; exact (e_up_ne _ _ (Or.inr (by omega))).trans (by rw [← hw82]; exact e_up_eq _ _ _ _)) (by omega) (by omega)) (fun r142 w143 h144 => ?_)
          obtain ⟨rfl, rfl⟩ := h144
          show e_Ok 20 elay ecode eI (d + 1) 372 (114, [(3, (0, 1)), (0, (1, 275)), (1, (0, x)), (2, (0, y))], [(0, 1260 * t + 2 * g + 434), (1, 276), (1, 275)], w88) _
          have h145 := (e_Has.get hT (c := 276) (k := 1260 * t + 2 * g + 434) (lo := 0) (hi := 9999) (nR_FRg t (g - 1) (by omega) (by omega) (by omega)) (by decide))
          refine e_Ok.ald (z := w 276 (1260 * t + 2 * g + 434)) rfl (el_o rfl) rfl (by omega) (by rw [← hw88]; exact (e_up_ne _ _ (Or.inr (by omega))).trans (by rw [← hw82]; exact (e_up_ne _ _ (Or.inr (by omega))).trans rfl)) (by omega) ?_
          refine e_Ok.run (t' := (116, [(3, (0, 1)), (0, (1, 275)), (1, (0, x)), (2, (0, y))], [(0, 1), (0, w 276 (1260 * t + 2 * g + 434)), (1, 275)], w88)) 1 rfl ?_
          refine e_Ok.if1 rfl (fun h146 => ?_) (fun h146 => ?_)
          · replace h146 : (1 : Int) = 0 := h146
            exfalso; omega
          · replace h146 : (1 : Int) ≠ 0 := by have q : ¬ ((1 : Int) = 0) := h146; omega
            refine e_Ok.run (t' := (124, [(3, (0, 1)), (0, (1, 275)), (1, (0, x)), (2, (0, y))], [(0, 0), (0, w 276 (1260 * t + 2 * g + 434)), (1, 275)], w88)) 2 rfl ?_
            refine e_Ok.add (z := w 276 (1260 * t + 2 * g + 434)) rfl (by omega) (by omega) ?_
            refine e_Ok.callV rfl (by omega) rfl rfl rfl rfl (c_365 (by omega) hT90 (by omega) (by rw [← hw88]; exact (e_up_ne _ _ (Or.inl (by omega))).trans (by rw [← hw82]; exact (e_up_ne _ _ (Or.inl (by omega))).trans h97)) (f := g) (z := 1260 * t + 2 * g + 434) (by rw [← hw88]; exact (e_up_ne _ _ (Or.inr (by omega))).trans (by rw [← hw82]; exact e_up_eq _ _ _ _)) (by omega) (by omega)) (fun r147 w148 h149 => ?_)
            obtain ⟨rfl, hw148⟩ := h149
            have f150 : e_fr (mLv t) w w148 := e_fr.up f89 hw148 (by unfold mLv; omega)
            have hT151 : e_Has mTy w148 := e_Has.upr hT90 hw148 (nR_FRg t (g - 1) (by omega) (by omega) (by omega)) (by omega)
            show e_Ok 20 elay ecode eI (d + 1) 372 (128, [(3, (0, 1)), (0, (1, 275)), (1, (0, x)), (2, (0, y))], [], w148) _
            refine e_Ok.run (t' := (130, [(3, (0, 1)), (0, (1, 275)), (1, (0, x)), (2, (0, y))], [(0, (-2))], w148)) 1 rfl ?_
            refine e_Ok.rets rfl rfl ?_
            have e152 : w148 276 5 = w 276 5 := (by rw [← hw148]; exact (e_up_ne _ _ (Or.inr (by omega))).trans (by rw [← hw88]; exact (e_up_ne _ _ (Or.inr (by omega))).trans (by rw [← hw82]; exact (e_up_ne _ _ (Or.inr (by omega))).trans rfl)))
            have hru := runOk.pop (w' := w148) hC hR (by omega) (fun c k q1 q2 => (by rw [← hw148]; exact (e_up_ne _ _ (Or.inl (by omega))).trans (by rw [← hw88]; exact (e_up_ne _ _ (Or.inl (by omega))).trans (by rw [← hw82]; exact (e_up_ne _ _ (Or.inl (by omega))).trans rfl)))) (fun i q1 q2 => ⟨(by rw [← hw148]; exact (e_up_ne _ _ (Or.inr (by omega))).trans (by rw [← hw88]; exact (e_up_ne _ _ (Or.inr (by omega))).trans (by rw [← hw82]; exact (e_up_ne _ _ (Or.inr (by omega))).trans rfl))), (by rw [← hw148]; exact (e_up_ne _ _ (Or.inr (by omega))).trans (by rw [← hw88]; exact (e_up_ne _ _ (Or.inr (by omega))).trans (by rw [← hw82]; exact (e_up_ne _ _ (Or.inr (by omega))).trans rfl)))⟩) (by rw [← hw148]; exact (e_up_ne _ _ (Or.inr (by omega))).trans (by rw [← hw88]; exact (e_up_ne _ _ (Or.inr (by omega))).trans (by rw [← hw82]; exact e_up_eq _ _ _ _))) (by rw [← hw148]; exact (e_up_ne _ _ (Or.inr (by omega))).trans (by rw [← hw88]; exact (e_up_ne _ _ (Or.inr (by omega))).trans (by rw [← hw82]; exact (e_up_ne _ _ (Or.inr (by omega))).trans rfl))) (fun k q1 q2 => (by rw [← hw148]; exact (e_up_ne _ _ (Or.inr (by omega))).trans (by rw [← hw88]; exact (e_up_ne _ _ (Or.inr (by omega))).trans (by rw [← hw82]; exact (e_up_ne _ _ (Or.inr (by omega))).trans rfl))))
            have evp : w148 276 (1260 * t + 2 * g + 434) = w 276 (1260 * t + 2 * g + 434) := (by rw [← hw148]; exact e_up_eq _ _ _ _)
            exact ⟨_, rfl, ⟨f150, (sRel.up (sRel.up (sRel.up sRel.refl hw82 (fun q b g1 g2 => by omega)) hw88 (fun q b g1 g2 => by omega)) hw148 (fun q b g1 g2 => by omega))⟩, hT151, by omega, (by rw [← hw148]; exact (e_up_ne _ _ (Or.inl (by omega))).trans (by rw [← hw88]; exact (e_up_ne _ _ (Or.inl (by omega))).trans (by rw [← hw82]; exact (e_up_ne _ _ (Or.inl (by omega))).trans rfl))), Or.inr (Or.inl ⟨by omega, by omega, rfl, w 276 (1260 * t + 2 * g + 434), runOk.at hru (by omega) (by rw [show 1260 * t + 2 * (g - 1) + 436 = 1260 * t + 2 * g + 434 by omega]; exact evp) (show w148 330 (10000 * a + (w 276 (1260 * t + 2 * g + 434))) = w 330 (10000 * a + (w 276 (1260 * t + 2 * g + 434))) from (by rw [← hw148]; exact (e_up_ne _ _ (Or.inl (by omega))).trans (by rw [← hw88]; exact (e_up_ne _ _ (Or.inl (by omega))).trans (by rw [← hw82]; exact (e_up_ne _ _ (Or.inl (by omega))).trans rfl)))), by omega, by omega, (by rw [← hw148]; exact (e_up_ne _ _ (Or.inl (by omega))).trans (by rw [← hw88]; exact (e_up_ne _ _ (Or.inl (by omega))).trans (by rw [← hw82]; exact (e_up_ne _ _ (Or.inl (by omega))).trans rfl))), by omega, (by rw [← hw148]; exact (e_up_ne _ _ (Or.inr (by omega))).trans (by rw [← hw88]; exact (e_up_ne _ _ (Or.inr (by omega))).trans (by rw [← hw82]; exact (e_up_ne _ _ (Or.inr (by omega))).trans rfl)))⟩)⟩
        · replace h141 : (x : Int) = 1 := by have q : ¬ ((x : Int) ≠ 1) := h141; omega
          have hlt := hlow.top (by omega)
          refine e_Ok.run (t' := (82, [(3, (0, 1)), (0, (1, 275)), (1, (0, x)), (2, (0, y))], [(1, 275)], w88)) 1 rfl ?_
          refine e_Ok.getr (z := 330) rfl (el_o rfl) rfl rfl (by rw [← hw88]; exact (e_up_ne _ _ (Or.inl (by omega))).trans (by rw [← hw82]; exact (e_up_ne _ _ (Or.inl (by omega))).trans (e_Has.eq hT rfl))) (by omega) ?_
          refine e_Ok.run (t' := (89, [(3, (0, 1)), (0, (1, 275)), (1, (0, x)), (2, (0, y))], [(1, 275), (0, 10000), (1, 330)], w88)) 2 rfl ?_
          refine e_Ok.getf (z := a) rfl (el_o rfl) rfl rfl (by rw [← hw88]; exact (e_up_ne _ _ (Or.inl (by omega))).trans (by rw [← hw82]; exact (e_up_ne _ _ (Or.inl (by omega))).trans h98)) (by omega) ?_
          refine e_Ok.mul (z := 10000 * a) rfl (by omega) (by omega) ?_
          refine e_Ok.run (t' := (94, [(3, (0, 1)), (0, (1, 275)), (1, (0, x)), (2, (0, y))], [(1, 275), (0, 10000 * a), (1, 330)], w88)) 1 rfl ?_
          refine e_Ok.getr (z := 276) rfl (el_o rfl) rfl rfl (by rw [← hw88]; exact (e_up_ne _ _ (Or.inl (by omega))).trans (by rw [← hw82]; exact (e_up_ne _ _ (Or.inl (by omega))).trans (e_Has.eq hT rfl))) (by omega) ?_
          refine e_Ok.run (t' := (98, [(3, (0, 1)), (0, (1, 275)), (1, (0, x)), (2, (0, y))], [(1, 275), (1, 276), (0, 10000 * a), (1, 330)], w88)) 1 rfl ?_
          refine e_Ok.callV rfl (by omega) rfl rfl rfl rfl (c_362 hT90 (by omega) (by rw [← hw88]; exact (e_up_ne _ _ (Or.inl (by omega))).trans (by rw [← hw82]; exact (e_up_ne _ _ (Or.inl (by omega))).trans h97)) (f := g) (z := 1260 * t + 2 * g + 434) (by rw [← hw88]; exact (e_up_ne _ _ (Or.inr (by omega))).trans (by rw [← hw82]; exact e_up_eq _ _ _ _)) (by omega) (by omega)) (fun r153 w154 h155 => ?_)
          obtain ⟨rfl, rfl⟩ := h155
          show e_Ok 20 elay ecode eI (d + 1) 372 (101, [(3, (0, 1)), (0, (1, 275)), (1, (0, x)), (2, (0, y))], [(0, 1260 * t + 2 * g + 434), (1, 276), (0, 10000 * a), (1, 330)], w88) _
          have h156 := (e_Has.get hT (c := 276) (k := 1260 * t + 2 * g + 434) (lo := 0) (hi := 9999) (nR_FRg t (g - 1) (by omega) (by omega) (by omega)) (by decide))
          refine e_Ok.ald (z := w 276 (1260 * t + 2 * g + 434)) rfl (el_o rfl) rfl (by omega) (by rw [← hw88]; exact (e_up_ne _ _ (Or.inr (by omega))).trans (by rw [← hw82]; exact (e_up_ne _ _ (Or.inr (by omega))).trans rfl)) (by omega) ?_
          refine e_Ok.add (z := 10000 * a + w 276 (1260 * t + 2 * g + 434)) rfl (by omega) (by omega) ?_
          have h157 := (e_Has.get hT (c := 330) (k := 10000 * a + w 276 (1260 * t + 2 * g + 434)) (lo := (-2147483648)) (hi := 2147483647) rfl (by decide))
          refine e_Ok.ald (z := w 330 (10000 * a + w 276 (1260 * t + 2 * g + 434))) rfl rfl rfl (by omega) (by rw [← hw88]; exact (e_up_ne _ _ (Or.inl (by omega))).trans (by rw [← hw82]; exact (e_up_ne _ _ (Or.inl (by omega))).trans rfl)) (by omega) ?_
          refine e_Ok.rets rfl rfl ?_
          have e158 : w88 276 5 = w 276 5 := (by rw [← hw88]; exact (e_up_ne _ _ (Or.inr (by omega))).trans (by rw [← hw82]; exact (e_up_ne _ _ (Or.inr (by omega))).trans rfl))
          exact ⟨_, rfl, ⟨f89, (sRel.up (sRel.up sRel.refl hw82 (fun q b g1 g2 => by omega)) hw88 (fun q b g1 g2 => by omega))⟩, hT90, by omega, (by rw [← hw88]; exact (e_up_ne _ _ (Or.inl (by omega))).trans (by rw [← hw82]; exact (e_up_ne _ _ (Or.inl (by omega))).trans rfl)), Or.inl ⟨by omega, by omega, rfl, runOk.pop hC hR (by omega) (fun c k q1 q2 => (by rw [← hw88]; exact (e_up_ne _ _ (Or.inl (by omega))).trans (by rw [← hw82]; exact (e_up_ne _ _ (Or.inl (by omega))).trans rfl))) (fun i q1 q2 => ⟨(by rw [← hw88]; exact (e_up_ne _ _ (Or.inr (by omega))).trans (by rw [← hw82]; exact (e_up_ne _ _ (Or.inr (by omega))).trans rfl)), (by rw [← hw88]; exact (e_up_ne _ _ (Or.inr (by omega))).trans (by rw [← hw82]; exact (e_up_ne _ _ (Or.inr (by omega))).trans rfl))⟩) (by rw [← hw88]; exact (e_up_ne _ _ (Or.inr (by omega))).trans (by rw [← hw82]; exact e_up_eq _ _ _ _)) (by rw [← hw88]; exact (e_up_ne _ _ (Or.inr (by omega))).trans (by rw [← hw82]; exact (e_up_ne _ _ (Or.inr (by omega))).trans rfl)) (fun k q1 q2 => (by rw [← hw88]; exact (e_up_ne _ _ (Or.inr (by omega))).trans (by rw [← hw82]; exact (e_up_ne _ _ (Or.inr (by omega))).trans rfl))), (by rw [← hw88]; exact (e_up_ne _ _ (Or.inl (by omega))).trans (by rw [← hw82]; exact (e_up_ne _ _ (Or.inl (by omega))).trans rfl)), by omega, (by rw [← hw88]; exact (e_up_ne _ _ (Or.inr (by omega))).trans (by rw [← hw82]; exact (e_up_ne _ _ (Or.inr (by omega))).trans rfl))⟩⟩
end
