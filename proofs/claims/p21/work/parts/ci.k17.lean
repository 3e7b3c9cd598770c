noncomputable section
/-! the class: lead -/
theorem c_186_b {d : Nat} {w : eW} (hT : e_Has kTy w) {t : Int} (gt : 0 ≤ t ∧ t ≤ 15) {op : Int → Int} {H : Int} (hs : tS w (6 * t + 154) op H) : e_Ok 20 elay kcode eI d 186 (0, [(0, (1, 6 * t + 154))], [], w) (fun r w' => ∃ z : Int, r = [(0, z)] ∧ e_fr (kLv t) w w' ∧ e_Has kTy w' ∧ tS w' (6 * t + 154) op H ∧ (0 ≤ z ∧ z ≤ 3) ∧ (w' (6 * t + 154) 3 = w (6 * t + 154) 3) ∧ (1 ≤ z → w' (6 * t + 154) 15 < 600 ∧ (-2147483648 ≤ w' ((6 * t + 154) + 5) (w' (6 * t + 154) 15) ∧ w' ((6 * t + 154) + 5) (w' (6 * t + 154) 15) ≤ 2147483647) ∧ (z = 3 → op (w' ((6 * t + 154) + 5) (w' (6 * t + 154) 15) + 1) = 49))) := by
  have h15 := e_Has.get hT (c := 6 * t + 154) (k := 15) (lo := 0) (hi := 600) (kT_15 (t := t) rfl gt) (by decide)
  have h4 := e_Has.get hT (c := 6 * t + 154) (k := 4) (lo := 0) (hi := 20) (kT_4 (t := t) rfl gt) (by decide)
  have hH := hs.1
  refine e_Ok.run (t' := (1, [(0, (1, 6 * t + 154))], [(1, 6 * t + 154)], w)) 1 rfl ?_
  have h1 := (e_Has.get hT (c := 6 * t + 154) (k := 15) (lo := 0) (hi := 600) (kT_15 (t := t) (by omega) (by omega)) (by decide))
  refine e_Ok.getf (z := w (6 * t + 154) 15) rfl (lT0 (t := t) (by omega) (by omega)) rfl rfl rfl (by omega) ?_
  refine e_Ok.run (t' := (5, [(0, (1, 6 * t + 154))], [(0, 1), (0, w (6 * t + 154) 15)], w)) 1 rfl ?_
  refine e_Ok.if2 rfl (fun h2 => ?_) (fun h2 => ?_)
  · replace h2 : (w (6 * t + 154) 15 : Int) ≥ 1 := h2
    have hq := hs.2.2 (w (6 * t + 154) 15 - 1) (by omega) (by omega)
    have hq3 : ((0 ≤ w (6 * t + 157) (w (6 * t + 154) 15 - 1) ∧ w (6 * t + 157) (w (6 * t + 154) 15 - 1) ≤ 3999) ∧ op (w (6 * t + 157) (w (6 * t + 154) 15 - 1) + 1) = 49 ∧ op (w (6 * t + 157) (w (6 * t + 154) 15 - 1) + 2) = 49 ∧ op (w (6 * t + 157) (w (6 * t + 154) 15 - 1) + 3) = 49) ∧ (0 ≤ w (6 * t + 158) (w (6 * t + 154) 15 - 1) ∧ w (6 * t + 158) (w (6 * t + 154) 15 - 1) ≤ 15) := by rw [show 6 * t + 157 = (6 * t + 154) + 3 by omega, show 6 * t + 158 = (6 * t + 154) + 4 by omega]; exact ⟨hq.1, hq.2.1.1⟩
    refine e_Ok.run (t' := (12, [(0, (1, 6 * t + 154))], [(1, 6 * t + 154), (1, 6 * t + 154)], w)) 2 rfl ?_
    refine e_Ok.getf (z := w (6 * t + 154) 15) rfl (lT0 (t := t) (by omega) (by omega)) rfl rfl rfl (by omega) ?_
    refine e_Ok.run (t' := (16, [(0, (1, 6 * t + 154))], [(0, 1), (0, w (6 * t + 154) 15), (1, 6 * t + 154)], w)) 1 rfl ?_
    refine e_Ok.sub' (z := w (6 * t + 154) 15 - 1) rfl (by omega) (by omega) ?_
    refine e_Ok.putf rfl (lT0 (t := t) (by omega) (by omega)) rfl rfl ?_
    generalize hw3 : e_up w (6 * t + 154) 15 (w (6 * t + 154) 15 - 1) = w3
    have f4 : e_fr (kLv t) w w3 := e_fr.up (e_fr.refl w) hw3 (by unfold kLv; omega)
    have hT5 : e_Has kTy w3 := e_Has.upr hT hw3 (kT_15 (t := t) (by omega) (by omega)) (by omega)
    refine e_Ok.run (t' := (21, [(0, (1, 6 * t + 154))], [(1, 6 * t + 154)], w3)) 1 rfl ?_
    refine e_Ok.getr (z := 6 * t + 158) rfl (lT0 (t := t) (by omega) (by omega)) rfl rfl (by rw [← hw3]; exact (e_up_ne _ _ (Or.inr (by omega))).trans (Eq.trans (e_Has.eq hT (kT_19 (t := t) (by omega) (by omega))) (by omega))) (by omega) ?_
    refine e_Ok.run (t' := (25, [(0, (1, 6 * t + 154))], [(1, 6 * t + 154), (1, 6 * t + 158)], w3)) 1 rfl ?_
    refine e_Ok.getf (z := w (6 * t + 154) 15 - 1) rfl (lT0 (t := t) (by omega) (by omega)) rfl rfl (by rw [← hw3]; exact e_up_eq _ _ _ _) (by omega) ?_
    refine e_Ok.ald (z := w (6 * t + 158) (w (6 * t + 154) 15 - 1)) rfl (lT4 (t := t) (by omega) (by omega)) rfl (by omega) (by rw [← hw3]; exact (e_up_ne _ _ (Or.inl (by omega))).trans rfl) (by omega) ?_
    refine e_Ok.run (t' := (30, [(0, (1, 6 * t + 154))], [(0, 2), (0, w (6 * t + 158) (w (6 * t + 154) 15 - 1))], w3)) 1 rfl ?_
    refine e_Ok.shr2 rfl (by omega) (fun z6 hz6 => ?_)
    replace hz6 : z6 = (w (6 * t + 158) (w (6 * t + 154) 15 - 1)) / 4 := hz6
    refine e_Ok.rets rfl rfl ?_
    have e15 : w3 (6 * t + 154) 15 = w (6 * t + 154) 15 - 1 := (by rw [← hw3]; exact e_up_eq _ _ _ _)
    exact ⟨_, rfl, f4, hT5, tS.less hs (by omega) (by rw [show w3 (6 * t + 154) 4 = w (6 * t + 154) 4 from (by rw [← hw3]; exact (e_up_ne _ _ (Or.inr (by omega))).trans rfl)]; omega) (fun d k g1 g2 => by rw [← hw3, e_up_ne _ _ (by omega)]), by omega, (by rw [← hw3]; exact (e_up_ne _ _ (Or.inr (by omega))).trans rfl), fun g => ⟨by omega, by rw [e15, show w3 ((6 * t + 154) + 5) = w ((6 * t + 154) + 5) from funext fun k => by rw [← hw3, e_up_ne _ _ (by omega)]]; exact ⟨(hq.2.2 (by rw [show (6 * t + 154) + 4 = 6 * t + 158 by omega]; omega)).1, fun g3 => (hq.2.2 (by rw [show (6 * t + 154) + 4 = 6 * t + 158 by omega]; omega)).2 (by rw [show (6 * t + 154) + 4 = 6 * t + 158 by omega]; omega)⟩⟩⟩
  · replace h2 : (w (6 * t + 154) 15 : Int) < 1 := by have q : ¬ ((w (6 * t + 154) 15 : Int) ≥ 1) := h2; omega
    refine e_Ok.run (t' := (9, [(0, (1, 6 * t + 154))], [(0, 0)], w)) 1 rfl ?_
    refine e_Ok.rets rfl rfl ?_
    exact ⟨_, rfl, e_fr.refl w, hT, hs, by omega, rfl, fun g => by omega⟩
theorem c_71 {d : Nat} (hd : 25 ≤ d) {w : eW} (hT : e_Has kTy w) {t o n : Int} (g_t : 0 ≤ t ∧ t ≤ 15) (g_o : 40 ≤ o ∧ o ≤ 63) (g_n : 0 ≤ n ∧ n ≤ 33554431) {OP OD CL : Int → Int → Int} {h : Int} (q : kI w OP OD CL h t) (hk : sK w) (hst : w (6 * t + 154) 1 = 1) {a : Int} (ga : 0 ≤ a ∧ a ≤ 3) (ha : w (6 * t + 154) 2 = a) {cd : Int} (hcv : w (17 * a + 86) 7 = cd) (ho : OP a (w (6 * t + 154) 3 - 1) = o) (hn : OD a (w (6 * t + 154) 3 - 1) = n) (h50 : o ≠ 50) (he : w 74 1 < 2147483647) : e_Ok 20 elay kcode eI d 71 (0, [(0, (1, 8)), (1, (1, 6 * t + 154)), (2, (1, cd)), (3, (0, o)), (4, (0, n))], [], w) (fun r w' => r = [] ∧ e_fr (kLd t) w w' ∧ e_Has kTy w' ∧ (kI w' OP OD CL h t ∧ sK w' ∧ w' (6 * t + 154) 2 = a ∧ w 74 1 ≤ w' 74 1 ∧ w' 74 1 ≤ w 74 1 + 1 ∧ (w' (6 * t + 154) 1 = 1 → 40 ≤ OP a (w' (6 * t + 154) 3) ∧ w' 74 1 = w 74 1) ∧ (w' (6 * t + 154) 1 = 1 ∨ w' (6 * t + 154) 1 = 6))) := by
  obtain ⟨d, rfl⟩ : ∃ e, d = e + 1 := ⟨d - 1, by omega⟩
  have hco := q.co (a := a) (by omega) (by omega)
  rw [hcv] at hco
  have hcd := hco.1.1
  have hcd0 := hcd
  unfold isCd at hcd0
  have hD := hco.2.1
  have hts := q.tsx0 (by omega) hst
  rw [ha] at hts
  have h74 := e_Has.get hT (c := 74) (k := 1) (lo := 0) (hi := 2147483647) rfl (by decide)
  have h15 := e_Has.get hT (c := 6 * t + 154) (k := 15) (lo := 0) (hi := 600) (kT_15 (t := t) rfl (by omega)) (by decide)
  have h3 := e_Has.get hT (c := 6 * t + 154) (k := 3) (lo := -2147483648) (hi := 2147483647) (kT_3 (t := t) rfl (by omega)) (by decide)
  refine e_Ok.run (t' := (1, [(0, (1, 8)), (1, (1, 6 * t + 154)), (2, (1, cd)), (3, (0, o)), (4, (0, n))], [(0, o)], w)) 1 rfl ?_
  have hs2 : ∀ x : Int, 40 ≤ x ∧ x ≤ 63 ∧ x ≠ 50 → (x = 40) ∨ (x = 41) ∨ (x = 42) ∨ (x = 43) ∨ (x = 44) ∨ (x = 45 ∨ x = 49 ∨ x = 51 ∨ x = 52 ∨ x = 53 ∨ x = 54 ∨ x = 55 ∨ x = 56 ∨ x = 57 ∨ x = 58 ∨ x = 59 ∨ x = 60 ∨ x = 61 ∨ x = 62 ∨ x = 63) ∨ (x = 46) ∨ (x = 47) ∨ (x = 48) := fun x h => by omega
  obtain h1 | h1 | h1 | h1 | h1 | h1 | h1 | h1 | h1 := hs2 (o) (by omega)
  · refine e_Ok.swk (tg := 52) rfl (by rw [h1]; rfl) ?_
    refine e_Ok.run (t' := (55, [(0, (1, 8)), (1, (1, 6 * t + 154)), (2, (1, cd)), (3, (0, o)), (4, (0, n))], [(0, n), (1, 6 * t + 154)], w)) 2 rfl ?_
    refine e_Ok.putf rfl (lT0 (t := t) (by omega) (by omega)) rfl rfl ?_
    generalize hw3 : e_up w (6 * t + 154) 3 n = w3
    have f4 : e_fr (kLd t) w w3 := e_fr.up (e_fr.refl w) hw3 (by unfold kLd; omega)
    have hT5 : e_Has kTy w3 := e_Has.upr hT hw3 (kT_3 (t := t) (by omega) (by omega)) (by omega)
    refine e_Ok.run (t' := (143, [(0, (1, 8)), (1, (1, 6 * t + 154)), (2, (1, cd)), (3, (0, o)), (4, (0, n))], [(1, 6 * t + 154), (1, 8)], w3)) 3 rfl ?_
    have Q9 := kI.pc q hT5 (by omega) hst hw3
    have ev0 : w3 74 1 = w 74 1 := (by rw [← hw3]; exact (e_up_ne _ _ (Or.inr (by omega))).trans rfl)
    refine e_Ok.callV rfl (by omega) rfl rfl rfl rfl (c_49 (by omega) (t := t) hT5 (by omega) Q9 (by rw [(show w3 (6 * t + 154) 2 = a from (by rw [← hw3]; exact (e_up_ne _ _ (Or.inr (by omega))).trans ha))]; omega) (by omega)) (fun r6 w7 h8 => ?_)
    obtain ⟨rfl, q10f, q10T, q10x⟩ := h8
    have f11 : e_fr (kLd t) w w7 := e_fr.trans f4 (e_fr.mono q10f (fun c k q => by unfold kEl at q; unfold kLd; omega))
    show e_Ok 20 elay kcode eI (d + 1) 71 (146, [(0, (1, 8)), (1, (1, 6 * t + 154)), (2, (1, cd)), (3, (0, o)), (4, (0, n))], [], w7) _
    refine e_Ok.rets rfl rfl ?_
    have hz : w7 (6 * t + 154) 1 = 1 → 40 ≤ OP a (w7 (6 * t + 154) 3) ∧ w7 74 1 = w 74 1 := fun g => by
      rcases q10x.2.2.2 with ⟨g1, hfr⟩ | g1
      · rw [g1]; exact ⟨(by rw [(show w3 (6 * t + 154) 3 = n from (by rw [← hw3]; exact e_up_eq _ _ _ _)), ← hn]; exact (hD.2.2 (w (6 * t + 154) 3 - 1)).2.1 (by omega)), ev0⟩
      · rw [g1] at g; exact absurd g (by decide)
    have h6 : w7 (6 * t + 154) 1 = 1 ∨ w7 (6 * t + 154) 1 = 6 := by
      rcases q10x.2.2.2 with ⟨g1, -⟩ | g1
      · rw [g1]; exact Or.inl (Eq.trans (show w3 (6 * t + 154) 1 = w (6 * t + 154) 1 from (by rw [← hw3]; exact (e_up_ne _ _ (Or.inr (by omega))).trans rfl)) hst)
      · exact Or.inr g1
    exact ⟨rfl, f11, q10T, ⟨q10x.1, sK.fr q10f (by unfold kEl; omega) (fun k => by unfold kEl; omega) (sK.eq (fun c k g => by rw [← hw3, e_up_ne _ _ (by omega)]) hk), Eq.trans (q10f _ _ (by unfold kEl; omega)) (show w3 (6 * t + 154) 2 = a from (by rw [← hw3]; exact (e_up_ne _ _ (Or.inr (by omega))).trans ha)), by have := q10x.2; omega, by have := q10x.2; omega, hz, h6⟩⟩
  · refine e_Ok.swk (tg := 61) rfl (by rw [h1]; rfl) ?_
    refine e_Ok.run (t' := (62, [(0, (1, 8)), (1, (1, 6 * t + 154)), (2, (1, cd)), (3, (0, o)), (4, (0, n))], [(1, 8)], w)) 1 rfl ?_
    refine e_Ok.callV rfl (by omega) rfl rfl rfl rfl (c_53 hT hk) (fun r12 w13 h14 => ?_)
    obtain ⟨z16, rfl, q15f, q15T, q15r, q15x⟩ := h14
    have f17 : e_fr (kLd t) w w13 := e_fr.trans (e_fr.refl w) (e_fr.mono q15f (fun c k q => by unfold kDs at q; unfold kLd; omega))
    have Q18 := kI.hm q q15T (e_fr.mono q15f (fun c k g => hm_kDs g))
    show e_Ok 20 elay kcode eI (d + 1) 71 (65, [(0, (1, 8)), (1, (1, 6 * t + 154)), (2, (1, cd)), (3, (0, o)), (4, (0, n))], [(0, z16)], w13) _
    refine e_Ok.if1 rfl (fun h19 => ?_) (fun h19 => ?_)
    · replace h19 : (z16 : Int) ≠ 0 := h19
      refine e_Ok.run (t' := (143, [(0, (1, 8)), (1, (1, 6 * t + 154)), (2, (1, cd)), (3, (0, o)), (4, (0, n))], [(1, 6 * t + 154), (1, 8)], w13)) 2 rfl ?_
      have ev0 : w13 74 1 = w 74 1 := ((q15f 74 1 (by unfold kDs; omega)).trans rfl)
      refine e_Ok.callV rfl (by omega) rfl rfl rfl rfl (c_49 (by omega) (t := t) q15T (by omega) Q18 (by rw [(show w13 (6 * t + 154) 2 = a from ((q15f (6 * t + 154) 2 (by unfold kDs; omega)).trans ha))]; omega) (by omega)) (fun r20 w21 h22 => ?_)
      obtain ⟨rfl, q23f, q23T, q23x⟩ := h22
      have f24 : e_fr (kLd t) w w21 := e_fr.trans f17 (e_fr.mono q23f (fun c k q => by unfold kEl at q; unfold kLd; omega))
      show e_Ok 20 elay kcode eI (d + 1) 71 (146, [(0, (1, 8)), (1, (1, 6 * t + 154)), (2, (1, cd)), (3, (0, o)), (4, (0, n))], [], w21) _
      refine e_Ok.rets rfl rfl ?_
      have hz : w21 (6 * t + 154) 1 = 1 → 40 ≤ OP a (w21 (6 * t + 154) 3) ∧ w21 74 1 = w 74 1 := fun g => by
        rcases q23x.2.2.2 with ⟨g1, hfr⟩ | g1
        · rw [g1]; exact ⟨(by rw [(show w13 (6 * t + 154) 3 = w (6 * t + 154) 3 from ((q15f (6 * t + 154) 3 (by unfold kDs; omega)).trans rfl))]; exact (by have g := (hD.2.2 (w (6 * t + 154) 3 - 1)).2.2.1 (by omega); rw [show w (6 * t + 154) 3 - 1 + 1 = w (6 * t + 154) 3 by omega] at g; exact g)), ev0⟩
        · rw [g1] at g; exact absurd g (by decide)
      have h6 : w21 (6 * t + 154) 1 = 1 ∨ w21 (6 * t + 154) 1 = 6 := by
        rcases q23x.2.2.2 with ⟨g1, -⟩ | g1
        · rw [g1]; exact Or.inl (Eq.trans (show w13 (6 * t + 154) 1 = w (6 * t + 154) 1 from ((q15f (6 * t + 154) 1 (by unfold kDs; omega)).trans rfl)) hst)
        · exact Or.inr g1
      exact ⟨rfl, f24, q23T, ⟨q23x.1, sK.fr q23f (by unfold kEl; omega) (fun k => by unfold kEl; omega) q15x, Eq.trans (q23f _ _ (by unfold kEl; omega)) (show w13 (6 * t + 154) 2 = a from ((q15f (6 * t + 154) 2 (by unfold kDs; omega)).trans ha)), by have := q23x.2; omega, by have := q23x.2; omega, hz, h6⟩⟩
    · replace h19 : (z16 : Int) = 0 := by have q : ¬ ((z16 : Int) ≠ 0) := h19; omega
      refine e_Ok.run (t' := (71, [(0, (1, 8)), (1, (1, 6 * t + 154)), (2, (1, cd)), (3, (0, o)), (4, (0, n))], [(0, n), (1, 6 * t + 154)], w13)) 2 rfl ?_
      refine e_Ok.putf rfl (lT0 (t := t) (by omega) (by omega)) rfl rfl ?_
      generalize hw25 : e_up w13 (6 * t + 154) 3 n = w25
      have f26 : e_fr (kLd t) w w25 := e_fr.up f17 hw25 (by unfold kLd; omega)
      have hT27 : e_Has kTy w25 := e_Has.upr q15T hw25 (kT_3 (t := t) (by omega) (by omega)) (by omega)
      refine e_Ok.run (t' := (143, [(0, (1, 8)), (1, (1, 6 * t + 154)), (2, (1, cd)), (3, (0, o)), (4, (0, n))], [(1, 6 * t + 154), (1, 8)], w25)) 3 rfl ?_
      have Q31 := kI.pc Q18 hT27 (by omega) (Eq.trans (show w13 (6 * t + 154) 1 = w (6 * t + 154) 1 from ((q15f (6 * t + 154) 1 (by unfold kDs; omega)).trans rfl)) hst) hw25
      have ev0 : w25 74 1 = w 74 1 := (by rw [← hw25]; exact (e_up_ne _ _ (Or.inr (by omega))).trans ((q15f 74 1 (by unfold kDs; omega)).trans rfl))
      refine e_Ok.callV rfl (by omega) rfl rfl rfl rfl (c_49 (by omega) (t := t) hT27 (by omega) Q31 (by rw [(show w25 (6 * t + 154) 2 = a from (by rw [← hw25]; exact (e_up_ne _ _ (Or.inr (by omega))).trans ((q15f (6 * t + 154) 2 (by unfold kDs; omega)).trans ha)))]; omega) (by omega)) (fun r28 w29 h30 => ?_)
      obtain ⟨rfl, q32f, q32T, q32x⟩ := h30
      have f33 : e_fr (kLd t) w w29 := e_fr.trans f26 (e_fr.mono q32f (fun c k q => by unfold kEl at q; unfold kLd; omega))
      show e_Ok 20 elay kcode eI (d + 1) 71 (146, [(0, (1, 8)), (1, (1, 6 * t + 154)), (2, (1, cd)), (3, (0, o)), (4, (0, n))], [], w29) _
      refine e_Ok.rets rfl rfl ?_
      have hz : w29 (6 * t + 154) 1 = 1 → 40 ≤ OP a (w29 (6 * t + 154) 3) ∧ w29 74 1 = w 74 1 := fun g => by
        rcases q32x.2.2.2 with ⟨g1, hfr⟩ | g1
        · rw [g1]; exact ⟨(by rw [(show w25 (6 * t + 154) 3 = n from (by rw [← hw25]; exact e_up_eq _ _ _ _))]; rw [← hn]; exact (hD.2.2 (w (6 * t + 154) 3 - 1)).2.1 (by omega)), ev0⟩
        · rw [g1] at g; exact absurd g (by decide)
      have h6 : w29 (6 * t + 154) 1 = 1 ∨ w29 (6 * t + 154) 1 = 6 := by
        rcases q32x.2.2.2 with ⟨g1, -⟩ | g1
        · rw [g1]; exact Or.inl (Eq.trans (show w25 (6 * t + 154) 1 = w (6 * t + 154) 1 from (by rw [← hw25]; exact (e_up_ne _ _ (Or.inr (by omega))).trans ((q15f (6 * t + 154) 1 (by unfold kDs; omega)).trans rfl))) hst)
        · exact Or.inr g1
      exact ⟨rfl, f33, q32T, ⟨q32x.1, sK.fr q32f (by unfold kEl; omega) (fun k => by unfold kEl; omega) (sK.eq (fun c k g => by rw [← hw25, e_up_ne _ _ (by omega)]) q15x), Eq.trans (q32f _ _ (by unfold kEl; omega)) (show w25 (6 * t + 154) 2 = a from (by rw [← hw25]; exact (e_up_ne _ _ (Or.inr (by omega))).trans ((q15f (6 * t + 154) 2 (by unfold kDs; omega)).trans ha))), by have := q32x.2; omega, by have := q32x.2; omega, hz, h6⟩⟩
  · refine e_Ok.swk (tg := 77) rfl (by rw [h1]; rfl) ?_
    refine e_Ok.run (t' := (81, [(0, (1, 8)), (1, (1, 6 * t + 154)), (2, (1, cd)), (3, (0, o)), (4, (0, n))], [(0, 0), (0, 2), (1, cd), (1, 6 * t + 154)], w)) 4 rfl ?_
    obtain ⟨H, hH36⟩ := hts
    refine e_Ok.callV rfl (by omega) rfl (lT0 (t := t) (by omega) (by omega)) rfl rfl (c_188_2 (by omega) (t := t) (op := OP a) (od := OD a) (cd := cd) (H := H) hT (by omega) hco.1 hD (val := 0) (by omega) hH36) (fun r34 w35 h36 => ?_)
    obtain ⟨z38, rfl, q37f, q37T, q37s, q37z, q37x⟩ := h36
    have f40 : e_fr (kLd t) w w35 := e_fr.trans (e_fr.refl w) (e_fr.mono q37f (fun c k q => by unfold kLv at q; unfold kLd; omega))
    have Q41 := kI.tsx q q37T (by omega) q37f (fun c k g => th_kLv g) (by unfold kLv; omega) hst (by rw [ha]; exact ⟨H, q37s⟩)
    show e_Ok 20 elay kcode eI (d + 1) 71 (84, [(0, (1, 8)), (1, (1, 6 * t + 154)), (2, (1, cd)), (3, (0, o)), (4, (0, n))], [(0, z38)], w35) _
    refine e_Ok.run (t' := (143, [(0, (1, 8)), (1, (1, 6 * t + 154)), (2, (1, cd)), (3, (0, o)), (4, (0, n))], [(1, 6 * t + 154), (1, 8)], w35)) 4 rfl ?_
    have ev0 : w35 74 1 = w 74 1 := ((q37f 74 1 (by unfold kLv; omega)).trans rfl)
    refine e_Ok.callV rfl (by omega) rfl rfl rfl rfl (c_49 (by omega) (t := t) q37T (by omega) Q41 (by rw [(show w35 (6 * t + 154) 2 = a from ((q37f (6 * t + 154) 2 (by unfold kLv; omega)).trans ha))]; omega) (by omega)) (fun r42 w43 h44 => ?_)
    obtain ⟨rfl, q45f, q45T, q45x⟩ := h44
    have f46 : e_fr (kLd t) w w43 := e_fr.trans f40 (e_fr.mono q45f (fun c k q => by unfold kEl at q; unfold kLd; omega))
    show e_Ok 20 elay kcode eI (d + 1) 71 (146, [(0, (1, 8)), (1, (1, 6 * t + 154)), (2, (1, cd)), (3, (0, o)), (4, (0, n))], [], w43) _
    refine e_Ok.rets rfl rfl ?_
    have hz : w43 (6 * t + 154) 1 = 1 → 40 ≤ OP a (w43 (6 * t + 154) 3) ∧ w43 74 1 = w 74 1 := fun g => by
      rcases q45x.2.2.2 with ⟨g1, hfr⟩ | g1
      · rw [g1]; exact ⟨(q37x.elim (fun g => g) (fun g => absurd g (by omega))), ev0⟩
      · rw [g1] at g; exact absurd g (by decide)
    have h6 : w43 (6 * t + 154) 1 = 1 ∨ w43 (6 * t + 154) 1 = 6 := by
      rcases q45x.2.2.2 with ⟨g1, -⟩ | g1
      · rw [g1]; exact Or.inl (Eq.trans (show w35 (6 * t + 154) 1 = w (6 * t + 154) 1 from ((q37f (6 * t + 154) 1 (by unfold kLv; omega)).trans rfl)) hst)
      · exact Or.inr g1
    exact ⟨rfl, f46, q45T, ⟨q45x.1, sK.fr q45f (by unfold kEl; omega) (fun k => by unfold kEl; omega) (sK.fr q37f (by unfold kLv; omega) (fun k => by unfold kLv; omega) hk), Eq.trans (q45f _ _ (by unfold kEl; omega)) (show w35 (6 * t + 154) 2 = a from ((q37f (6 * t + 154) 2 (by unfold kLv; omega)).trans ha)), by have := q45x.2; omega, by have := q45x.2; omega, hz, h6⟩⟩
  · refine e_Ok.swk (tg := 88) rfl (by rw [h1]; rfl) ?_
    refine e_Ok.run (t' := (89, [(0, (1, 8)), (1, (1, 6 * t + 154)), (2, (1, cd)), (3, (0, o)), (4, (0, n))], [(1, 6 * t + 154)], w)) 1 rfl ?_
    obtain ⟨H, hH49⟩ := hts
    refine e_Ok.callV rfl (by omega) rfl (lT0 (t := t) (by omega) (by omega)) rfl rfl (c_183 (t := t) (op := OP a) (H := H) hT (by omega) hH49) (fun r47 w48 h49 => ?_)
    obtain ⟨rfl, q51f, q51T, q51s, q51x⟩ := h49
    have f52 : e_fr (kLd t) w w48 := e_fr.trans (e_fr.refl w) (e_fr.mono q51f (fun c k q => by unfold kLv at q; unfold kLd; omega))
    have Q53 := kI.tsx q q51T (by omega) q51f (fun c k g => th_kLv g) (by unfold kLv; omega) hst (by rw [ha]; exact ⟨H, q51s⟩)
    show e_Ok 20 elay kcode eI (d + 1) 71 (92, [(0, (1, 8)), (1, (1, 6 * t + 154)), (2, (1, cd)), (3, (0, o)), (4, (0, n))], [], w48) _
    refine e_Ok.run (t' := (143, [(0, (1, 8)), (1, (1, 6 * t + 154)), (2, (1, cd)), (3, (0, o)), (4, (0, n))], [(1, 6 * t + 154), (1, 8)], w48)) 3 rfl ?_
    have ev0 : w48 74 1 = w 74 1 := ((q51f 74 1 (by unfold kLv; omega)).trans rfl)
    refine e_Ok.callV rfl (by omega) rfl rfl rfl rfl (c_49 (by omega) (t := t) q51T (by omega) Q53 (by rw [(show w48 (6 * t + 154) 2 = a from ((q51f (6 * t + 154) 2 (by unfold kLv; omega)).trans ha))]; omega) (by omega)) (fun r54 w55 h56 => ?_)
    obtain ⟨rfl, q57f, q57T, q57x⟩ := h56
    have f58 : e_fr (kLd t) w w55 := e_fr.trans f52 (e_fr.mono q57f (fun c k q => by unfold kEl at q; unfold kLd; omega))
    show e_Ok 20 elay kcode eI (d + 1) 71 (146, [(0, (1, 8)), (1, (1, 6 * t + 154)), (2, (1, cd)), (3, (0, o)), (4, (0, n))], [], w55) _
    refine e_Ok.rets rfl rfl ?_
    have hz : w55 (6 * t + 154) 1 = 1 → 40 ≤ OP a (w55 (6 * t + 154) 3) ∧ w55 74 1 = w 74 1 := fun g => by
      rcases q57x.2.2.2 with ⟨g1, hfr⟩ | g1
      · rw [g1]; exact ⟨(by rcases q51x with ⟨g1, g2⟩ | ⟨g1, g2, g3⟩; (exact absurd g1 (by rw [g2] at hfr; omega)); (exact g3 hfr)), ev0⟩
      · rw [g1] at g; exact absurd g (by decide)
    have h6 : w55 (6 * t + 154) 1 = 1 ∨ w55 (6 * t + 154) 1 = 6 := by
      rcases q57x.2.2.2 with ⟨g1, -⟩ | g1
      · rw [g1]; exact Or.inl (Eq.trans (show w48 (6 * t + 154) 1 = w (6 * t + 154) 1 from ((q51f (6 * t + 154) 1 (by unfold kLv; omega)).trans rfl)) hst)
      · exact Or.inr g1
    exact ⟨rfl, f58, q57T, ⟨q57x.1, sK.fr q57f (by unfold kEl; omega) (fun k => by unfold kEl; omega) (sK.fr q51f (by unfold kLv; omega) (fun k => by unfold kLv; omega) hk), Eq.trans (q57f _ _ (by unfold kEl; omega)) (show w48 (6 * t + 154) 2 = a from ((q51f (6 * t + 154) 2 (by unfold kLv; omega)).trans ha)), by have := q57x.2; omega, by have := q57x.2; omega, hz, h6⟩⟩
  · refine e_Ok.swk (tg := 95) rfl (by rw [h1]; rfl) ?_
    refine e_Ok.run (t' := (100, [(0, (1, 8)), (1, (1, 6 * t + 154)), (2, (1, cd)), (3, (0, o)), (4, (0, n))], [(0, n), (0, 3), (1, cd), (1, 6 * t + 154)], w)) 4 rfl ?_
    obtain ⟨H, hH61⟩ := hts
    refine e_Ok.callV rfl (by omega) rfl (lT0 (t := t) (by omega) (by omega)) rfl rfl (c_188_3 (by omega) (t := t) (op := OP a) (od := OD a) (cd := cd) (H := H) hT (by omega) hco.1 hD (val := n) (by omega) hH61 (by rw [← hn]; exact (hD.2.2 (w (6 * t + 154) 3 - 1)).2.2.2.2.1 (by omega))) (fun r59 w60 h61 => ?_)
    obtain ⟨z63, rfl, q62f, q62T, q62s, q62z, q62x⟩ := h61
    have f64 : e_fr (kLd t) w w60 := e_fr.trans (e_fr.refl w) (e_fr.mono q62f (fun c k q => by unfold kLv at q; unfold kLd; omega))
    have Q65 := kI.tsx q q62T (by omega) q62f (fun c k g => th_kLv g) (by unfold kLv; omega) hst (by rw [ha]; exact ⟨H, q62s⟩)
    show e_Ok 20 elay kcode eI (d + 1) 71 (103, [(0, (1, 8)), (1, (1, 6 * t + 154)), (2, (1, cd)), (3, (0, o)), (4, (0, n))], [(0, z63)], w60) _
    refine e_Ok.run (t' := (143, [(0, (1, 8)), (1, (1, 6 * t + 154)), (2, (1, cd)), (3, (0, o)), (4, (0, n))], [(1, 6 * t + 154), (1, 8)], w60)) 4 rfl ?_
    have ev0 : w60 74 1 = w 74 1 := ((q62f 74 1 (by unfold kLv; omega)).trans rfl)
    refine e_Ok.callV rfl (by omega) rfl rfl rfl rfl (c_49 (by omega) (t := t) q62T (by omega) Q65 (by rw [(show w60 (6 * t + 154) 2 = a from ((q62f (6 * t + 154) 2 (by unfold kLv; omega)).trans ha))]; omega) (by omega)) (fun r66 w67 h68 => ?_)
    obtain ⟨rfl, q69f, q69T, q69x⟩ := h68
    have f70 : e_fr (kLd t) w w67 := e_fr.trans f64 (e_fr.mono q69f (fun c k q => by unfold kEl at q; unfold kLd; omega))
    show e_Ok 20 elay kcode eI (d + 1) 71 (146, [(0, (1, 8)), (1, (1, 6 * t + 154)), (2, (1, cd)), (3, (0, o)), (4, (0, n))], [], w67) _
    refine e_Ok.rets rfl rfl ?_
    have hz : w67 (6 * t + 154) 1 = 1 → 40 ≤ OP a (w67 (6 * t + 154) 3) ∧ w67 74 1 = w 74 1 := fun g => by
      rcases q69x.2.2.2 with ⟨g1, hfr⟩ | g1
      · rw [g1]; exact ⟨(q62x.elim (fun g => g) (fun g => absurd g (by omega))), ev0⟩
      · rw [g1] at g; exact absurd g (by decide)
    have h6 : w67 (6 * t + 154) 1 = 1 ∨ w67 (6 * t + 154) 1 = 6 := by
      rcases q69x.2.2.2 with ⟨g1, -⟩ | g1
      · rw [g1]; exact Or.inl (Eq.trans (show w60 (6 * t + 154) 1 = w (6 * t + 154) 1 from ((q62f (6 * t + 154) 1 (by unfold kLv; omega)).trans rfl)) hst)
      · exact Or.inr g1
    exact ⟨rfl, f70, q69T, ⟨q69x.1, sK.fr q69f (by unfold kEl; omega) (fun k => by unfold kEl; omega) (sK.fr q62f (by unfold kLv; omega) (fun k => by unfold kLv; omega) hk), Eq.trans (q69f _ _ (by unfold kEl; omega)) (show w60 (6 * t + 154) 2 = a from ((q62f (6 * t + 154) 2 (by unfold kLv; omega)).trans ha)), by have := q69x.2; omega, by have := q69x.2; omega, hz, h6⟩⟩
  · refine e_Ok.swk (tg := 141) rfl (by rcases h1 with h1 | h1 | h1 | h1 | h1 | h1 | h1 | h1 | h1 | h1 | h1 | h1 | h1 | h1 | h1 <;> (rw [h1]; rfl)) ?_
    refine e_Ok.run (t' := (143, [(0, (1, 8)), (1, (1, 6 * t + 154)), (2, (1, cd)), (3, (0, o)), (4, (0, n))], [(1, 6 * t + 154), (1, 8)], w)) 2 rfl ?_
    have ev0 : w 74 1 = w 74 1 := rfl
    refine e_Ok.callV rfl (by omega) rfl rfl rfl rfl (c_49 (by omega) (t := t) hT (by omega) q (by rw [ha]; omega) (by omega)) (fun r71 w72 h73 => ?_)
    obtain ⟨rfl, q74f, q74T, q74x⟩ := h73
    have f75 : e_fr (kLd t) w w72 := e_fr.trans (e_fr.refl w) (e_fr.mono q74f (fun c k q => by unfold kEl at q; unfold kLd; omega))
    show e_Ok 20 elay kcode eI (d + 1) 71 (146, [(0, (1, 8)), (1, (1, 6 * t + 154)), (2, (1, cd)), (3, (0, o)), (4, (0, n))], [], w72) _
    refine e_Ok.rets rfl rfl ?_
    have hz : w72 (6 * t + 154) 1 = 1 → 40 ≤ OP a (w72 (6 * t + 154) 3) ∧ w72 74 1 = w 74 1 := fun g => by
      rcases q74x.2.2.2 with ⟨g1, hfr⟩ | g1
      · rw [g1]; exact ⟨(by rw [(show w (6 * t + 154) 3 = w (6 * t + 154) 3 from rfl)]; exact (by have g := (hD.2.2 (w (6 * t + 154) 3 - 1)).2.2.1 (by omega); rw [show w (6 * t + 154) 3 - 1 + 1 = w (6 * t + 154) 3 by omega] at g; exact g)), ev0⟩
      · rw [g1] at g; exact absurd g (by decide)
    have h6 : w72 (6 * t + 154) 1 = 1 ∨ w72 (6 * t + 154) 1 = 6 := by
      rcases q74x.2.2.2 with ⟨g1, -⟩ | g1
      · rw [g1]; exact Or.inl hst
      · exact Or.inr g1
    exact ⟨rfl, f75, q74T, ⟨q74x.1, sK.fr q74f (by unfold kEl; omega) (fun k => by unfold kEl; omega) hk, Eq.trans (q74f _ _ (by unfold kEl; omega)) ha, by have := q74x.2; omega, by have := q74x.2; omega, hz, h6⟩⟩
  · refine e_Ok.swk (tg := 107) rfl (by rw [h1]; rfl) ?_
    have hto : (0 ≤ w (6 * t + 154) 3 - 1 ∧ w (6 * t + 154) 3 - 1 ≤ 3999) ∧ OP a (w (6 * t + 154) 3 - 1 + 1) = 49 ∧ OP a (w (6 * t + 154) 3 - 1 + 2) = 49 ∧ OP a (w (6 * t + 154) 3 - 1 + 3) = 49 := by
      have g1 := hco.1.2 (w (6 * t + 154) 3 - 1)
      have g2 := e_Has.get hT (c := cd) (k := 0) (lo := 0) (hi := 4000) (kD_0 hcd) (by decide)
      exact ⟨by omega, (hD.2.2 (w (6 * t + 154) 3 - 1)).2.2.2.1 (by omega)⟩
    refine e_Ok.run (t' := (109, [(0, (1, 8)), (1, (1, 6 * t + 154)), (2, (1, cd)), (3, (0, o)), (4, (0, n))], [(1, 6 * t + 154), (1, 6 * t + 154)], w)) 2 rfl ?_
    refine e_Ok.getf (z := w (6 * t + 154) 3) rfl (lT0 (t := t) (by omega) (by omega)) rfl rfl rfl (by omega) ?_
    refine e_Ok.run (t' := (113, [(0, (1, 8)), (1, (1, 6 * t + 154)), (2, (1, cd)), (3, (0, o)), (4, (0, n))], [(0, 1), (0, w (6 * t + 154) 3), (1, 6 * t + 154)], w)) 1 rfl ?_
    refine e_Ok.sub' (z := w (6 * t + 154) 3 - 1) rfl (by omega) (by omega) ?_
    refine e_Ok.callV rfl (by omega) rfl (lT0 (t := t) (by omega) (by omega)) rfl rfl (c_184 (t := t) (op := OP a) hT (by omega) hto hts) (fun r76 w77 h78 => ?_)
    obtain ⟨rfl, q79f, q79T, q79s⟩ := h78
    have f80 : e_fr (kLd t) w w77 := e_fr.trans (e_fr.refl w) (e_fr.mono q79f (fun c k q => by unfold kOt at q; unfold kLd; omega))
    have Q81 := kI.tsx q q79T (by omega) q79f (fun c k g => th_kOt g) (by unfold kOt; omega) hst (by rw [ha]; exact q79s)
    show e_Ok 20 elay kcode eI (d + 1) 71 (117, [(0, (1, 8)), (1, (1, 6 * t + 154)), (2, (1, cd)), (3, (0, o)), (4, (0, n))], [], w77) _
    refine e_Ok.run (t' := (143, [(0, (1, 8)), (1, (1, 6 * t + 154)), (2, (1, cd)), (3, (0, o)), (4, (0, n))], [(1, 6 * t + 154), (1, 8)], w77)) 3 rfl ?_
    have ev0 : w77 74 1 = w 74 1 := ((q79f 74 1 (by unfold kOt; omega)).trans rfl)
    refine e_Ok.callV rfl (by omega) rfl rfl rfl rfl (c_49 (by omega) (t := t) q79T (by omega) Q81 (by rw [(show w77 (6 * t + 154) 2 = a from ((q79f (6 * t + 154) 2 (by unfold kOt; omega)).trans ha))]; omega) (by omega)) (fun r82 w83 h84 => ?_)
    obtain ⟨rfl, q85f, q85T, q85x⟩ := h84
    have f86 : e_fr (kLd t) w w83 := e_fr.trans f80 (e_fr.mono q85f (fun c k q => by unfold kEl at q; unfold kLd; omega))
    show e_Ok 20 elay kcode eI (d + 1) 71 (146, [(0, (1, 8)), (1, (1, 6 * t + 154)), (2, (1, cd)), (3, (0, o)), (4, (0, n))], [], w83) _
    refine e_Ok.rets rfl rfl ?_
    have hz : w83 (6 * t + 154) 1 = 1 → 40 ≤ OP a (w83 (6 * t + 154) 3) ∧ w83 74 1 = w 74 1 := fun g => by
      rcases q85x.2.2.2 with ⟨g1, hfr⟩ | g1
      · rw [g1]; exact ⟨(by rw [(show w77 (6 * t + 154) 3 = w (6 * t + 154) 3 from ((q79f (6 * t + 154) 3 (by unfold kOt; omega)).trans rfl))]; exact (by have g := (hD.2.2 (w (6 * t + 154) 3 - 1)).2.2.1 (by omega); rw [show w (6 * t + 154) 3 - 1 + 1 = w (6 * t + 154) 3 by omega] at g; exact g)), ev0⟩
      · rw [g1] at g; exact absurd g (by decide)
    have h6 : w83 (6 * t + 154) 1 = 1 ∨ w83 (6 * t + 154) 1 = 6 := by
      rcases q85x.2.2.2 with ⟨g1, -⟩ | g1
      · rw [g1]; exact Or.inl (Eq.trans (show w77 (6 * t + 154) 1 = w (6 * t + 154) 1 from ((q79f (6 * t + 154) 1 (by unfold kOt; omega)).trans rfl)) hst)
      · exact Or.inr g1
    exact ⟨rfl, f86, q85T, ⟨q85x.1, sK.fr q85f (by unfold kEl; omega) (fun k => by unfold kEl; omega) (sK.fr q79f (by unfold kOt; omega) (fun k => by unfold kOt; omega) hk), Eq.trans (q85f _ _ (by unfold kEl; omega)) (show w77 (6 * t + 154) 2 = a from ((q79f (6 * t + 154) 2 (by unfold kOt; omega)).trans ha)), by have := q85x.2; omega, by have := q85x.2; omega, hz, h6⟩⟩
  · refine e_Ok.swk (tg := 120) rfl (by rw [h1]; rfl) ?_
    refine e_Ok.run (t' := (122, [(0, (1, 8)), (1, (1, 6 * t + 154)), (2, (1, cd)), (3, (0, o)), (4, (0, n))], [(1, cd), (1, 6 * t + 154)], w)) 2 rfl ?_
    obtain ⟨H, hH89⟩ := hts
    refine e_Ok.callV rfl (by omega) rfl (lT0 (t := t) (by omega) (by omega)) rfl rfl (c_185 (by omega) (t := t) (op := OP a) (od := OD a) (cd := cd) (H := H) hT (by omega) hco.1 hD hH89) (fun r87 w88 h89 => ?_)
    obtain ⟨rfl, q91f, q91T, q91s, q91x⟩ := h89
    have f92 : e_fr (kLd t) w w88 := e_fr.trans (e_fr.refl w) (e_fr.mono q91f (fun c k q => by unfold kLv at q; unfold kLd; omega))
    have Q93 := kI.tsx q q91T (by omega) q91f (fun c k g => th_kLv g) (by unfold kLv; omega) hst (by rw [ha]; exact ⟨H, q91s⟩)
    show e_Ok 20 elay kcode eI (d + 1) 71 (125, [(0, (1, 8)), (1, (1, 6 * t + 154)), (2, (1, cd)), (3, (0, o)), (4, (0, n))], [], w88) _
    refine e_Ok.run (t' := (143, [(0, (1, 8)), (1, (1, 6 * t + 154)), (2, (1, cd)), (3, (0, o)), (4, (0, n))], [(1, 6 * t + 154), (1, 8)], w88)) 3 rfl ?_
    have ev0 : w88 74 1 = w 74 1 := ((q91f 74 1 (by unfold kLv; omega)).trans rfl)
    refine e_Ok.callV rfl (by omega) rfl rfl rfl rfl (c_49 (by omega) (t := t) q91T (by omega) Q93 (by rw [(show w88 (6 * t + 154) 2 = a from ((q91f (6 * t + 154) 2 (by unfold kLv; omega)).trans ha))]; omega) (by omega)) (fun r94 w95 h101 => ?_)
    obtain ⟨rfl, q103f, q103T, q103x⟩ := h101
    have f104 : e_fr (kLd t) w w95 := e_fr.trans f92 (e_fr.mono q103f (fun c k q => by unfold kEl at q; unfold kLd; omega))
    show e_Ok 20 elay kcode eI (d + 1) 71 (146, [(0, (1, 8)), (1, (1, 6 * t + 154)), (2, (1, cd)), (3, (0, o)), (4, (0, n))], [], w95) _
    refine e_Ok.rets rfl rfl ?_
    have hz : w95 (6 * t + 154) 1 = 1 → 40 ≤ OP a (w95 (6 * t + 154) 3) ∧ w95 74 1 = w 74 1 := fun g => by
      rcases q103x.2.2.2 with ⟨g1, hfr⟩ | g1
      · rw [g1]; exact ⟨(by rcases q91x with ⟨g1, g2⟩ | ⟨g1, g2⟩; (rw [g2]; exact (by have g := (hD.2.2 (w (6 * t + 154) 3 - 1)).2.2.1 (by omega); rw [show w (6 * t + 154) 3 - 1 + 1 = w (6 * t + 154) 3 by omega] at g; exact g)); (exact g1)), ev0⟩
      · rw [g1] at g; exact absurd g (by decide)
    have h6 : w95 (6 * t + 154) 1 = 1 ∨ w95 (6 * t + 154) 1 = 6 := by
      rcases q103x.2.2.2 with ⟨g1, -⟩ | g1
      · rw [g1]; exact Or.inl (Eq.trans (show w88 (6 * t + 154) 1 = w (6 * t + 154) 1 from ((q91f (6 * t + 154) 1 (by unfold kLv; omega)).trans rfl)) hst)
      · exact Or.inr g1
    exact ⟨rfl, f104, q103T, ⟨q103x.1, sK.fr q103f (by unfold kEl; omega) (fun k => by unfold kEl; omega) (sK.fr q91f (by unfold kLv; omega) (fun k => by unfold kLv; omega) hk), Eq.trans (q103f _ _ (by unfold kEl; omega)) (show w88 (6 * t + 154) 2 = a from ((q91f (6 * t + 154) 2 (by unfold kLv; omega)).trans ha)), by have := q103x.2; omega, by have := q103x.2; omega, hz, h6⟩⟩
  · refine e_Ok.swk (tg := 128) rfl (by rw [h1]; rfl) ?_
    refine e_Ok.run (t' := (132, [(0, (1, 8)), (1, (1, 6 * t + 154)), (2, (1, cd)), (3, (0, o)), (4, (0, n))], [(1, 6 * t + 154), (1, cd), (1, 6 * t + 154), (1, 8)], w)) 4 rfl ?_
    obtain ⟨H, hH107⟩ := hts
    refine e_Ok.callV rfl (by omega) rfl (lT0 (t := t) (by omega) (by omega)) rfl rfl (c_186_b (t := t) (op := OP a) (H := H) hT (by omega) hH107) (fun r105 w106 h107 => ?_)
    obtain ⟨z110, rfl, q109f, q109T, q109s, q109r, q109p, q109x⟩ := h107
    have f111 : e_fr (kLd t) w w106 := e_fr.trans (e_fr.refl w) (e_fr.mono q109f (fun c k q => by unfold kLv at q; unfold kLd; omega))
    have Q112 := kI.tsx q q109T (by omega) q109f (fun c k g => th_kLv g) (by unfold kLv; omega) hst (by rw [ha]; exact ⟨H, q109s⟩)
    obtain rfl | rfl | rfl | rfl : z110 = 0 ∨ z110 = 1 ∨ z110 = 2 ∨ z110 = 3 := by omega
    · show e_Ok 20 elay kcode eI (d + 1) 71 (135, [(0, (1, 8)), (1, (1, 6 * t + 154)), (2, (1, cd)), (3, (0, o)), (4, (0, n))], [(0, 0), (1, cd), (1, 6 * t + 154), (1, 8)], w106) _
      refine e_Ok.callV rfl (by omega) rfl rfl rfl rfl (c_72_0 (by omega) (t := t) q109T (by omega) Q112 (sK.fr q109f (by unfold kLv; omega) (fun k => by unfold kLv; omega) hk) (Eq.trans (show w106 (6 * t + 154) 1 = w (6 * t + 154) 1 from ((q109f (6 * t + 154) 1 (by unfold kLv; omega)).trans rfl)) hst) (by omega) (show w106 (6 * t + 154) 2 = a from ((q109f (6 * t + 154) 2 (by unfold kLv; omega)).trans ha)) (Eq.trans (q109f _ _ (by unfold kLv; omega)) hcv)) (fun r113 w114 h115 => ?_)
      obtain ⟨rfl, q116f, q116T, q116x⟩ := h115
      have f117 : e_fr (kLd t) w w114 := e_fr.trans f111 (e_fr.mono q116f (fun c k q => by unfold kLf at q; unfold kLd; omega))
      show e_Ok 20 elay kcode eI (d + 1) 71 (138, [(0, (1, 8)), (1, (1, 6 * t + 154)), (2, (1, cd)), (3, (0, o)), (4, (0, n))], [], w114) _
      refine e_Ok.run (t' := (143, [(0, (1, 8)), (1, (1, 6 * t + 154)), (2, (1, cd)), (3, (0, o)), (4, (0, n))], [(1, 6 * t + 154), (1, 8)], w114)) 3 rfl ?_
      have ev0 : w114 74 1 = w 74 1 := ((q116f 74 1 (by unfold kLf; omega)).trans ((q109f 74 1 (by unfold kLv; omega)).trans rfl))
      refine e_Ok.callV rfl (by omega) rfl rfl rfl rfl (c_49 (by omega) (t := t) q116T (by omega) q116x.1 (by rw [(show w114 (6 * t + 154) 2 = a from ((q116f (6 * t + 154) 2 (by unfold kLf; omega)).trans ((q109f (6 * t + 154) 2 (by unfold kLv; omega)).trans ha)))]; omega) (by omega)) (fun r118 w119 h120 => ?_)
      obtain ⟨rfl, q121f, q121T, q121x⟩ := h120
      have f122 : e_fr (kLd t) w w119 := e_fr.trans f117 (e_fr.mono q121f (fun c k q => by unfold kEl at q; unfold kLd; omega))
      show e_Ok 20 elay kcode eI (d + 1) 71 (146, [(0, (1, 8)), (1, (1, 6 * t + 154)), (2, (1, cd)), (3, (0, o)), (4, (0, n))], [], w119) _
      refine e_Ok.rets rfl rfl ?_
      have hz : w119 (6 * t + 154) 1 = 1 → 40 ≤ OP a (w119 (6 * t + 154) 3) ∧ w119 74 1 = w 74 1 := fun g => by
        rcases q121x.2.2.2 with ⟨g1, hfr⟩ | g1
        · rw [g1]; exact ⟨(by rcases q116x.2.2.2.2 with g | g | g; (rw [g, (show w106 (6 * t + 154) 3 = w (6 * t + 154) 3 from q109p)]; exact (by have g := (hD.2.2 (w (6 * t + 154) 3 - 1)).2.2.1 (by omega); rw [show w (6 * t + 154) 3 - 1 + 1 = w (6 * t + 154) 3 by omega] at g; exact g)); (exact g); (exact absurd g (by omega))), ev0⟩
        · rw [g1] at g; exact absurd g (by decide)
      have h6 : w119 (6 * t + 154) 1 = 1 ∨ w119 (6 * t + 154) 1 = 6 := by
        rcases q121x.2.2.2 with ⟨g1, -⟩ | g1
        · rw [g1]; exact Or.inl (Eq.trans (show w114 (6 * t + 154) 1 = w (6 * t + 154) 1 from ((q116f (6 * t + 154) 1 (by unfold kLf; omega)).trans ((q109f (6 * t + 154) 1 (by unfold kLv; omega)).trans rfl))) hst)
        · exact Or.inr g1
      exact ⟨rfl, f122, q121T, ⟨q121x.1, sK.fr q121f (by unfold kEl; omega) (fun k => by unfold kEl; omega) q116x.2.1, Eq.trans (q121f _ _ (by unfold kEl; omega)) (show w114 (6 * t + 154) 2 = a from ((q116f (6 * t + 154) 2 (by unfold kLf; omega)).trans ((q109f (6 * t + 154) 2 (by unfold kLv; omega)).trans ha))), by have := q121x.2; omega, by have := q121x.2; omega, hz, h6⟩⟩
    · show e_Ok 20 elay kcode eI (d + 1) 71 (135, [(0, (1, 8)), (1, (1, 6 * t + 154)), (2, (1, cd)), (3, (0, o)), (4, (0, n))], [(0, 1), (1, cd), (1, 6 * t + 154), (1, 8)], w106) _
      refine e_Ok.callV rfl (by omega) rfl rfl rfl rfl (c_72_1 (by omega) (t := t) q109T (by omega) Q112 (sK.fr q109f (by unfold kLv; omega) (fun k => by unfold kLv; omega) hk) (Eq.trans (show w106 (6 * t + 154) 1 = w (6 * t + 154) 1 from ((q109f (6 * t + 154) 1 (by unfold kLv; omega)).trans rfl)) hst) (by omega) (show w106 (6 * t + 154) 2 = a from ((q109f (6 * t + 154) 2 (by unfold kLv; omega)).trans ha)) (Eq.trans (q109f _ _ (by unfold kLv; omega)) hcv) (q109x (by decide)).1 (q109x (by decide)).2.1) (fun r123 w124 h125 => ?_)
      obtain ⟨rfl, q126f, q126T, q126x⟩ := h125
      have f127 : e_fr (kLd t) w w124 := e_fr.trans f111 (e_fr.mono q126f (fun c k q => by unfold kLf at q; unfold kLd; omega))
      show e_Ok 20 elay kcode eI (d + 1) 71 (138, [(0, (1, 8)), (1, (1, 6 * t + 154)), (2, (1, cd)), (3, (0, o)), (4, (0, n))], [], w124) _
      refine e_Ok.run (t' := (143, [(0, (1, 8)), (1, (1, 6 * t + 154)), (2, (1, cd)), (3, (0, o)), (4, (0, n))], [(1, 6 * t + 154), (1, 8)], w124)) 3 rfl ?_
      have ev0 : w124 74 1 = w 74 1 := ((q126f 74 1 (by unfold kLf; omega)).trans ((q109f 74 1 (by unfold kLv; omega)).trans rfl))
      refine e_Ok.callV rfl (by omega) rfl rfl rfl rfl (c_49 (by omega) (t := t) q126T (by omega) q126x.1 (by rw [(show w124 (6 * t + 154) 2 = a from ((q126f (6 * t + 154) 2 (by unfold kLf; omega)).trans ((q109f (6 * t + 154) 2 (by unfold kLv; omega)).trans ha)))]; omega) (by omega)) (fun r128 w129 h130 => ?_)
      obtain ⟨rfl, q131f, q131T, q131x⟩ := h130
      have f132 : e_fr (kLd t) w w129 := e_fr.trans f127 (e_fr.mono q131f (fun c k q => by unfold kEl at q; unfold kLd; omega))
      show e_Ok 20 elay kcode eI (d + 1) 71 (146, [(0, (1, 8)), (1, (1, 6 * t + 154)), (2, (1, cd)), (3, (0, o)), (4, (0, n))], [], w129) _
      refine e_Ok.rets rfl rfl ?_
      have hz : w129 (6 * t + 154) 1 = 1 → 40 ≤ OP a (w129 (6 * t + 154) 3) ∧ w129 74 1 = w 74 1 := fun g => by
        rcases q131x.2.2.2 with ⟨g1, hfr⟩ | g1
        · rw [g1]; exact ⟨(by rcases q126x.2.2.2.2 with g | g | g; (rw [g, (show w106 (6 * t + 154) 3 = w (6 * t + 154) 3 from q109p)]; exact (by have g := (hD.2.2 (w (6 * t + 154) 3 - 1)).2.2.1 (by omega); rw [show w (6 * t + 154) 3 - 1 + 1 = w (6 * t + 154) 3 by omega] at g; exact g)); (exact g); (exact absurd g (by omega))), ev0⟩
        · rw [g1] at g; exact absurd g (by decide)
      have h6 : w129 (6 * t + 154) 1 = 1 ∨ w129 (6 * t + 154) 1 = 6 := by
        rcases q131x.2.2.2 with ⟨g1, -⟩ | g1
        · rw [g1]; exact Or.inl (Eq.trans (show w124 (6 * t + 154) 1 = w (6 * t + 154) 1 from ((q126f (6 * t + 154) 1 (by unfold kLf; omega)).trans ((q109f (6 * t + 154) 1 (by unfold kLv; omega)).trans rfl))) hst)
        · exact Or.inr g1
      exact ⟨rfl, f132, q131T, ⟨q131x.1, sK.fr q131f (by unfold kEl; omega) (fun k => by unfold kEl; omega) q126x.2.1, Eq.trans (q131f _ _ (by unfold kEl; omega)) (show w124 (6 * t + 154) 2 = a from ((q126f (6 * t + 154) 2 (by unfold kLf; omega)).trans ((q109f (6 * t + 154) 2 (by unfold kLv; omega)).trans ha))), by have := q131x.2; omega, by have := q131x.2; omega, hz, h6⟩⟩
    · show e_Ok 20 elay kcode eI (d + 1) 71 (135, [(0, (1, 8)), (1, (1, 6 * t + 154)), (2, (1, cd)), (3, (0, o)), (4, (0, n))], [(0, 2), (1, cd), (1, 6 * t + 154), (1, 8)], w106) _
      refine e_Ok.callV rfl (by omega) rfl rfl rfl rfl (c_72_2 (by omega) (t := t) q109T (by omega) Q112 (sK.fr q109f (by unfold kLv; omega) (fun k => by unfold kLv; omega) hk) (Eq.trans (show w106 (6 * t + 154) 1 = w (6 * t + 154) 1 from ((q109f (6 * t + 154) 1 (by unfold kLv; omega)).trans rfl)) hst) (by omega) (show w106 (6 * t + 154) 2 = a from ((q109f (6 * t + 154) 2 (by unfold kLv; omega)).trans ha)) (Eq.trans (q109f _ _ (by unfold kLv; omega)) hcv) (q109x (by decide)).1 (q109x (by decide)).2.1) (fun r133 w134 h135 => ?_)
      obtain ⟨rfl, q136f, q136T, q136x⟩ := h135
      have f137 : e_fr (kLd t) w w134 := e_fr.trans f111 (e_fr.mono q136f (fun c k q => by unfold kLf at q; unfold kLd; omega))
      show e_Ok 20 elay kcode eI (d + 1) 71 (138, [(0, (1, 8)), (1, (1, 6 * t + 154)), (2, (1, cd)), (3, (0, o)), (4, (0, n))], [], w134) _
      refine e_Ok.run (t' := (143, [(0, (1, 8)), (1, (1, 6 * t + 154)), (2, (1, cd)), (3, (0, o)), (4, (0, n))], [(1, 6 * t + 154), (1, 8)], w134)) 3 rfl ?_
      have ev0 : w134 74 1 = w 74 1 := ((q136f 74 1 (by unfold kLf; omega)).trans ((q109f 74 1 (by unfold kLv; omega)).trans rfl))
      refine e_Ok.callV rfl (by omega) rfl rfl rfl rfl (c_49 (by omega) (t := t) q136T (by omega) q136x.1 (by rw [(show w134 (6 * t + 154) 2 = a from ((q136f (6 * t + 154) 2 (by unfold kLf; omega)).trans ((q109f (6 * t + 154) 2 (by unfold kLv; omega)).trans ha)))]; omega) (by omega)) (fun r138 w139 h140 => ?_)
      obtain ⟨rfl, q141f, q141T, q141x⟩ := h140
      have f142 : e_fr (kLd t) w w139 := e_fr.trans f137 (e_fr.mono q141f (fun c k q => by unfold kEl at q; unfold kLd; omega))
      show e_Ok 20 elay kcode eI (d + 1) 71 (146, [(0, (1, 8)), (1, (1, 6 * t + 154)), (2, (1, cd)), (3, (0, o)), (4, (0, n))], [], w139) _
      refine e_Ok.rets rfl rfl ?_
      have hz : w139 (6 * t + 154) 1 = 1 → 40 ≤ OP a (w139 (6 * t + 154) 3) ∧ w139 74 1 = w 74 1 := fun g => by
        rcases q141x.2.2.2 with ⟨g1, hfr⟩ | g1
        · rw [g1]; exact ⟨(by rcases q136x.2.2.2.2 with g | g | g; (rw [g, (show w106 (6 * t + 154) 3 = w (6 * t + 154) 3 from q109p)]; exact (by have g := (hD.2.2 (w (6 * t + 154) 3 - 1)).2.2.1 (by omega); rw [show w (6 * t + 154) 3 - 1 + 1 = w (6 * t + 154) 3 by omega] at g; exact g)); (exact g); (exact absurd g (by omega))), ev0⟩
        · rw [g1] at g; exact absurd g (by decide)
      have h6 : w139 (6 * t + 154) 1 = 1 ∨ w139 (6 * t + 154) 1 = 6 := by
        rcases q141x.2.2.2 with ⟨g1, -⟩ | g1
        · rw [g1]; exact Or.inl (Eq.trans (show w134 (6 * t + 154) 1 = w (6 * t + 154) 1 from ((q136f (6 * t + 154) 1 (by unfold kLf; omega)).trans ((q109f (6 * t + 154) 1 (by unfold kLv; omega)).trans rfl))) hst)
        · exact Or.inr g1
      exact ⟨rfl, f142, q141T, ⟨q141x.1, sK.fr q141f (by unfold kEl; omega) (fun k => by unfold kEl; omega) q136x.2.1, Eq.trans (q141f _ _ (by unfold kEl; omega)) (show w134 (6 * t + 154) 2 = a from ((q136f (6 * t + 154) 2 (by unfold kLf; omega)).trans ((q109f (6 * t + 154) 2 (by unfold kLv; omega)).trans ha))), by have := q141x.2; omega, by have := q141x.2; omega, hz, h6⟩⟩
    · show e_Ok 20 elay kcode eI (d + 1) 71 (135, [(0, (1, 8)), (1, (1, 6 * t + 154)), (2, (1, cd)), (3, (0, o)), (4, (0, n))], [(0, 3), (1, cd), (1, 6 * t + 154), (1, 8)], w106) _
      refine e_Ok.callV rfl (by omega) rfl rfl rfl rfl (c_72_3 (by omega) (t := t) q109T (by omega) Q112 (sK.fr q109f (by unfold kLv; omega) (fun k => by unfold kLv; omega) hk) (Eq.trans (show w106 (6 * t + 154) 1 = w (6 * t + 154) 1 from ((q109f (6 * t + 154) 1 (by unfold kLv; omega)).trans rfl)) hst) (by omega) (show w106 (6 * t + 154) 2 = a from ((q109f (6 * t + 154) 2 (by unfold kLv; omega)).trans ha)) (Eq.trans (q109f _ _ (by unfold kLv; omega)) hcv) (q109x (by decide)).1 (q109x (by decide)).2.1 ((q109x (by decide)).2.2 rfl)) (fun r143 w144 h145 => ?_)
      obtain ⟨rfl, q146f, q146T, q146x⟩ := h145
      have f147 : e_fr (kLd t) w w144 := e_fr.trans f111 (e_fr.mono q146f (fun c k q => by unfold kLf at q; unfold kLd; omega))
      show e_Ok 20 elay kcode eI (d + 1) 71 (138, [(0, (1, 8)), (1, (1, 6 * t + 154)), (2, (1, cd)), (3, (0, o)), (4, (0, n))], [], w144) _
      refine e_Ok.run (t' := (143, [(0, (1, 8)), (1, (1, 6 * t + 154)), (2, (1, cd)), (3, (0, o)), (4, (0, n))], [(1, 6 * t + 154), (1, 8)], w144)) 3 rfl ?_
      have ev0 : w144 74 1 = w 74 1 := ((q146f 74 1 (by unfold kLf; omega)).trans ((q109f 74 1 (by unfold kLv; omega)).trans rfl))
      refine e_Ok.callV rfl (by omega) rfl rfl rfl rfl (c_49 (by omega) (t := t) q146T (by omega) q146x.1 (by rw [(show w144 (6 * t + 154) 2 = a from ((q146f (6 * t + 154) 2 (by unfold kLf; omega)).trans ((q109f (6 * t + 154) 2 (by unfold kLv; omega)).trans ha)))]; omega) (by omega)) (fun r148 w149 h150 => ?_)
      obtain ⟨rfl, q151f, q151T, q151x⟩ := h150
      have f152 : e_fr (kLd t) w w149 := e_fr.trans f147 (e_fr.mono q151f (fun c k q => by unfold kEl at q; unfold kLd; omega))
      show e_Ok 20 elay kcode eI (d + 1) 71 (146, [(0, (1, 8)), (1, (1, 6 * t + 154)), (2, (1, cd)), (3, (0, o)), (4, (0, n))], [], w149) _
      refine e_Ok.rets rfl rfl ?_
      have hz : w149 (6 * t + 154) 1 = 1 → 40 ≤ OP a (w149 (6 * t + 154) 3) ∧ w149 74 1 = w 74 1 := fun g => by
        rcases q151x.2.2.2 with ⟨g1, hfr⟩ | g1
        · rw [g1]; exact ⟨(by rcases q146x.2.2.2.2 with g | g | g; (rw [g, (show w106 (6 * t + 154) 3 = w (6 * t + 154) 3 from q109p)]; exact (by have g := (hD.2.2 (w (6 * t + 154) 3 - 1)).2.2.1 (by omega); rw [show w (6 * t + 154) 3 - 1 + 1 = w (6 * t + 154) 3 by omega] at g; exact g)); (exact g); (exact absurd g (by omega))), ev0⟩
        · rw [g1] at g; exact absurd g (by decide)
      have h6 : w149 (6 * t + 154) 1 = 1 ∨ w149 (6 * t + 154) 1 = 6 := by
        rcases q151x.2.2.2 with ⟨g1, -⟩ | g1
        · rw [g1]; exact Or.inl (Eq.trans (show w144 (6 * t + 154) 1 = w (6 * t + 154) 1 from ((q146f (6 * t + 154) 1 (by unfold kLf; omega)).trans ((q109f (6 * t + 154) 1 (by unfold kLv; omega)).trans rfl))) hst)
        · exact Or.inr g1
      exact ⟨rfl, f152, q151T, ⟨q151x.1, sK.fr q151f (by unfold kEl; omega) (fun k => by unfold kEl; omega) q146x.2.1, Eq.trans (q151f _ _ (by unfold kEl; omega)) (show w144 (6 * t + 154) 2 = a from ((q146f (6 * t + 154) 2 (by unfold kLf; omega)).trans ((q109f (6 * t + 154) 2 (by unfold kLv; omega)).trans ha))), by have := q151x.2; omega, by have := q151x.2; omega, hz, h6⟩⟩
end
