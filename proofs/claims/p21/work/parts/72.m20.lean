noncomputable section
def mPL (c k : Int) : Prop := c = 321 ∨ c = 322 ∨ c = 324 ∨ c = 325 ∨ (c = 275 ∧ 58 ≤ k ∧ k ≤ 60)
theorem no_72_0 {t : Int} {k : Int} : ¬ mPt t 275 k := by unfold mPt; omega
theorem su_72_3 {t : Int} {c k : Int} (q : mPt t c k) : mP c k := by
  unfold mPt at q
  rcases q with ⟨(q | q), ⟨q, q⟩⟩
  · exact Or.inl (by omega)
  · exact Or.inr (by omega)
theorem c_440 {d : Nat} (hd : 24 ≤ d) {w : eW} (hT : e_Has mTy w) (hH : e_Has hTy w) {p1 p2 p3 : Int} (g1 : (-2147483648) ≤ p1 ∧ p1 ≤ 2147483647) (g2 : (-2147483648) ≤ p2 ∧ p2 ≤ 2147483647) (g3 : (-2147483648) ≤ p3 ∧ p3 ≤ 2147483647) : e_Ok 20 elay ecode eI d 440 (0, [(0, (1, 275)), (1, (0, p1)), (2, (0, p2)), (3, (0, p3))], [], w) (fun r w' => ∃ z : Int, r = [(0, z)] ∧ e_fr mP w w') := by
  obtain ⟨d, rfl⟩ : ∃ e, d = e + 1 := ⟨d - 1, by omega⟩
  refine e_Ok.run (t' := (2, [(0, (1, 275)), (1, (0, p1)), (2, (0, p2)), (3, (0, p3))], [(0, p1), (1, 275)], w)) 2 rfl ?_
  refine e_Ok.callV rfl (by omega) rfl rfl rfl rfl (c_270 (by omega) hT) (fun r1 w2 h3 => ?_)
  have h4 := e_Has.get hT (c := 275) (k := 10) (lo := 0) (hi := 4) rfl (by decide)
  obtain ⟨z5, rfl, rfl, q6⟩ := h3
  obtain ⟨rfl, q6⟩ | ⟨rfl, q6⟩ := q6
  · show e_Ok 20 elay ecode eI (d + 1) 440 (5, [(0, (1, 275)), (1, (0, p1)), (2, (0, p2)), (3, (0, p3))], [(0, 1)], w) _
    refine e_Ok.if1 rfl (fun h7 => ?_) (fun h7 => ?_)
    · replace h7 : (1 : Int) = 0 := h7
      exfalso; omega
    · replace h7 : (1 : Int) ≠ 0 := by have q : ¬ ((1 : Int) = 0) := h7; omega
      refine e_Ok.run (t' := (12, [(0, (1, 275)), (1, (0, p1)), (2, (0, p2)), (3, (0, p3))], [(1, 275), (4, 0), (4, p2)], w)) 4 rfl ?_
      refine e_Ok.getr (z := 286) rfl (el_o rfl) rfl rfl (e_Has.eq hT rfl) (by omega) ?_
      refine e_Ok.run (t' := (16, [(0, (1, 275)), (1, (0, p1)), (2, (0, p2)), (3, (0, p3))], [(0, p1), (1, 286), (4, 0), (4, p2)], w)) 1 rfl ?_
      have h8 := (e_Has.get hT (c := 286) (k := p1) (lo := 0) (hi := 6) rfl (by decide))
      refine e_Ok.ald (z := w 286 p1) rfl (el_o rfl) rfl (by omega) rfl (by omega) ?_
      refine e_Ok.run (t' := (18, [(0, (1, 275)), (1, (0, p1)), (2, (0, p2)), (3, (0, p3))], [(4, w 286 p1), (4, 0), (4, p2)], w)) 1 rfl ?_
      refine e_Ok.callS rfl (by omega) rfl rfl (c_266) (fun r9 w10 h11 => ?_)
      obtain ⟨z12, rfl, rfl, q13⟩ := h11
      obtain ⟨rfl, q13⟩ | ⟨rfl, q13⟩ := q13
      · show e_Ok 20 elay ecode eI (d + 1) 440 (21, [(0, (1, 275)), (1, (0, p1)), (2, (0, p2)), (3, (0, p3))], [(0, 1)], w) _
        refine e_Ok.if1 rfl (fun h14 => ?_) (fun h14 => ?_)
        · replace h14 : (1 : Int) = 0 := h14
          exfalso; omega
        · replace h14 : (1 : Int) ≠ 0 := by have q : ¬ ((1 : Int) = 0) := h14; omega
          refine e_Ok.run (t' := (28, [(0, (1, 275)), (1, (0, p1)), (2, (0, p2)), (3, (0, p3))], [(4, 1), (4, 0), (4, p3)], w)) 4 rfl ?_
          refine e_Ok.callS rfl (by omega) rfl rfl (c_266) (fun r15 w16 h17 => ?_)
          obtain ⟨z18, rfl, rfl, q19⟩ := h17
          obtain ⟨rfl, q19⟩ | ⟨rfl, q19⟩ := q19
          · show e_Ok 20 elay ecode eI (d + 1) 440 (31, [(0, (1, 275)), (1, (0, p1)), (2, (0, p2)), (3, (0, p3))], [(0, 1)], w) _
            refine e_Ok.if1 rfl (fun h20 => ?_) (fun h20 => ?_)
            · replace h20 : (1 : Int) ≠ 0 := h20
              refine e_Ok.run (t' := (39, [(0, (1, 275)), (1, (0, p1)), (2, (0, p2)), (3, (0, p3))], [(0, 0), (0, p1), (1, 275)], w)) 3 rfl ?_
              refine e_Ok.callV rfl (by omega) rfl rfl rfl rfl (c_301_0 (by omega) hT (by omega)) (fun r21 w22 h23 => ?_)
              obtain ⟨rfl, q24, q24k⟩ := h23
              have f25 : e_fr mP w w22 := e_fr.trans (e_fr.refl w) (e_fr.mono q24 (fun c k q => by first | exact su_72_3 q | (unfold mPt at q; unfold mP; omega)))
              show e_Ok 20 elay ecode eI (d + 1) 440 (42, [(0, (1, 275)), (1, (0, p1)), (2, (0, p2)), (3, (0, p3))], [], w22) _
              refine e_Ok.run (t' := (43, [(0, (1, 275)), (1, (0, p1)), (2, (0, p2)), (3, (0, p3))], [(0, p3)], w22)) 1 rfl ?_
              refine e_Ok.if1 rfl (fun h26 => ?_) (fun h26 => ?_)
              · replace h26 : (p3 : Int) ≠ 0 := h26
                refine e_Ok.run (t' := (61, [(0, (1, 275)), (1, (0, p1)), (2, (0, p2)), (3, (0, p3))], [(1, 275)], w22)) 1 rfl ?_
                refine e_Ok.getr (z := 322) rfl (el_o rfl) rfl rfl ((q24 275 56 (by first | exact no_72_0 | (unfold mPt; omega))).trans (e_Has.eq hT rfl)) (by omega) ?_
                refine e_Ok.run (t' := (67, [(0, (1, 275)), (1, (0, p1)), (2, (0, p2)), (3, (0, p3))], [(0, p1), (0, 7), (1, 322)], w22)) 2 rfl ?_
                refine e_Ok.mul (z := 7 * p1) rfl (by omega) (by omega) ?_
                refine e_Ok.run (t' := (69, [(0, (1, 275)), (1, (0, p1)), (2, (0, p2)), (3, (0, p3))], [(0, p2), (0, 7 * p1), (1, 322)], w22)) 1 rfl ?_
                refine e_Ok.add (z := 7 * p1 + p2) rfl (by omega) (by omega) ?_
                have h27 := (q24k.2 (7 * p1 + p2) (by omega) (by omega))
                refine e_Ok.ald (z := w22 322 (7 * p1 + p2)) rfl (el_o rfl) rfl (by omega) rfl (by omega) ?_
                refine e_Ok.rets rfl rfl ?_
                exact ⟨_, rfl, f25⟩
              · replace h26 : (p3 : Int) = 0 := by have q : ¬ ((p3 : Int) ≠ 0) := h26; omega
                refine e_Ok.run (t' := (47, [(0, (1, 275)), (1, (0, p1)), (2, (0, p2)), (3, (0, p3))], [(1, 275)], w22)) 1 rfl ?_
                refine e_Ok.getr (z := 321) rfl (el_o rfl) rfl rfl ((q24 275 55 (by first | exact no_72_0 | (unfold mPt; omega))).trans (e_Has.eq hT rfl)) (by omega) ?_
                refine e_Ok.run (t' := (53, [(0, (1, 275)), (1, (0, p1)), (2, (0, p2)), (3, (0, p3))], [(0, p1), (0, 7), (1, 321)], w22)) 2 rfl ?_
                refine e_Ok.mul (z := 7 * p1) rfl (by omega) (by omega) ?_
                refine e_Ok.run (t' := (55, [(0, (1, 275)), (1, (0, p1)), (2, (0, p2)), (3, (0, p3))], [(0, p2), (0, 7 * p1), (1, 321)], w22)) 1 rfl ?_
                refine e_Ok.add (z := 7 * p1 + p2) rfl (by omega) (by omega) ?_
                have h28 := (q24k.1 (7 * p1 + p2) (by omega) (by omega))
                refine e_Ok.ald (z := w22 321 (7 * p1 + p2)) rfl (el_o rfl) rfl (by omega) rfl (by omega) ?_
                refine e_Ok.run (t' := (71, [(0, (1, 275)), (1, (0, p1)), (2, (0, p2)), (3, (0, p3))], [(0, w22 321 (7 * p1 + p2))], w22)) 1 rfl ?_
                refine e_Ok.rets rfl rfl ?_
                exact ⟨_, rfl, f25⟩
            · replace h20 : (1 : Int) = 0 := by have q : ¬ ((1 : Int) ≠ 0) := h20; omega
              exfalso; omega
          · show e_Ok 20 elay ecode eI (d + 1) 440 (31, [(0, (1, 275)), (1, (0, p1)), (2, (0, p2)), (3, (0, p3))], [(0, 0)], w) _
            refine e_Ok.if1 rfl (fun h29 => ?_) (fun h29 => ?_)
            · replace h29 : (0 : Int) ≠ 0 := h29
              exfalso; omega
            · replace h29 : (0 : Int) = 0 := by have q : ¬ ((0 : Int) ≠ 0) := h29; omega
              refine e_Ok.run (t' := (35, [(0, (1, 275)), (1, (0, p1)), (2, (0, p2)), (3, (0, p3))], [(0, (-1))], w)) 1 rfl ?_
              refine e_Ok.rets rfl rfl ?_
              exact ⟨_, rfl, (e_fr.refl w)⟩
      · show e_Ok 20 elay ecode eI (d + 1) 440 (21, [(0, (1, 275)), (1, (0, p1)), (2, (0, p2)), (3, (0, p3))], [(0, 0)], w) _
        refine e_Ok.if1 rfl (fun h30 => ?_) (fun h30 => ?_)
        · replace h30 : (0 : Int) = 0 := h30
          refine e_Ok.run (t' := (35, [(0, (1, 275)), (1, (0, p1)), (2, (0, p2)), (3, (0, p3))], [(0, (-1))], w)) 1 rfl ?_
          refine e_Ok.rets rfl rfl ?_
          exact ⟨_, rfl, (e_fr.refl w)⟩
        · replace h30 : (0 : Int) ≠ 0 := by have q : ¬ ((0 : Int) = 0) := h30; omega
          exfalso; omega
  · show e_Ok 20 elay ecode eI (d + 1) 440 (5, [(0, (1, 275)), (1, (0, p1)), (2, (0, p2)), (3, (0, p3))], [(0, 0)], w) _
    refine e_Ok.if1 rfl (fun h31 => ?_) (fun h31 => ?_)
    · replace h31 : (0 : Int) = 0 := h31
      refine e_Ok.run (t' := (35, [(0, (1, 275)), (1, (0, p1)), (2, (0, p2)), (3, (0, p3))], [(0, (-1))], w)) 1 rfl ?_
      refine e_Ok.rets rfl rfl ?_
      exact ⟨_, rfl, (e_fr.refl w)⟩
    · replace h31 : (0 : Int) ≠ 0 := by have q : ¬ ((0 : Int) = 0) := h31; omega
      exfalso; omega
theorem no_72_1 {k : Int} : ¬ mP 286 k := by unfold mP; omega
theorem no_72_2 {k : Int} : ¬ mP 275 k := by unfold mP; omega
theorem su_72_4 {c k : Int} (q : mP c k) : mPL c k := by
  unfold mP at q
  rcases q with q | q
  · exact Or.inl (by omega)
  · exact Or.inr (Or.inl (by omega))
theorem su_72_5 {c k : Int} (q : mL c k) : mPL c k := by
  unfold mL at q
  rcases q with ⟨q, ⟨q, q⟩⟩ | q | q
  · exact Or.inr (Or.inr (Or.inr (Or.inr ⟨(by omega), ⟨(by omega), (by omega)⟩⟩)))
  · exact Or.inr (Or.inr (Or.inl (by omega)))
  · exact Or.inr (Or.inr (Or.inr (Or.inl (by omega))))
theorem c_318 {d : Nat} (hd : 27 ≤ d) {w : eW} (hT : e_Has mTy w) (hH : e_Has hTy w) {p1 p2 : Int} (g1 : (-2147483648) ≤ p1 ∧ p1 ≤ 2147483647) (g2 : (-2147483648) ≤ p2 ∧ p2 ≤ 2147483647) : e_Ok 20 elay ecode eI d 318 (0, [(0, (1, 275)), (1, (0, p1)), (2, (0, p2))], [], w) (fun r w' => ∃ z : Int, r = [(0, z)] ∧ e_fr mPL w w') := by
  obtain ⟨d, rfl⟩ : ∃ e, d = e + 1 := ⟨d - 1, by omega⟩
  refine e_Ok.run (t' := (2, [(0, (1, 275)), (1, (0, p1)), (2, (0, p2))], [(0, p1), (1, 275)], w)) 2 rfl ?_
  refine e_Ok.callV rfl (by omega) rfl rfl rfl rfl (c_270 (by omega) hT) (fun r1 w2 h3 => ?_)
  have h4 := e_Has.get hT (c := 275) (k := 10) (lo := 0) (hi := 4) rfl (by decide)
  obtain ⟨z5, rfl, rfl, q6⟩ := h3
  obtain ⟨rfl, q6⟩ | ⟨rfl, q6⟩ := q6
  · show e_Ok 20 elay ecode eI (d + 1) 318 (5, [(0, (1, 275)), (1, (0, p1)), (2, (0, p2))], [(0, 1)], w) _
    refine e_Ok.if1 rfl (fun h7 => ?_) (fun h7 => ?_)
    · replace h7 : (1 : Int) = 0 := h7
      exfalso; omega
    · replace h7 : (1 : Int) ≠ 0 := by have q : ¬ ((1 : Int) = 0) := h7; omega
      refine e_Ok.run (t' := (14, [(0, (1, 275)), (1, (0, p1)), (2, (0, p2))], [(4, 2000), (4, 0), (4, p2)], w)) 4 rfl ?_
      refine e_Ok.callS rfl (by omega) rfl rfl (c_266) (fun r8 w9 h10 => ?_)
      obtain ⟨z11, rfl, rfl, q12⟩ := h10
      obtain ⟨rfl, q12⟩ | ⟨rfl, q12⟩ := q12
      · show e_Ok 20 elay ecode eI (d + 1) 318 (17, [(0, (1, 275)), (1, (0, p1)), (2, (0, p2))], [(0, 1)], w) _
        refine e_Ok.if1 rfl (fun h13 => ?_) (fun h13 => ?_)
        · replace h13 : (1 : Int) ≠ 0 := h13
          refine e_Ok.run (t' := (23, [(0, (1, 275)), (1, (0, p1)), (2, (0, p2))], [(1, 275)], w)) 1 rfl ?_
          refine e_Ok.callV rfl (by omega) rfl rfl rfl rfl (c_302 (by omega) hT) (fun r14 w15 h16 => ?_)
          obtain ⟨rfl, q17, q17k⟩ := h16
          have f18 : e_fr mPL w w15 := e_fr.trans (e_fr.refl w) (e_fr.mono q17 (fun c k q => su_72_4 q))
          have lj : ∀ b, w15 286 b = w 286 b := fun b => q17 286 b no_72_1
          have la : w15 275 10 = w 275 10 := q17 275 10 no_72_2
          have kall : ∀ b, 0 ≤ b → b < w15 275 10 → e_pk2 w15 (7 * b) (w15 286 b) := fun b g1 g2 => by rw [lj]; exact q17k b g1 (by omega)
          show e_Ok 20 elay ecode eI (d + 1) 318 (26, [(0, (1, 275)), (1, (0, p1)), (2, (0, p2))], [], w15) _
          refine e_Ok.run (t' := (31, [(0, (1, 275)), (1, (0, p1)), (2, (0, p2))], [(0, p1), (0, 7), (0, p1), (1, 275)], w15)) 4 rfl ?_
          refine e_Ok.mul (z := 7 * p1) rfl (by omega) (by omega) ?_
          refine e_Ok.run (t' := (33, [(0, (1, 275)), (1, (0, p1)), (2, (0, p2))], [(0, p2), (0, 7 * p1), (0, p1), (1, 275)], w15)) 1 rfl ?_
          refine e_Ok.callV rfl (by omega) rfl rfl rfl rfl (c_317 (by omega) (mT_P q17 hT) (by omega) (by omega) (kall p1 (by omega) (by omega)).1 (kall p1 (by omega) (by omega)).2 kall) (fun r19 w20 h21 => ?_)
          obtain ⟨z22, rfl, q23, q23a, q23b⟩ := h21
          have f24 : e_fr mPL w w20 := e_fr.trans f18 (e_fr.mono q23 (fun c k q => su_72_5 q))
          show e_Ok 20 elay ecode eI (d + 1) 318 (36, [(0, (1, 275)), (1, (0, p1)), (2, (0, p2))], [(0, z22)], w20) _
          refine e_Ok.if1 rfl (fun h25 => ?_) (fun h25 => ?_)
          · replace h25 : (z22 : Int) = 0 := h25
            refine e_Ok.run (t' := (44, [(0, (1, 275)), (1, (0, p1)), (2, (0, p2))], [(0, 0)], w20)) 1 rfl ?_
            refine e_Ok.rets rfl rfl ?_
            exact ⟨_, rfl, f24⟩
          · replace h25 : (z22 : Int) ≠ 0 := by have q : ¬ ((z22 : Int) = 0) := h25; omega
            refine e_Ok.run (t' := (44, [(0, (1, 275)), (1, (0, p1)), (2, (0, p2))], [(0, 1)], w20)) 2 rfl ?_
            refine e_Ok.rets rfl rfl ?_
            exact ⟨_, rfl, f24⟩
        · replace h13 : (1 : Int) = 0 := by have q : ¬ ((1 : Int) ≠ 0) := h13; omega
          exfalso; omega
      · show e_Ok 20 elay ecode eI (d + 1) 318 (17, [(0, (1, 275)), (1, (0, p1)), (2, (0, p2))], [(0, 0)], w) _
        refine e_Ok.if1 rfl (fun h26 => ?_) (fun h26 => ?_)
        · replace h26 : (0 : Int) ≠ 0 := h26
          exfalso; omega
        · replace h26 : (0 : Int) = 0 := by have q : ¬ ((0 : Int) ≠ 0) := h26; omega
          refine e_Ok.run (t' := (21, [(0, (1, 275)), (1, (0, p1)), (2, (0, p2))], [(0, (-1))], w)) 1 rfl ?_
          refine e_Ok.rets rfl rfl ?_
          exact ⟨_, rfl, (e_fr.refl w)⟩
  · show e_Ok 20 elay ecode eI (d + 1) 318 (5, [(0, (1, 275)), (1, (0, p1)), (2, (0, p2))], [(0, 0)], w) _
    refine e_Ok.if1 rfl (fun h27 => ?_) (fun h27 => ?_)
    · replace h27 : (0 : Int) = 0 := h27
      refine e_Ok.run (t' := (21, [(0, (1, 275)), (1, (0, p1)), (2, (0, p2))], [(0, (-1))], w)) 1 rfl ?_
      refine e_Ok.rets rfl rfl ?_
      exact ⟨_, rfl, (e_fr.refl w)⟩
    · replace h27 : (0 : Int) ≠ 0 := by have q : ¬ ((0 : Int) = 0) := h27; omega
      exfalso; omega
theorem c_422 {d : Nat} (hd : 23 ≤ d) {w : eW} (hT : e_Has mTy w) (hH : e_Has hTy w) : e_Ok 20 elay ecode eI d 422 (0, [(0, (1, 275))], [], w) (fun r w' => ∃ z : Int, r = [(0, z)] ∧ w = w') := by
  refine e_Ok.run (t' := (1, [(0, (1, 275))], [(1, 275)], w)) 1 rfl ?_
  have h1 := (e_Has.get hH (c := 275) (k := 5) (lo := 0) (hi := 2000) rfl (by decide))
  refine e_Ok.getf (z := w 275 5) rfl (el_o rfl) rfl rfl rfl (by omega) ?_
  refine e_Ok.run (t' := (7, [(0, (1, 275))], [(0, 2000), (0, w 275 5)], w)) 1 rfl ?_
  refine e_Ok.if2 rfl (fun h2 => ?_) (fun h2 => ?_)
  · replace h2 : (w 275 5 : Int) ≠ 2000 := h2
    refine e_Ok.run (t' := (22, [(0, (1, 275))], [(0, 0)], w)) 1 rfl ?_
    refine e_Ok.rets rfl rfl ?_
    exact ⟨_, rfl, rfl⟩
  · replace h2 : (w 275 5 : Int) = 2000 := by have q : ¬ ((w 275 5 : Int) ≠ 2000) := h2; omega
    refine e_Ok.run (t' := (11, [(0, (1, 275))], [(1, 275)], w)) 1 rfl ?_
    have h3 := (e_Has.get hH (c := 275) (k := 6) (lo := 0) (hi := 1) rfl (by decide))
    refine e_Ok.getf (z := w 275 6) rfl (el_o rfl) rfl rfl rfl (by omega) ?_
    refine e_Ok.if1 rfl (fun h4 => ?_) (fun h4 => ?_)
    · replace h4 : (w 275 6 : Int) ≠ 0 := h4
      refine e_Ok.run (t' := (22, [(0, (1, 275))], [(0, 0)], w)) 1 rfl ?_
      refine e_Ok.rets rfl rfl ?_
      exact ⟨_, rfl, rfl⟩
    · replace h4 : (w 275 6 : Int) = 0 := by have q : ¬ ((w 275 6 : Int) ≠ 0) := h4; omega
      refine e_Ok.run (t' := (22, [(0, (1, 275))], [(0, 1)], w)) 2 rfl ?_
      refine e_Ok.rets rfl rfl ?_
      exact ⟨_, rfl, rfl⟩
end
