noncomputable section
/-! the class: leaving; tasks that begin -/
theorem c_188_1 {d : Nat} (hd : 22 ≤ d) {w : eW} (hT : e_Has kTy w) {t : Int} (gt : 0 ≤ t ∧ t ≤ 15) {cd : Int} {op od : Int → Int} (hk : kCd w cd op od) {col : Int → Int} (hD : cD op od col) {H val : Int} (gv : -2147483648 ≤ val ∧ val ≤ 2147483647) (hs : tS w (6 * t + 154) op H) : e_Ok 20 elay kcode eI d 188 (0, [(0, (1, 6 * t + 154)), (1, (1, cd)), (2, (0, 1)), (3, (0, val))], [], w) (fun r w' => ∃ z : Int, r = [(0, z)] ∧ e_fr (kLv t) w w' ∧ e_Has kTy w' ∧ tS w' (6 * t + 154) op H ∧ ((z = 1 ∧ 40 ≤ op (w' (6 * t + 154) 3)) ∨ z = 0)) := by
  obtain ⟨d, rfl⟩ : ∃ e, d = e + 1 := ⟨d - 1, by omega⟩
  have hcd := hk.1
  have hcd0 := hk.1
  unfold isCd at hcd0
  have h15 := e_Has.get hT (c := 6 * t + 154) (k := 15) (lo := 0) (hi := 600) (kT_15 (t := t) rfl gt) (by decide)
  have h4 := e_Has.get hT (c := 6 * t + 154) (k := 4) (lo := 0) (hi := 20) (kT_4 (t := t) rfl gt) (by decide)
  have hH := hs.1
  refine e_Ok.run (t' := (2, [(0, (1, 6 * t + 154)), (1, (1, cd)), (2, (0, 1)), (3, (0, val))], [(0, 1), (0, 1)], w)) 2 rfl ?_
  refine e_Ok.if2 rfl (fun h1 => ?_) (fun h1 => ?_)
  · replace h1 : (1 : Int) = 1 := h1
    refine e_Ok.run (t' := (32, [(4, (0, 0)), (0, (1, 6 * t + 154)), (1, (1, cd)), (2, (0, 1)), (3, (0, val))], [(0, 3), (0, 1)], w)) 5 rfl ?_
    refine e_Ok.if2 rfl (fun h2 => ?_) (fun h2 => ?_)
    · replace h2 : (1 : Int) ≠ 3 := h2
      have hL3 : ∀ (nn : Nat) (v1 : eW), e_fr (kLv t) w v1 ∧ e_Has kTy v1 ∧ (∀ c k, ¬ (c = (6 * t + 154) ∧ k = 15) → v1 c k = w c k) ∧ ((0 ≤ v1 (6 * t + 154) 15 ∧ v1 (6 * t + 154) 15 ≤ w (6 * t + 154) 15)) → v1 (6 * t + 154) 15 < nn → e_Ok 20 elay kcode eI (d + 1) 188 (45, [(0, (1, 6 * t + 154)), (1, (1, cd)), (2, (0, 1)), (3, (0, val)), (4, (0, 0))], [], v1) (fun r w' => ∃ z : Int, r = [(0, z)] ∧ e_fr (kLv t) w w' ∧ e_Has kTy w' ∧ tS w' (6 * t + 154) op H ∧ ((z = 1 ∧ 40 ≤ op (w' (6 * t + 154) 3)) ∨ z = 0)) := by
        intro nn
        induction nn with
        | zero => intro v1 hj hm; obtain ⟨j5, j6, j7, j8⟩ := hj; exfalso; omega
        | succ nn ih4 =>
          intro v1 hj hm
          obtain ⟨j5, j6, j7, j8⟩ := hj
          refine e_Ok.run (t' := (46, [(0, (1, 6 * t + 154)), (1, (1, cd)), (2, (0, 1)), (3, (0, val)), (4, (0, 0))], [(1, 6 * t + 154)], v1)) 1 rfl ?_
          refine e_Ok.getf (z := v1 (6 * t + 154) 15) rfl (lT0 (t := t) (by omega) (by omega)) rfl rfl rfl (by omega) ?_
          refine e_Ok.run (t' := (51, [(0, (1, 6 * t + 154)), (1, (1, cd)), (2, (0, 1)), (3, (0, val)), (4, (0, 0))], [(0, 0), (0, v1 (6 * t + 154) 15)], v1)) 1 rfl ?_
          refine e_Ok.if2 rfl (fun h9 => ?_) (fun h9 => ?_)
          · replace h9 : (v1 (6 * t + 154) 15 : Int) ≤ 0 := h9
            have hsv : tS v1 (6 * t + 154) op H := tS.less hs (by omega) (by rw [show v1 (6 * t + 154) 4 = w (6 * t + 154) 4 from j7 _ _ (by omega)]; omega) (fun d k g1 g2 => j7 _ _ (by omega))
            refine e_Ok.run (t' := (186, [(0, (1, 6 * t + 154)), (1, (1, cd)), (2, (0, 1)), (3, (0, val)), (4, (0, 0))], [(0, 2), (0, 1)], v1)) 2 rfl ?_
            refine e_Ok.if2 rfl (fun h10 => ?_) (fun h10 => ?_)
            · replace h10 : (1 : Int) ≠ 2 := h10
              refine e_Ok.run (t' := (195, [(0, (1, 6 * t + 154)), (1, (1, cd)), (2, (0, 1)), (3, (0, val)), (4, (0, 0))], [(0, 3), (0, 1)], v1)) 2 rfl ?_
              refine e_Ok.if2 rfl (fun h11 => ?_) (fun h11 => ?_)
              · replace h11 : (1 : Int) ≠ 3 := h11
                refine e_Ok.run (t' := (211, [(0, (1, 6 * t + 154)), (1, (1, cd)), (2, (0, 1)), (3, (0, val)), (4, (0, 0))], [(0, 1), (0, 1)], v1)) 2 rfl ?_
                refine e_Ok.if2 rfl (fun h12 => ?_) (fun h12 => ?_)
                · replace h12 : (1 : Int) = 1 := h12
                  refine e_Ok.run (t' := (219, [(0, (1, 6 * t + 154)), (1, (1, cd)), (2, (0, 1)), (3, (0, val)), (4, (0, 0))], [(0, 0)], v1)) 1 rfl ?_
                  refine e_Ok.rets rfl rfl ?_
                  exact ⟨_, rfl, j5, j6, hsv, Or.inr rfl⟩
                · replace h12 : (1 : Int) ≠ 1 := by have q : ¬ ((1 : Int) = 1) := h12; omega
                  exfalso; omega
              · replace h11 : (1 : Int) = 3 := by have q : ¬ ((1 : Int) ≠ 3) := h11; omega
                exfalso; omega
            · replace h10 : (1 : Int) = 2 := by have q : ¬ ((1 : Int) ≠ 2) := h10; omega
              exfalso; omega
          · replace h9 : (v1 (6 * t + 154) 15 : Int) > 0 := by have q : ¬ ((v1 (6 * t + 154) 15 : Int) ≤ 0) := h9; omega
            have hsv : tS v1 (6 * t + 154) op H := tS.less hs (by omega) (by rw [show v1 (6 * t + 154) 4 = w (6 * t + 154) 4 from j7 _ _ (by omega)]; omega) (fun d k g1 g2 => j7 _ _ (by omega))
            have hq := hsv.2.2 (v1 (6 * t + 154) 15 - 1) (by omega) (by omega)
            have hqw := (hs.2.2 (v1 (6 * t + 154) 15 - 1) (by omega) (by omega)).1
            have hq3 : ((0 ≤ w (6 * t + 157) (v1 (6 * t + 154) 15 - 1) ∧ w (6 * t + 157) (v1 (6 * t + 154) 15 - 1) ≤ 3999) ∧ op (w (6 * t + 157) (v1 (6 * t + 154) 15 - 1) + 1) = 49 ∧ op (w (6 * t + 157) (v1 (6 * t + 154) 15 - 1) + 2) = 49 ∧ op (w (6 * t + 157) (v1 (6 * t + 154) 15 - 1) + 3) = 49) ∧ (0 ≤ v1 (6 * t + 158) (v1 (6 * t + 154) 15 - 1) ∧ v1 (6 * t + 158) (v1 (6 * t + 154) 15 - 1) ≤ 15) := by rw [show 6 * t + 157 = (6 * t + 154) + 3 by omega, show 6 * t + 158 = (6 * t + 154) + 4 by omega]; exact ⟨hqw, hq.2.1.1⟩
            clear hq hqw
            refine e_Ok.run (t' := (55, [(0, (1, 6 * t + 154)), (1, (1, cd)), (2, (0, 1)), (3, (0, val)), (4, (0, 0))], [(1, 6 * t + 154)], v1)) 1 rfl ?_
            refine e_Ok.getr (z := 6 * t + 157) rfl (lT0 (t := t) (by omega) (by omega)) rfl rfl ((j5 (6 * t + 154) 18 (by unfold kLv; omega)).trans (Eq.trans (e_Has.eq hT (kT_18 (t := t) (by omega) (by omega))) (by omega))) (by omega) ?_
            refine e_Ok.run (t' := (59, [(0, (1, 6 * t + 154)), (1, (1, cd)), (2, (0, 1)), (3, (0, val)), (4, (0, 0))], [(1, 6 * t + 154), (1, 6 * t + 157)], v1)) 1 rfl ?_
            refine e_Ok.getf (z := v1 (6 * t + 154) 15) rfl (lT0 (t := t) (by omega) (by omega)) rfl rfl rfl (by omega) ?_
            refine e_Ok.run (t' := (63, [(0, (1, 6 * t + 154)), (1, (1, cd)), (2, (0, 1)), (3, (0, val)), (4, (0, 0))], [(0, 1), (0, v1 (6 * t + 154) 15), (1, 6 * t + 157)], v1)) 1 rfl ?_
            refine e_Ok.sub' (z := v1 (6 * t + 154) 15 - 1) rfl (by omega) (by omega) ?_
            refine e_Ok.ald (z := w (6 * t + 157) (v1 (6 * t + 154) 15 - 1)) rfl (lT3 (t := t) (by omega) (by omega)) rfl (by omega) ((j5 (6 * t + 157) (v1 (6 * t + 154) 15 - 1) (by unfold kLv; omega)).trans rfl) (by omega) ?_
            refine e_Ok.run (t' := (68, [(5, (0, w (6 * t + 157) (v1 (6 * t + 154) 15 - 1))), (0, (1, 6 * t + 154)), (1, (1, cd)), (2, (0, 1)), (3, (0, val)), (4, (0, 0))], [(1, 6 * t + 154)], v1)) 2 rfl ?_
            refine e_Ok.getr (z := 6 * t + 158) rfl (lT0 (t := t) (by omega) (by omega)) rfl rfl ((j5 (6 * t + 154) 19 (by unfold kLv; omega)).trans (Eq.trans (e_Has.eq hT (kT_19 (t := t) (by omega) (by omega))) (by omega))) (by omega) ?_
            refine e_Ok.run (t' := (72, [(5, (0, w (6 * t + 157) (v1 (6 * t + 154) 15 - 1))), (0, (1, 6 * t + 154)), (1, (1, cd)), (2, (0, 1)), (3, (0, val)), (4, (0, 0))], [(1, 6 * t + 154), (1, 6 * t + 158)], v1)) 1 rfl ?_
            refine e_Ok.getf (z := v1 (6 * t + 154) 15) rfl (lT0 (t := t) (by omega) (by omega)) rfl rfl rfl (by omega) ?_
            refine e_Ok.run (t' := (76, [(5, (0, w (6 * t + 157) (v1 (6 * t + 154) 15 - 1))), (0, (1, 6 * t + 154)), (1, (1, cd)), (2, (0, 1)), (3, (0, val)), (4, (0, 0))], [(0, 1), (0, v1 (6 * t + 154) 15), (1, 6 * t + 158)], v1)) 1 rfl ?_
            refine e_Ok.sub' (z := v1 (6 * t + 154) 15 - 1) rfl (by omega) (by omega) ?_
            refine e_Ok.ald (z := v1 (6 * t + 158) (v1 (6 * t + 154) 15 - 1)) rfl (lT4 (t := t) (by omega) (by omega)) rfl (by omega) rfl (by omega) ?_
            refine e_Ok.run (t' := (79, [(5, (0, w (6 * t + 157) (v1 (6 * t + 154) 15 - 1))), (0, (1, 6 * t + 154)), (1, (1, cd)), (2, (0, 1)), (3, (0, val)), (4, (0, 0))], [(0, 3), (0, v1 (6 * t + 158) (v1 (6 * t + 154) 15 - 1))], v1)) 1 rfl ?_
            refine e_Ok.andm 3 2 rfl (by decide) (fun z13 hz13 => ?_)
            replace hz13 : z13 = (v1 (6 * t + 158) (v1 (6 * t + 154) 15 - 1)) % 4 := hz13
            have hz13r : 0 ≤ z13 ∧ z13 ≤ 3 := by omega
            refine e_Ok.run (t' := (84, [(6, (0, z13)), (5, (0, w (6 * t + 157) (v1 (6 * t + 154) 15 - 1))), (0, (1, 6 * t + 154)), (1, (1, cd)), (2, (0, 1)), (3, (0, val)), (4, (0, 0))], [(0, 1), (0, 1)], v1)) 3 rfl ?_
            refine e_Ok.if2 rfl (fun h14 => ?_) (fun h14 => ?_)
            · replace h14 : (1 : Int) ≠ 1 := h14
              exfalso; omega
            · replace h14 : (1 : Int) = 1 := by have q : ¬ ((1 : Int) ≠ 1) := h14; omega
              refine e_Ok.run (t' := (89, [(6, (0, z13)), (5, (0, w (6 * t + 157) (v1 (6 * t + 154) 15 - 1))), (0, (1, 6 * t + 154)), (1, (1, cd)), (2, (0, 1)), (3, (0, val)), (4, (0, 0))], [(0, z13)], v1)) 1 rfl ?_
              refine e_Ok.if1 rfl (fun h15 => ?_) (fun h15 => ?_)
              · replace h15 : (z13 : Int) ≠ 0 := h15
                refine e_Ok.run (t' := (126, [(6, (0, z13)), (5, (0, w (6 * t + 157) (v1 (6 * t + 154) 15 - 1))), (0, (1, 6 * t + 154)), (1, (1, cd)), (2, (0, 1)), (3, (0, val)), (4, (0, 0))], [(0, 2), (0, z13)], v1)) 2 rfl ?_
                refine e_Ok.if2 rfl (fun h16 => ?_) (fun h16 => ?_)
                · replace h16 : (z13 : Int) = 2 := h16
                  refine e_Ok.run (t' := (173, [(6, (0, z13)), (5, (0, w (6 * t + 157) (v1 (6 * t + 154) 15 - 1))), (0, (1, 6 * t + 154)), (1, (1, cd)), (2, (0, 1)), (3, (0, val)), (4, (0, 0))], [(1, 6 * t + 154), (1, 6 * t + 154)], v1)) 2 rfl ?_
                  refine e_Ok.getf (z := v1 (6 * t + 154) 15) rfl (lT0 (t := t) (by omega) (by omega)) rfl rfl rfl (by omega) ?_
                  refine e_Ok.run (t' := (177, [(6, (0, z13)), (5, (0, w (6 * t + 157) (v1 (6 * t + 154) 15 - 1))), (0, (1, 6 * t + 154)), (1, (1, cd)), (2, (0, 1)), (3, (0, val)), (4, (0, 0))], [(0, 1), (0, v1 (6 * t + 154) 15), (1, 6 * t + 154)], v1)) 1 rfl ?_
                  refine e_Ok.sub' (z := v1 (6 * t + 154) 15 - 1) rfl (by omega) (by omega) ?_
                  refine e_Ok.putf rfl (lT0 (t := t) (by omega) (by omega)) rfl rfl ?_
                  generalize hw17 : e_up v1 (6 * t + 154) 15 (v1 (6 * t + 154) 15 - 1) = w17
                  have f18 : e_fr (kLv t) w w17 := e_fr.up j5 hw17 (by unfold kLv; omega)
                  have hT19 : e_Has kTy w17 := e_Has.upr j6 hw17 (kT_15 (t := t) (by omega) (by omega)) (by omega)
                  refine e_Ok.run (t' := (45, [(6, (0, z13)), (5, (0, w (6 * t + 157) (v1 (6 * t + 154) 15 - 1))), (0, (1, 6 * t + 154)), (1, (1, cd)), (2, (0, 1)), (3, (0, val)), (4, (0, 0))], [], w17)) 1 rfl ?_
                  refine e_Ok.sub kAlk (e_sub_of rfl ?_) (ih4  w17 ⟨f18, hT19, (fun c k g => by rw [← hw17, e_up_ne _ _ (by omega)]; exact j7 c k g), (by have e : w17 (6 * t + 154) 15 = v1 (6 * t + 154) 15 - 1 := (by rw [← hw17]; exact e_up_eq _ _ _ _); omega)⟩ (by have e : w17 (6 * t + 154) 15 = v1 (6 * t + 154) 15 - 1 := (by rw [← hw17]; exact e_up_eq _ _ _ _); omega))
                  exact ⟨rfl, rfl, rfl, rfl, rfl, trivial⟩
                · replace h16 : (z13 : Int) ≠ 2 := by have q : ¬ ((z13 : Int) = 2) := h16; omega
                  refine e_Ok.run (t' := (133, [(6, (0, z13)), (5, (0, w (6 * t + 157) (v1 (6 * t + 154) 15 - 1))), (0, (1, 6 * t + 154)), (1, (1, cd)), (2, (0, 1)), (3, (0, val)), (4, (0, 0))], [(0, 2), (0, w (6 * t + 157) (v1 (6 * t + 154) 15 - 1)), (1, cd)], v1)) 3 rfl ?_
                  refine e_Ok.add (z := w (6 * t + 157) (v1 (6 * t + 154) 15 - 1) + 2) rfl (by omega) (by omega) ?_
                  refine e_Ok.callV rfl (by omega) rfl (lD0 hcd) rfl rfl (c_24 j6 (kCd.fr j5 (by unfold kLv; omega) (fun k => by unfold kLv; omega) hk) (by omega)) (fun r20 w21 h22 => ?_)
                  obtain ⟨z23, rfl, rfl, q24, q24r⟩ := h22
                  replace q24 : z23 = od (w (6 * t + 157) (v1 (6 * t + 154) 15 - 1) + 2) := q24
                  show e_Ok 20 elay kcode eI (d + 1) 188 (137, [(6, (0, z13)), (5, (0, w (6 * t + 157) (v1 (6 * t + 154) 15 - 1))), (0, (1, 6 * t + 154)), (1, (1, cd)), (2, (0, 1)), (3, (0, val)), (4, (0, 0))], [(0, z23)], v1) _
                  refine e_Ok.if1 rfl (fun h25 => ?_) (fun h25 => ?_)
                  · replace h25 : (z23 : Int) = 0 := h25
                    refine e_Ok.run (t' := (173, [(6, (0, z13)), (5, (0, w (6 * t + 157) (v1 (6 * t + 154) 15 - 1))), (0, (1, 6 * t + 154)), (1, (1, cd)), (2, (0, 1)), (3, (0, val)), (4, (0, 0))], [(1, 6 * t + 154), (1, 6 * t + 154)], v1)) 2 rfl ?_
                    refine e_Ok.getf (z := v1 (6 * t + 154) 15) rfl (lT0 (t := t) (by omega) (by omega)) rfl rfl rfl (by omega) ?_
                    refine e_Ok.run (t' := (177, [(6, (0, z13)), (5, (0, w (6 * t + 157) (v1 (6 * t + 154) 15 - 1))), (0, (1, 6 * t + 154)), (1, (1, cd)), (2, (0, 1)), (3, (0, val)), (4, (0, 0))], [(0, 1), (0, v1 (6 * t + 154) 15), (1, 6 * t + 154)], v1)) 1 rfl ?_
                    refine e_Ok.sub' (z := v1 (6 * t + 154) 15 - 1) rfl (by omega) (by omega) ?_
                    refine e_Ok.putf rfl (lT0 (t := t) (by omega) (by omega)) rfl rfl ?_
                    generalize hw26 : e_up v1 (6 * t + 154) 15 (v1 (6 * t + 154) 15 - 1) = w26
                    have f27 : e_fr (kLv t) w w26 := e_fr.up j5 hw26 (by unfold kLv; omega)
                    have hT28 : e_Has kTy w26 := e_Has.upr j6 hw26 (kT_15 (t := t) (by omega) (by omega)) (by omega)
                    refine e_Ok.run (t' := (45, [(6, (0, z13)), (5, (0, w (6 * t + 157) (v1 (6 * t + 154) 15 - 1))), (0, (1, 6 * t + 154)), (1, (1, cd)), (2, (0, 1)), (3, (0, val)), (4, (0, 0))], [], w26)) 1 rfl ?_
                    refine e_Ok.sub kAlk (e_sub_of rfl ?_) (ih4  w26 ⟨f27, hT28, (fun c k g => by rw [← hw26, e_up_ne _ _ (by omega)]; exact j7 c k g), (by have e : w26 (6 * t + 154) 15 = v1 (6 * t + 154) 15 - 1 := (by rw [← hw26]; exact e_up_eq _ _ _ _); omega)⟩ (by have e : w26 (6 * t + 154) 15 = v1 (6 * t + 154) 15 - 1 := (by rw [← hw26]; exact e_up_eq _ _ _ _); omega))
                    exact ⟨rfl, rfl, rfl, rfl, rfl, trivial⟩
                  · replace h25 : (z23 : Int) ≠ 0 := by have q : ¬ ((z23 : Int) = 0) := h25; omega
                    refine e_Ok.run (t' := (141, [(6, (0, z13)), (5, (0, w (6 * t + 157) (v1 (6 * t + 154) 15 - 1))), (0, (1, 6 * t + 154)), (1, (1, cd)), (2, (0, 1)), (3, (0, val)), (4, (0, 0))], [(1, 6 * t + 154)], v1)) 1 rfl ?_
                    refine e_Ok.getr (z := 6 * t + 159) rfl (lT0 (t := t) (by omega) (by omega)) rfl rfl ((j5 (6 * t + 154) 20 (by unfold kLv; omega)).trans (Eq.trans (e_Has.eq hT (kT_20 (t := t) (by omega) (by omega))) (by omega))) (by omega) ?_
                    refine e_Ok.run (t' := (145, [(6, (0, z13)), (5, (0, w (6 * t + 157) (v1 (6 * t + 154) 15 - 1))), (0, (1, 6 * t + 154)), (1, (1, cd)), (2, (0, 1)), (3, (0, val)), (4, (0, 0))], [(1, 6 * t + 154), (1, 6 * t + 159)], v1)) 1 rfl ?_
                    refine e_Ok.getf (z := v1 (6 * t + 154) 15) rfl (lT0 (t := t) (by omega) (by omega)) rfl rfl rfl (by omega) ?_
                    refine e_Ok.run (t' := (149, [(6, (0, z13)), (5, (0, w (6 * t + 157) (v1 (6 * t + 154) 15 - 1))), (0, (1, 6 * t + 154)), (1, (1, cd)), (2, (0, 1)), (3, (0, val)), (4, (0, 0))], [(0, 1), (0, v1 (6 * t + 154) 15), (1, 6 * t + 159)], v1)) 1 rfl ?_
                    refine e_Ok.sub' (z := v1 (6 * t + 154) 15 - 1) rfl (by omega) (by omega) ?_
                    refine e_Ok.run (t' := (151, [(6, (0, z13)), (5, (0, w (6 * t + 157) (v1 (6 * t + 154) 15 - 1))), (0, (1, 6 * t + 154)), (1, (1, cd)), (2, (0, 1)), (3, (0, val)), (4, (0, 0))], [(0, val), (0, v1 (6 * t + 154) 15 - 1), (1, 6 * t + 159)], v1)) 1 rfl ?_
                    refine e_Ok.ast rfl (lT5 (t := t) (by omega) (by omega)) rfl rfl (by omega) ?_
                    generalize hw29 : e_up v1 (6 * t + 159) (v1 (6 * t + 154) 15 - 1) val = w29
                    have f30 : e_fr (kLv t) w w29 := e_fr.up j5 hw29 (by unfold kLv; omega)
                    have hT31 : e_Has kTy w29 := e_Has.ups j6 hw29 (kT159 (t := t) _ (by omega) (by omega))
                    have hsw : tS w29 (6 * t + 154) op H := tS.val hsv (by omega) (by rw [show (6 * t + 154) + 4 = 6 * t + 158 by omega]; omega) hw29
                    refine e_Ok.run (t' := (156, [(6, (0, z13)), (5, (0, w (6 * t + 157) (v1 (6 * t + 154) 15 - 1))), (0, (1, 6 * t + 154)), (1, (1, cd)), (2, (0, 1)), (3, (0, val)), (4, (0, 0))], [(0, 2), (0, 1), (0, 2), (1, 6 * t + 154)], w29)) 4 rfl ?_
                    refine e_Ok.shl2 rfl (by omega) (fun z32 hz32 => ?_)
                    replace hz32 : z32 = 1 * 4 := hz32
                    refine e_Ok.or2 rfl (by omega) (by omega) (fun z33 hz33 => ?_)
                    replace hz33 : z33 = 2 + z32 := hz33
                    refine e_Ok.run (t' := (162, [(6, (0, z13)), (5, (0, w (6 * t + 157) (v1 (6 * t + 154) 15 - 1))), (0, (1, 6 * t + 154)), (1, (1, cd)), (2, (0, 1)), (3, (0, val)), (4, (0, 0))], [(0, 2), (0, w (6 * t + 157) (v1 (6 * t + 154) 15 - 1)), (1, cd), (0, z33), (1, 6 * t + 154)], w29)) 3 rfl ?_
                    refine e_Ok.add (z := w (6 * t + 157) (v1 (6 * t + 154) 15 - 1) + 2) rfl (by omega) (by omega) ?_
                    refine e_Ok.callV rfl (by omega) rfl (lD0 hcd) rfl rfl (c_24 hT31 (kCd.fr f30 (by unfold kLv; omega) (fun k => by unfold kLv; omega) hk) (by omega)) (fun r34 w35 h36 => ?_)
                    obtain ⟨z37, rfl, rfl, q38, q38r⟩ := h36
                    replace q38 : z37 = od (w (6 * t + 157) (v1 (6 * t + 154) 15 - 1) + 2) := q38
                    show e_Ok 20 elay kcode eI (d + 1) 188 (166, [(6, (0, z13)), (5, (0, w (6 * t + 157) (v1 (6 * t + 154) 15 - 1))), (0, (1, 6 * t + 154)), (1, (1, cd)), (2, (0, 1)), (3, (0, val)), (4, (0, 0))], [(0, z37), (0, z33), (1, 6 * t + 154)], w29) _
                    refine e_Ok.callV rfl (by omega) rfl (lT0 (t := t) (by omega) (by omega)) rfl rfl (c_189 (t := t) (op := op) (H := H) hT31 (by omega) (by omega) (by omega) (by have e : w29 (6 * t + 154) 15 = v1 (6 * t + 154) 15 := (by rw [← hw29]; exact (e_up_ne _ _ (Or.inl (by omega))).trans rfl); omega) hsw (fun g => by rw [show w29 (6 * t + 154) 15 = v1 (6 * t + 154) 15 from (by rw [← hw29]; exact (e_up_ne _ _ (Or.inl (by omega))).trans rfl), show (6 * t + 154) + 5 = 6 * t + 159 by omega, ← hw29, e_up_eq]; exact ⟨by omega, fun g => by omega⟩)) (fun r40 w41 h42 => ?_)
                    obtain ⟨rfl, q43f, q43T, q43s, q43p, q43n⟩ := h42
                    have f44 : e_fr (kLv t) w w41 := e_fr.trans f30 (e_fr.mono q43f (fun c k q => by exact q))
                    show e_Ok 20 elay kcode eI (d + 1) 188 (169, [(6, (0, z13)), (5, (0, w (6 * t + 157) (v1 (6 * t + 154) 15 - 1))), (0, (1, 6 * t + 154)), (1, (1, cd)), (2, (0, 1)), (3, (0, val)), (4, (0, 0))], [], w41) _
                    refine e_Ok.run (t' := (170, [(6, (0, z13)), (5, (0, w (6 * t + 157) (v1 (6 * t + 154) 15 - 1))), (0, (1, 6 * t + 154)), (1, (1, cd)), (2, (0, 1)), (3, (0, val)), (4, (0, 0))], [(0, 1)], w41)) 1 rfl ?_
                    refine e_Ok.rets rfl rfl ?_
                    have ht := (hD.2.2 (w (6 * t + 157) (v1 (6 * t + 154) 15 - 1) + 2)).2.1 (Or.inr (Or.inr (by omega)))
                    exact ⟨_, rfl, f44, q43T, q43s, Or.inl ⟨rfl, (by rw [q43p, q38]; exact ht)⟩⟩
              · replace h15 : (z13 : Int) = 0 := by have q : ¬ ((z13 : Int) ≠ 0) := h15; omega
                refine e_Ok.run (t' := (96, [(6, (0, z13)), (5, (0, w (6 * t + 157) (v1 (6 * t + 154) 15 - 1))), (0, (1, 6 * t + 154)), (1, (1, cd)), (2, (0, 1)), (3, (0, val)), (4, (0, 0))], [(0, 1), (0, w (6 * t + 157) (v1 (6 * t + 154) 15 - 1)), (1, cd)], v1)) 3 rfl ?_
                refine e_Ok.add (z := w (6 * t + 157) (v1 (6 * t + 154) 15 - 1) + 1) rfl (by omega) (by omega) ?_
                refine e_Ok.callV rfl (by omega) rfl (lD0 hcd) rfl rfl (c_24 j6 (kCd.fr j5 (by unfold kLv; omega) (fun k => by unfold kLv; omega) hk) (by omega)) (fun r45 w46 h47 => ?_)
                obtain ⟨z48, rfl, rfl, q49, q49r⟩ := h47
                replace q49 : z48 = od (w (6 * t + 157) (v1 (6 * t + 154) 15 - 1) + 1) := q49
                show e_Ok 20 elay kcode eI (d + 1) 188 (100, [(6, (0, z13)), (5, (0, w (6 * t + 157) (v1 (6 * t + 154) 15 - 1))), (0, (1, 6 * t + 154)), (1, (1, cd)), (2, (0, 1)), (3, (0, val)), (4, (0, 0))], [(0, z48)], v1) _
                refine e_Ok.if1 rfl (fun h50 => ?_) (fun h50 => ?_)
                · replace h50 : (z48 : Int) = 0 := h50
                  refine e_Ok.run (t' := (126, [(6, (0, z13)), (5, (0, w (6 * t + 157) (v1 (6 * t + 154) 15 - 1))), (0, (1, 6 * t + 154)), (1, (1, cd)), (2, (0, 1)), (3, (0, val)), (4, (0, 0))], [(0, 2), (0, z13)], v1)) 2 rfl ?_
                  refine e_Ok.if2 rfl (fun h51 => ?_) (fun h51 => ?_)
                  · replace h51 : (z13 : Int) = 2 := h51
                    exfalso; omega
                  · replace h51 : (z13 : Int) ≠ 2 := by have q : ¬ ((z13 : Int) = 2) := h51; omega
                    refine e_Ok.run (t' := (133, [(6, (0, z13)), (5, (0, w (6 * t + 157) (v1 (6 * t + 154) 15 - 1))), (0, (1, 6 * t + 154)), (1, (1, cd)), (2, (0, 1)), (3, (0, val)), (4, (0, 0))], [(0, 2), (0, w (6 * t + 157) (v1 (6 * t + 154) 15 - 1)), (1, cd)], v1)) 3 rfl ?_
                    refine e_Ok.add (z := w (6 * t + 157) (v1 (6 * t + 154) 15 - 1) + 2) rfl (by omega) (by omega) ?_
                    refine e_Ok.callV rfl (by omega) rfl (lD0 hcd) rfl rfl (c_24 j6 (kCd.fr j5 (by unfold kLv; omega) (fun k => by unfold kLv; omega) hk) (by omega)) (fun r52 w53 h54 => ?_)
                    obtain ⟨z55, rfl, rfl, q56, q56r⟩ := h54
                    replace q56 : z55 = od (w (6 * t + 157) (v1 (6 * t + 154) 15 - 1) + 2) := q56
                    show e_Ok 20 elay kcode eI (d + 1) 188 (137, [(6, (0, z13)), (5, (0, w (6 * t + 157) (v1 (6 * t + 154) 15 - 1))), (0, (1, 6 * t + 154)), (1, (1, cd)), (2, (0, 1)), (3, (0, val)), (4, (0, 0))], [(0, z55)], v1) _
                    refine e_Ok.if1 rfl (fun h57 => ?_) (fun h57 => ?_)
                    · replace h57 : (z55 : Int) = 0 := h57
                      refine e_Ok.run (t' := (173, [(6, (0, z13)), (5, (0, w (6 * t + 157) (v1 (6 * t + 154) 15 - 1))), (0, (1, 6 * t + 154)), (1, (1, cd)), (2, (0, 1)), (3, (0, val)), (4, (0, 0))], [(1, 6 * t + 154), (1, 6 * t + 154)], v1)) 2 rfl ?_
                      refine e_Ok.getf (z := v1 (6 * t + 154) 15) rfl (lT0 (t := t) (by omega) (by omega)) rfl rfl rfl (by omega) ?_
                      refine e_Ok.run (t' := (177, [(6, (0, z13)), (5, (0, w (6 * t + 157) (v1 (6 * t + 154) 15 - 1))), (0, (1, 6 * t + 154)), (1, (1, cd)), (2, (0, 1)), (3, (0, val)), (4, (0, 0))], [(0, 1), (0, v1 (6 * t + 154) 15), (1, 6 * t + 154)], v1)) 1 rfl ?_
                      refine e_Ok.sub' (z := v1 (6 * t + 154) 15 - 1) rfl (by omega) (by omega) ?_
                      refine e_Ok.putf rfl (lT0 (t := t) (by omega) (by omega)) rfl rfl ?_
                      generalize hw58 : e_up v1 (6 * t + 154) 15 (v1 (6 * t + 154) 15 - 1) = w58
                      have f59 : e_fr (kLv t) w w58 := e_fr.up j5 hw58 (by unfold kLv; omega)
                      have hT60 : e_Has kTy w58 := e_Has.upr j6 hw58 (kT_15 (t := t) (by omega) (by omega)) (by omega)
                      refine e_Ok.run (t' := (45, [(6, (0, z13)), (5, (0, w (6 * t + 157) (v1 (6 * t + 154) 15 - 1))), (0, (1, 6 * t + 154)), (1, (1, cd)), (2, (0, 1)), (3, (0, val)), (4, (0, 0))], [], w58)) 1 rfl ?_
                      refine e_Ok.sub kAlk (e_sub_of rfl ?_) (ih4  w58 ⟨f59, hT60, (fun c k g => by rw [← hw58, e_up_ne _ _ (by omega)]; exact j7 c k g), (by have e : w58 (6 * t + 154) 15 = v1 (6 * t + 154) 15 - 1 := (by rw [← hw58]; exact e_up_eq _ _ _ _); omega)⟩ (by have e : w58 (6 * t + 154) 15 = v1 (6 * t + 154) 15 - 1 := (by rw [← hw58]; exact e_up_eq _ _ _ _); omega))
                      exact ⟨rfl, rfl, rfl, rfl, rfl, trivial⟩
                    · replace h57 : (z55 : Int) ≠ 0 := by have q : ¬ ((z55 : Int) = 0) := h57; omega
                      refine e_Ok.run (t' := (141, [(6, (0, z13)), (5, (0, w (6 * t + 157) (v1 (6 * t + 154) 15 - 1))), (0, (1, 6 * t + 154)), (1, (1, cd)), (2, (0, 1)), (3, (0, val)), (4, (0, 0))], [(1, 6 * t + 154)], v1)) 1 rfl ?_
                      refine e_Ok.getr (z := 6 * t + 159) rfl (lT0 (t := t) (by omega) (by omega)) rfl rfl ((j5 (6 * t + 154) 20 (by unfold kLv; omega)).trans (Eq.trans (e_Has.eq hT (kT_20 (t := t) (by omega) (by omega))) (by omega))) (by omega) ?_
                      refine e_Ok.run (t' := (145, [(6, (0, z13)), (5, (0, w (6 * t + 157) (v1 (6 * t + 154) 15 - 1))), (0, (1, 6 * t + 154)), (1, (1, cd)), (2, (0, 1)), (3, (0, val)), (4, (0, 0))], [(1, 6 * t + 154), (1, 6 * t + 159)], v1)) 1 rfl ?_
                      refine e_Ok.getf (z := v1 (6 * t + 154) 15) rfl (lT0 (t := t) (by omega) (by omega)) rfl rfl rfl (by omega) ?_
                      refine e_Ok.run (t' := (149, [(6, (0, z13)), (5, (0, w (6 * t + 157) (v1 (6 * t + 154) 15 - 1))), (0, (1, 6 * t + 154)), (1, (1, cd)), (2, (0, 1)), (3, (0, val)), (4, (0, 0))], [(0, 1), (0, v1 (6 * t + 154) 15), (1, 6 * t + 159)], v1)) 1 rfl ?_
                      refine e_Ok.sub' (z := v1 (6 * t + 154) 15 - 1) rfl (by omega) (by omega) ?_
                      refine e_Ok.run (t' := (151, [(6, (0, z13)), (5, (0, w (6 * t + 157) (v1 (6 * t + 154) 15 - 1))), (0, (1, 6 * t + 154)), (1, (1, cd)), (2, (0, 1)), (3, (0, val)), (4, (0, 0))], [(0, val), (0, v1 (6 * t + 154) 15 - 1), (1, 6 * t + 159)], v1)) 1 rfl ?_
                      refine e_Ok.ast rfl (lT5 (t := t) (by omega) (by omega)) rfl rfl (by omega) ?_
                      generalize hw61 : e_up v1 (6 * t + 159) (v1 (6 * t + 154) 15 - 1) val = w61
                      have f62 : e_fr (kLv t) w w61 := e_fr.up j5 hw61 (by unfold kLv; omega)
                      have hT63 : e_Has kTy w61 := e_Has.ups j6 hw61 (kT159 (t := t) _ (by omega) (by omega))
                      have hsw : tS w61 (6 * t + 154) op H := tS.val hsv (by omega) (by rw [show (6 * t + 154) + 4 = 6 * t + 158 by omega]; omega) hw61
                      refine e_Ok.run (t' := (156, [(6, (0, z13)), (5, (0, w (6 * t + 157) (v1 (6 * t + 154) 15 - 1))), (0, (1, 6 * t + 154)), (1, (1, cd)), (2, (0, 1)), (3, (0, val)), (4, (0, 0))], [(0, 2), (0, 1), (0, 2), (1, 6 * t + 154)], w61)) 4 rfl ?_
                      refine e_Ok.shl2 rfl (by omega) (fun z64 hz64 => ?_)
                      replace hz64 : z64 = 1 * 4 := hz64
                      refine e_Ok.or2 rfl (by omega) (by omega) (fun z65 hz65 => ?_)
                      replace hz65 : z65 = 2 + z64 := hz65
                      refine e_Ok.run (t' := (162, [(6, (0, z13)), (5, (0, w (6 * t + 157) (v1 (6 * t + 154) 15 - 1))), (0, (1, 6 * t + 154)), (1, (1, cd)), (2, (0, 1)), (3, (0, val)), (4, (0, 0))], [(0, 2), (0, w (6 * t + 157) (v1 (6 * t + 154) 15 - 1)), (1, cd), (0, z65), (1, 6 * t + 154)], w61)) 3 rfl ?_
                      refine e_Ok.add (z := w (6 * t + 157) (v1 (6 * t + 154) 15 - 1) + 2) rfl (by omega) (by omega) ?_
                      refine e_Ok.callV rfl (by omega) rfl (lD0 hcd) rfl rfl (c_24 hT63 (kCd.fr f62 (by unfold kLv; omega) (fun k => by unfold kLv; omega) hk) (by omega)) (fun r66 w67 h68 => ?_)
                      obtain ⟨z69, rfl, rfl, q70, q70r⟩ := h68
                      replace q70 : z69 = od (w (6 * t + 157) (v1 (6 * t + 154) 15 - 1) + 2) := q70
                      show e_Ok 20 elay kcode eI (d + 1) 188 (166, [(6, (0, z13)), (5, (0, w (6 * t + 157) (v1 (6 * t + 154) 15 - 1))), (0, (1, 6 * t + 154)), (1, (1, cd)), (2, (0, 1)), (3, (0, val)), (4, (0, 0))], [(0, z69), (0, z65), (1, 6 * t + 154)], w61) _
                      refine e_Ok.callV rfl (by omega) rfl (lT0 (t := t) (by omega) (by omega)) rfl rfl (c_189 (t := t) (op := op) (H := H) hT63 (by omega) (by omega) (by omega) (by have e : w61 (6 * t + 154) 15 = v1 (6 * t + 154) 15 := (by rw [← hw61]; exact (e_up_ne _ _ (Or.inl (by omega))).trans rfl); omega) hsw (fun g => by rw [show w61 (6 * t + 154) 15 = v1 (6 * t + 154) 15 from (by rw [← hw61]; exact (e_up_ne _ _ (Or.inl (by omega))).trans rfl), show (6 * t + 154) + 5 = 6 * t + 159 by omega, ← hw61, e_up_eq]; exact ⟨by omega, fun g => by omega⟩)) (fun r71 w72 h73 => ?_)
                      obtain ⟨rfl, q74f, q74T, q74s, q74p, q74n⟩ := h73
                      have f75 : e_fr (kLv t) w w72 := e_fr.trans f62 (e_fr.mono q74f (fun c k q => by exact q))
                      show e_Ok 20 elay kcode eI (d + 1) 188 (169, [(6, (0, z13)), (5, (0, w (6 * t + 157) (v1 (6 * t + 154) 15 - 1))), (0, (1, 6 * t + 154)), (1, (1, cd)), (2, (0, 1)), (3, (0, val)), (4, (0, 0))], [], w72) _
                      refine e_Ok.run (t' := (170, [(6, (0, z13)), (5, (0, w (6 * t + 157) (v1 (6 * t + 154) 15 - 1))), (0, (1, 6 * t + 154)), (1, (1, cd)), (2, (0, 1)), (3, (0, val)), (4, (0, 0))], [(0, 1)], w72)) 1 rfl ?_
                      refine e_Ok.rets rfl rfl ?_
                      have ht := (hD.2.2 (w (6 * t + 157) (v1 (6 * t + 154) 15 - 1) + 2)).2.1 (Or.inr (Or.inr (by omega)))
                      exact ⟨_, rfl, f75, q74T, q74s, Or.inl ⟨rfl, (by rw [q74p, q70]; exact ht)⟩⟩
                · replace h50 : (z48 : Int) ≠ 0 := by have q : ¬ ((z48 : Int) = 0) := h50; omega
                  refine e_Ok.run (t' := (105, [(6, (0, z13)), (5, (0, w (6 * t + 157) (v1 (6 * t + 154) 15 - 1))), (0, (1, 6 * t + 154)), (1, (1, cd)), (2, (0, 1)), (3, (0, val)), (4, (0, 0))], [(0, val), (1, 6 * t + 154)], v1)) 2 rfl ?_
                  refine e_Ok.putf rfl (lT0 (t := t) (by omega) (by omega)) rfl rfl ?_
                  generalize hw76 : e_up v1 (6 * t + 154) 6 val = w76
                  have f77 : e_fr (kLv t) w w76 := e_fr.up j5 hw76 (by unfold kLv; omega)
                  have hT78 : e_Has kTy w76 := e_Has.upr j6 hw76 (kT_6 (t := t) (by omega) (by omega)) (by omega)
                  have hsw : tS w76 (6 * t + 154) op H := tS.oth hsv (by omega) hw76
                  refine e_Ok.run (t' := (114, [(6, (0, z13)), (5, (0, w (6 * t + 157) (v1 (6 * t + 154) 15 - 1))), (0, (1, 6 * t + 154)), (1, (1, cd)), (2, (0, 1)), (3, (0, val)), (4, (0, 0))], [(0, 1), (0, w (6 * t + 157) (v1 (6 * t + 154) 15 - 1)), (1, cd), (0, 1), (1, 6 * t + 154)], w76)) 5 rfl ?_
                  refine e_Ok.add (z := w (6 * t + 157) (v1 (6 * t + 154) 15 - 1) + 1) rfl (by omega) (by omega) ?_
                  refine e_Ok.callV rfl (by omega) rfl (lD0 hcd) rfl rfl (c_24 hT78 (kCd.fr f77 (by unfold kLv; omega) (fun k => by unfold kLv; omega) hk) (by omega)) (fun r79 w80 h81 => ?_)
                  obtain ⟨z82, rfl, rfl, q83, q83r⟩ := h81
                  replace q83 : z82 = od (w (6 * t + 157) (v1 (6 * t + 154) 15 - 1) + 1) := q83
                  show e_Ok 20 elay kcode eI (d + 1) 188 (118, [(6, (0, z13)), (5, (0, w (6 * t + 157) (v1 (6 * t + 154) 15 - 1))), (0, (1, 6 * t + 154)), (1, (1, cd)), (2, (0, 1)), (3, (0, val)), (4, (0, 0))], [(0, z82), (0, 1), (1, 6 * t + 154)], w76) _
                  refine e_Ok.callV rfl (by omega) rfl (lT0 (t := t) (by omega) (by omega)) rfl rfl (c_189 (t := t) (op := op) (H := H) hT78 (by omega) (by omega) (by omega) (by have e : w76 (6 * t + 154) 15 = v1 (6 * t + 154) 15 := (by rw [← hw76]; exact (e_up_ne _ _ (Or.inr (by omega))).trans rfl); omega) hsw (fun g => by omega)) (fun r84 w85 h86 => ?_)
                  obtain ⟨rfl, q87f, q87T, q87s, q87p, q87n⟩ := h86
                  have f88 : e_fr (kLv t) w w85 := e_fr.trans f77 (e_fr.mono q87f (fun c k q => by exact q))
                  show e_Ok 20 elay kcode eI (d + 1) 188 (121, [(6, (0, z13)), (5, (0, w (6 * t + 157) (v1 (6 * t + 154) 15 - 1))), (0, (1, 6 * t + 154)), (1, (1, cd)), (2, (0, 1)), (3, (0, val)), (4, (0, 0))], [], w85) _
                  refine e_Ok.run (t' := (122, [(6, (0, z13)), (5, (0, w (6 * t + 157) (v1 (6 * t + 154) 15 - 1))), (0, (1, 6 * t + 154)), (1, (1, cd)), (2, (0, 1)), (3, (0, val)), (4, (0, 0))], [(0, 1)], w85)) 1 rfl ?_
                  refine e_Ok.rets rfl rfl ?_
                  have ht := (hD.2.2 (w (6 * t + 157) (v1 (6 * t + 154) 15 - 1) + 1)).2.1 (Or.inr (Or.inr (by omega)))
                  exact ⟨_, rfl, f88, q87T, q87s, Or.inl ⟨rfl, (by rw [q87p, q83]; exact ht)⟩⟩
      refine e_Ok.sub kAlk (e_sub_of rfl ?_) (hL3 (600 + 1 : Int).toNat  w ⟨(e_fr.refl w), hT, (fun _ _ _ => rfl), by omega⟩ (by omega))
      exact ⟨rfl, rfl, rfl, rfl, rfl, trivial⟩
    · replace h2 : (1 : Int) = 3 := by have q : ¬ ((1 : Int) ≠ 3) := h2; omega
      exfalso; omega
  · replace h1 : (1 : Int) ≠ 1 := by have q : ¬ ((1 : Int) = 1) := h1; omega
    exfalso; omega
theorem c_188_2 {d : Nat} (hd : 22 ≤ d) {w : eW} (hT : e_Has kTy w) {t : Int} (gt : 0 ≤ t ∧ t ≤ 15) {cd : Int} {op od : Int → Int} (hk : kCd w cd op od) {col : Int → Int} (hD : cD op od col) {H val : Int} (gv : -2147483648 ≤ val ∧ val ≤ 2147483647) (hs : tS w (6 * t + 154) op H) : e_Ok 20 elay kcode eI d 188 (0, [(0, (1, 6 * t + 154)), (1, (1, cd)), (2, (0, 2)), (3, (0, val))], [], w) (fun r w' => ∃ z : Int, r = [(0, z)] ∧ e_fr (kLv t) w w' ∧ e_Has kTy w' ∧ tS w' (6 * t + 154) op H ∧ z = 1 ∧ (40 ≤ op (w' (6 * t + 154) 3) ∨ w' (6 * t + 154) 4 = 0)) := by
  obtain ⟨d, rfl⟩ : ∃ e, d = e + 1 := ⟨d - 1, by omega⟩
  have hcd := hk.1
  have hcd0 := hk.1
  unfold isCd at hcd0
  have h15 := e_Has.get hT (c := 6 * t + 154) (k := 15) (lo := 0) (hi := 600) (kT_15 (t := t) rfl gt) (by decide)
  have h4 := e_Has.get hT (c := 6 * t + 154) (k := 4) (lo := 0) (hi := 20) (kT_4 (t := t) rfl gt) (by decide)
  have hH := hs.1
  refine e_Ok.run (t' := (2, [(0, (1, 6 * t + 154)), (1, (1, cd)), (2, (0, 2)), (3, (0, val))], [(0, 1), (0, 2)], w)) 2 rfl ?_
  refine e_Ok.if2 rfl (fun h1 => ?_) (fun h1 => ?_)
  · replace h1 : (2 : Int) = 1 := h1
    exfalso; omega
  · replace h1 : (2 : Int) ≠ 1 := by have q : ¬ ((2 : Int) = 1) := h1; omega
    refine e_Ok.run (t' := (6, [(0, (1, 6 * t + 154)), (1, (1, cd)), (2, (0, 2)), (3, (0, val))], [(1, 6 * t + 154)], w)) 1 rfl ?_
    have h2 := (e_Has.get hT (c := 6 * t + 154) (k := 4) (lo := 0) (hi := 20) (kT_4 (t := t) (by omega) (by omega)) (by decide))
    refine e_Ok.getf (z := w (6 * t + 154) 4) rfl (lT0 (t := t) (by omega) (by omega)) rfl rfl rfl (by omega) ?_
    refine e_Ok.run (t' := (10, [(0, (1, 6 * t + 154)), (1, (1, cd)), (2, (0, 2)), (3, (0, val))], [(0, 1), (0, w (6 * t + 154) 4)], w)) 1 rfl ?_
    refine e_Ok.if2 rfl (fun h3 => ?_) (fun h3 => ?_)
    · replace h3 : (w (6 * t + 154) 4 : Int) ≥ 1 := h3
      have hq := hs.2.1 (w (6 * t + 154) 4 - 1) (by omega) (by omega)
      have hq2 : 0 ≤ w (6 * t + 156) (w (6 * t + 154) 4 - 1) ∧ w (6 * t + 156) (w (6 * t + 154) 4 - 1) ≤ H := by rw [show 6 * t + 156 = (6 * t + 154) + 2 by omega]; exact hq.2.2
      clear hq
      refine e_Ok.run (t' := (18, [(0, (1, 6 * t + 154)), (1, (1, cd)), (2, (0, 2)), (3, (0, val))], [(1, 6 * t + 154)], w)) 1 rfl ?_
      refine e_Ok.getr (z := 6 * t + 156) rfl (lT0 (t := t) (by omega) (by omega)) rfl rfl (Eq.trans (e_Has.eq hT (kT_17 (t := t) (by omega) (by omega))) (by omega)) (by omega) ?_
      refine e_Ok.run (t' := (22, [(0, (1, 6 * t + 154)), (1, (1, cd)), (2, (0, 2)), (3, (0, val))], [(1, 6 * t + 154), (1, 6 * t + 156)], w)) 1 rfl ?_
      refine e_Ok.getf (z := w (6 * t + 154) 4) rfl (lT0 (t := t) (by omega) (by omega)) rfl rfl rfl (by omega) ?_
      refine e_Ok.run (t' := (26, [(0, (1, 6 * t + 154)), (1, (1, cd)), (2, (0, 2)), (3, (0, val))], [(0, 1), (0, w (6 * t + 154) 4), (1, 6 * t + 156)], w)) 1 rfl ?_
      refine e_Ok.sub' (z := w (6 * t + 154) 4 - 1) rfl (by omega) (by omega) ?_
      refine e_Ok.ald (z := w (6 * t + 156) (w (6 * t + 154) 4 - 1)) rfl (lT2 (t := t) (by omega) (by omega)) rfl (by omega) rfl (by omega) ?_
      refine e_Ok.run (t' := (32, [(4, (0, w (6 * t + 156) (w (6 * t + 154) 4 - 1))), (0, (1, 6 * t + 154)), (1, (1, cd)), (2, (0, 2)), (3, (0, val))], [(0, 3), (0, 2)], w)) 3 rfl ?_
      refine e_Ok.if2 rfl (fun h4 => ?_) (fun h4 => ?_)
      · replace h4 : (2 : Int) ≠ 3 := h4
        have hL5 : ∀ (nn : Nat) (v1 : eW), e_fr (kLv t) w v1 ∧ e_Has kTy v1 ∧ (∀ c k, ¬ (c = (6 * t + 154) ∧ k = 15) → v1 c k = w c k) ∧ ((0 ≤ v1 (6 * t + 154) 15 ∧ v1 (6 * t + 154) 15 ≤ w (6 * t + 154) 15)) → v1 (6 * t + 154) 15 < nn → e_Ok 20 elay kcode eI (d + 1) 188 (45, [(0, (1, 6 * t + 154)), (1, (1, cd)), (2, (0, 2)), (3, (0, val)), (4, (0, w (6 * t + 156) (w (6 * t + 154) 4 - 1)))], [], v1) (fun r w' => ∃ z : Int, r = [(0, z)] ∧ e_fr (kLv t) w w' ∧ e_Has kTy w' ∧ tS w' (6 * t + 154) op H ∧ z = 1 ∧ (40 ≤ op (w' (6 * t + 154) 3) ∨ w' (6 * t + 154) 4 = 0)) := by
          intro nn
          induction nn with
          | zero => intro v1 hj hm; obtain ⟨j7, j8, j9, j10⟩ := hj; exfalso; omega
          | succ nn ih6 =>
            intro v1 hj hm
            obtain ⟨j7, j8, j9, j10⟩ := hj
            refine e_Ok.run (t' := (46, [(0, (1, 6 * t + 154)), (1, (1, cd)), (2, (0, 2)), (3, (0, val)), (4, (0, w (6 * t + 156) (w (6 * t + 154) 4 - 1)))], [(1, 6 * t + 154)], v1)) 1 rfl ?_
            refine e_Ok.getf (z := v1 (6 * t + 154) 15) rfl (lT0 (t := t) (by omega) (by omega)) rfl rfl rfl (by omega) ?_
            refine e_Ok.run (t' := (51, [(0, (1, 6 * t + 154)), (1, (1, cd)), (2, (0, 2)), (3, (0, val)), (4, (0, w (6 * t + 156) (w (6 * t + 154) 4 - 1)))], [(0, w (6 * t + 156) (w (6 * t + 154) 4 - 1)), (0, v1 (6 * t + 154) 15)], v1)) 1 rfl ?_
            refine e_Ok.if2 rfl (fun h11 => ?_) (fun h11 => ?_)
            · replace h11 : (v1 (6 * t + 154) 15 : Int) ≤ w (6 * t + 156) (w (6 * t + 154) 4 - 1) := h11
              have hsv : tS v1 (6 * t + 154) op H := tS.less hs (by omega) (by rw [show v1 (6 * t + 154) 4 = w (6 * t + 154) 4 from j9 _ _ (by omega)]; omega) (fun d k g1 g2 => j9 _ _ (by omega))
              refine e_Ok.run (t' := (186, [(0, (1, 6 * t + 154)), (1, (1, cd)), (2, (0, 2)), (3, (0, val)), (4, (0, w (6 * t + 156) (w (6 * t + 154) 4 - 1)))], [(0, 2), (0, 2)], v1)) 2 rfl ?_
              refine e_Ok.if2 rfl (fun h12 => ?_) (fun h12 => ?_)
              · replace h12 : (2 : Int) ≠ 2 := h12
                exfalso; omega
              · replace h12 : (2 : Int) = 2 := by have q : ¬ ((2 : Int) ≠ 2) := h12; omega
                refine e_Ok.run (t' := (190, [(0, (1, 6 * t + 154)), (1, (1, cd)), (2, (0, 2)), (3, (0, val)), (4, (0, w (6 * t + 156) (w (6 * t + 154) 4 - 1)))], [(1, 6 * t + 154)], v1)) 1 rfl ?_
                refine e_Ok.callV rfl (by omega) rfl (lT0 (t := t) (by omega) (by omega)) rfl rfl (c_183 (t := t) (op := op) (H := H) j8 (by omega) hsv) (fun r13 w14 h15 => ?_)
                obtain ⟨rfl, q16f, q16T, q16s, q16x⟩ := h15
                have f17 : e_fr (kLv t) w w14 := e_fr.trans j7 (e_fr.mono q16f (fun c k q => by exact q))
                show e_Ok 20 elay kcode eI (d + 1) 188 (193, [(0, (1, 6 * t + 154)), (1, (1, cd)), (2, (0, 2)), (3, (0, val)), (4, (0, w (6 * t + 156) (w (6 * t + 154) 4 - 1)))], [], w14) _
                refine e_Ok.run (t' := (195, [(0, (1, 6 * t + 154)), (1, (1, cd)), (2, (0, 2)), (3, (0, val)), (4, (0, w (6 * t + 156) (w (6 * t + 154) 4 - 1)))], [(0, 3), (0, 2)], w14)) 2 rfl ?_
                refine e_Ok.if2 rfl (fun h18 => ?_) (fun h18 => ?_)
                · replace h18 : (2 : Int) ≠ 3 := h18
                  refine e_Ok.run (t' := (211, [(0, (1, 6 * t + 154)), (1, (1, cd)), (2, (0, 2)), (3, (0, val)), (4, (0, w (6 * t + 156) (w (6 * t + 154) 4 - 1)))], [(0, 1), (0, 2)], w14)) 2 rfl ?_
                  refine e_Ok.if2 rfl (fun h19 => ?_) (fun h19 => ?_)
                  · replace h19 : (2 : Int) = 1 := h19
                    exfalso; omega
                  · replace h19 : (2 : Int) ≠ 1 := by have q : ¬ ((2 : Int) = 1) := h19; omega
                    refine e_Ok.run (t' := (219, [(0, (1, 6 * t + 154)), (1, (1, cd)), (2, (0, 2)), (3, (0, val)), (4, (0, w (6 * t + 156) (w (6 * t + 154) 4 - 1)))], [(0, 1)], w14)) 2 rfl ?_
                    refine e_Ok.rets rfl rfl ?_
                    have h4 := e_Has.get q16T (c := 6 * t + 154) (k := 4) (lo := 0) (hi := 20) (kT_4 (t := t) rfl gt) (by decide)
                    exact ⟨_, rfl, f17, q16T, q16s, rfl, (by rcases q16x with ⟨g1, g2⟩ | ⟨g1, g2, g3⟩; (rw [g2] at h4 ⊢; exact Or.inr (by omega)); (by_cases g : 0 < w14 (6 * t + 154) 4; exact Or.inl (g3 g); exact Or.inr (by omega)))⟩
                · replace h18 : (2 : Int) = 3 := by have q : ¬ ((2 : Int) ≠ 3) := h18; omega
                  exfalso; omega
            · replace h11 : (v1 (6 * t + 154) 15 : Int) > w (6 * t + 156) (w (6 * t + 154) 4 - 1) := by have q : ¬ ((v1 (6 * t + 154) 15 : Int) ≤ w (6 * t + 156) (w (6 * t + 154) 4 - 1)) := h11; omega
              have hsv : tS v1 (6 * t + 154) op H := tS.less hs (by omega) (by rw [show v1 (6 * t + 154) 4 = w (6 * t + 154) 4 from j9 _ _ (by omega)]; omega) (fun d k g1 g2 => j9 _ _ (by omega))
              have hq := hsv.2.2 (v1 (6 * t + 154) 15 - 1) (by omega) (by omega)
              have hqw := (hs.2.2 (v1 (6 * t + 154) 15 - 1) (by omega) (by omega)).1
              have hq3 : ((0 ≤ w (6 * t + 157) (v1 (6 * t + 154) 15 - 1) ∧ w (6 * t + 157) (v1 (6 * t + 154) 15 - 1) ≤ 3999) ∧ op (w (6 * t + 157) (v1 (6 * t + 154) 15 - 1) + 1) = 49 ∧ op (w (6 * t + 157) (v1 (6 * t + 154) 15 - 1) + 2) = 49 ∧ op (w (6 * t + 157) (v1 (6 * t + 154) 15 - 1) + 3) = 49) ∧ (0 ≤ v1 (6 * t + 158) (v1 (6 * t + 154) 15 - 1) ∧ v1 (6 * t + 158) (v1 (6 * t + 154) 15 - 1) ≤ 15) := by rw [show 6 * t + 157 = (6 * t + 154) + 3 by omega, show 6 * t + 158 = (6 * t + 154) + 4 by omega]; exact ⟨hqw, hq.2.1.1⟩
              clear hq hqw
              refine e_Ok.run (t' := (55, [(0, (1, 6 * t + 154)), (1, (1, cd)), (2, (0, 2)), (3, (0, val)), (4, (0, w (6 * t + 156) (w (6 * t + 154) 4 - 1)))], [(1, 6 * t + 154)], v1)) 1 rfl ?_
              refine e_Ok.getr (z := 6 * t + 157) rfl (lT0 (t := t) (by omega) (by omega)) rfl rfl ((j7 (6 * t + 154) 18 (by unfold kLv; omega)).trans (Eq.trans (e_Has.eq hT (kT_18 (t := t) (by omega) (by omega))) (by omega))) (by omega) ?_
              refine e_Ok.run (t' := (59, [(0, (1, 6 * t + 154)), (1, (1, cd)), (2, (0, 2)), (3, (0, val)), (4, (0, w (6 * t + 156) (w (6 * t + 154) 4 - 1)))], [(1, 6 * t + 154), (1, 6 * t + 157)], v1)) 1 rfl ?_
              refine e_Ok.getf (z := v1 (6 * t + 154) 15) rfl (lT0 (t := t) (by omega) (by omega)) rfl rfl rfl (by omega) ?_
              refine e_Ok.run (t' := (63, [(0, (1, 6 * t + 154)), (1, (1, cd)), (2, (0, 2)), (3, (0, val)), (4, (0, w (6 * t + 156) (w (6 * t + 154) 4 - 1)))], [(0, 1), (0, v1 (6 * t + 154) 15), (1, 6 * t + 157)], v1)) 1 rfl ?_
              refine e_Ok.sub' (z := v1 (6 * t + 154) 15 - 1) rfl (by omega) (by omega) ?_
              refine e_Ok.ald (z := w (6 * t + 157) (v1 (6 * t + 154) 15 - 1)) rfl (lT3 (t := t) (by omega) (by omega)) rfl (by omega) ((j7 (6 * t + 157) (v1 (6 * t + 154) 15 - 1) (by unfold kLv; omega)).trans rfl) (by omega) ?_
              refine e_Ok.run (t' := (68, [(5, (0, w (6 * t + 157) (v1 (6 * t + 154) 15 - 1))), (0, (1, 6 * t + 154)), (1, (1, cd)), (2, (0, 2)), (3, (0, val)), (4, (0, w (6 * t + 156) (w (6 * t + 154) 4 - 1)))], [(1, 6 * t + 154)], v1)) 2 rfl ?_
              refine e_Ok.getr (z := 6 * t + 158) rfl (lT0 (t := t) (by omega) (by omega)) rfl rfl ((j7 (6 * t + 154) 19 (by unfold kLv; omega)).trans (Eq.trans (e_Has.eq hT (kT_19 (t := t) (by omega) (by omega))) (by omega))) (by omega) ?_
              refine e_Ok.run (t' := (72, [(5, (0, w (6 * t + 157) (v1 (6 * t + 154) 15 - 1))), (0, (1, 6 * t + 154)), (1, (1, cd)), (2, (0, 2)), (3, (0, val)), (4, (0, w (6 * t + 156) (w (6 * t + 154) 4 - 1)))], [(1, 6 * t + 154), (1, 6 * t + 158)], v1)) 1 rfl ?_
              refine e_Ok.getf (z := v1 (6 * t + 154) 15) rfl (lT0 (t := t) (by omega) (by omega)) rfl rfl rfl (by omega) ?_
              refine e_Ok.run (t' := (76, [(5, (0, w (6 * t + 157) (v1 (6 * t + 154) 15 - 1))), (0, (1, 6 * t + 154)), (1, (1, cd)), (2, (0, 2)), (3, (0, val)), (4, (0, w (6 * t + 156) (w (6 * t + 154) 4 - 1)))], [(0, 1), (0, v1 (6 * t + 154) 15), (1, 6 * t + 158)], v1)) 1 rfl ?_
              refine e_Ok.sub' (z := v1 (6 * t + 154) 15 - 1) rfl (by omega) (by omega) ?_
              refine e_Ok.ald (z := v1 (6 * t + 158) (v1 (6 * t + 154) 15 - 1)) rfl (lT4 (t := t) (by omega) (by omega)) rfl (by omega) rfl (by omega) ?_
              refine e_Ok.run (t' := (79, [(5, (0, w (6 * t + 157) (v1 (6 * t + 154) 15 - 1))), (0, (1, 6 * t + 154)), (1, (1, cd)), (2, (0, 2)), (3, (0, val)), (4, (0, w (6 * t + 156) (w (6 * t + 154) 4 - 1)))], [(0, 3), (0, v1 (6 * t + 158) (v1 (6 * t + 154) 15 - 1))], v1)) 1 rfl ?_
              refine e_Ok.andm 3 2 rfl (by decide) (fun z20 hz20 => ?_)
              replace hz20 : z20 = (v1 (6 * t + 158) (v1 (6 * t + 154) 15 - 1)) % 4 := hz20
              have hz20r : 0 ≤ z20 ∧ z20 ≤ 3 := by omega
              refine e_Ok.run (t' := (84, [(6, (0, z20)), (5, (0, w (6 * t + 157) (v1 (6 * t + 154) 15 - 1))), (0, (1, 6 * t + 154)), (1, (1, cd)), (2, (0, 2)), (3, (0, val)), (4, (0, w (6 * t + 156) (w (6 * t + 154) 4 - 1)))], [(0, 1), (0, 2)], v1)) 3 rfl ?_
              refine e_Ok.if2 rfl (fun h21 => ?_) (fun h21 => ?_)
              · replace h21 : (2 : Int) ≠ 1 := h21
                refine e_Ok.run (t' := (126, [(6, (0, z20)), (5, (0, w (6 * t + 157) (v1 (6 * t + 154) 15 - 1))), (0, (1, 6 * t + 154)), (1, (1, cd)), (2, (0, 2)), (3, (0, val)), (4, (0, w (6 * t + 156) (w (6 * t + 154) 4 - 1)))], [(0, 2), (0, z20)], v1)) 2 rfl ?_
                refine e_Ok.if2 rfl (fun h22 => ?_) (fun h22 => ?_)
                · replace h22 : (z20 : Int) = 2 := h22
                  refine e_Ok.run (t' := (173, [(6, (0, z20)), (5, (0, w (6 * t + 157) (v1 (6 * t + 154) 15 - 1))), (0, (1, 6 * t + 154)), (1, (1, cd)), (2, (0, 2)), (3, (0, val)), (4, (0, w (6 * t + 156) (w (6 * t + 154) 4 - 1)))], [(1, 6 * t + 154), (1, 6 * t + 154)], v1)) 2 rfl ?_
                  refine e_Ok.getf (z := v1 (6 * t + 154) 15) rfl (lT0 (t := t) (by omega) (by omega)) rfl rfl rfl (by omega) ?_
                  refine e_Ok.run (t' := (177, [(6, (0, z20)), (5, (0, w (6 * t + 157) (v1 (6 * t + 154) 15 - 1))), (0, (1, 6 * t + 154)), (1, (1, cd)), (2, (0, 2)), (3, (0, val)), (4, (0, w (6 * t + 156) (w (6 * t + 154) 4 - 1)))], [(0, 1), (0, v1 (6 * t + 154) 15), (1, 6 * t + 154)], v1)) 1 rfl ?_
                  refine e_Ok.sub' (z := v1 (6 * t + 154) 15 - 1) rfl (by omega) (by omega) ?_
                  refine e_Ok.putf rfl (lT0 (t := t) (by omega) (by omega)) rfl rfl ?_
                  generalize hw23 : e_up v1 (6 * t + 154) 15 (v1 (6 * t + 154) 15 - 1) = w23
                  have f24 : e_fr (kLv t) w w23 := e_fr.up j7 hw23 (by unfold kLv; omega)
                  have hT25 : e_Has kTy w23 := e_Has.upr j8 hw23 (kT_15 (t := t) (by omega) (by omega)) (by omega)
                  refine e_Ok.run (t' := (45, [(6, (0, z20)), (5, (0, w (6 * t + 157) (v1 (6 * t + 154) 15 - 1))), (0, (1, 6 * t + 154)), (1, (1, cd)), (2, (0, 2)), (3, (0, val)), (4, (0, w (6 * t + 156) (w (6 * t + 154) 4 - 1)))], [], w23)) 1 rfl ?_
                  refine e_Ok.sub kAlk (e_sub_of rfl ?_) (ih6  w23 ⟨f24, hT25, (fun c k g => by rw [← hw23, e_up_ne _ _ (by omega)]; exact j9 c k g), (by have e : w23 (6 * t + 154) 15 = v1 (6 * t + 154) 15 - 1 := (by rw [← hw23]; exact e_up_eq _ _ _ _); omega)⟩ (by have e : w23 (6 * t + 154) 15 = v1 (6 * t + 154) 15 - 1 := (by rw [← hw23]; exact e_up_eq _ _ _ _); omega))
                  exact ⟨rfl, rfl, rfl, rfl, rfl, trivial⟩
                · replace h22 : (z20 : Int) ≠ 2 := by have q : ¬ ((z20 : Int) = 2) := h22; omega
                  refine e_Ok.run (t' := (133, [(6, (0, z20)), (5, (0, w (6 * t + 157) (v1 (6 * t + 154) 15 - 1))), (0, (1, 6 * t + 154)), (1, (1, cd)), (2, (0, 2)), (3, (0, val)), (4, (0, w (6 * t + 156) (w (6 * t + 154) 4 - 1)))], [(0, 2), (0, w (6 * t + 157) (v1 (6 * t + 154) 15 - 1)), (1, cd)], v1)) 3 rfl ?_
                  refine e_Ok.add (z := w (6 * t + 157) (v1 (6 * t + 154) 15 - 1) + 2) rfl (by omega) (by omega) ?_
                  refine e_Ok.callV rfl (by omega) rfl (lD0 hcd) rfl rfl (c_24 j8 (kCd.fr j7 (by unfold kLv; omega) (fun k => by unfold kLv; omega) hk) (by omega)) (fun r26 w27 h28 => ?_)
                  obtain ⟨z29, rfl, rfl, q30, q30r⟩ := h28
                  replace q30 : z29 = od (w (6 * t + 157) (v1 (6 * t + 154) 15 - 1) + 2) := q30
                  show e_Ok 20 elay kcode eI (d + 1) 188 (137, [(6, (0, z20)), (5, (0, w (6 * t + 157) (v1 (6 * t + 154) 15 - 1))), (0, (1, 6 * t + 154)), (1, (1, cd)), (2, (0, 2)), (3, (0, val)), (4, (0, w (6 * t + 156) (w (6 * t + 154) 4 - 1)))], [(0, z29)], v1) _
                  refine e_Ok.if1 rfl (fun h31 => ?_) (fun h31 => ?_)
                  · replace h31 : (z29 : Int) = 0 := h31
                    refine e_Ok.run (t' := (173, [(6, (0, z20)), (5, (0, w (6 * t + 157) (v1 (6 * t + 154) 15 - 1))), (0, (1, 6 * t + 154)), (1, (1, cd)), (2, (0, 2)), (3, (0, val)), (4, (0, w (6 * t + 156) (w (6 * t + 154) 4 - 1)))], [(1, 6 * t + 154), (1, 6 * t + 154)], v1)) 2 rfl ?_
                    refine e_Ok.getf (z := v1 (6 * t + 154) 15) rfl (lT0 (t := t) (by omega) (by omega)) rfl rfl rfl (by omega) ?_
                    refine e_Ok.run (t' := (177, [(6, (0, z20)), (5, (0, w (6 * t + 157) (v1 (6 * t + 154) 15 - 1))), (0, (1, 6 * t + 154)), (1, (1, cd)), (2, (0, 2)), (3, (0, val)), (4, (0, w (6 * t + 156) (w (6 * t + 154) 4 - 1)))], [(0, 1), (0, v1 (6 * t + 154) 15), (1, 6 * t + 154)], v1)) 1 rfl ?_
                    refine e_Ok.sub' (z := v1 (6 * t + 154) 15 - 1) rfl (by omega) (by omega) ?_
                    refine e_Ok.putf rfl (lT0 (t := t) (by omega) (by omega)) rfl rfl ?_
                    generalize hw32 : e_up v1 (6 * t + 154) 15 (v1 (6 * t + 154) 15 - 1) = w32
                    have f33 : e_fr (kLv t) w w32 := e_fr.up j7 hw32 (by unfold kLv; omega)
                    have hT34 : e_Has kTy w32 := e_Has.upr j8 hw32 (kT_15 (t := t) (by omega) (by omega)) (by omega)
                    refine e_Ok.run (t' := (45, [(6, (0, z20)), (5, (0, w (6 * t + 157) (v1 (6 * t + 154) 15 - 1))), (0, (1, 6 * t + 154)), (1, (1, cd)), (2, (0, 2)), (3, (0, val)), (4, (0, w (6 * t + 156) (w (6 * t + 154) 4 - 1)))], [], w32)) 1 rfl ?_
                    refine e_Ok.sub kAlk (e_sub_of rfl ?_) (ih6  w32 ⟨f33, hT34, (fun c k g => by rw [← hw32, e_up_ne _ _ (by omega)]; exact j9 c k g), (by have e : w32 (6 * t + 154) 15 = v1 (6 * t + 154) 15 - 1 := (by rw [← hw32]; exact e_up_eq _ _ _ _); omega)⟩ (by have e : w32 (6 * t + 154) 15 = v1 (6 * t + 154) 15 - 1 := (by rw [← hw32]; exact e_up_eq _ _ _ _); omega))
                    exact ⟨rfl, rfl, rfl, rfl, rfl, trivial⟩
                  · replace h31 : (z29 : Int) ≠ 0 := by have q : ¬ ((z29 : Int) = 0) := h31; omega
                    refine e_Ok.run (t' := (141, [(6, (0, z20)), (5, (0, w (6 * t + 157) (v1 (6 * t + 154) 15 - 1))), (0, (1, 6 * t + 154)), (1, (1, cd)), (2, (0, 2)), (3, (0, val)), (4, (0, w (6 * t + 156) (w (6 * t + 154) 4 - 1)))], [(1, 6 * t + 154)], v1)) 1 rfl ?_
                    refine e_Ok.getr (z := 6 * t + 159) rfl (lT0 (t := t) (by omega) (by omega)) rfl rfl ((j7 (6 * t + 154) 20 (by unfold kLv; omega)).trans (Eq.trans (e_Has.eq hT (kT_20 (t := t) (by omega) (by omega))) (by omega))) (by omega) ?_
                    refine e_Ok.run (t' := (145, [(6, (0, z20)), (5, (0, w (6 * t + 157) (v1 (6 * t + 154) 15 - 1))), (0, (1, 6 * t + 154)), (1, (1, cd)), (2, (0, 2)), (3, (0, val)), (4, (0, w (6 * t + 156) (w (6 * t + 154) 4 - 1)))], [(1, 6 * t + 154), (1, 6 * t + 159)], v1)) 1 rfl ?_
                    refine e_Ok.getf (z := v1 (6 * t + 154) 15) rfl (lT0 (t := t) (by omega) (by omega)) rfl rfl rfl (by omega) ?_
                    refine e_Ok.run (t' := (149, [(6, (0, z20)), (5, (0, w (6 * t + 157) (v1 (6 * t + 154) 15 - 1))), (0, (1, 6 * t + 154)), (1, (1, cd)), (2, (0, 2)), (3, (0, val)), (4, (0, w (6 * t + 156) (w (6 * t + 154) 4 - 1)))], [(0, 1), (0, v1 (6 * t + 154) 15), (1, 6 * t + 159)], v1)) 1 rfl ?_
                    refine e_Ok.sub' (z := v1 (6 * t + 154) 15 - 1) rfl (by omega) (by omega) ?_
                    refine e_Ok.run (t' := (151, [(6, (0, z20)), (5, (0, w (6 * t + 157) (v1 (6 * t + 154) 15 - 1))), (0, (1, 6 * t + 154)), (1, (1, cd)), (2, (0, 2)), (3, (0, val)), (4, (0, w (6 * t + 156) (w (6 * t + 154) 4 - 1)))], [(0, val), (0, v1 (6 * t + 154) 15 - 1), (1, 6 * t + 159)], v1)) 1 rfl ?_
                    refine e_Ok.ast rfl (lT5 (t := t) (by omega) (by omega)) rfl rfl (by omega) ?_
                    generalize hw35 : e_up v1 (6 * t + 159) (v1 (6 * t + 154) 15 - 1) val = w35
                    have f36 : e_fr (kLv t) w w35 := e_fr.up j7 hw35 (by unfold kLv; omega)
                    have hT37 : e_Has kTy w35 := e_Has.ups j8 hw35 (kT159 (t := t) _ (by omega) (by omega))
                    have hsw : tS w35 (6 * t + 154) op H := tS.val hsv (by omega) (by rw [show (6 * t + 154) + 4 = 6 * t + 158 by omega]; omega) hw35
                    refine e_Ok.run (t' := (156, [(6, (0, z20)), (5, (0, w (6 * t + 157) (v1 (6 * t + 154) 15 - 1))), (0, (1, 6 * t + 154)), (1, (1, cd)), (2, (0, 2)), (3, (0, val)), (4, (0, w (6 * t + 156) (w (6 * t + 154) 4 - 1)))], [(0, 2), (0, 2), (0, 2), (1, 6 * t + 154)], w35)) 4 rfl ?_
                    refine e_Ok.shl2 rfl (by omega) (fun z38 hz38 => ?_)
                    replace hz38 : z38 = 2 * 4 := hz38
                    refine e_Ok.or2 rfl (by omega) (by omega) (fun z40 hz40 => ?_)
                    replace hz40 : z40 = 2 + z38 := hz40
                    refine e_Ok.run (t' := (162, [(6, (0, z20)), (5, (0, w (6 * t + 157) (v1 (6 * t + 154) 15 - 1))), (0, (1, 6 * t + 154)), (1, (1, cd)), (2, (0, 2)), (3, (0, val)), (4, (0, w (6 * t + 156) (w (6 * t + 154) 4 - 1)))], [(0, 2), (0, w (6 * t + 157) (v1 (6 * t + 154) 15 - 1)), (1, cd), (0, z40), (1, 6 * t + 154)], w35)) 3 rfl ?_
                    refine e_Ok.add (z := w (6 * t + 157) (v1 (6 * t + 154) 15 - 1) + 2) rfl (by omega) (by omega) ?_
                    refine e_Ok.callV rfl (by omega) rfl (lD0 hcd) rfl rfl (c_24 hT37 (kCd.fr f36 (by unfold kLv; omega) (fun k => by unfold kLv; omega) hk) (by omega)) (fun r41 w42 h43 => ?_)
                    obtain ⟨z44, rfl, rfl, q45, q45r⟩ := h43
                    replace q45 : z44 = od (w (6 * t + 157) (v1 (6 * t + 154) 15 - 1) + 2) := q45
                    show e_Ok 20 elay kcode eI (d + 1) 188 (166, [(6, (0, z20)), (5, (0, w (6 * t + 157) (v1 (6 * t + 154) 15 - 1))), (0, (1, 6 * t + 154)), (1, (1, cd)), (2, (0, 2)), (3, (0, val)), (4, (0, w (6 * t + 156) (w (6 * t + 154) 4 - 1)))], [(0, z44), (0, z40), (1, 6 * t + 154)], w35) _
                    refine e_Ok.callV rfl (by omega) rfl (lT0 (t := t) (by omega) (by omega)) rfl rfl (c_189 (t := t) (op := op) (H := H) hT37 (by omega) (by omega) (by omega) (by have e : w35 (6 * t + 154) 15 = v1 (6 * t + 154) 15 := (by rw [← hw35]; exact (e_up_ne _ _ (Or.inl (by omega))).trans rfl); omega) hsw (fun g => by rw [show w35 (6 * t + 154) 15 = v1 (6 * t + 154) 15 from (by rw [← hw35]; exact (e_up_ne _ _ (Or.inl (by omega))).trans rfl), show (6 * t + 154) + 5 = 6 * t + 159 by omega, ← hw35, e_up_eq]; exact ⟨by omega, fun g => by omega⟩)) (fun r46 w47 h48 => ?_)
                    obtain ⟨rfl, q49f, q49T, q49s, q49p, q49n⟩ := h48
                    have f50 : e_fr (kLv t) w w47 := e_fr.trans f36 (e_fr.mono q49f (fun c k q => by exact q))
                    show e_Ok 20 elay kcode eI (d + 1) 188 (169, [(6, (0, z20)), (5, (0, w (6 * t + 157) (v1 (6 * t + 154) 15 - 1))), (0, (1, 6 * t + 154)), (1, (1, cd)), (2, (0, 2)), (3, (0, val)), (4, (0, w (6 * t + 156) (w (6 * t + 154) 4 - 1)))], [], w47) _
                    refine e_Ok.run (t' := (170, [(6, (0, z20)), (5, (0, w (6 * t + 157) (v1 (6 * t + 154) 15 - 1))), (0, (1, 6 * t + 154)), (1, (1, cd)), (2, (0, 2)), (3, (0, val)), (4, (0, w (6 * t + 156) (w (6 * t + 154) 4 - 1)))], [(0, 1)], w47)) 1 rfl ?_
                    refine e_Ok.rets rfl rfl ?_
                    have ht := (hD.2.2 (w (6 * t + 157) (v1 (6 * t + 154) 15 - 1) + 2)).2.1 (Or.inr (Or.inr (by omega)))
                    exact ⟨_, rfl, f50, q49T, q49s, rfl, Or.inl (by rw [q49p, q45]; exact ht)⟩
              · replace h21 : (2 : Int) = 1 := by have q : ¬ ((2 : Int) ≠ 1) := h21; omega
                exfalso; omega
        refine e_Ok.sub kAlk (e_sub_of rfl ?_) (hL5 (600 + 1 : Int).toNat  w ⟨(e_fr.refl w), hT, (fun _ _ _ => rfl), by omega⟩ (by omega))
        exact ⟨rfl, rfl, rfl, rfl, rfl, trivial⟩
      · replace h4 : (2 : Int) = 3 := by have q : ¬ ((2 : Int) ≠ 3) := h4; omega
        exfalso; omega
    · replace h3 : (w (6 * t + 154) 4 : Int) < 1 := by have q : ¬ ((w (6 * t + 154) 4 : Int) ≥ 1) := h3; omega
      refine e_Ok.run (t' := (32, [(4, (0, 0)), (0, (1, 6 * t + 154)), (1, (1, cd)), (2, (0, 2)), (3, (0, val))], [(0, 3), (0, 2)], w)) 5 rfl ?_
      refine e_Ok.if2 rfl (fun h51 => ?_) (fun h51 => ?_)
      · replace h51 : (2 : Int) ≠ 3 := h51
        have hL52 : ∀ (nn : Nat) (v1 : eW), e_fr (kLv t) w v1 ∧ e_Has kTy v1 ∧ (∀ c k, ¬ (c = (6 * t + 154) ∧ k = 15) → v1 c k = w c k) ∧ ((0 ≤ v1 (6 * t + 154) 15 ∧ v1 (6 * t + 154) 15 ≤ w (6 * t + 154) 15)) → v1 (6 * t + 154) 15 < nn → e_Ok 20 elay kcode eI (d + 1) 188 (45, [(0, (1, 6 * t + 154)), (1, (1, cd)), (2, (0, 2)), (3, (0, val)), (4, (0, 0))], [], v1) (fun r w' => ∃ z : Int, r = [(0, z)] ∧ e_fr (kLv t) w w' ∧ e_Has kTy w' ∧ tS w' (6 * t + 154) op H ∧ z = 1 ∧ (40 ≤ op (w' (6 * t + 154) 3) ∨ w' (6 * t + 154) 4 = 0)) := by
          intro nn
          induction nn with
          | zero => intro v1 hj hm; obtain ⟨j54, j55, j56, j57⟩ := hj; exfalso; omega
          | succ nn ih53 =>
            intro v1 hj hm
            obtain ⟨j54, j55, j56, j57⟩ := hj
            refine e_Ok.run (t' := (46, [(0, (1, 6 * t + 154)), (1, (1, cd)), (2, (0, 2)), (3, (0, val)), (4, (0, 0))], [(1, 6 * t + 154)], v1)) 1 rfl ?_
            refine e_Ok.getf (z := v1 (6 * t + 154) 15) rfl (lT0 (t := t) (by omega) (by omega)) rfl rfl rfl (by omega) ?_
            refine e_Ok.run (t' := (51, [(0, (1, 6 * t + 154)), (1, (1, cd)), (2, (0, 2)), (3, (0, val)), (4, (0, 0))], [(0, 0), (0, v1 (6 * t + 154) 15)], v1)) 1 rfl ?_
            refine e_Ok.if2 rfl (fun h58 => ?_) (fun h58 => ?_)
            · replace h58 : (v1 (6 * t + 154) 15 : Int) ≤ 0 := h58
              have hsv : tS v1 (6 * t + 154) op H := tS.less hs (by omega) (by rw [show v1 (6 * t + 154) 4 = w (6 * t + 154) 4 from j56 _ _ (by omega)]; omega) (fun d k g1 g2 => j56 _ _ (by omega))
              refine e_Ok.run (t' := (186, [(0, (1, 6 * t + 154)), (1, (1, cd)), (2, (0, 2)), (3, (0, val)), (4, (0, 0))], [(0, 2), (0, 2)], v1)) 2 rfl ?_
              refine e_Ok.if2 rfl (fun h59 => ?_) (fun h59 => ?_)
              · replace h59 : (2 : Int) ≠ 2 := h59
                exfalso; omega
              · replace h59 : (2 : Int) = 2 := by have q : ¬ ((2 : Int) ≠ 2) := h59; omega
                refine e_Ok.run (t' := (190, [(0, (1, 6 * t + 154)), (1, (1, cd)), (2, (0, 2)), (3, (0, val)), (4, (0, 0))], [(1, 6 * t + 154)], v1)) 1 rfl ?_
                refine e_Ok.callV rfl (by omega) rfl (lT0 (t := t) (by omega) (by omega)) rfl rfl (c_183 (t := t) (op := op) (H := H) j55 (by omega) hsv) (fun r60 w61 h62 => ?_)
                obtain ⟨rfl, q63f, q63T, q63s, q63x⟩ := h62
                have f64 : e_fr (kLv t) w w61 := e_fr.trans j54 (e_fr.mono q63f (fun c k q => by exact q))
                show e_Ok 20 elay kcode eI (d + 1) 188 (193, [(0, (1, 6 * t + 154)), (1, (1, cd)), (2, (0, 2)), (3, (0, val)), (4, (0, 0))], [], w61) _
                refine e_Ok.run (t' := (195, [(0, (1, 6 * t + 154)), (1, (1, cd)), (2, (0, 2)), (3, (0, val)), (4, (0, 0))], [(0, 3), (0, 2)], w61)) 2 rfl ?_
                refine e_Ok.if2 rfl (fun h65 => ?_) (fun h65 => ?_)
                · replace h65 : (2 : Int) ≠ 3 := h65
                  refine e_Ok.run (t' := (211, [(0, (1, 6 * t + 154)), (1, (1, cd)), (2, (0, 2)), (3, (0, val)), (4, (0, 0))], [(0, 1), (0, 2)], w61)) 2 rfl ?_
                  refine e_Ok.if2 rfl (fun h66 => ?_) (fun h66 => ?_)
                  · replace h66 : (2 : Int) = 1 := h66
                    exfalso; omega
                  · replace h66 : (2 : Int) ≠ 1 := by have q : ¬ ((2 : Int) = 1) := h66; omega
                    refine e_Ok.run (t' := (219, [(0, (1, 6 * t + 154)), (1, (1, cd)), (2, (0, 2)), (3, (0, val)), (4, (0, 0))], [(0, 1)], w61)) 2 rfl ?_
                    refine e_Ok.rets rfl rfl ?_
                    have h4 := e_Has.get q63T (c := 6 * t + 154) (k := 4) (lo := 0) (hi := 20) (kT_4 (t := t) rfl gt) (by decide)
                    exact ⟨_, rfl, f64, q63T, q63s, rfl, (by rcases q63x with ⟨g1, g2⟩ | ⟨g1, g2, g3⟩; (rw [g2] at h4 ⊢; exact Or.inr (by omega)); (by_cases g : 0 < w61 (6 * t + 154) 4; exact Or.inl (g3 g); exact Or.inr (by omega)))⟩
                · replace h65 : (2 : Int) = 3 := by have q : ¬ ((2 : Int) ≠ 3) := h65; omega
                  exfalso; omega
            · replace h58 : (v1 (6 * t + 154) 15 : Int) > 0 := by have q : ¬ ((v1 (6 * t + 154) 15 : Int) ≤ 0) := h58; omega
              have hsv : tS v1 (6 * t + 154) op H := tS.less hs (by omega) (by rw [show v1 (6 * t + 154) 4 = w (6 * t + 154) 4 from j56 _ _ (by omega)]; omega) (fun d k g1 g2 => j56 _ _ (by omega))
              have hq := hsv.2.2 (v1 (6 * t + 154) 15 - 1) (by omega) (by omega)
              have hqw := (hs.2.2 (v1 (6 * t + 154) 15 - 1) (by omega) (by omega)).1
              have hq3 : ((0 ≤ w (6 * t + 157) (v1 (6 * t + 154) 15 - 1) ∧ w (6 * t + 157) (v1 (6 * t + 154) 15 - 1) ≤ 3999) ∧ op (w (6 * t + 157) (v1 (6 * t + 154) 15 - 1) + 1) = 49 ∧ op (w (6 * t + 157) (v1 (6 * t + 154) 15 - 1) + 2) = 49 ∧ op (w (6 * t + 157) (v1 (6 * t + 154) 15 - 1) + 3) = 49) ∧ (0 ≤ v1 (6 * t + 158) (v1 (6 * t + 154) 15 - 1) ∧ v1 (6 * t + 158) (v1 (6 * t + 154) 15 - 1) ≤ 15) := by rw [show 6 * t + 157 = (6 * t + 154) + 3 by omega, show 6 * t + 158 = (6 * t + 154) + 4 by omega]; exact ⟨hqw, hq.2.1.1⟩
              clear hq hqw
              refine e_Ok.run (t' := (55, [(0, (1, 6 * t + 154)), (1, (1, cd)), (2, (0, 2)), (3, (0, val)), (4, (0, 0))], [(1, 6 * t + 154)], v1)) 1 rfl ?_
              refine e_Ok.getr (z := 6 * t + 157) rfl (lT0 (t := t) (by omega) (by omega)) rfl rfl ((j54 (6 * t + 154) 18 (by unfold kLv; omega)).trans (Eq.trans (e_Has.eq hT (kT_18 (t := t) (by omega) (by omega))) (by omega))) (by omega) ?_
              refine e_Ok.run (t' := (59, [(0, (1, 6 * t + 154)), (1, (1, cd)), (2, (0, 2)), (3, (0, val)), (4, (0, 0))], [(1, 6 * t + 154), (1, 6 * t + 157)], v1)) 1 rfl ?_
              refine e_Ok.getf (z := v1 (6 * t + 154) 15) rfl (lT0 (t := t) (by omega) (by omega)) rfl rfl rfl (by omega) ?_
              refine e_Ok.run (t' := (63, [(0, (1, 6 * t + 154)), (1, (1, cd)), (2, (0, 2)), (3, (0, val)), (4, (0, 0))], [(0, 1), (0, v1 (6 * t + 154) 15), (1, 6 * t + 157)], v1)) 1 rfl ?_
              refine e_Ok.sub' (z := v1 (6 * t + 154) 15 - 1) rfl (by omega) (by omega) ?_
              refine e_Ok.ald (z := w (6 * t + 157) (v1 (6 * t + 154) 15 - 1)) rfl (lT3 (t := t) (by omega) (by omega)) rfl (by omega) ((j54 (6 * t + 157) (v1 (6 * t + 154) 15 - 1) (by unfold kLv; omega)).trans rfl) (by omega) ?_
              refine e_Ok.run (t' := (68, [(5, (0, w (6 * t + 157) (v1 (6 * t + 154) 15 - 1))), (0, (1, 6 * t + 154)), (1, (1, cd)), (2, (0, 2)), (3, (0, val)), (4, (0, 0))], [(1, 6 * t + 154)], v1)) 2 rfl ?_
              refine e_Ok.getr (z := 6 * t + 158) rfl (lT0 (t := t) (by omega) (by omega)) rfl rfl ((j54 (6 * t + 154) 19 (by unfold kLv; omega)).trans (Eq.trans (e_Has.eq hT (kT_19 (t := t) (by omega) (by omega))) (by omega))) (by omega) ?_
              refine e_Ok.run (t' := (72, [(5, (0, w (6 * t + 157) (v1 (6 * t + 154) 15 - 1))), (0, (1, 6 * t + 154)), (1, (1, cd)), (2, (0, 2)), (3, (0, val)), (4, (0, 0))], [(1, 6 * t + 154), (1, 6 * t + 158)], v1)) 1 rfl ?_
              refine e_Ok.getf (z := v1 (6 * t + 154) 15) rfl (lT0 (t := t) (by omega) (by omega)) rfl rfl rfl (by omega) ?_
              refine e_Ok.run (t' := (76, [(5, (0, w (6 * t + 157) (v1 (6 * t + 154) 15 - 1))), (0, (1, 6 * t + 154)), (1, (1, cd)), (2, (0, 2)), (3, (0, val)), (4, (0, 0))], [(0, 1), (0, v1 (6 * t + 154) 15), (1, 6 * t + 158)], v1)) 1 rfl ?_
              refine e_Ok.sub' (z := v1 (6 * t + 154) 15 - 1) rfl (by omega) (by omega) ?_
              refine e_Ok.ald (z := v1 (6 * t + 158) (v1 (6 * t + 154) 15 - 1)) rfl (lT4 (t := t) (by omega) (by omega)) rfl (by omega) rfl (by omega) ?_
              refine e_Ok.run (t' := (79, [(5, (0, w (6 * t + 157) (v1 (6 * t + 154) 15 - 1))), (0, (1, 6 * t + 154)), (1, (1, cd)), (2, (0, 2)), (3, (0, val)), (4, (0, 0))], [(0, 3), (0, v1 (6 * t + 158) (v1 (6 * t + 154) 15 - 1))], v1)) 1 rfl ?_
              refine e_Ok.andm 3 2 rfl (by decide) (fun z67 hz67 => ?_)
              replace hz67 : z67 = (v1 (6 * t + 158) (v1 (6 * t + 154) 15 - 1)) % 4 := hz67
              have hz67r : 0 ≤ z67 ∧ z67 ≤ 3 := by omega
              refine e_Ok.run (t' := (84, [(6, (0, z67)), (5, (0, w (6 * t + 157) (v1 (6 * t + 154) 15 - 1))), (0, (1, 6 * t + 154)), (1, (1, cd)), (2, (0, 2)), (3, (0, val)), (4, (0, 0))], [(0, 1), (0, 2)], v1)) 3 rfl ?_
              refine e_Ok.if2 rfl (fun h68 => ?_) (fun h68 => ?_)
              · replace h68 : (2 : Int) ≠ 1 := h68
                refine e_Ok.run (t' := (126, [(6, (0, z67)), (5, (0, w (6 * t + 157) (v1 (6 * t + 154) 15 - 1))), (0, (1, 6 * t + 154)), (1, (1, cd)), (2, (0, 2)), (3, (0, val)), (4, (0, 0))], [(0, 2), (0, z67)], v1)) 2 rfl ?_
                refine e_Ok.if2 rfl (fun h69 => ?_) (fun h69 => ?_)
                · replace h69 : (z67 : Int) = 2 := h69
                  refine e_Ok.run (t' := (173, [(6, (0, z67)), (5, (0, w (6 * t + 157) (v1 (6 * t + 154) 15 - 1))), (0, (1, 6 * t + 154)), (1, (1, cd)), (2, (0, 2)), (3, (0, val)), (4, (0, 0))], [(1, 6 * t + 154), (1, 6 * t + 154)], v1)) 2 rfl ?_
                  refine e_Ok.getf (z := v1 (6 * t + 154) 15) rfl (lT0 (t := t) (by omega) (by omega)) rfl rfl rfl (by omega) ?_
                  refine e_Ok.run (t' := (177, [(6, (0, z67)), (5, (0, w (6 * t + 157) (v1 (6 * t + 154) 15 - 1))), (0, (1, 6 * t + 154)), (1, (1, cd)), (2, (0, 2)), (3, (0, val)), (4, (0, 0))], [(0, 1), (0, v1 (6 * t + 154) 15), (1, 6 * t + 154)], v1)) 1 rfl ?_
                  refine e_Ok.sub' (z := v1 (6 * t + 154) 15 - 1) rfl (by omega) (by omega) ?_
                  refine e_Ok.putf rfl (lT0 (t := t) (by omega) (by omega)) rfl rfl ?_
                  generalize hw70 : e_up v1 (6 * t + 154) 15 (v1 (6 * t + 154) 15 - 1) = w70
                  have f71 : e_fr (kLv t) w w70 := e_fr.up j54 hw70 (by unfold kLv; omega)
                  have hT72 : e_Has kTy w70 := e_Has.upr j55 hw70 (kT_15 (t := t) (by omega) (by omega)) (by omega)
                  refine e_Ok.run (t' := (45, [(6, (0, z67)), (5, (0, w (6 * t + 157) (v1 (6 * t + 154) 15 - 1))), (0, (1, 6 * t + 154)), (1, (1, cd)), (2, (0, 2)), (3, (0, val)), (4, (0, 0))], [], w70)) 1 rfl ?_
                  refine e_Ok.sub kAlk (e_sub_of rfl ?_) (ih53  w70 ⟨f71, hT72, (fun c k g => by rw [← hw70, e_up_ne _ _ (by omega)]; exact j56 c k g), (by have e : w70 (6 * t + 154) 15 = v1 (6 * t + 154) 15 - 1 := (by rw [← hw70]; exact e_up_eq _ _ _ _); omega)⟩ (by have e : w70 (6 * t + 154) 15 = v1 (6 * t + 154) 15 - 1 := (by rw [← hw70]; exact e_up_eq _ _ _ _); omega))
                  exact ⟨rfl, rfl, rfl, rfl, rfl, trivial⟩
                · replace h69 : (z67 : Int) ≠ 2 := by have q : ¬ ((z67 : Int) = 2) := h69; omega
                  refine e_Ok.run (t' := (133, [(6, (0, z67)), (5, (0, w (6 * t + 157) (v1 (6 * t + 154) 15 - 1))), (0, (1, 6 * t + 154)), (1, (1, cd)), (2, (0, 2)), (3, (0, val)), (4, (0, 0))], [(0, 2), (0, w (6 * t + 157) (v1 (6 * t + 154) 15 - 1)), (1, cd)], v1)) 3 rfl ?_
                  refine e_Ok.add (z := w (6 * t + 157) (v1 (6 * t + 154) 15 - 1) + 2) rfl (by omega) (by omega) ?_
                  refine e_Ok.callV rfl (by omega) rfl (lD0 hcd) rfl rfl (c_24 j55 (kCd.fr j54 (by unfold kLv; omega) (fun k => by unfold kLv; omega) hk) (by omega)) (fun r73 w74 h75 => ?_)
                  obtain ⟨z76, rfl, rfl, q77, q77r⟩ := h75
                  replace q77 : z76 = od (w (6 * t + 157) (v1 (6 * t + 154) 15 - 1) + 2) := q77
                  show e_Ok 20 elay kcode eI (d + 1) 188 (137, [(6, (0, z67)), (5, (0, w (6 * t + 157) (v1 (6 * t + 154) 15 - 1))), (0, (1, 6 * t + 154)), (1, (1, cd)), (2, (0, 2)), (3, (0, val)), (4, (0, 0))], [(0, z76)], v1) _
                  refine e_Ok.if1 rfl (fun h78 => ?_) (fun h78 => ?_)
                  · replace h78 : (z76 : Int) = 0 := h78
                    refine e_Ok.run (t' := (173, [(6, (0, z67)), (5, (0, w (6 * t + 157) (v1 (6 * t + 154) 15 - 1))), (0, (1, 6 * t + 154)), (1, (1, cd)), (2, (0, 2)), (3, (0, val)), (4, (0, 0))], [(1, 6 * t + 154), (1, 6 * t + 154)], v1)) 2 rfl ?_
                    refine e_Ok.getf (z := v1 (6 * t + 154) 15) rfl (lT0 (t := t) (by omega) (by omega)) rfl rfl rfl (by omega) ?_
                    refine e_Ok.run (t' := (177, [(6, (0, z67)), (5, (0, w (6 * t + 157) (v1 (6 * t + 154) 15 - 1))), (0, (1, 6 * t + 154)), (1, (1, cd)), (2, (0, 2)), (3, (0, val)), (4, (0, 0))], [(0, 1), (0, v1 (6 * t + 154) 15), (1, 6 * t + 154)], v1)) 1 rfl ?_
                    refine e_Ok.sub' (z := v1 (6 * t + 154) 15 - 1) rfl (by omega) (by omega) ?_
                    refine e_Ok.putf rfl (lT0 (t := t) (by omega) (by omega)) rfl rfl ?_
                    generalize hw79 : e_up v1 (6 * t + 154) 15 (v1 (6 * t + 154) 15 - 1) = w79
                    have f80 : e_fr (kLv t) w w79 := e_fr.up j54 hw79 (by unfold kLv; omega)
                    have hT81 : e_Has kTy w79 := e_Has.upr j55 hw79 (kT_15 (t := t) (by omega) (by omega)) (by omega)
                    refine e_Ok.run (t' := (45, [(6, (0, z67)), (5, (0, w (6 * t + 157) (v1 (6 * t + 154) 15 - 1))), (0, (1, 6 * t + 154)), (1, (1, cd)), (2, (0, 2)), (3, (0, val)), (4, (0, 0))], [], w79)) 1 rfl ?_
                    refine e_Ok.sub kAlk (e_sub_of rfl ?_) (ih53  w79 ⟨f80, hT81, (fun c k g => by rw [← hw79, e_up_ne _ _ (by omega)]; exact j56 c k g), (by have e : w79 (6 * t + 154) 15 = v1 (6 * t + 154) 15 - 1 := (by rw [← hw79]; exact e_up_eq _ _ _ _); omega)⟩ (by have e : w79 (6 * t + 154) 15 = v1 (6 * t + 154) 15 - 1 := (by rw [← hw79]; exact e_up_eq _ _ _ _); omega))
                    exact ⟨rfl, rfl, rfl, rfl, rfl, trivial⟩
                  · replace h78 : (z76 : Int) ≠ 0 := by have q : ¬ ((z76 : Int) = 0) := h78; omega
                    refine e_Ok.run (t' := (141, [(6, (0, z67)), (5, (0, w (6 * t + 157) (v1 (6 * t + 154) 15 - 1))), (0, (1, 6 * t + 154)), (1, (1, cd)), (2, (0, 2)), (3, (0, val)), (4, (0, 0))], [(1, 6 * t + 154)], v1)) 1 rfl ?_
                    refine e_Ok.getr (z := 6 * t + 159) rfl (lT0 (t := t) (by omega) (by omega)) rfl rfl ((j54 (6 * t + 154) 20 (by unfold kLv; omega)).trans (Eq.trans (e_Has.eq hT (kT_20 (t := t) (by omega) (by omega))) (by omega))) (by omega) ?_
                    refine e_Ok.run (t' := (145, [(6, (0, z67)), (5, (0, w (6 * t + 157) (v1 (6 * t + 154) 15 - 1))), (0, (1, 6 * t + 154)), (1, (1, cd)), (2, (0, 2)), (3, (0, val)), (4, (0, 0))], [(1, 6 * t + 154), (1, 6 * t + 159)], v1)) 1 rfl ?_
                    refine e_Ok.getf (z := v1 (6 * t + 154) 15) rfl (lT0 (t := t) (by omega) (by omega)) rfl rfl rfl (by omega) ?_
                    refine e_Ok.run (t' := (149, [(6, (0, z67)), (5, (0, w (6 * t + 157) (v1 (6 * t + 154) 15 - 1))), (0, (1, 6 * t + 154)), (1, (1, cd)), (2, (0, 2)), (3, (0, val)), (4, (0, 0))], [(0, 1), (0, v1 (6 * t + 154) 15), (1, 6 * t + 159)], v1)) 1 rfl ?_
                    refine e_Ok.sub' (z := v1 (6 * t + 154) 15 - 1) rfl (by omega) (by omega) ?_
                    refine e_Ok.run (t' := (151, [(6, (0, z67)), (5, (0, w (6 * t + 157) (v1 (6 * t + 154) 15 - 1))), (0, (1, 6 * t + 154)), (1, (1, cd)), (2, (0, 2)), (3, (0, val)), (4, (0, 0))], [(0, val), (0, v1 (6 * t + 154) 15 - 1), (1, 6 * t + 159)], v1)) 1 rfl ?_
                    refine e_Ok.ast rfl (lT5 (t := t) (by omega) (by omega)) rfl rfl (by omega) ?_
                    generalize hw82 : e_up v1 (6 * t + 159) (v1 (6 * t + 154) 15 - 1) val = w82
                    have f83 : e_fr (kLv t) w w82 := e_fr.up j54 hw82 (by unfold kLv; omega)
                    have hT84 : e_Has kTy w82 := e_Has.ups j55 hw82 (kT159 (t := t) _ (by omega) (by omega))
                    have hsw : tS w82 (6 * t + 154) op H := tS.val hsv (by omega) (by rw [show (6 * t + 154) + 4 = 6 * t + 158 by omega]; omega) hw82
                    refine e_Ok.run (t' := (156, [(6, (0, z67)), (5, (0, w (6 * t + 157) (v1 (6 * t + 154) 15 - 1))), (0, (1, 6 * t + 154)), (1, (1, cd)), (2, (0, 2)), (3, (0, val)), (4, (0, 0))], [(0, 2), (0, 2), (0, 2), (1, 6 * t + 154)], w82)) 4 rfl ?_
                    refine e_Ok.shl2 rfl (by omega) (fun z85 hz85 => ?_)
                    replace hz85 : z85 = 2 * 4 := hz85
                    refine e_Ok.or2 rfl (by omega) (by omega) (fun z86 hz86 => ?_)
                    replace hz86 : z86 = 2 + z85 := hz86
                    refine e_Ok.run (t' := (162, [(6, (0, z67)), (5, (0, w (6 * t + 157) (v1 (6 * t + 154) 15 - 1))), (0, (1, 6 * t + 154)), (1, (1, cd)), (2, (0, 2)), (3, (0, val)), (4, (0, 0))], [(0, 2), (0, w (6 * t + 157) (v1 (6 * t + 154) 15 - 1)), (1, cd), (0, z86), (1, 6 * t + 154)], w82)) 3 rfl ?_
                    refine e_Ok.add (z := w (6 * t + 157) (v1 (6 * t + 154) 15 - 1) + 2) rfl (by omega) (by omega) ?_
                    refine e_Ok.callV rfl (by omega) rfl (lD0 hcd) rfl rfl (c_24 hT84 (kCd.fr f83 (by unfold kLv; omega) (fun k => by unfold kLv; omega) hk) (by omega)) (fun r87 w88 h89 => ?_)
                    obtain ⟨z90, rfl, rfl, q91, q91r⟩ := h89
                    replace q91 : z90 = od (w (6 * t + 157) (v1 (6 * t + 154) 15 - 1) + 2) := q91
                    show e_Ok 20 elay kcode eI (d + 1) 188 (166, [(6, (0, z67)), (5, (0, w (6 * t + 157) (v1 (6 * t + 154) 15 - 1))), (0, (1, 6 * t + 154)), (1, (1, cd)), (2, (0, 2)), (3, (0, val)), (4, (0, 0))], [(0, z90), (0, z86), (1, 6 * t + 154)], w82) _
                    refine e_Ok.callV rfl (by omega) rfl (lT0 (t := t) (by omega) (by omega)) rfl rfl (c_189 (t := t) (op := op) (H := H) hT84 (by omega) (by omega) (by omega) (by have e : w82 (6 * t + 154) 15 = v1 (6 * t + 154) 15 := (by rw [← hw82]; exact (e_up_ne _ _ (Or.inl (by omega))).trans rfl); omega) hsw (fun g => by rw [show w82 (6 * t + 154) 15 = v1 (6 * t + 154) 15 from (by rw [← hw82]; exact (e_up_ne _ _ (Or.inl (by omega))).trans rfl), show (6 * t + 154) + 5 = 6 * t + 159 by omega, ← hw82, e_up_eq]; exact ⟨by omega, fun g => by omega⟩)) (fun r92 w93 h94 => ?_)
                    obtain ⟨rfl, q95f, q95T, q95s, q95p, q95n⟩ := h94
                    have f101 : e_fr (kLv t) w w93 := e_fr.trans f83 (e_fr.mono q95f (fun c k q => by exact q))
                    show e_Ok 20 elay kcode eI (d + 1) 188 (169, [(6, (0, z67)), (5, (0, w (6 * t + 157) (v1 (6 * t + 154) 15 - 1))), (0, (1, 6 * t + 154)), (1, (1, cd)), (2, (0, 2)), (3, (0, val)), (4, (0, 0))], [], w93) _
                    refine e_Ok.run (t' := (170, [(6, (0, z67)), (5, (0, w (6 * t + 157) (v1 (6 * t + 154) 15 - 1))), (0, (1, 6 * t + 154)), (1, (1, cd)), (2, (0, 2)), (3, (0, val)), (4, (0, 0))], [(0, 1)], w93)) 1 rfl ?_
                    refine e_Ok.rets rfl rfl ?_
                    have ht := (hD.2.2 (w (6 * t + 157) (v1 (6 * t + 154) 15 - 1) + 2)).2.1 (Or.inr (Or.inr (by omega)))
                    exact ⟨_, rfl, f101, q95T, q95s, rfl, Or.inl (by rw [q95p, q91]; exact ht)⟩
              · replace h68 : (2 : Int) = 1 := by have q : ¬ ((2 : Int) ≠ 1) := h68; omega
                exfalso; omega
        refine e_Ok.sub kAlk (e_sub_of rfl ?_) (hL52 (600 + 1 : Int).toNat  w ⟨(e_fr.refl w), hT, (fun _ _ _ => rfl), by omega⟩ (by omega))
        exact ⟨rfl, rfl, rfl, rfl, rfl, trivial⟩
      · replace h51 : (2 : Int) = 3 := by have q : ¬ ((2 : Int) ≠ 3) := h51; omega
        exfalso; omega
theorem c_188_3 {d : Nat} (hd : 22 ≤ d) {w : eW} (hT : e_Has kTy w) {t : Int} (gt : 0 ≤ t ∧ t ≤ 15) {cd : Int} {op od : Int → Int} (hk : kCd w cd op od) {col : Int → Int} (hD : cD op od col) {H val : Int} (gv : -2147483648 ≤ val ∧ val ≤ 2147483647) (hs : tS w (6 * t + 154) op H) (hvb : op (val + 1) = 49) : e_Ok 20 elay kcode eI d 188 (0, [(0, (1, 6 * t + 154)), (1, (1, cd)), (2, (0, 3)), (3, (0, val))], [], w) (fun r w' => ∃ z : Int, r = [(0, z)] ∧ e_fr (kLv t) w w' ∧ e_Has kTy w' ∧ tS w' (6 * t + 154) op H ∧ z = 1 ∧ (40 ≤ op (w' (6 * t + 154) 3) ∨ w' (6 * t + 154) 4 = 0)) := by
  obtain ⟨d, rfl⟩ : ∃ e, d = e + 1 := ⟨d - 1, by omega⟩
  have hcd := hk.1
  have hcd0 := hk.1
  unfold isCd at hcd0
  have h15 := e_Has.get hT (c := 6 * t + 154) (k := 15) (lo := 0) (hi := 600) (kT_15 (t := t) rfl gt) (by decide)
  have h4 := e_Has.get hT (c := 6 * t + 154) (k := 4) (lo := 0) (hi := 20) (kT_4 (t := t) rfl gt) (by decide)
  have hH := hs.1
  have hvp := hk.2 (val + 1)
  have hvl := e_Has.get hT (c := cd) (k := 0) (lo := 0) (hi := 4000) (kD_0 hcd) (by decide)
  refine e_Ok.run (t' := (2, [(0, (1, 6 * t + 154)), (1, (1, cd)), (2, (0, 3)), (3, (0, val))], [(0, 1), (0, 3)], w)) 2 rfl ?_
  refine e_Ok.if2 rfl (fun h1 => ?_) (fun h1 => ?_)
  · replace h1 : (3 : Int) = 1 := h1
    exfalso; omega
  · replace h1 : (3 : Int) ≠ 1 := by have q : ¬ ((3 : Int) = 1) := h1; omega
    refine e_Ok.run (t' := (6, [(0, (1, 6 * t + 154)), (1, (1, cd)), (2, (0, 3)), (3, (0, val))], [(1, 6 * t + 154)], w)) 1 rfl ?_
    have h2 := (e_Has.get hT (c := 6 * t + 154) (k := 4) (lo := 0) (hi := 20) (kT_4 (t := t) (by omega) (by omega)) (by decide))
    refine e_Ok.getf (z := w (6 * t + 154) 4) rfl (lT0 (t := t) (by omega) (by omega)) rfl rfl rfl (by omega) ?_
    refine e_Ok.run (t' := (10, [(0, (1, 6 * t + 154)), (1, (1, cd)), (2, (0, 3)), (3, (0, val))], [(0, 1), (0, w (6 * t + 154) 4)], w)) 1 rfl ?_
    refine e_Ok.if2 rfl (fun h3 => ?_) (fun h3 => ?_)
    · replace h3 : (w (6 * t + 154) 4 : Int) ≥ 1 := h3
      have hq := hs.2.1 (w (6 * t + 154) 4 - 1) (by omega) (by omega)
      have hq2 : 0 ≤ w (6 * t + 156) (w (6 * t + 154) 4 - 1) ∧ w (6 * t + 156) (w (6 * t + 154) 4 - 1) ≤ H := by rw [show 6 * t + 156 = (6 * t + 154) + 2 by omega]; exact hq.2.2
      clear hq
      refine e_Ok.run (t' := (18, [(0, (1, 6 * t + 154)), (1, (1, cd)), (2, (0, 3)), (3, (0, val))], [(1, 6 * t + 154)], w)) 1 rfl ?_
      refine e_Ok.getr (z := 6 * t + 156) rfl (lT0 (t := t) (by omega) (by omega)) rfl rfl (Eq.trans (e_Has.eq hT (kT_17 (t := t) (by omega) (by omega))) (by omega)) (by omega) ?_
      refine e_Ok.run (t' := (22, [(0, (1, 6 * t + 154)), (1, (1, cd)), (2, (0, 3)), (3, (0, val))], [(1, 6 * t + 154), (1, 6 * t + 156)], w)) 1 rfl ?_
      refine e_Ok.getf (z := w (6 * t + 154) 4) rfl (lT0 (t := t) (by omega) (by omega)) rfl rfl rfl (by omega) ?_
      refine e_Ok.run (t' := (26, [(0, (1, 6 * t + 154)), (1, (1, cd)), (2, (0, 3)), (3, (0, val))], [(0, 1), (0, w (6 * t + 154) 4), (1, 6 * t + 156)], w)) 1 rfl ?_
      refine e_Ok.sub' (z := w (6 * t + 154) 4 - 1) rfl (by omega) (by omega) ?_
      refine e_Ok.ald (z := w (6 * t + 156) (w (6 * t + 154) 4 - 1)) rfl (lT2 (t := t) (by omega) (by omega)) rfl (by omega) rfl (by omega) ?_
      refine e_Ok.run (t' := (32, [(4, (0, w (6 * t + 156) (w (6 * t + 154) 4 - 1))), (0, (1, 6 * t + 154)), (1, (1, cd)), (2, (0, 3)), (3, (0, val))], [(0, 3), (0, 3)], w)) 3 rfl ?_
      refine e_Ok.if2 rfl (fun h4 => ?_) (fun h4 => ?_)
      · replace h4 : (3 : Int) ≠ 3 := h4
        exfalso; omega
      · replace h4 : (3 : Int) = 3 := by have q : ¬ ((3 : Int) ≠ 3) := h4; omega
        refine e_Ok.run (t' := (39, [(4, (0, w (6 * t + 156) (w (6 * t + 154) 4 - 1))), (0, (1, 6 * t + 154)), (1, (1, cd)), (2, (0, 3)), (3, (0, val))], [(0, val), (1, cd), (0, w (6 * t + 156) (w (6 * t + 154) 4 - 1))], w)) 3 rfl ?_
        refine e_Ok.callV rfl (by omega) rfl (lD0 hcd) rfl rfl (c_24 hT hk (by omega)) (fun r5 w6 h7 => ?_)
        obtain ⟨z8, rfl, rfl, q9, q9r⟩ := h7
        replace q9 : z8 = od val := q9
        show e_Ok 20 elay kcode eI (d + 1) 188 (42, [(4, (0, w (6 * t + 156) (w (6 * t + 154) 4 - 1))), (0, (1, 6 * t + 154)), (1, (1, cd)), (2, (0, 3)), (3, (0, val))], [(0, z8), (0, w (6 * t + 156) (w (6 * t + 154) 4 - 1))], w) _
        refine e_Ok.add (z := w (6 * t + 156) (w (6 * t + 154) 4 - 1) + z8) rfl (by omega) (by omega) ?_
        refine e_Ok.run (t' := (45, [(4, (0, w (6 * t + 156) (w (6 * t + 154) 4 - 1) + z8)), (0, (1, 6 * t + 154)), (1, (1, cd)), (2, (0, 3)), (3, (0, val))], [], w)) 1 rfl ?_
        have hL10 : ∀ (nn : Nat) (v1 : eW), e_fr (kLv t) w v1 ∧ e_Has kTy v1 ∧ (∀ c k, ¬ (c = (6 * t + 154) ∧ k = 15) → v1 c k = w c k) ∧ ((0 ≤ v1 (6 * t + 154) 15 ∧ v1 (6 * t + 154) 15 ≤ w (6 * t + 154) 15)) → v1 (6 * t + 154) 15 < nn → e_Ok 20 elay kcode eI (d + 1) 188 (45, [(0, (1, 6 * t + 154)), (1, (1, cd)), (2, (0, 3)), (3, (0, val)), (4, (0, w (6 * t + 156) (w (6 * t + 154) 4 - 1) + z8))], [], v1) (fun r w' => ∃ z : Int, r = [(0, z)] ∧ e_fr (kLv t) w w' ∧ e_Has kTy w' ∧ tS w' (6 * t + 154) op H ∧ z = 1 ∧ (40 ≤ op (w' (6 * t + 154) 3) ∨ w' (6 * t + 154) 4 = 0)) := by
          intro nn
          induction nn with
          | zero => intro v1 hj hm; obtain ⟨j12, j13, j14, j15⟩ := hj; exfalso; omega
          | succ nn ih11 =>
            intro v1 hj hm
            obtain ⟨j12, j13, j14, j15⟩ := hj
            refine e_Ok.run (t' := (46, [(0, (1, 6 * t + 154)), (1, (1, cd)), (2, (0, 3)), (3, (0, val)), (4, (0, w (6 * t + 156) (w (6 * t + 154) 4 - 1) + z8))], [(1, 6 * t + 154)], v1)) 1 rfl ?_
            refine e_Ok.getf (z := v1 (6 * t + 154) 15) rfl (lT0 (t := t) (by omega) (by omega)) rfl rfl rfl (by omega) ?_
            refine e_Ok.run (t' := (51, [(0, (1, 6 * t + 154)), (1, (1, cd)), (2, (0, 3)), (3, (0, val)), (4, (0, w (6 * t + 156) (w (6 * t + 154) 4 - 1) + z8))], [(0, w (6 * t + 156) (w (6 * t + 154) 4 - 1) + z8), (0, v1 (6 * t + 154) 15)], v1)) 1 rfl ?_
            refine e_Ok.if2 rfl (fun h16 => ?_) (fun h16 => ?_)
            · replace h16 : (v1 (6 * t + 154) 15 : Int) ≤ w (6 * t + 156) (w (6 * t + 154) 4 - 1) + z8 := h16
              have hsv : tS v1 (6 * t + 154) op H := tS.less hs (by omega) (by rw [show v1 (6 * t + 154) 4 = w (6 * t + 154) 4 from j14 _ _ (by omega)]; omega) (fun d k g1 g2 => j14 _ _ (by omega))
              refine e_Ok.run (t' := (186, [(0, (1, 6 * t + 154)), (1, (1, cd)), (2, (0, 3)), (3, (0, val)), (4, (0, w (6 * t + 156) (w (6 * t + 154) 4 - 1) + z8))], [(0, 2), (0, 3)], v1)) 2 rfl ?_
              refine e_Ok.if2 rfl (fun h17 => ?_) (fun h17 => ?_)
              · replace h17 : (3 : Int) ≠ 2 := h17
                refine e_Ok.run (t' := (195, [(0, (1, 6 * t + 154)), (1, (1, cd)), (2, (0, 3)), (3, (0, val)), (4, (0, w (6 * t + 156) (w (6 * t + 154) 4 - 1) + z8))], [(0, 3), (0, 3)], v1)) 2 rfl ?_
                refine e_Ok.if2 rfl (fun h18 => ?_) (fun h18 => ?_)
                · replace h18 : (3 : Int) ≠ 3 := h18
                  exfalso; omega
                · replace h18 : (3 : Int) = 3 := by have q : ¬ ((3 : Int) ≠ 3) := h18; omega
                  refine e_Ok.run (t' := (202, [(0, (1, 6 * t + 154)), (1, (1, cd)), (2, (0, 3)), (3, (0, val)), (4, (0, w (6 * t + 156) (w (6 * t + 154) 4 - 1) + z8))], [(0, 1), (0, val), (1, cd), (1, 6 * t + 154)], v1)) 4 rfl ?_
                  refine e_Ok.add (z := val + 1) rfl (by omega) (by omega) ?_
                  refine e_Ok.callV rfl (by omega) rfl (lD0 hcd) rfl rfl (c_24 j13 (kCd.fr j12 (by unfold kLv; omega) (fun k => by unfold kLv; omega) hk) (by omega)) (fun r19 w20 h21 => ?_)
                  obtain ⟨z22, rfl, rfl, q23, q23r⟩ := h21
                  replace q23 : z22 = od (val + 1) := q23
                  show e_Ok 20 elay kcode eI (d + 1) 188 (206, [(0, (1, 6 * t + 154)), (1, (1, cd)), (2, (0, 3)), (3, (0, val)), (4, (0, w (6 * t + 156) (w (6 * t + 154) 4 - 1) + z8))], [(0, z22), (1, 6 * t + 154)], v1) _
                  refine e_Ok.putf rfl (lT0 (t := t) (by omega) (by omega)) rfl rfl ?_
                  generalize hw24 : e_up v1 (6 * t + 154) 3 z22 = w24
                  have f25 : e_fr (kLv t) w w24 := e_fr.up j12 hw24 (by unfold kLv; omega)
                  have hT26 : e_Has kTy w24 := e_Has.upr j13 hw24 (kT_3 (t := t) (by omega) (by omega)) (by omega)
                  refine e_Ok.run (t' := (211, [(0, (1, 6 * t + 154)), (1, (1, cd)), (2, (0, 3)), (3, (0, val)), (4, (0, w (6 * t + 156) (w (6 * t + 154) 4 - 1) + z8))], [(0, 1), (0, 3)], w24)) 2 rfl ?_
                  refine e_Ok.if2 rfl (fun h27 => ?_) (fun h27 => ?_)
                  · replace h27 : (3 : Int) = 1 := h27
                    exfalso; omega
                  · replace h27 : (3 : Int) ≠ 1 := by have q : ¬ ((3 : Int) = 1) := h27; omega
                    refine e_Ok.run (t' := (219, [(0, (1, 6 * t + 154)), (1, (1, cd)), (2, (0, 3)), (3, (0, val)), (4, (0, w (6 * t + 156) (w (6 * t + 154) 4 - 1) + z8))], [(0, 1)], w24)) 2 rfl ?_
                    refine e_Ok.rets rfl rfl ?_
                    have ht := (hD.2.2 (val + 1)).2.1 (Or.inr (Or.inr hvb))
                    exact ⟨_, rfl, f25, hT26, tS.oth hsv (by omega) hw24, rfl, Or.inl (by rw [show w24 (6 * t + 154) 3 = z22 from (by rw [← hw24]; exact e_up_eq _ _ _ _), q23]; exact ht)⟩
              · replace h17 : (3 : Int) = 2 := by have q : ¬ ((3 : Int) ≠ 2) := h17; omega
                exfalso; omega
            · replace h16 : (v1 (6 * t + 154) 15 : Int) > w (6 * t + 156) (w (6 * t + 154) 4 - 1) + z8 := by have q : ¬ ((v1 (6 * t + 154) 15 : Int) ≤ w (6 * t + 156) (w (6 * t + 154) 4 - 1) + z8) := h16; omega
              have hsv : tS v1 (6 * t + 154) op H := tS.less hs (by omega) (by rw [show v1 (6 * t + 154) 4 = w (6 * t + 154) 4 from j14 _ _ (by omega)]; omega) (fun d k g1 g2 => j14 _ _ (by omega))
              have hq := hsv.2.2 (v1 (6 * t + 154) 15 - 1) (by omega) (by omega)
              have hqw := (hs.2.2 (v1 (6 * t + 154) 15 - 1) (by omega) (by omega)).1
              have hq3 : ((0 ≤ w (6 * t + 157) (v1 (6 * t + 154) 15 - 1) ∧ w (6 * t + 157) (v1 (6 * t + 154) 15 - 1) ≤ 3999) ∧ op (w (6 * t + 157) (v1 (6 * t + 154) 15 - 1) + 1) = 49 ∧ op (w (6 * t + 157) (v1 (6 * t + 154) 15 - 1) + 2) = 49 ∧ op (w (6 * t + 157) (v1 (6 * t + 154) 15 - 1) + 3) = 49) ∧ (0 ≤ v1 (6 * t + 158) (v1 (6 * t + 154) 15 - 1) ∧ v1 (6 * t + 158) (v1 (6 * t + 154) 15 - 1) ≤ 15) := by rw [show 6 * t + 157 = (6 * t + 154) + 3 by omega, show 6 * t + 158 = (6 * t + 154) + 4 by omega]; exact ⟨hqw, hq.2.1.1⟩
              clear hq hqw
              refine e_Ok.run (t' := (55, [(0, (1, 6 * t + 154)), (1, (1, cd)), (2, (0, 3)), (3, (0, val)), (4, (0, w (6 * t + 156) (w (6 * t + 154) 4 - 1) + z8))], [(1, 6 * t + 154)], v1)) 1 rfl ?_
              refine e_Ok.getr (z := 6 * t + 157) rfl (lT0 (t := t) (by omega) (by omega)) rfl rfl ((j12 (6 * t + 154) 18 (by unfold kLv; omega)).trans (Eq.trans (e_Has.eq hT (kT_18 (t := t) (by omega) (by omega))) (by omega))) (by omega) ?_
              refine e_Ok.run (t' := (59, [(0, (1, 6 * t + 154)), (1, (1, cd)), (2, (0, 3)), (3, (0, val)), (4, (0, w (6 * t + 156) (w (6 * t + 154) 4 - 1) + z8))], [(1, 6 * t + 154), (1, 6 * t + 157)], v1)) 1 rfl ?_
              refine e_Ok.getf (z := v1 (6 * t + 154) 15) rfl (lT0 (t := t) (by omega) (by omega)) rfl rfl rfl (by omega) ?_
              refine e_Ok.run (t' := (63, [(0, (1, 6 * t + 154)), (1, (1, cd)), (2, (0, 3)), (3, (0, val)), (4, (0, w (6 * t + 156) (w (6 * t + 154) 4 - 1) + z8))], [(0, 1), (0, v1 (6 * t + 154) 15), (1, 6 * t + 157)], v1)) 1 rfl ?_
              refine e_Ok.sub' (z := v1 (6 * t + 154) 15 - 1) rfl (by omega) (by omega) ?_
              refine e_Ok.ald (z := w (6 * t + 157) (v1 (6 * t + 154) 15 - 1)) rfl (lT3 (t := t) (by omega) (by omega)) rfl (by omega) ((j12 (6 * t + 157) (v1 (6 * t + 154) 15 - 1) (by unfold kLv; omega)).trans rfl) (by omega) ?_
              refine e_Ok.run (t' := (68, [(5, (0, w (6 * t + 157) (v1 (6 * t + 154) 15 - 1))), (0, (1, 6 * t + 154)), (1, (1, cd)), (2, (0, 3)), (3, (0, val)), (4, (0, w (6 * t + 156) (w (6 * t + 154) 4 - 1) + z8))], [(1, 6 * t + 154)], v1)) 2 rfl ?_
              refine e_Ok.getr (z := 6 * t + 158) rfl (lT0 (t := t) (by omega) (by omega)) rfl rfl ((j12 (6 * t + 154) 19 (by unfold kLv; omega)).trans (Eq.trans (e_Has.eq hT (kT_19 (t := t) (by omega) (by omega))) (by omega))) (by omega) ?_
              refine e_Ok.run (t' := (72, [(5, (0, w (6 * t + 157) (v1 (6 * t + 154) 15 - 1))), (0, (1, 6 * t + 154)), (1, (1, cd)), (2, (0, 3)), (3, (0, val)), (4, (0, w (6 * t + 156) (w (6 * t + 154) 4 - 1) + z8))], [(1, 6 * t + 154), (1, 6 * t + 158)], v1)) 1 rfl ?_
              refine e_Ok.getf (z := v1 (6 * t + 154) 15) rfl (lT0 (t := t) (by omega) (by omega)) rfl rfl rfl (by omega) ?_
              refine e_Ok.run (t' := (76, [(5, (0, w (6 * t + 157) (v1 (6 * t + 154) 15 - 1))), (0, (1, 6 * t + 154)), (1, (1, cd)), (2, (0, 3)), (3, (0, val)), (4, (0, w (6 * t + 156) (w (6 * t + 154) 4 - 1) + z8))], [(0, 1), (0, v1 (6 * t + 154) 15), (1, 6 * t + 158)], v1)) 1 rfl ?_
              refine e_Ok.sub' (z := v1 (6 * t + 154) 15 - 1) rfl (by omega) (by omega) ?_
              refine e_Ok.ald (z := v1 (6 * t + 158) (v1 (6 * t + 154) 15 - 1)) rfl (lT4 (t := t) (by omega) (by omega)) rfl (by omega) rfl (by omega) ?_
              refine e_Ok.run (t' := (79, [(5, (0, w (6 * t + 157) (v1 (6 * t + 154) 15 - 1))), (0, (1, 6 * t + 154)), (1, (1, cd)), (2, (0, 3)), (3, (0, val)), (4, (0, w (6 * t + 156) (w (6 * t + 154) 4 - 1) + z8))], [(0, 3), (0, v1 (6 * t + 158) (v1 (6 * t + 154) 15 - 1))], v1)) 1 rfl ?_
              refine e_Ok.andm 3 2 rfl (by decide) (fun z28 hz28 => ?_)
              replace hz28 : z28 = (v1 (6 * t + 158) (v1 (6 * t + 154) 15 - 1)) % 4 := hz28
              have hz28r : 0 ≤ z28 ∧ z28 ≤ 3 := by omega
              refine e_Ok.run (t' := (84, [(6, (0, z28)), (5, (0, w (6 * t + 157) (v1 (6 * t + 154) 15 - 1))), (0, (1, 6 * t + 154)), (1, (1, cd)), (2, (0, 3)), (3, (0, val)), (4, (0, w (6 * t + 156) (w (6 * t + 154) 4 - 1) + z8))], [(0, 1), (0, 3)], v1)) 3 rfl ?_
              refine e_Ok.if2 rfl (fun h29 => ?_) (fun h29 => ?_)
              · replace h29 : (3 : Int) ≠ 1 := h29
                refine e_Ok.run (t' := (126, [(6, (0, z28)), (5, (0, w (6 * t + 157) (v1 (6 * t + 154) 15 - 1))), (0, (1, 6 * t + 154)), (1, (1, cd)), (2, (0, 3)), (3, (0, val)), (4, (0, w (6 * t + 156) (w (6 * t + 154) 4 - 1) + z8))], [(0, 2), (0, z28)], v1)) 2 rfl ?_
                refine e_Ok.if2 rfl (fun h30 => ?_) (fun h30 => ?_)
                · replace h30 : (z28 : Int) = 2 := h30
                  refine e_Ok.run (t' := (173, [(6, (0, z28)), (5, (0, w (6 * t + 157) (v1 (6 * t + 154) 15 - 1))), (0, (1, 6 * t + 154)), (1, (1, cd)), (2, (0, 3)), (3, (0, val)), (4, (0, w (6 * t + 156) (w (6 * t + 154) 4 - 1) + z8))], [(1, 6 * t + 154), (1, 6 * t + 154)], v1)) 2 rfl ?_
                  refine e_Ok.getf (z := v1 (6 * t + 154) 15) rfl (lT0 (t := t) (by omega) (by omega)) rfl rfl rfl (by omega) ?_
                  refine e_Ok.run (t' := (177, [(6, (0, z28)), (5, (0, w (6 * t + 157) (v1 (6 * t + 154) 15 - 1))), (0, (1, 6 * t + 154)), (1, (1, cd)), (2, (0, 3)), (3, (0, val)), (4, (0, w (6 * t + 156) (w (6 * t + 154) 4 - 1) + z8))], [(0, 1), (0, v1 (6 * t + 154) 15), (1, 6 * t + 154)], v1)) 1 rfl ?_
                  refine e_Ok.sub' (z := v1 (6 * t + 154) 15 - 1) rfl (by omega) (by omega) ?_
                  refine e_Ok.putf rfl (lT0 (t := t) (by omega) (by omega)) rfl rfl ?_
                  generalize hw31 : e_up v1 (6 * t + 154) 15 (v1 (6 * t + 154) 15 - 1) = w31
                  have f32 : e_fr (kLv t) w w31 := e_fr.up j12 hw31 (by unfold kLv; omega)
                  have hT33 : e_Has kTy w31 := e_Has.upr j13 hw31 (kT_15 (t := t) (by omega) (by omega)) (by omega)
                  refine e_Ok.run (t' := (45, [(6, (0, z28)), (5, (0, w (6 * t + 157) (v1 (6 * t + 154) 15 - 1))), (0, (1, 6 * t + 154)), (1, (1, cd)), (2, (0, 3)), (3, (0, val)), (4, (0, w (6 * t + 156) (w (6 * t + 154) 4 - 1) + z8))], [], w31)) 1 rfl ?_
                  refine e_Ok.sub kAlk (e_sub_of rfl ?_) (ih11  w31 ⟨f32, hT33, (fun c k g => by rw [← hw31, e_up_ne _ _ (by omega)]; exact j14 c k g), (by have e : w31 (6 * t + 154) 15 = v1 (6 * t + 154) 15 - 1 := (by rw [← hw31]; exact e_up_eq _ _ _ _); omega)⟩ (by have e : w31 (6 * t + 154) 15 = v1 (6 * t + 154) 15 - 1 := (by rw [← hw31]; exact e_up_eq _ _ _ _); omega))
                  exact ⟨rfl, rfl, rfl, rfl, rfl, trivial⟩
                · replace h30 : (z28 : Int) ≠ 2 := by have q : ¬ ((z28 : Int) = 2) := h30; omega
                  refine e_Ok.run (t' := (133, [(6, (0, z28)), (5, (0, w (6 * t + 157) (v1 (6 * t + 154) 15 - 1))), (0, (1, 6 * t + 154)), (1, (1, cd)), (2, (0, 3)), (3, (0, val)), (4, (0, w (6 * t + 156) (w (6 * t + 154) 4 - 1) + z8))], [(0, 2), (0, w (6 * t + 157) (v1 (6 * t + 154) 15 - 1)), (1, cd)], v1)) 3 rfl ?_
                  refine e_Ok.add (z := w (6 * t + 157) (v1 (6 * t + 154) 15 - 1) + 2) rfl (by omega) (by omega) ?_
                  refine e_Ok.callV rfl (by omega) rfl (lD0 hcd) rfl rfl (c_24 j13 (kCd.fr j12 (by unfold kLv; omega) (fun k => by unfold kLv; omega) hk) (by omega)) (fun r34 w35 h36 => ?_)
                  obtain ⟨z37, rfl, rfl, q38, q38r⟩ := h36
                  replace q38 : z37 = od (w (6 * t + 157) (v1 (6 * t + 154) 15 - 1) + 2) := q38
                  show e_Ok 20 elay kcode eI (d + 1) 188 (137, [(6, (0, z28)), (5, (0, w (6 * t + 157) (v1 (6 * t + 154) 15 - 1))), (0, (1, 6 * t + 154)), (1, (1, cd)), (2, (0, 3)), (3, (0, val)), (4, (0, w (6 * t + 156) (w (6 * t + 154) 4 - 1) + z8))], [(0, z37)], v1) _
                  refine e_Ok.if1 rfl (fun h40 => ?_) (fun h40 => ?_)
                  · replace h40 : (z37 : Int) = 0 := h40
                    refine e_Ok.run (t' := (173, [(6, (0, z28)), (5, (0, w (6 * t + 157) (v1 (6 * t + 154) 15 - 1))), (0, (1, 6 * t + 154)), (1, (1, cd)), (2, (0, 3)), (3, (0, val)), (4, (0, w (6 * t + 156) (w (6 * t + 154) 4 - 1) + z8))], [(1, 6 * t + 154), (1, 6 * t + 154)], v1)) 2 rfl ?_
                    refine e_Ok.getf (z := v1 (6 * t + 154) 15) rfl (lT0 (t := t) (by omega) (by omega)) rfl rfl rfl (by omega) ?_
                    refine e_Ok.run (t' := (177, [(6, (0, z28)), (5, (0, w (6 * t + 157) (v1 (6 * t + 154) 15 - 1))), (0, (1, 6 * t + 154)), (1, (1, cd)), (2, (0, 3)), (3, (0, val)), (4, (0, w (6 * t + 156) (w (6 * t + 154) 4 - 1) + z8))], [(0, 1), (0, v1 (6 * t + 154) 15), (1, 6 * t + 154)], v1)) 1 rfl ?_
                    refine e_Ok.sub' (z := v1 (6 * t + 154) 15 - 1) rfl (by omega) (by omega) ?_
                    refine e_Ok.putf rfl (lT0 (t := t) (by omega) (by omega)) rfl rfl ?_
                    generalize hw41 : e_up v1 (6 * t + 154) 15 (v1 (6 * t + 154) 15 - 1) = w41
                    have f42 : e_fr (kLv t) w w41 := e_fr.up j12 hw41 (by unfold kLv; omega)
                    have hT43 : e_Has kTy w41 := e_Has.upr j13 hw41 (kT_15 (t := t) (by omega) (by omega)) (by omega)
                    refine e_Ok.run (t' := (45, [(6, (0, z28)), (5, (0, w (6 * t + 157) (v1 (6 * t + 154) 15 - 1))), (0, (1, 6 * t + 154)), (1, (1, cd)), (2, (0, 3)), (3, (0, val)), (4, (0, w (6 * t + 156) (w (6 * t + 154) 4 - 1) + z8))], [], w41)) 1 rfl ?_
                    refine e_Ok.sub kAlk (e_sub_of rfl ?_) (ih11  w41 ⟨f42, hT43, (fun c k g => by rw [← hw41, e_up_ne _ _ (by omega)]; exact j14 c k g), (by have e : w41 (6 * t + 154) 15 = v1 (6 * t + 154) 15 - 1 := (by rw [← hw41]; exact e_up_eq _ _ _ _); omega)⟩ (by have e : w41 (6 * t + 154) 15 = v1 (6 * t + 154) 15 - 1 := (by rw [← hw41]; exact e_up_eq _ _ _ _); omega))
                    exact ⟨rfl, rfl, rfl, rfl, rfl, trivial⟩
                  · replace h40 : (z37 : Int) ≠ 0 := by have q : ¬ ((z37 : Int) = 0) := h40; omega
                    refine e_Ok.run (t' := (141, [(6, (0, z28)), (5, (0, w (6 * t + 157) (v1 (6 * t + 154) 15 - 1))), (0, (1, 6 * t + 154)), (1, (1, cd)), (2, (0, 3)), (3, (0, val)), (4, (0, w (6 * t + 156) (w (6 * t + 154) 4 - 1) + z8))], [(1, 6 * t + 154)], v1)) 1 rfl ?_
                    refine e_Ok.getr (z := 6 * t + 159) rfl (lT0 (t := t) (by omega) (by omega)) rfl rfl ((j12 (6 * t + 154) 20 (by unfold kLv; omega)).trans (Eq.trans (e_Has.eq hT (kT_20 (t := t) (by omega) (by omega))) (by omega))) (by omega) ?_
                    refine e_Ok.run (t' := (145, [(6, (0, z28)), (5, (0, w (6 * t + 157) (v1 (6 * t + 154) 15 - 1))), (0, (1, 6 * t + 154)), (1, (1, cd)), (2, (0, 3)), (3, (0, val)), (4, (0, w (6 * t + 156) (w (6 * t + 154) 4 - 1) + z8))], [(1, 6 * t + 154), (1, 6 * t + 159)], v1)) 1 rfl ?_
                    refine e_Ok.getf (z := v1 (6 * t + 154) 15) rfl (lT0 (t := t) (by omega) (by omega)) rfl rfl rfl (by omega) ?_
                    refine e_Ok.run (t' := (149, [(6, (0, z28)), (5, (0, w (6 * t + 157) (v1 (6 * t + 154) 15 - 1))), (0, (1, 6 * t + 154)), (1, (1, cd)), (2, (0, 3)), (3, (0, val)), (4, (0, w (6 * t + 156) (w (6 * t + 154) 4 - 1) + z8))], [(0, 1), (0, v1 (6 * t + 154) 15), (1, 6 * t + 159)], v1)) 1 rfl ?_
                    refine e_Ok.sub' (z := v1 (6 * t + 154) 15 - 1) rfl (by omega) (by omega) ?_
                    refine e_Ok.run (t' := (151, [(6, (0, z28)), (5, (0, w (6 * t + 157) (v1 (6 * t + 154) 15 - 1))), (0, (1, 6 * t + 154)), (1, (1, cd)), (2, (0, 3)), (3, (0, val)), (4, (0, w (6 * t + 156) (w (6 * t + 154) 4 - 1) + z8))], [(0, val), (0, v1 (6 * t + 154) 15 - 1), (1, 6 * t + 159)], v1)) 1 rfl ?_
                    refine e_Ok.ast rfl (lT5 (t := t) (by omega) (by omega)) rfl rfl (by omega) ?_
                    generalize hw44 : e_up v1 (6 * t + 159) (v1 (6 * t + 154) 15 - 1) val = w44
                    have f45 : e_fr (kLv t) w w44 := e_fr.up j12 hw44 (by unfold kLv; omega)
                    have hT46 : e_Has kTy w44 := e_Has.ups j13 hw44 (kT159 (t := t) _ (by omega) (by omega))
                    have hsw : tS w44 (6 * t + 154) op H := tS.val hsv (by omega) (by rw [show (6 * t + 154) + 4 = 6 * t + 158 by omega]; omega) hw44
                    refine e_Ok.run (t' := (156, [(6, (0, z28)), (5, (0, w (6 * t + 157) (v1 (6 * t + 154) 15 - 1))), (0, (1, 6 * t + 154)), (1, (1, cd)), (2, (0, 3)), (3, (0, val)), (4, (0, w (6 * t + 156) (w (6 * t + 154) 4 - 1) + z8))], [(0, 2), (0, 3), (0, 2), (1, 6 * t + 154)], w44)) 4 rfl ?_
                    refine e_Ok.shl2 rfl (by omega) (fun z47 hz47 => ?_)
                    replace hz47 : z47 = 3 * 4 := hz47
                    refine e_Ok.or2 rfl (by omega) (by omega) (fun z48 hz48 => ?_)
                    replace hz48 : z48 = 2 + z47 := hz48
                    refine e_Ok.run (t' := (162, [(6, (0, z28)), (5, (0, w (6 * t + 157) (v1 (6 * t + 154) 15 - 1))), (0, (1, 6 * t + 154)), (1, (1, cd)), (2, (0, 3)), (3, (0, val)), (4, (0, w (6 * t + 156) (w (6 * t + 154) 4 - 1) + z8))], [(0, 2), (0, w (6 * t + 157) (v1 (6 * t + 154) 15 - 1)), (1, cd), (0, z48), (1, 6 * t + 154)], w44)) 3 rfl ?_
                    refine e_Ok.add (z := w (6 * t + 157) (v1 (6 * t + 154) 15 - 1) + 2) rfl (by omega) (by omega) ?_
                    refine e_Ok.callV rfl (by omega) rfl (lD0 hcd) rfl rfl (c_24 hT46 (kCd.fr f45 (by unfold kLv; omega) (fun k => by unfold kLv; omega) hk) (by omega)) (fun r49 w50 h51 => ?_)
                    obtain ⟨z52, rfl, rfl, q53, q53r⟩ := h51
                    replace q53 : z52 = od (w (6 * t + 157) (v1 (6 * t + 154) 15 - 1) + 2) := q53
                    show e_Ok 20 elay kcode eI (d + 1) 188 (166, [(6, (0, z28)), (5, (0, w (6 * t + 157) (v1 (6 * t + 154) 15 - 1))), (0, (1, 6 * t + 154)), (1, (1, cd)), (2, (0, 3)), (3, (0, val)), (4, (0, w (6 * t + 156) (w (6 * t + 154) 4 - 1) + z8))], [(0, z52), (0, z48), (1, 6 * t + 154)], w44) _
                    refine e_Ok.callV rfl (by omega) rfl (lT0 (t := t) (by omega) (by omega)) rfl rfl (c_189 (t := t) (op := op) (H := H) hT46 (by omega) (by omega) (by omega) (by have e : w44 (6 * t + 154) 15 = v1 (6 * t + 154) 15 := (by rw [← hw44]; exact (e_up_ne _ _ (Or.inl (by omega))).trans rfl); omega) hsw (fun g => by rw [show w44 (6 * t + 154) 15 = v1 (6 * t + 154) 15 from (by rw [← hw44]; exact (e_up_ne _ _ (Or.inl (by omega))).trans rfl), show (6 * t + 154) + 5 = 6 * t + 159 by omega, ← hw44, e_up_eq]; exact ⟨by omega, fun _ => hvb⟩)) (fun r54 w55 h56 => ?_)
                    obtain ⟨rfl, q57f, q57T, q57s, q57p, q57n⟩ := h56
                    have f58 : e_fr (kLv t) w w55 := e_fr.trans f45 (e_fr.mono q57f (fun c k q => by exact q))
                    show e_Ok 20 elay kcode eI (d + 1) 188 (169, [(6, (0, z28)), (5, (0, w (6 * t + 157) (v1 (6 * t + 154) 15 - 1))), (0, (1, 6 * t + 154)), (1, (1, cd)), (2, (0, 3)), (3, (0, val)), (4, (0, w (6 * t + 156) (w (6 * t + 154) 4 - 1) + z8))], [], w55) _
                    refine e_Ok.run (t' := (170, [(6, (0, z28)), (5, (0, w (6 * t + 157) (v1 (6 * t + 154) 15 - 1))), (0, (1, 6 * t + 154)), (1, (1, cd)), (2, (0, 3)), (3, (0, val)), (4, (0, w (6 * t + 156) (w (6 * t + 154) 4 - 1) + z8))], [(0, 1)], w55)) 1 rfl ?_
                    refine e_Ok.rets rfl rfl ?_
                    have ht := (hD.2.2 (w (6 * t + 157) (v1 (6 * t + 154) 15 - 1) + 2)).2.1 (Or.inr (Or.inr (by omega)))
                    exact ⟨_, rfl, f58, q57T, q57s, rfl, Or.inl (by rw [q57p, q53]; exact ht)⟩
              · replace h29 : (3 : Int) = 1 := by have q : ¬ ((3 : Int) ≠ 1) := h29; omega
                exfalso; omega
        refine e_Ok.sub kAlk (e_sub_of rfl ?_) (hL10 (600 + 1 : Int).toNat  w ⟨(e_fr.refl w), hT, (fun _ _ _ => rfl), by omega⟩ (by omega))
        exact ⟨rfl, rfl, rfl, rfl, rfl, trivial⟩
    · replace h3 : (w (6 * t + 154) 4 : Int) < 1 := by have q : ¬ ((w (6 * t + 154) 4 : Int) ≥ 1) := h3; omega
      refine e_Ok.run (t' := (32, [(4, (0, 0)), (0, (1, 6 * t + 154)), (1, (1, cd)), (2, (0, 3)), (3, (0, val))], [(0, 3), (0, 3)], w)) 5 rfl ?_
      refine e_Ok.if2 rfl (fun h59 => ?_) (fun h59 => ?_)
      · replace h59 : (3 : Int) ≠ 3 := h59
        exfalso; omega
      · replace h59 : (3 : Int) = 3 := by have q : ¬ ((3 : Int) ≠ 3) := h59; omega
        refine e_Ok.run (t' := (39, [(4, (0, 0)), (0, (1, 6 * t + 154)), (1, (1, cd)), (2, (0, 3)), (3, (0, val))], [(0, val), (1, cd), (0, 0)], w)) 3 rfl ?_
        refine e_Ok.callV rfl (by omega) rfl (lD0 hcd) rfl rfl (c_24 hT hk (by omega)) (fun r60 w61 h62 => ?_)
        obtain ⟨z63, rfl, rfl, q64, q64r⟩ := h62
        replace q64 : z63 = od val := q64
        show e_Ok 20 elay kcode eI (d + 1) 188 (42, [(4, (0, 0)), (0, (1, 6 * t + 154)), (1, (1, cd)), (2, (0, 3)), (3, (0, val))], [(0, z63), (0, 0)], w) _
        refine e_Ok.add (z := z63) rfl (by omega) (by omega) ?_
        refine e_Ok.run (t' := (45, [(4, (0, z63)), (0, (1, 6 * t + 154)), (1, (1, cd)), (2, (0, 3)), (3, (0, val))], [], w)) 1 rfl ?_
        have hL65 : ∀ (nn : Nat) (v1 : eW), e_fr (kLv t) w v1 ∧ e_Has kTy v1 ∧ (∀ c k, ¬ (c = (6 * t + 154) ∧ k = 15) → v1 c k = w c k) ∧ ((0 ≤ v1 (6 * t + 154) 15 ∧ v1 (6 * t + 154) 15 ≤ w (6 * t + 154) 15)) → v1 (6 * t + 154) 15 < nn → e_Ok 20 elay kcode eI (d + 1) 188 (45, [(0, (1, 6 * t + 154)), (1, (1, cd)), (2, (0, 3)), (3, (0, val)), (4, (0, z63))], [], v1) (fun r w' => ∃ z : Int, r = [(0, z)] ∧ e_fr (kLv t) w w' ∧ e_Has kTy w' ∧ tS w' (6 * t + 154) op H ∧ z = 1 ∧ (40 ≤ op (w' (6 * t + 154) 3) ∨ w' (6 * t + 154) 4 = 0)) := by
          intro nn
          induction nn with
          | zero => intro v1 hj hm; obtain ⟨j67, j68, j69, j70⟩ := hj; exfalso; omega
          | succ nn ih66 =>
            intro v1 hj hm
            obtain ⟨j67, j68, j69, j70⟩ := hj
            refine e_Ok.run (t' := (46, [(0, (1, 6 * t + 154)), (1, (1, cd)), (2, (0, 3)), (3, (0, val)), (4, (0, z63))], [(1, 6 * t + 154)], v1)) 1 rfl ?_
            refine e_Ok.getf (z := v1 (6 * t + 154) 15) rfl (lT0 (t := t) (by omega) (by omega)) rfl rfl rfl (by omega) ?_
            refine e_Ok.run (t' := (51, [(0, (1, 6 * t + 154)), (1, (1, cd)), (2, (0, 3)), (3, (0, val)), (4, (0, z63))], [(0, z63), (0, v1 (6 * t + 154) 15)], v1)) 1 rfl ?_
            refine e_Ok.if2 rfl (fun h71 => ?_) (fun h71 => ?_)
            · replace h71 : (v1 (6 * t + 154) 15 : Int) ≤ z63 := h71
              have hsv : tS v1 (6 * t + 154) op H := tS.less hs (by omega) (by rw [show v1 (6 * t + 154) 4 = w (6 * t + 154) 4 from j69 _ _ (by omega)]; omega) (fun d k g1 g2 => j69 _ _ (by omega))
              refine e_Ok.run (t' := (186, [(0, (1, 6 * t + 154)), (1, (1, cd)), (2, (0, 3)), (3, (0, val)), (4, (0, z63))], [(0, 2), (0, 3)], v1)) 2 rfl ?_
              refine e_Ok.if2 rfl (fun h72 => ?_) (fun h72 => ?_)
              · replace h72 : (3 : Int) ≠ 2 := h72
                refine e_Ok.run (t' := (195, [(0, (1, 6 * t + 154)), (1, (1, cd)), (2, (0, 3)), (3, (0, val)), (4, (0, z63))], [(0, 3), (0, 3)], v1)) 2 rfl ?_
                refine e_Ok.if2 rfl (fun h73 => ?_) (fun h73 => ?_)
                · replace h73 : (3 : Int) ≠ 3 := h73
                  exfalso; omega
                · replace h73 : (3 : Int) = 3 := by have q : ¬ ((3 : Int) ≠ 3) := h73; omega
                  refine e_Ok.run (t' := (202, [(0, (1, 6 * t + 154)), (1, (1, cd)), (2, (0, 3)), (3, (0, val)), (4, (0, z63))], [(0, 1), (0, val), (1, cd), (1, 6 * t + 154)], v1)) 4 rfl ?_
                  refine e_Ok.add (z := val + 1) rfl (by omega) (by omega) ?_
                  refine e_Ok.callV rfl (by omega) rfl (lD0 hcd) rfl rfl (c_24 j68 (kCd.fr j67 (by unfold kLv; omega) (fun k => by unfold kLv; omega) hk) (by omega)) (fun r74 w75 h76 => ?_)
                  obtain ⟨z77, rfl, rfl, q78, q78r⟩ := h76
                  replace q78 : z77 = od (val + 1) := q78
                  show e_Ok 20 elay kcode eI (d + 1) 188 (206, [(0, (1, 6 * t + 154)), (1, (1, cd)), (2, (0, 3)), (3, (0, val)), (4, (0, z63))], [(0, z77), (1, 6 * t + 154)], v1) _
                  refine e_Ok.putf rfl (lT0 (t := t) (by omega) (by omega)) rfl rfl ?_
                  generalize hw79 : e_up v1 (6 * t + 154) 3 z77 = w79
                  have f80 : e_fr (kLv t) w w79 := e_fr.up j67 hw79 (by unfold kLv; omega)
                  have hT81 : e_Has kTy w79 := e_Has.upr j68 hw79 (kT_3 (t := t) (by omega) (by omega)) (by omega)
                  refine e_Ok.run (t' := (211, [(0, (1, 6 * t + 154)), (1, (1, cd)), (2, (0, 3)), (3, (0, val)), (4, (0, z63))], [(0, 1), (0, 3)], w79)) 2 rfl ?_
                  refine e_Ok.if2 rfl (fun h82 => ?_) (fun h82 => ?_)
                  · replace h82 : (3 : Int) = 1 := h82
                    exfalso; omega
                  · replace h82 : (3 : Int) ≠ 1 := by have q : ¬ ((3 : Int) = 1) := h82; omega
                    refine e_Ok.run (t' := (219, [(0, (1, 6 * t + 154)), (1, (1, cd)), (2, (0, 3)), (3, (0, val)), (4, (0, z63))], [(0, 1)], w79)) 2 rfl ?_
                    refine e_Ok.rets rfl rfl ?_
                    have ht := (hD.2.2 (val + 1)).2.1 (Or.inr (Or.inr hvb))
                    exact ⟨_, rfl, f80, hT81, tS.oth hsv (by omega) hw79, rfl, Or.inl (by rw [show w79 (6 * t + 154) 3 = z77 from (by rw [← hw79]; exact e_up_eq _ _ _ _), q78]; exact ht)⟩
              · replace h72 : (3 : Int) = 2 := by have q : ¬ ((3 : Int) ≠ 2) := h72; omega
                exfalso; omega
            · replace h71 : (v1 (6 * t + 154) 15 : Int) > z63 := by have q : ¬ ((v1 (6 * t + 154) 15 : Int) ≤ z63) := h71; omega
              have hsv : tS v1 (6 * t + 154) op H := tS.less hs (by omega) (by rw [show v1 (6 * t + 154) 4 = w (6 * t + 154) 4 from j69 _ _ (by omega)]; omega) (fun d k g1 g2 => j69 _ _ (by omega))
              have hq := hsv.2.2 (v1 (6 * t + 154) 15 - 1) (by omega) (by omega)
              have hqw := (hs.2.2 (v1 (6 * t + 154) 15 - 1) (by omega) (by omega)).1
              have hq3 : ((0 ≤ w (6 * t + 157) (v1 (6 * t + 154) 15 - 1) ∧ w (6 * t + 157) (v1 (6 * t + 154) 15 - 1) ≤ 3999) ∧ op (w (6 * t + 157) (v1 (6 * t + 154) 15 - 1) + 1) = 49 ∧ op (w (6 * t + 157) (v1 (6 * t + 154) 15 - 1) + 2) = 49 ∧ op (w (6 * t + 157) (v1 (6 * t + 154) 15 - 1) + 3) = 49) ∧ (0 ≤ v1 (6 * t + 158) (v1 (6 * t + 154) 15 - 1) ∧ v1 (6 * t + 158) (v1 (6 * t + 154) 15 - 1) ≤ 15) := by rw [show 6 * t + 157 = (6 * t + 154) + 3 by omega, show 6 * t + 158 = (6 * t + 154) + 4 by omega]; exact ⟨hqw, hq.2.1.1⟩
              clear hq hqw
              refine e_Ok.run (t' := (55, [(0, (1, 6 * t + 154)), (1, (1, cd)), (2, (0, 3)), (3, (0, val)), (4, (0, z63))], [(1, 6 * t + 154)], v1)) 1 rfl ?_
              refine e_Ok.getr (z := 6 * t + 157) rfl (lT0 (t := t) (by omega) (by omega)) rfl rfl ((j67 (6 * t + 154) 18 (by unfold kLv; omega)).trans (Eq.trans (e_Has.eq hT (kT_18 (t := t) (by omega) (by omega))) (by omega))) (by omega) ?_
              refine e_Ok.run (t' := (59, [(0, (1, 6 * t + 154)), (1, (1, cd)), (2, (0, 3)), (3, (0, val)), (4, (0, z63))], [(1, 6 * t + 154), (1, 6 * t + 157)], v1)) 1 rfl ?_
              refine e_Ok.getf (z := v1 (6 * t + 154) 15) rfl (lT0 (t := t) (by omega) (by omega)) rfl rfl rfl (by omega) ?_
              refine e_Ok.run (t' := (63, [(0, (1, 6 * t + 154)), (1, (1, cd)), (2, (0, 3)), (3, (0, val)), (4, (0, z63))], [(0, 1), (0, v1 (6 * t + 154) 15), (1, 6 * t + 157)], v1)) 1 rfl ?_
              refine e_Ok.sub' (z := v1 (6 * t + 154) 15 - 1) rfl (by omega) (by omega) ?_
              refine e_Ok.ald (z := w (6 * t + 157) (v1 (6 * t + 154) 15 - 1)) rfl (lT3 (t := t) (by omega) (by omega)) rfl (by omega) ((j67 (6 * t + 157) (v1 (6 * t + 154) 15 - 1) (by unfold kLv; omega)).trans rfl) (by omega) ?_
              refine e_Ok.run (t' := (68, [(5, (0, w (6 * t + 157) (v1 (6 * t + 154) 15 - 1))), (0, (1, 6 * t + 154)), (1, (1, cd)), (2, (0, 3)), (3, (0, val)), (4, (0, z63))], [(1, 6 * t + 154)], v1)) 2 rfl ?_
              refine e_Ok.getr (z := 6 * t + 158) rfl (lT0 (t := t) (by omega) (by omega)) rfl rfl ((j67 (6 * t + 154) 19 (by unfold kLv; omega)).trans (Eq.trans (e_Has.eq hT (kT_19 (t := t) (by omega) (by omega))) (by omega))) (by omega) ?_
              refine e_Ok.run (t' := (72, [(5, (0, w (6 * t + 157) (v1 (6 * t + 154) 15 - 1))), (0, (1, 6 * t + 154)), (1, (1, cd)), (2, (0, 3)), (3, (0, val)), (4, (0, z63))], [(1, 6 * t + 154), (1, 6 * t + 158)], v1)) 1 rfl ?_
              refine e_Ok.getf (z := v1 (6 * t + 154) 15) rfl (lT0 (t := t) (by omega) (by omega)) rfl rfl rfl (by omega) ?_
              refine e_Ok.run (t' := (76, [(5, (0, w (6 * t + 157) (v1 (6 * t + 154) 15 - 1))), (0, (1, 6 * t + 154)), (1, (1, cd)), (2, (0, 3)), (3, (0, val)), (4, (0, z63))], [(0, 1), (0, v1 (6 * t + 154) 15), (1, 6 * t + 158)], v1)) 1 rfl ?_
              refine e_Ok.sub' (z := v1 (6 * t + 154) 15 - 1) rfl (by omega) (by omega) ?_
              refine e_Ok.ald (z := v1 (6 * t + 158) (v1 (6 * t + 154) 15 - 1)) rfl (lT4 (t := t) (by omega) (by omega)) rfl (by omega) rfl (by omega) ?_
              refine e_Ok.run (t' := (79, [(5, (0, w (6 * t + 157) (v1 (6 * t + 154) 15 - 1))), (0, (1, 6 * t + 154)), (1, (1, cd)), (2, (0, 3)), (3, (0, val)), (4, (0, z63))], [(0, 3), (0, v1 (6 * t + 158) (v1 (6 * t + 154) 15 - 1))], v1)) 1 rfl ?_
              refine e_Ok.andm 3 2 rfl (by decide) (fun z83 hz83 => ?_)
              replace hz83 : z83 = (v1 (6 * t + 158) (v1 (6 * t + 154) 15 - 1)) % 4 := hz83
              have hz83r : 0 ≤ z83 ∧ z83 ≤ 3 := by omega
              refine e_Ok.run (t' := (84, [(6, (0, z83)), (5, (0, w (6 * t + 157) (v1 (6 * t + 154) 15 - 1))), (0, (1, 6 * t + 154)), (1, (1, cd)), (2, (0, 3)), (3, (0, val)), (4, (0, z63))], [(0, 1), (0, 3)], v1)) 3 rfl ?_
              refine e_Ok.if2 rfl (fun h84 => ?_) (fun h84 => ?_)
              · replace h84 : (3 : Int) ≠ 1 := h84
                refine e_Ok.run (t' := (126, [(6, (0, z83)), (5, (0, w (6 * t + 157) (v1 (6 * t + 154) 15 - 1))), (0, (1, 6 * t + 154)), (1, (1, cd)), (2, (0, 3)), (3, (0, val)), (4, (0, z63))], [(0, 2), (0, z83)], v1)) 2 rfl ?_
                refine e_Ok.if2 rfl (fun h85 => ?_) (fun h85 => ?_)
                · replace h85 : (z83 : Int) = 2 := h85
                  refine e_Ok.run (t' := (173, [(6, (0, z83)), (5, (0, w (6 * t + 157) (v1 (6 * t + 154) 15 - 1))), (0, (1, 6 * t + 154)), (1, (1, cd)), (2, (0, 3)), (3, (0, val)), (4, (0, z63))], [(1, 6 * t + 154), (1, 6 * t + 154)], v1)) 2 rfl ?_
                  refine e_Ok.getf (z := v1 (6 * t + 154) 15) rfl (lT0 (t := t) (by omega) (by omega)) rfl rfl rfl (by omega) ?_
                  refine e_Ok.run (t' := (177, [(6, (0, z83)), (5, (0, w (6 * t + 157) (v1 (6 * t + 154) 15 - 1))), (0, (1, 6 * t + 154)), (1, (1, cd)), (2, (0, 3)), (3, (0, val)), (4, (0, z63))], [(0, 1), (0, v1 (6 * t + 154) 15), (1, 6 * t + 154)], v1)) 1 rfl ?_
                  refine e_Ok.sub' (z := v1 (6 * t + 154) 15 - 1) rfl (by omega) (by omega) ?_
                  refine e_Ok.putf rfl (lT0 (t := t) (by omega) (by omega)) rfl rfl ?_
                  generalize hw86 : e_up v1 (6 * t + 154) 15 (v1 (6 * t + 154) 15 - 1) = w86
                  have f87 : e_fr (kLv t) w w86 := e_fr.up j67 hw86 (by unfold kLv; omega)
                  have hT88 : e_Has kTy w86 := e_Has.upr j68 hw86 (kT_15 (t := t) (by omega) (by omega)) (by omega)
                  refine e_Ok.run (t' := (45, [(6, (0, z83)), (5, (0, w (6 * t + 157) (v1 (6 * t + 154) 15 - 1))), (0, (1, 6 * t + 154)), (1, (1, cd)), (2, (0, 3)), (3, (0, val)), (4, (0, z63))], [], w86)) 1 rfl ?_
                  refine e_Ok.sub kAlk (e_sub_of rfl ?_) (ih66  w86 ⟨f87, hT88, (fun c k g => by rw [← hw86, e_up_ne _ _ (by omega)]; exact j69 c k g), (by have e : w86 (6 * t + 154) 15 = v1 (6 * t + 154) 15 - 1 := (by rw [← hw86]; exact e_up_eq _ _ _ _); omega)⟩ (by have e : w86 (6 * t + 154) 15 = v1 (6 * t + 154) 15 - 1 := (by rw [← hw86]; exact e_up_eq _ _ _ _); omega))
                  exact ⟨rfl, rfl, rfl, rfl, rfl, trivial⟩
                · replace h85 : (z83 : Int) ≠ 2 := by have q : ¬ ((z83 : Int) = 2) := h85; omega
                  refine e_Ok.run (t' := (133, [(6, (0, z83)), (5, (0, w (6 * t + 157) (v1 (6 * t + 154) 15 - 1))), (0, (1, 6 * t + 154)), (1, (1, cd)), (2, (0, 3)), (3, (0, val)), (4, (0, z63))], [(0, 2), (0, w (6 * t + 157) (v1 (6 * t + 154) 15 - 1)), (1, cd)], v1)) 3 rfl ?_
                  refine e_Ok.add (z := w (6 * t + 157) (v1 (6 * t + 154) 15 - 1) + 2) rfl (by omega) (by omega) ?_
                  refine e_Ok.callV rfl (by omega) rfl (lD0 hcd) rfl rfl (c_24 j68 (kCd.fr j67 (by unfold kLv; omega) (fun k => by unfold kLv; omega) hk) (by omega)) (fun r89 w90 h91 => ?_)
                  obtain ⟨z92, rfl, rfl, q93, q93r⟩ := h91
                  replace q93 : z92 = od (w (6 * t + 157) (v1 (6 * t + 154) 15 - 1) + 2) := q93
                  show e_Ok 20 elay kcode eI (d + 1) 188 (137, [(6, (0, z83)), (5, (0, w (6 * t + 157) (v1 (6 * t + 154) 15 - 1))), (0, (1, 6 * t + 154)), (1, (1, cd)), (2, (0, 3)), (3, (0, val)), (4, (0, z63))], [(0, z92)], v1) _
                  refine e_Ok.if1 rfl (fun h94 => ?_) (fun h94 => ?_)
                  · replace h94 : (z92 : Int) = 0 := h94
                    refine e_Ok.run (t' := (173, [(6, (0, z83)), (5, (0, w (6 * t + 157) (v1 (6 * t + 154) 15 - 1))), (0, (1, 6 * t + 154)), (1, (1, cd)), (2, (0, 3)), (3, (0, val)), (4, (0, z63))], [(1, 6 * t + 154), (1, 6 * t + 154)], v1)) 2 rfl ?_
                    refine e_Ok.getf (z := v1 (6 * t + 154) 15) rfl (lT0 (t := t) (by omega) (by omega)) rfl rfl rfl (by omega) ?_
                    refine e_Ok.run (t' := (177, [(6, (0, z83)), (5, (0, w (6 * t + 157) (v1 (6 * t + 154) 15 - 1))), (0, (1, 6 * t + 154)), (1, (1, cd)), (2, (0, 3)), (3, (0, val)), (4, (0, z63))], [(0, 1), (0, v1 (6 * t + 154) 15), (1, 6 * t + 154)], v1)) 1 rfl ?_
                    refine e_Ok.sub' (z := v1 (6 * t + 154) 15 - 1) rfl (by omega) (by omega) ?_
                    refine e_Ok.putf rfl (lT0 (t := t) (by omega) (by omega)) rfl rfl ?_
                    generalize hw95 : e_up v1 (6 * t + 154) 15 (v1 (6 * t + 154) 15 - 1) = w95
                    have f101 : e_fr (kLv t) w w95 := e_fr.up j67 hw95 (by unfold kLv; omega)
                    have hT103 : e_Has kTy w95 := e_Has.upr j68 hw95 (kT_15 (t := t) (by omega) (by omega)) (by omega)
                    refine e_Ok.run (t' := (45, [(6, (0, z83)), (5, (0, w (6 * t + 157) (v1 (6 * t + 154) 15 - 1))), (0, (1, 6 * t + 154)), (1, (1, cd)), (2, (0, 3)), (3, (0, val)), (4, (0, z63))], [], w95)) 1 rfl ?_
                    refine e_Ok.sub kAlk (e_sub_of rfl ?_) (ih66  w95 ⟨f101, hT103, (fun c k g => by rw [← hw95, e_up_ne _ _ (by omega)]; exact j69 c k g), (by have e : w95 (6 * t + 154) 15 = v1 (6 * t + 154) 15 - 1 := (by rw [← hw95]; exact e_up_eq _ _ _ _); omega)⟩ (by have e : w95 (6 * t + 154) 15 = v1 (6 * t + 154) 15 - 1 := (by rw [← hw95]; exact e_up_eq _ _ _ _); omega))
                    exact ⟨rfl, rfl, rfl, rfl, rfl, trivial⟩
                  · replace h94 : (z92 : Int) ≠ 0 := by have q : ¬ ((z92 : Int) = 0) := h94; omega
                    refine e_Ok.run (t' := (141, [(6, (0, z83)), (5, (0, w (6 * t + 157) (v1 (6 * t + 154) 15 - 1))), (0, (1, 6 * t + 154)), (1, (1, cd)), (2, (0, 3)), (3, (0, val)), (4, (0, z63))], [(1, 6 * t + 154)], v1)) 1 rfl ?_
                    refine e_Ok.getr (z := 6 * t + 159) rfl (lT0 (t := t) (by omega) (by omega)) rfl rfl ((j67 (6 * t + 154) 20 (by unfold kLv; omega)).trans (Eq.trans (e_Has.eq hT (kT_20 (t := t) (by omega) (by omega))) (by omega))) (by omega) ?_
                    refine e_Ok.run (t' := (145, [(6, (0, z83)), (5, (0, w (6 * t + 157) (v1 (6 * t + 154) 15 - 1))), (0, (1, 6 * t + 154)), (1, (1, cd)), (2, (0, 3)), (3, (0, val)), (4, (0, z63))], [(1, 6 * t + 154), (1, 6 * t + 159)], v1)) 1 rfl ?_
                    refine e_Ok.getf (z := v1 (6 * t + 154) 15) rfl (lT0 (t := t) (by omega) (by omega)) rfl rfl rfl (by omega) ?_
                    refine e_Ok.run (t' := (149, [(6, (0, z83)), (5, (0, w (6 * t + 157) (v1 (6 * t + 154) 15 - 1))), (0, (1, 6 * t + 154)), (1, (1, cd)), (2, (0, 3)), (3, (0, val)), (4, (0, z63))], [(0, 1), (0, v1 (6 * t + 154) 15), (1, 6 * t + 159)], v1)) 1 rfl ?_
                    refine e_Ok.sub' (z := v1 (6 * t + 154) 15 - 1) rfl (by omega) (by omega) ?_
                    refine e_Ok.run (t' := (151, [(6, (0, z83)), (5, (0, w (6 * t + 157) (v1 (6 * t + 154) 15 - 1))), (0, (1, 6 * t + 154)), (1, (1, cd)), (2, (0, 3)), (3, (0, val)), (4, (0, z63))], [(0, val), (0, v1 (6 * t + 154) 15 - 1), (1, 6 * t + 159)], v1)) 1 rfl ?_
                    refine e_Ok.ast rfl (lT5 (t := t) (by omega) (by omega)) rfl rfl (by omega) ?_
                    generalize hw104 : e_up v1 (6 * t + 159) (v1 (6 * t + 154) 15 - 1) val = w104
                    have f105 : e_fr (kLv t) w w104 := e_fr.up j67 hw104 (by unfold kLv; omega)
                    have hT106 : e_Has kTy w104 := e_Has.ups j68 hw104 (kT159 (t := t) _ (by omega) (by omega))
                    have hsw : tS w104 (6 * t + 154) op H := tS.val hsv (by omega) (by rw [show (6 * t + 154) + 4 = 6 * t + 158 by omega]; omega) hw104
                    refine e_Ok.run (t' := (156, [(6, (0, z83)), (5, (0, w (6 * t + 157) (v1 (6 * t + 154) 15 - 1))), (0, (1, 6 * t + 154)), (1, (1, cd)), (2, (0, 3)), (3, (0, val)), (4, (0, z63))], [(0, 2), (0, 3), (0, 2), (1, 6 * t + 154)], w104)) 4 rfl ?_
                    refine e_Ok.shl2 rfl (by omega) (fun z107 hz107 => ?_)
                    replace hz107 : z107 = 3 * 4 := hz107
                    refine e_Ok.or2 rfl (by omega) (by omega) (fun z108 hz108 => ?_)
                    replace hz108 : z108 = 2 + z107 := hz108
                    refine e_Ok.run (t' := (162, [(6, (0, z83)), (5, (0, w (6 * t + 157) (v1 (6 * t + 154) 15 - 1))), (0, (1, 6 * t + 154)), (1, (1, cd)), (2, (0, 3)), (3, (0, val)), (4, (0, z63))], [(0, 2), (0, w (6 * t + 157) (v1 (6 * t + 154) 15 - 1)), (1, cd), (0, z108), (1, 6 * t + 154)], w104)) 3 rfl ?_
                    refine e_Ok.add (z := w (6 * t + 157) (v1 (6 * t + 154) 15 - 1) + 2) rfl (by omega) (by omega) ?_
                    refine e_Ok.callV rfl (by omega) rfl (lD0 hcd) rfl rfl (c_24 hT106 (kCd.fr f105 (by unfold kLv; omega) (fun k => by unfold kLv; omega) hk) (by omega)) (fun r109 w110 h111 => ?_)
                    obtain ⟨z112, rfl, rfl, q113, q113r⟩ := h111
                    replace q113 : z112 = od (w (6 * t + 157) (v1 (6 * t + 154) 15 - 1) + 2) := q113
                    show e_Ok 20 elay kcode eI (d + 1) 188 (166, [(6, (0, z83)), (5, (0, w (6 * t + 157) (v1 (6 * t + 154) 15 - 1))), (0, (1, 6 * t + 154)), (1, (1, cd)), (2, (0, 3)), (3, (0, val)), (4, (0, z63))], [(0, z112), (0, z108), (1, 6 * t + 154)], w104) _
                    refine e_Ok.callV rfl (by omega) rfl (lT0 (t := t) (by omega) (by omega)) rfl rfl (c_189 (t := t) (op := op) (H := H) hT106 (by omega) (by omega) (by omega) (by have e : w104 (6 * t + 154) 15 = v1 (6 * t + 154) 15 := (by rw [← hw104]; exact (e_up_ne _ _ (Or.inl (by omega))).trans rfl); omega) hsw (fun g => by rw [show w104 (6 * t + 154) 15 = v1 (6 * t + 154) 15 from (by rw [← hw104]; exact (e_up_ne _ _ (Or.inl (by omega))).trans rfl), show (6 * t + 154) + 5 = 6 * t + 159 by omega, ← hw104, e_up_eq]; exact ⟨by omega, fun _ => hvb⟩)) (fun r114 w115 h116 => ?_)
                    obtain ⟨rfl, q117f, q117T, q117s, q117p, q117n⟩ := h116
                    have f118 : e_fr (kLv t) w w115 := e_fr.trans f105 (e_fr.mono q117f (fun c k q => by exact q))
                    show e_Ok 20 elay kcode eI (d + 1) 188 (169, [(6, (0, z83)), (5, (0, w (6 * t + 157) (v1 (6 * t + 154) 15 - 1))), (0, (1, 6 * t + 154)), (1, (1, cd)), (2, (0, 3)), (3, (0, val)), (4, (0, z63))], [], w115) _
                    refine e_Ok.run (t' := (170, [(6, (0, z83)), (5, (0, w (6 * t + 157) (v1 (6 * t + 154) 15 - 1))), (0, (1, 6 * t + 154)), (1, (1, cd)), (2, (0, 3)), (3, (0, val)), (4, (0, z63))], [(0, 1)], w115)) 1 rfl ?_
                    refine e_Ok.rets rfl rfl ?_
                    have ht := (hD.2.2 (w (6 * t + 157) (v1 (6 * t + 154) 15 - 1) + 2)).2.1 (Or.inr (Or.inr (by omega)))
                    exact ⟨_, rfl, f118, q117T, q117s, rfl, Or.inl (by rw [q117p, q113]; exact ht)⟩
              · replace h84 : (3 : Int) = 1 := by have q : ¬ ((3 : Int) ≠ 1) := h84; omega
                exfalso; omega
        refine e_Ok.sub kAlk (e_sub_of rfl ?_) (hL65 (600 + 1 : Int).toNat  w ⟨(e_fr.refl w), hT, (fun _ _ _ => rfl), by omega⟩ (by omega))
        exact ⟨rfl, rfl, rfl, rfl, rfl, trivial⟩
end
