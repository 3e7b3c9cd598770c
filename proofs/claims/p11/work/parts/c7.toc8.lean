-- part c7
section
noncomputable section
/-! the class: leaving; tasks that begin -/
theorem no_c7_0 {t : Int} (ht : 0 ≤ t ∧ t ≤ 15) : ¬ kLv t (6 * t + 154) 18 := by unfold kLv; omega
theorem no_c7_1 {t : Int} (ht : 0 ≤ t ∧ t ≤ 15) : ¬ kLv t (6 * t + 154) 19 := by unfold kLv; omega
theorem no_c7_2 {t : Int} (ht : 0 ≤ t ∧ t ≤ 15) : ¬ kLv t (6 * t + 154) 20 := by unfold kLv; omega
theorem c_188_1 {d : Nat} (hd : 22 ≤ d) {w : eW} (hT : e_Has kTy w) {t : Int} (gt : 0 ≤ t ∧ t ≤ 15) {cd : Int} {op od : Int → Int} (hk : kCd w cd op od) {col : Int → Int} (hD : cD op od col) {H val : Int} (gv : -2147483648 ≤ val ∧ val ≤ 2147483647) (hs : tS w (6 * t + 154) op H) : e_Ok 20 elay kcode eI d 188 (0, [(0, (1, 6 * t + 154)), (1, (1, cd)), (2, (0, 1)), (3, (0, val))], [], w) (fun r w' => ∃ z : Int, r = [(0, z)] ∧ e_fr (kLv t) w w' ∧ e_Has kTy w' ∧ tS w' (6 * t + 154) op H ∧ ((z = 1 ∧ 40 ≤ op (w' (6 * t + 154) 3)) ∨ z = 0)) := by
  obtain ⟨d, rfl⟩ : ∃ e, d = e + 1 := ⟨d - 1, by omega⟩
  have hcd := hk.1
  have hcd0 := hk.1
  unfold isCd at hcd0
  have h15 := e_Has.get hT (c := 6 * t + 154) (k := 15) (lo := 0) (hi := 600) (kT_15 (t := t) rfl gt) (by decide)
  have h4 := e_Has.get hT (c := 6 * t + 154) (k := 4) (lo := 0) (hi := 20) (kT_4 (t := t) rfl gt) (by decide)
  have hH := hs.1
  refine e_Ok.ps2 (x := (0, 1)) (y := (0, 1)) (q := 2) 2 rfl ?_
  refine e_Ok.if2 rfl (fun h1 => ?_) (fun h1 => ?_)
  · replace h1 : (1 : Int) = 1 := h1
    refine e_Ok.run (t' := (32, [(4, (0, 0)), (0, (1, 6 * t + 154)), (1, (1, cd)), (2, (0, 1)), (3, (0, val))], [(0, 3), (0, 1)], w)) 5 rfl ?_
    refine e_Ok.if2 rfl (fun h2 => ?_) (fun h2 => ?_)
    · replace h2 : (1 : Int) ≠ 3 := h2
      have hL3 : ∀ (nn : Nat) (v1 : eW), e_fr (kLv t) w v1 ∧ e_Has kTy v1 ∧ (∀ c k, ¬ (c = (6 * t + 154) ∧ k = 15) → v1 c k = w c k) ∧ ((0 ≤ v1 (6 * t + 154) 15 ∧ v1 (6 * t + 154) 15 ≤ w (6 * t + 154) 15)) → v1 (6 * t + 154) 15 < nn → e_Ok 20 elay kcode eI (d + 1) 188 (45, [(0, (1, 6 * t + 154)), (1, (1, cd)), (2, (0, 1)), (3, (0, val)), (4, (0, 0))], [], v1) (fun r w' => ∃ z : Int, r = [(0, z)] ∧ e_fr (kLv t) w w' ∧ e_Has kTy w' ∧ tS w' (6 * t + 154) op H ∧ ((z = 1 ∧ 40 ≤ op (w' (6 * t + 154) 3)) ∨ z = 0)) := by
        intro nn
        induction nn with
        | zero => intro v1 hj hm; obtain ⟨j5, j6, j7, j8⟩ := hj; exfalso; omega
        | succ nn ih4 =>
          intro v1 hj hm
          obtain ⟨j5, j6, j7, j8⟩ := hj
          refine e_Ok.run (t' := (46, [(0, (1, 6 * t + 154)), (1, (1, cd)), (2, (0, 1)), (3, (0, val)), (4, (0, 0))], [(1, 6 * t + 154)], v1)) 1 rfl ?_
          refine e_Ok.getf (z := v1 (6 * t + 154) 15) rfl (lT0 (t := t) rfl gt) rfl rfl rfl (by omega) ?_
          refine e_Ok.ps1 (x := (0, 0)) (q := 51) 1 rfl ?_
          refine e_Ok.if2 rfl (fun h9 => ?_) (fun h9 => ?_)
          · replace h9 : (v1 (6 * t + 154) 15 : Int) ≤ 0 := h9
            have hsv : tS v1 (6 * t + 154) op H := tS.less hs (by omega) (by rw [show v1 (6 * t + 154) 4 = w (6 * t + 154) 4 from j7 _ _ (by omega)]; omega) (fun d k g1 g2 => j7 _ _ (by omega))
            refine e_Ok.ps2 (x := (0, 2)) (y := (0, 1)) (q := 186) 2 rfl ?_
            refine e_Ok.if2 rfl (fun h10 => ?_) (fun h10 => ?_)
            · replace h10 : (1 : Int) ≠ 2 := h10
              refine e_Ok.ps2 (x := (0, 3)) (y := (0, 1)) (q := 195) 2 rfl ?_
              refine e_Ok.if2 rfl (fun h11 => ?_) (fun h11 => ?_)
              · replace h11 : (1 : Int) ≠ 3 := h11
                refine e_Ok.ps2 (x := (0, 1)) (y := (0, 1)) (q := 211) 2 rfl ?_
                refine e_Ok.if2 rfl (fun h12 => ?_) (fun h12 => ?_)
                · replace h12 : (1 : Int) = 1 := h12
                  refine e_Ok.ps1 (x := (0, 0)) (q := 219) 1 rfl ?_
                  refine e_Ok.rets rfl rfl ?_
                  exact ⟨_, rfl, j5, j6, hsv, Or.inr rfl⟩
                · replace h12 : (1 : Int) ≠ 1 := (show ¬ ((1 : Int) = 1) from h12)
                  exfalso; omega
              · replace h11 : (1 : Int) = 3 := Classical.not_not.mp (show ¬ ((1 : Int) ≠ 3) from h11)
                exfalso; omega
            · replace h10 : (1 : Int) = 2 := Classical.not_not.mp (show ¬ ((1 : Int) ≠ 2) from h10)
              exfalso; omega
          · replace h9 : (v1 (6 * t + 154) 15 : Int) > 0 := Int.not_le.mp (show ¬ ((v1 (6 * t + 154) 15 : Int) ≤ 0) from h9)
            have hsv : tS v1 (6 * t + 154) op H := tS.less hs (by omega) (by rw [show v1 (6 * t + 154) 4 = w (6 * t + 154) 4 from j7 _ _ (by omega)]; omega) (fun d k g1 g2 => j7 _ _ (by omega))
            have hq := hsv.2.2 (v1 (6 * t + 154) 15 - 1) (by omega) (by omega)
            have hqw := (hs.2.2 (v1 (6 * t + 154) 15 - 1) (by omega) (by omega)).1
            have hq3 : ((0 ≤ w (6 * t + 157) (v1 (6 * t + 154) 15 - 1) ∧ w (6 * t + 157) (v1 (6 * t + 154) 15 - 1) ≤ 3999) ∧ op (w (6 * t + 157) (v1 (6 * t + 154) 15 - 1) + 1) = 49 ∧ op (w (6 * t + 157) (v1 (6 * t + 154) 15 - 1) + 2) = 49 ∧ op (w (6 * t + 157) (v1 (6 * t + 154) 15 - 1) + 3) = 49) ∧ (0 ≤ v1 (6 * t + 158) (v1 (6 * t + 154) 15 - 1) ∧ v1 (6 * t + 158) (v1 (6 * t + 154) 15 - 1) ≤ 15) := by rw [show 6 * t + 157 = (6 * t + 154) + 3 by omega, show 6 * t + 158 = (6 * t + 154) + 4 by omega]; exact ⟨hqw, hq.2.1.1⟩
            clear hq hqw
            refine e_Ok.ps1 (x := (1, 6 * t + 154)) (q := 55) 1 rfl ?_
            refine e_Ok.getr (z := 6 * t + 157) rfl (lT0 (t := t) rfl gt) rfl rfl ((j5 (6 * t + 154) 18 (by first | exact no_c7_0 (by omega) | (unfold kLv; omega))).trans (Eq.trans (e_Has.eq hT (kT_18 (t := t) rfl gt)) (by omega))) (by omega) ?_
            refine e_Ok.ps1 (x := (1, 6 * t + 154)) (q := 59) 1 rfl ?_
            refine e_Ok.getf (z := v1 (6 * t + 154) 15) rfl (lT0 (t := t) rfl gt) rfl rfl rfl (by omega) ?_
            refine e_Ok.ps1 (x := (0, 1)) (q := 63) 1 rfl ?_
            refine e_Ok.sub' (z := v1 (6 * t + 154) 15 - 1) rfl rfl (by omega) ?_
            refine e_Ok.ald (z := w (6 * t + 157) (v1 (6 * t + 154) 15 - 1)) rfl (lT3 (t := t) rfl gt) rfl (by omega) ((j5 (6 * t + 157) (v1 (6 * t + 154) 15 - 1) (by unfold kLv; omega)).trans rfl) (by omega) ?_
            refine e_Ok.run (t' := (68, [(5, (0, w (6 * t + 157) (v1 (6 * t + 154) 15 - 1))), (0, (1, 6 * t + 154)), (1, (1, cd)), (2, (0, 1)), (3, (0, val)), (4, (0, 0))], [(1, 6 * t + 154)], v1)) 2 rfl ?_
            refine e_Ok.getr (z := 6 * t + 158) rfl (lT0 (t := t) rfl gt) rfl rfl ((j5 (6 * t + 154) 19 (by first | exact no_c7_1 (by omega) | (unfold kLv; omega))).trans (Eq.trans (e_Has.eq hT (kT_19 (t := t) rfl gt)) (by omega))) (by omega) ?_
            refine e_Ok.ps1 (x := (1, 6 * t + 154)) (q := 72) 1 rfl ?_
            refine e_Ok.getf (z := v1 (6 * t + 154) 15) rfl (lT0 (t := t) rfl gt) rfl rfl rfl (by omega) ?_
            refine e_Ok.ps1 (x := (0, 1)) (q := 76) 1 rfl ?_
            refine e_Ok.sub' (z := v1 (6 * t + 154) 15 - 1) rfl rfl (by omega) ?_
            refine e_Ok.ald (z := v1 (6 * t + 158) (v1 (6 * t + 154) 15 - 1)) rfl (lT4 (t := t) rfl gt) rfl (by omega) rfl (by omega) ?_
            refine e_Ok.ps1 (x := (0, 3)) (q := 79) 1 rfl ?_
            refine e_Ok.andm 3 2 rfl (by decide) (fun z13 hz13 => ?_)
            replace hz13 : z13 = (v1 (6 * t + 158) (v1 (6 * t + 154) 15 - 1)) % 4 := hz13
            have hz13r : 0 ≤ z13 ∧ z13 ≤ 3 := by omega
            refine e_Ok.run (t' := (84, [(6, (0, z13)), (5, (0, w (6 * t + 157) (v1 (6 * t + 154) 15 - 1))), (0, (1, 6 * t + 154)), (1, (1, cd)), (2, (0, 1)), (3, (0, val)), (4, (0, 0))], [(0, 1), (0, 1)], v1)) 3 rfl ?_
            refine e_Ok.if2 rfl (fun h14 => ?_) (fun h14 => ?_)
            · replace h14 : (1 : Int) ≠ 1 := h14
              exfalso; omega
            · replace h14 : (1 : Int) = 1 := Classical.not_not.mp (show ¬ ((1 : Int) ≠ 1) from h14)
              refine e_Ok.ps1 (x := (0, z13)) (q := 89) 1 rfl ?_
              refine e_Ok.if1 rfl (fun h15 => ?_) (fun h15 => ?_)
              · replace h15 : (z13 : Int) ≠ 0 := h15
                refine e_Ok.ps2 (x := (0, 2)) (y := (0, z13)) (q := 126) 2 rfl ?_
                refine e_Ok.if2 rfl (fun h16 => ?_) (fun h16 => ?_)
                · replace h16 : (z13 : Int) = 2 := h16
                  refine e_Ok.ps2 (x := (1, 6 * t + 154)) (y := (1, 6 * t + 154)) (q := 173) 2 rfl ?_
                  refine e_Ok.getf (z := v1 (6 * t + 154) 15) rfl (lT0 (t := t) rfl gt) rfl rfl rfl (by omega) ?_
                  refine e_Ok.ps1 (x := (0, 1)) (q := 177) 1 rfl ?_
                  refine e_Ok.sub' (z := v1 (6 * t + 154) 15 - 1) rfl rfl (by omega) ?_
                  refine e_Ok.putf rfl (lT0 (t := t) rfl gt) rfl rfl ?_
                  generalize hw17 : e_up v1 (6 * t + 154) 15 (v1 (6 * t + 154) 15 - 1) = w17
                  have hT19 : e_Has kTy w17 := e_Has.upr j6 hw17 (kT_15 (t := t) rfl gt) (by omega)
                  refine e_Ok.ps0 (q := 45) 1 rfl ?_
                  refine e_Ok.sub kAlk (e_sub_of rfl ?_) (ih4  w17 ⟨(show e_fr (kLv t) w w17 from e_fr.up j5 hw17 (by first | exact Or.inl ⟨(by omega), Or.inr (Or.inr (Or.inr rfl))⟩ | (unfold kLv; omega))), hT19, (fun c k g => by rw [← hw17, e_up_ne _ _ (by omega)]; exact j7 c k g), (by have e : w17 (6 * t + 154) 15 = v1 (6 * t + 154) 15 - 1 := (e_ue hw17); omega)⟩ (by have e : w17 (6 * t + 154) 15 = v1 (6 * t + 154) 15 - 1 := (e_ue hw17); omega))
                  exact ⟨rfl, rfl, rfl, rfl, rfl, trivial⟩
                · replace h16 : (z13 : Int) ≠ 2 := (show ¬ ((z13 : Int) = 2) from h16)
                  refine e_Ok.ps3 (x := (0, 2)) (y := (0, w (6 * t + 157) (v1 (6 * t + 154) 15 - 1))) (z := (1, cd)) (q := 133) 3 rfl ?_
                  refine e_Ok.add (z := w (6 * t + 157) (v1 (6 * t + 154) 15 - 1) + 2) rfl rfl (by omega) ?_
                  refine e_Ok.callV rfl (e_dq hd rfl) rfl (lD0 hcd) rfl rfl (c_24 j6 (kCd.fr j5 (by unfold kLv; omega) (fun k => by unfold kLv; omega) hk) (by omega)) (fun r20 w21 h22 => ?_)
                  obtain ⟨z23, rfl, rfl, q24, q24r⟩ := h22
                  replace q24 : z23 = od (w (6 * t + 157) (v1 (6 * t + 154) 15 - 1) + 2) := q24
                  refine e_Ok.nrm (q := 137) (st' := [(0, z23)]) rfl rfl ?_
                  refine e_Ok.if1 rfl (fun h25 => ?_) (fun h25 => ?_)
                  · replace h25 : (z23 : Int) = 0 := h25
                    refine e_Ok.ps2 (x := (1, 6 * t + 154)) (y := (1, 6 * t + 154)) (q := 173) 2 rfl ?_
                    refine e_Ok.getf (z := v1 (6 * t + 154) 15) rfl (lT0 (t := t) rfl gt) rfl rfl rfl (by omega) ?_
                    refine e_Ok.ps1 (x := (0, 1)) (q := 177) 1 rfl ?_
                    refine e_Ok.sub' (z := v1 (6 * t + 154) 15 - 1) rfl rfl (by omega) ?_
                    refine e_Ok.putf rfl (lT0 (t := t) rfl gt) rfl rfl ?_
                    generalize hw26 : e_up v1 (6 * t + 154) 15 (v1 (6 * t + 154) 15 - 1) = w26
                    have hT28 : e_Has kTy w26 := e_Has.upr j6 hw26 (kT_15 (t := t) rfl gt) (by omega)
                    refine e_Ok.ps0 (q := 45) 1 rfl ?_
                    refine e_Ok.sub kAlk (e_sub_of rfl ?_) (ih4  w26 ⟨(show e_fr (kLv t) w w26 from e_fr.up j5 hw26 (by first | exact Or.inl ⟨(by omega), Or.inr (Or.inr (Or.inr rfl))⟩ | (unfold kLv; omega))), hT28, (fun c k g => by rw [← hw26, e_up_ne _ _ (by omega)]; exact j7 c k g), (by have e : w26 (6 * t + 154) 15 = v1 (6 * t + 154) 15 - 1 := (e_ue hw26); omega)⟩ (by have e : w26 (6 * t + 154) 15 = v1 (6 * t + 154) 15 - 1 := (e_ue hw26); omega))
                    exact ⟨rfl, rfl, rfl, rfl, rfl, trivial⟩
                  · replace h25 : (z23 : Int) ≠ 0 := (show ¬ ((z23 : Int) = 0) from h25)
                    refine e_Ok.ps1 (x := (1, 6 * t + 154)) (q := 141) 1 rfl ?_
                    refine e_Ok.getr (z := 6 * t + 159) rfl (lT0 (t := t) rfl gt) rfl rfl ((j5 (6 * t + 154) 20 (by first | exact no_c7_2 (by omega) | (unfold kLv; omega))).trans (Eq.trans (e_Has.eq hT (kT_20 (t := t) rfl gt)) (by omega))) (by omega) ?_
                    refine e_Ok.ps1 (x := (1, 6 * t + 154)) (q := 145) 1 rfl ?_
                    refine e_Ok.getf (z := v1 (6 * t + 154) 15) rfl (lT0 (t := t) rfl gt) rfl rfl rfl (by omega) ?_
                    refine e_Ok.ps1 (x := (0, 1)) (q := 149) 1 rfl ?_
                    refine e_Ok.sub' (z := v1 (6 * t + 154) 15 - 1) rfl rfl (by omega) ?_
                    refine e_Ok.ps1 (x := (0, val)) (q := 151) 1 rfl ?_
                    refine e_Ok.ast rfl (lT5 (t := t) rfl gt) rfl rfl (by omega) ?_
                    generalize hw29 : e_up v1 (6 * t + 159) (v1 (6 * t + 154) 15 - 1) val = w29
                    have f30 : e_fr (kLv t) w w29 := e_fr.up j5 hw29 (by first | exact Or.inr (Or.inr (by omega)) | (unfold kLv; omega))
                    have hT31 : e_Has kTy w29 := e_Has.ups j6 hw29 (kT159 (t := t) _ rfl gt)
                    have hsw : tS w29 (6 * t + 154) op H := tS.val hsv (by omega) (by rw [show (6 * t + 154) + 4 = 6 * t + 158 by omega]; omega) hw29
                    refine e_Ok.ps4 (x := (0, 2)) (y := (0, 1)) (z := (0, 2)) (u := (1, 6 * t + 154)) (q := 156) 4 rfl ?_
                    refine e_Ok.shl2 rfl (by omega) (fun z32 hz32 => ?_)
                    replace hz32 : z32 = 1 * 4 := hz32
                    refine e_Ok.or2 rfl (by omega) (by omega) (fun z33 hz33 => ?_)
                    replace hz33 : z33 = 2 + z32 := hz33
                    refine e_Ok.ps3 (x := (0, 2)) (y := (0, w (6 * t + 157) (v1 (6 * t + 154) 15 - 1))) (z := (1, cd)) (q := 162) 3 rfl ?_
                    refine e_Ok.add (z := w (6 * t + 157) (v1 (6 * t + 154) 15 - 1) + 2) rfl rfl (by omega) ?_
                    refine e_Ok.callV rfl (e_dq hd rfl) rfl (lD0 hcd) rfl rfl (c_24 hT31 (kCd.fr f30 (by unfold kLv; omega) (fun k => by unfold kLv; omega) hk) (by omega)) (fun r34 w35 h36 => ?_)
                    obtain ⟨z37, rfl, rfl, q38, q38r⟩ := h36
                    replace q38 : z37 = od (w (6 * t + 157) (v1 (6 * t + 154) 15 - 1) + 2) := q38
                    refine e_Ok.nrm (q := 166) (st' := [(0, z37), (0, z33), (1, 6 * t + 154)]) rfl rfl ?_
                    refine e_Ok.callV rfl (e_dq hd rfl) rfl (lT0 (t := t) rfl gt) rfl rfl (c_189 (t := t) (op := op) (H := H) hT31 (by omega) (by omega) (by omega) (by have e : w29 (6 * t + 154) 15 = v1 (6 * t + 154) 15 := (e_uq hw29 (Or.inl (by omega)) rfl); omega) hsw (fun g => by rw [show w29 (6 * t + 154) 15 = v1 (6 * t + 154) 15 from (e_uq hw29 (Or.inl (by omega)) rfl), show (6 * t + 154) + 5 = 6 * t + 159 by omega, ← hw29, e_up_eq]; exact ⟨by omega, fun g => by omega⟩)) (fun r40 w41 h42 => ?_)
                    obtain ⟨rfl, q43f, q43T, q43s, q43p, q43n⟩ := h42
                    refine e_Ok.nrm (q := 169) (st' := []) rfl rfl ?_
                    refine e_Ok.ps1 (x := (0, 1)) (q := 170) 1 rfl ?_
                    refine e_Ok.rets rfl rfl ?_
                    have ht := (hD.2.2 (w (6 * t + 157) (v1 (6 * t + 154) 15 - 1) + 2)).2.1 (Or.inr (Or.inr (by omega)))
                    exact ⟨_, rfl, (show e_fr (kLv t) w w41 from e_fr.trans f30 (e_fr.mono q43f (fun c k q => by exact q))), q43T, q43s, Or.inl ⟨rfl, (by rw [q43p, q38]; exact ht)⟩⟩
              · replace h15 : (z13 : Int) = 0 := Classical.not_not.mp (show ¬ ((z13 : Int) ≠ 0) from h15)
                refine e_Ok.ps3 (x := (0, 1)) (y := (0, w (6 * t + 157) (v1 (6 * t + 154) 15 - 1))) (z := (1, cd)) (q := 96) 3 rfl ?_
                refine e_Ok.add (z := w (6 * t + 157) (v1 (6 * t + 154) 15 - 1) + 1) rfl rfl (by omega) ?_
                refine e_Ok.callV rfl (e_dq hd rfl) rfl (lD0 hcd) rfl rfl (c_24 j6 (kCd.fr j5 (by unfold kLv; omega) (fun k => by unfold kLv; omega) hk) (by omega)) (fun r45 w46 h47 => ?_)
                obtain ⟨z48, rfl, rfl, q49, q49r⟩ := h47
                replace q49 : z48 = od (w (6 * t + 157) (v1 (6 * t + 154) 15 - 1) + 1) := q49
                refine e_Ok.nrm (q := 100) (st' := [(0, z48)]) rfl rfl ?_
                refine e_Ok.if1 rfl (fun h50 => ?_) (fun h50 => ?_)
                · replace h50 : (z48 : Int) = 0 := h50
                  refine e_Ok.ps2 (x := (0, 2)) (y := (0, z13)) (q := 126) 2 rfl ?_
                  refine e_Ok.if2 rfl (fun h51 => ?_) (fun h51 => ?_)
                  · replace h51 : (z13 : Int) = 2 := h51
                    exfalso; omega
                  · replace h51 : (z13 : Int) ≠ 2 := (show ¬ ((z13 : Int) = 2) from h51)
                    refine e_Ok.ps3 (x := (0, 2)) (y := (0, w (6 * t + 157) (v1 (6 * t + 154) 15 - 1))) (z := (1, cd)) (q := 133) 3 rfl ?_
                    refine e_Ok.add (z := w (6 * t + 157) (v1 (6 * t + 154) 15 - 1) + 2) rfl rfl (by omega) ?_
                    refine e_Ok.callV rfl (e_dq hd rfl) rfl (lD0 hcd) rfl rfl (c_24 j6 (kCd.fr j5 (by unfold kLv; omega) (fun k => by unfold kLv; omega) hk) (by omega)) (fun r52 w53 h54 => ?_)
                    obtain ⟨z55, rfl, rfl, q56, q56r⟩ := h54
                    replace q56 : z55 = od (w (6 * t + 157) (v1 (6 * t + 154) 15 - 1) + 2) := q56
                    refine e_Ok.nrm (q := 137) (st' := [(0, z55)]) rfl rfl ?_
                    refine e_Ok.if1 rfl (fun h57 => ?_) (fun h57 => ?_)
                    · replace h57 : (z55 : Int) = 0 := h57
                      refine e_Ok.ps2 (x := (1, 6 * t + 154)) (y := (1, 6 * t + 154)) (q := 173) 2 rfl ?_
                      refine e_Ok.getf (z := v1 (6 * t + 154) 15) rfl (lT0 (t := t) rfl gt) rfl rfl rfl (by omega) ?_
                      refine e_Ok.ps1 (x := (0, 1)) (q := 177) 1 rfl ?_
                      refine e_Ok.sub' (z := v1 (6 * t + 154) 15 - 1) rfl rfl (by omega) ?_
                      refine e_Ok.putf rfl (lT0 (t := t) rfl gt) rfl rfl ?_
                      generalize hw58 : e_up v1 (6 * t + 154) 15 (v1 (6 * t + 154) 15 - 1) = w58
                      have hT60 : e_Has kTy w58 := e_Has.upr j6 hw58 (kT_15 (t := t) rfl gt) (by omega)
                      refine e_Ok.ps0 (q := 45) 1 rfl ?_
                      refine e_Ok.sub kAlk (e_sub_of rfl ?_) (ih4  w58 ⟨(show e_fr (kLv t) w w58 from e_fr.up j5 hw58 (by first | exact Or.inl ⟨(by omega), Or.inr (Or.inr (Or.inr rfl))⟩ | (unfold kLv; omega))), hT60, (fun c k g => by rw [← hw58, e_up_ne _ _ (by omega)]; exact j7 c k g), (by have e : w58 (6 * t + 154) 15 = v1 (6 * t + 154) 15 - 1 := (e_ue hw58); omega)⟩ (by have e : w58 (6 * t + 154) 15 = v1 (6 * t + 154) 15 - 1 := (e_ue hw58); omega))
                      exact ⟨rfl, rfl, rfl, rfl, rfl, trivial⟩
                    · replace h57 : (z55 : Int) ≠ 0 := (show ¬ ((z55 : Int) = 0) from h57)
                      refine e_Ok.ps1 (x := (1, 6 * t + 154)) (q := 141) 1 rfl ?_
                      refine e_Ok.getr (z := 6 * t + 159) rfl (lT0 (t := t) rfl gt) rfl rfl ((j5 (6 * t + 154) 20 (by first | exact no_c7_2 (by omega) | (unfold kLv; omega))).trans (Eq.trans (e_Has.eq hT (kT_20 (t := t) rfl gt)) (by omega))) (by omega) ?_
                      refine e_Ok.ps1 (x := (1, 6 * t + 154)) (q := 145) 1 rfl ?_
                      refine e_Ok.getf (z := v1 (6 * t + 154) 15) rfl (lT0 (t := t) rfl gt) rfl rfl rfl (by omega) ?_
                      refine e_Ok.ps1 (x := (0, 1)) (q := 149) 1 rfl ?_
                      refine e_Ok.sub' (z := v1 (6 * t + 154) 15 - 1) rfl rfl (by omega) ?_
                      refine e_Ok.ps1 (x := (0, val)) (q := 151) 1 rfl ?_
                      refine e_Ok.ast rfl (lT5 (t := t) rfl gt) rfl rfl (by omega) ?_
                      generalize hw61 : e_up v1 (6 * t + 159) (v1 (6 * t + 154) 15 - 1) val = w61
                      have f62 : e_fr (kLv t) w w61 := e_fr.up j5 hw61 (by first | exact Or.inr (Or.inr (by omega)) | (unfold kLv; omega))
                      have hT63 : e_Has kTy w61 := e_Has.ups j6 hw61 (kT159 (t := t) _ rfl gt)
                      have hsw : tS w61 (6 * t + 154) op H := tS.val hsv (by omega) (by rw [show (6 * t + 154) + 4 = 6 * t + 158 by omega]; omega) hw61
                      refine e_Ok.ps4 (x := (0, 2)) (y := (0, 1)) (z := (0, 2)) (u := (1, 6 * t + 154)) (q := 156) 4 rfl ?_
                      refine e_Ok.shl2 rfl (by omega) (fun z64 hz64 => ?_)
                      replace hz64 : z64 = 1 * 4 := hz64
                      refine e_Ok.or2 rfl (by omega) (by omega) (fun z65 hz65 => ?_)
                      replace hz65 : z65 = 2 + z64 := hz65
                      refine e_Ok.ps3 (x := (0, 2)) (y := (0, w (6 * t + 157) (v1 (6 * t + 154) 15 - 1))) (z := (1, cd)) (q := 162) 3 rfl ?_
                      refine e_Ok.add (z := w (6 * t + 157) (v1 (6 * t + 154) 15 - 1) + 2) rfl rfl (by omega) ?_
                      refine e_Ok.callV rfl (e_dq hd rfl) rfl (lD0 hcd) rfl rfl (c_24 hT63 (kCd.fr f62 (by unfold kLv; omega) (fun k => by unfold kLv; omega) hk) (by omega)) (fun r66 w67 h68 => ?_)
                      obtain ⟨z69, rfl, rfl, q70, q70r⟩ := h68
                      replace q70 : z69 = od (w (6 * t + 157) (v1 (6 * t + 154) 15 - 1) + 2) := q70
                      refine e_Ok.nrm (q := 166) (st' := [(0, z69), (0, z65), (1, 6 * t + 154)]) rfl rfl ?_
                      refine e_Ok.callV rfl (e_dq hd rfl) rfl (lT0 (t := t) rfl gt) rfl rfl (c_189 (t := t) (op := op) (H := H) hT63 (by omega) (by omega) (by omega) (by have e : w61 (6 * t + 154) 15 = v1 (6 * t + 154) 15 := (e_uq hw61 (Or.inl (by omega)) rfl); omega) hsw (fun g => by rw [show w61 (6 * t + 154) 15 = v1 (6 * t + 154) 15 from (e_uq hw61 (Or.inl (by omega)) rfl), show (6 * t + 154) + 5 = 6 * t + 159 by omega, ← hw61, e_up_eq]; exact ⟨by omega, fun g => by omega⟩)) (fun r71 w72 h73 => ?_)
                      obtain ⟨rfl, q74f, q74T, q74s, q74p, q74n⟩ := h73
                      refine e_Ok.nrm (q := 169) (st' := []) rfl rfl ?_
                      refine e_Ok.ps1 (x := (0, 1)) (q := 170) 1 rfl ?_
                      refine e_Ok.rets rfl rfl ?_
                      have ht := (hD.2.2 (w (6 * t + 157) (v1 (6 * t + 154) 15 - 1) + 2)).2.1 (Or.inr (Or.inr (by omega)))
                      exact ⟨_, rfl, (show e_fr (kLv t) w w72 from e_fr.trans f62 (e_fr.mono q74f (fun c k q => by exact q))), q74T, q74s, Or.inl ⟨rfl, (by rw [q74p, q70]; exact ht)⟩⟩
                · replace h50 : (z48 : Int) ≠ 0 := (show ¬ ((z48 : Int) = 0) from h50)
                  refine e_Ok.ps2 (x := (0, val)) (y := (1, 6 * t + 154)) (q := 105) 2 rfl ?_
                  refine e_Ok.putf rfl (lT0 (t := t) rfl gt) rfl rfl ?_
                  generalize hw76 : e_up v1 (6 * t + 154) 6 val = w76
                  have f77 : e_fr (kLv t) w w76 := e_fr.up j5 hw76 (by first | exact Or.inl ⟨(by omega), Or.inr (Or.inr (Or.inl rfl))⟩ | (unfold kLv; omega))
                  have hT78 : e_Has kTy w76 := e_Has.upr j6 hw76 (kT_6 (t := t) rfl gt) (by omega)
                  have hsw : tS w76 (6 * t + 154) op H := tS.oth hsv (by omega) hw76
                  refine e_Ok.run (t' := (114, [(6, (0, z13)), (5, (0, w (6 * t + 157) (v1 (6 * t + 154) 15 - 1))), (0, (1, 6 * t + 154)), (1, (1, cd)), (2, (0, 1)), (3, (0, val)), (4, (0, 0))], [(0, 1), (0, w (6 * t + 157) (v1 (6 * t + 154) 15 - 1)), (1, cd), (0, 1), (1, 6 * t + 154)], w76)) 5 rfl ?_
                  refine e_Ok.add (z := w (6 * t + 157) (v1 (6 * t + 154) 15 - 1) + 1) rfl rfl (by omega) ?_
                  refine e_Ok.callV rfl (e_dq hd rfl) rfl (lD0 hcd) rfl rfl (c_24 hT78 (kCd.fr f77 (by unfold kLv; omega) (fun k => by unfold kLv; omega) hk) (by omega)) (fun r79 w80 h81 => ?_)
                  obtain ⟨z82, rfl, rfl, q83, q83r⟩ := h81
                  replace q83 : z82 = od (w (6 * t + 157) (v1 (6 * t + 154) 15 - 1) + 1) := q83
                  refine e_Ok.nrm (q := 118) (st' := [(0, z82), (0, 1), (1, 6 * t + 154)]) rfl rfl ?_
                  refine e_Ok.callV rfl (e_dq hd rfl) rfl (lT0 (t := t) rfl gt) rfl rfl (c_189 (t := t) (op := op) (H := H) hT78 (by omega) (by omega) (by omega) (by have e : w76 (6 * t + 154) 15 = v1 (6 * t + 154) 15 := (e_uq hw76 (Or.inr (by first | decide | omega)) rfl); omega) hsw (fun g => by omega)) (fun r84 w85 h86 => ?_)
                  obtain ⟨rfl, q87f, q87T, q87s, q87p, q87n⟩ := h86
                  refine e_Ok.nrm (q := 121) (st' := []) rfl rfl ?_
                  refine e_Ok.ps1 (x := (0, 1)) (q := 122) 1 rfl ?_
                  refine e_Ok.rets rfl rfl ?_
                  have ht := (hD.2.2 (w (6 * t + 157) (v1 (6 * t + 154) 15 - 1) + 1)).2.1 (Or.inr (Or.inr (by omega)))
                  exact ⟨_, rfl, (show e_fr (kLv t) w w85 from e_fr.trans f77 (e_fr.mono q87f (fun c k q => by exact q))), q87T, q87s, Or.inl ⟨rfl, (by rw [q87p, q83]; exact ht)⟩⟩
      refine e_Ok.sub kAlk (e_sub_of rfl ?_) (hL3 (600 + 1 : Int).toNat  w ⟨(e_fr.refl w), hT, (fun _ _ _ => rfl), by omega⟩ (by omega))
      exact ⟨rfl, rfl, rfl, rfl, rfl, trivial⟩
    · replace h2 : (1 : Int) = 3 := Classical.not_not.mp (show ¬ ((1 : Int) ≠ 3) from h2)
      exfalso; omega
  · replace h1 : (1 : Int) ≠ 1 := (show ¬ ((1 : Int) = 1) from h1)
    exfalso; omega
theorem c_188_2 {d : Nat} (hd : 22 ≤ d) {w : eW} (hT : e_Has kTy w) {t : Int} (gt : 0 ≤ t ∧ t ≤ 15) {cd : Int} {op od : Int → Int} (hk : kCd w cd op od) {col : Int → Int} (hD : cD op od col) {H val : Int} (gv : -2147483648 ≤ val ∧ val ≤ 2147483647) (hs : tS w (6 * t + 154) op H) : e_Ok 20 elay kcode eI d 188 (0, [(0, (1, 6 * t + 154)), (1, (1, cd)), (2, (0, 2)), (3, (0, val))], [], w) (fun r w' => ∃ z : Int, r = [(0, z)] ∧ e_fr (kLv t) w w' ∧ e_Has kTy w' ∧ tS w' (6 * t + 154) op H ∧ z = 1 ∧ (40 ≤ op (w' (6 * t + 154) 3) ∨ w' (6 * t + 154) 4 = 0)) := by
  obtain ⟨d, rfl⟩ : ∃ e, d = e + 1 := ⟨d - 1, by omega⟩
  have hcd := hk.1
  have hcd0 := hk.1
  unfold isCd at hcd0
  have h15 := e_Has.get hT (c := 6 * t + 154) (k := 15) (lo := 0) (hi := 600) (kT_15 (t := t) rfl gt) (by decide)
  have h4 := e_Has.get hT (c := 6 * t + 154) (k := 4) (lo := 0) (hi := 20) (kT_4 (t := t) rfl gt) (by decide)
  have hH := hs.1
  refine e_Ok.ps2 (x := (0, 1)) (y := (0, 2)) (q := 2) 2 rfl ?_
  refine e_Ok.if2 rfl (fun h1 => ?_) (fun h1 => ?_)
  · replace h1 : (2 : Int) = 1 := h1
    exfalso; omega
  · replace h1 : (2 : Int) ≠ 1 := (show ¬ ((2 : Int) = 1) from h1)
    refine e_Ok.ps1 (x := (1, 6 * t + 154)) (q := 6) 1 rfl ?_
    have h2 := (e_Has.get hT (c := 6 * t + 154) (k := 4) (lo := 0) (hi := 20) (kT_4 (t := t) rfl gt) (by decide))
    refine e_Ok.getf (z := w (6 * t + 154) 4) rfl (lT0 (t := t) rfl gt) rfl rfl rfl (e_bq h2 (by decide) (by decide)) ?_
    refine e_Ok.ps1 (x := (0, 1)) (q := 10) 1 rfl ?_
    refine e_Ok.if2 rfl (fun h3 => ?_) (fun h3 => ?_)
    · replace h3 : (w (6 * t + 154) 4 : Int) ≥ 1 := h3
      have hq := hs.2.1 (w (6 * t + 154) 4 - 1) (by omega) (by omega)
      have hq2 : 0 ≤ w (6 * t + 156) (w (6 * t + 154) 4 - 1) ∧ w (6 * t + 156) (w (6 * t + 154) 4 - 1) ≤ H := by rw [show 6 * t + 156 = (6 * t + 154) + 2 by omega]; exact hq.2.2
      clear hq
      refine e_Ok.ps1 (x := (1, 6 * t + 154)) (q := 18) 1 rfl ?_
      refine e_Ok.getr (z := 6 * t + 156) rfl (lT0 (t := t) rfl gt) rfl rfl (Eq.trans (e_Has.eq hT (kT_17 (t := t) rfl gt)) (by omega)) (by omega) ?_
      refine e_Ok.ps1 (x := (1, 6 * t + 154)) (q := 22) 1 rfl ?_
      refine e_Ok.getf (z := w (6 * t + 154) 4) rfl (lT0 (t := t) rfl gt) rfl rfl rfl (by omega) ?_
      refine e_Ok.ps1 (x := (0, 1)) (q := 26) 1 rfl ?_
      refine e_Ok.sub' (z := w (6 * t + 154) 4 - 1) rfl rfl (by omega) ?_
      refine e_Ok.ald (z := w (6 * t + 156) (w (6 * t + 154) 4 - 1)) rfl (lT2 (t := t) rfl gt) rfl (by omega) rfl (by omega) ?_
      refine e_Ok.run (t' := (32, [(4, (0, w (6 * t + 156) (w (6 * t + 154) 4 - 1))), (0, (1, 6 * t + 154)), (1, (1, cd)), (2, (0, 2)), (3, (0, val))], [(0, 3), (0, 2)], w)) 3 rfl ?_
      refine e_Ok.if2 rfl (fun h4 => ?_) (fun h4 => ?_)
      · replace h4 : (2 : Int) ≠ 3 := h4
        have hL5 : ∀ (nn : Nat) (v1 : eW), e_fr (kLv t) w v1 ∧ e_Has kTy v1 ∧ (∀ c k, ¬ (c = (6 * t + 154) ∧ k = 15) → v1 c k = w c k) ∧ ((0 ≤ v1 (6 * t + 154) 15 ∧ v1 (6 * t + 154) 15 ≤ w (6 * t + 154) 15)) → v1 (6 * t + 154) 15 < nn → e_Ok 20 elay kcode eI (d + 1) 188 (45, [(0, (1, 6 * t + 154)), (1, (1, cd)), (2, (0, 2)), (3, (0, val)), (4, (0, w (6 * t + 156) (w (6 * t + 154) 4 - 1)))], [], v1) (fun r w' => ∃ z : Int, r = [(0, z)] ∧ e_fr (kLv t) w w' ∧ e_Has kTy w' ∧ tS w' (6 * t + 154) op H ∧ z = 1 ∧ (40 ≤ op (w' (6 * t + 154) 3) ∨ w' (6 * t + 154) 4 = 0)) := by
          intro nn
          induction nn with
          | zero => intro v1 hj hm; obtain ⟨j7, j8, j9, j10⟩ := hj; exfalso; omega
          | succ nn ih6 =>
            intro v1 hj hm
            obtain ⟨j7, j8, j9, j10⟩ := hj
            refine e_Ok.run (t' := (46, [(0, (1, 6 * t + 154)), (1, (1, cd)), (2, (0, 2)), (3, (0, val)), (4, (0, w (6 * t + 156) (w (6 * t + 154) 4 - 1)))], [(1, 6 * t + 154)], v1)) 1 rfl ?_
            refine e_Ok.getf (z := v1 (6 * t + 154) 15) rfl (lT0 (t := t) rfl gt) rfl rfl rfl (by omega) ?_
            refine e_Ok.ps1 (x := (0, w (6 * t + 156) (w (6 * t + 154) 4 - 1))) (q := 51) 1 rfl ?_
            refine e_Ok.if2 rfl (fun h11 => ?_) (fun h11 => ?_)
            · replace h11 : (v1 (6 * t + 154) 15 : Int) ≤ w (6 * t + 156) (w (6 * t + 154) 4 - 1) := h11
              have hsv : tS v1 (6 * t + 154) op H := tS.less hs (by omega) (by rw [show v1 (6 * t + 154) 4 = w (6 * t + 154) 4 from j9 _ _ (by omega)]; omega) (fun d k g1 g2 => j9 _ _ (by omega))
              refine e_Ok.ps2 (x := (0, 2)) (y := (0, 2)) (q := 186) 2 rfl ?_
              refine e_Ok.if2 rfl (fun h12 => ?_) (fun h12 => ?_)
              · replace h12 : (2 : Int) ≠ 2 := h12
                exfalso; omega
              · replace h12 : (2 : Int) = 2 := Classical.not_not.mp (show ¬ ((2 : Int) ≠ 2) from h12)
                refine e_Ok.ps1 (x := (1, 6 * t + 154)) (q := 190) 1 rfl ?_
                refine e_Ok.callV rfl (e_dq hd rfl) rfl (lT0 (t := t) rfl gt) rfl rfl (c_183 (t := t) (op := op) (H := H) j8 (by omega) hsv) (fun r13 w14 h15 => ?_)
                obtain ⟨rfl, q16f, q16T, q16s, q16x⟩ := h15
                refine e_Ok.nrm (q := 193) (st' := []) rfl rfl ?_
                refine e_Ok.ps2 (x := (0, 3)) (y := (0, 2)) (q := 195) 2 rfl ?_
                refine e_Ok.if2 rfl (fun h18 => ?_) (fun h18 => ?_)
                · replace h18 : (2 : Int) ≠ 3 := h18
                  refine e_Ok.ps2 (x := (0, 1)) (y := (0, 2)) (q := 211) 2 rfl ?_
                  refine e_Ok.if2 rfl (fun h19 => ?_) (fun h19 => ?_)
                  · replace h19 : (2 : Int) = 1 := h19
                    exfalso; omega
                  · replace h19 : (2 : Int) ≠ 1 := (show ¬ ((2 : Int) = 1) from h19)
                    refine e_Ok.ps1 (x := (0, 1)) (q := 219) 2 rfl ?_
                    refine e_Ok.rets rfl rfl ?_
                    have h4 := e_Has.get q16T (c := 6 * t + 154) (k := 4) (lo := 0) (hi := 20) (kT_4 (t := t) rfl gt) (by decide)
                    exact ⟨_, rfl, (show e_fr (kLv t) w w14 from e_fr.trans j7 (e_fr.mono q16f (fun c k q => by exact q))), q16T, q16s, rfl, (by rcases q16x with ⟨g1, g2⟩ | ⟨g1, g2, g3⟩; (rw [g2] at h4 ⊢; exact Or.inr (by omega)); (by_cases g : 0 < w14 (6 * t + 154) 4; exact Or.inl (g3 g); exact Or.inr (by omega)))⟩
                · replace h18 : (2 : Int) = 3 := Classical.not_not.mp (show ¬ ((2 : Int) ≠ 3) from h18)
                  exfalso; omega
            · replace h11 : (v1 (6 * t + 154) 15 : Int) > w (6 * t + 156) (w (6 * t + 154) 4 - 1) := Int.not_le.mp (show ¬ ((v1 (6 * t + 154) 15 : Int) ≤ w (6 * t + 156) (w (6 * t + 154) 4 - 1)) from h11)
              have hsv : tS v1 (6 * t + 154) op H := tS.less hs (by omega) (by rw [show v1 (6 * t + 154) 4 = w (6 * t + 154) 4 from j9 _ _ (by omega)]; omega) (fun d k g1 g2 => j9 _ _ (by omega))
              have hq := hsv.2.2 (v1 (6 * t + 154) 15 - 1) (by omega) (by omega)
              have hqw := (hs.2.2 (v1 (6 * t + 154) 15 - 1) (by omega) (by omega)).1
              have hq3 : ((0 ≤ w (6 * t + 157) (v1 (6 * t + 154) 15 - 1) ∧ w (6 * t + 157) (v1 (6 * t + 154) 15 - 1) ≤ 3999) ∧ op (w (6 * t + 157) (v1 (6 * t + 154) 15 - 1) + 1) = 49 ∧ op (w (6 * t + 157) (v1 (6 * t + 154) 15 - 1) + 2) = 49 ∧ op (w (6 * t + 157) (v1 (6 * t + 154) 15 - 1) + 3) = 49) ∧ (0 ≤ v1 (6 * t + 158) (v1 (6 * t + 154) 15 - 1) ∧ v1 (6 * t + 158) (v1 (6 * t + 154) 15 - 1) ≤ 15) := by rw [show 6 * t + 157 = (6 * t + 154) + 3 by omega, show 6 * t + 158 = (6 * t + 154) + 4 by omega]; exact ⟨hqw, hq.2.1.1⟩
              clear hq hqw
              refine e_Ok.ps1 (x := (1, 6 * t + 154)) (q := 55) 1 rfl ?_
              refine e_Ok.getr (z := 6 * t + 157) rfl (lT0 (t := t) rfl gt) rfl rfl ((j7 (6 * t + 154) 18 (by first | exact no_c7_0 (by omega) | (unfold kLv; omega))).trans (Eq.trans (e_Has.eq hT (kT_18 (t := t) rfl gt)) (by omega))) (by omega) ?_
              refine e_Ok.ps1 (x := (1, 6 * t + 154)) (q := 59) 1 rfl ?_
              refine e_Ok.getf (z := v1 (6 * t + 154) 15) rfl (lT0 (t := t) rfl gt) rfl rfl rfl (by omega) ?_
              refine e_Ok.ps1 (x := (0, 1)) (q := 63) 1 rfl ?_
              refine e_Ok.sub' (z := v1 (6 * t + 154) 15 - 1) rfl rfl (by omega) ?_
              refine e_Ok.ald (z := w (6 * t + 157) (v1 (6 * t + 154) 15 - 1)) rfl (lT3 (t := t) rfl gt) rfl (by omega) ((j7 (6 * t + 157) (v1 (6 * t + 154) 15 - 1) (by unfold kLv; omega)).trans rfl) (by omega) ?_
              refine e_Ok.run (t' := (68, [(5, (0, w (6 * t + 157) (v1 (6 * t + 154) 15 - 1))), (0, (1, 6 * t + 154)), (1, (1, cd)), (2, (0, 2)), (3, (0, val)), (4, (0, w (6 * t + 156) (w (6 * t + 154) 4 - 1)))], [(1, 6 * t + 154)], v1)) 2 rfl ?_
              refine e_Ok.getr (z := 6 * t + 158) rfl (lT0 (t := t) rfl gt) rfl rfl ((j7 (6 * t + 154) 19 (by first | exact no_c7_1 (by omega) | (unfold kLv; omega))).trans (Eq.trans (e_Has.eq hT (kT_19 (t := t) rfl gt)) (by omega))) (by omega) ?_
              refine e_Ok.ps1 (x := (1, 6 * t + 154)) (q := 72) 1 rfl ?_
              refine e_Ok.getf (z := v1 (6 * t + 154) 15) rfl (lT0 (t := t) rfl gt) rfl rfl rfl (by omega) ?_
              refine e_Ok.ps1 (x := (0, 1)) (q := 76) 1 rfl ?_
              refine e_Ok.sub' (z := v1 (6 * t + 154) 15 - 1) rfl rfl (by omega) ?_
              refine e_Ok.ald (z := v1 (6 * t + 158) (v1 (6 * t + 154) 15 - 1)) rfl (lT4 (t := t) rfl gt) rfl (by omega) rfl (by omega) ?_
              refine e_Ok.ps1 (x := (0, 3)) (q := 79) 1 rfl ?_
              refine e_Ok.andm 3 2 rfl (by decide) (fun z20 hz20 => ?_)
              replace hz20 : z20 = (v1 (6 * t + 158) (v1 (6 * t + 154) 15 - 1)) % 4 := hz20
              have hz20r : 0 ≤ z20 ∧ z20 ≤ 3 := by omega
              refine e_Ok.run (t' := (84, [(6, (0, z20)), (5, (0, w (6 * t + 157) (v1 (6 * t + 154) 15 - 1))), (0, (1, 6 * t + 154)), (1, (1, cd)), (2, (0, 2)), (3, (0, val)), (4, (0, w (6 * t + 156) (w (6 * t + 154) 4 - 1)))], [(0, 1), (0, 2)], v1)) 3 rfl ?_
              refine e_Ok.if2 rfl (fun h21 => ?_) (fun h21 => ?_)
              · replace h21 : (2 : Int) ≠ 1 := h21
                refine e_Ok.ps2 (x := (0, 2)) (y := (0, z20)) (q := 126) 2 rfl ?_
                refine e_Ok.if2 rfl (fun h22 => ?_) (fun h22 => ?_)
                · replace h22 : (z20 : Int) = 2 := h22
                  refine e_Ok.ps2 (x := (1, 6 * t + 154)) (y := (1, 6 * t + 154)) (q := 173) 2 rfl ?_
                  refine e_Ok.getf (z := v1 (6 * t + 154) 15) rfl (lT0 (t := t) rfl gt) rfl rfl rfl (by omega) ?_
                  refine e_Ok.ps1 (x := (0, 1)) (q := 177) 1 rfl ?_
                  refine e_Ok.sub' (z := v1 (6 * t + 154) 15 - 1) rfl rfl (by omega) ?_
                  refine e_Ok.putf rfl (lT0 (t := t) rfl gt) rfl rfl ?_
                  generalize hw23 : e_up v1 (6 * t + 154) 15 (v1 (6 * t + 154) 15 - 1) = w23
                  have hT25 : e_Has kTy w23 := e_Has.upr j8 hw23 (kT_15 (t := t) rfl gt) (by omega)
                  refine e_Ok.ps0 (q := 45) 1 rfl ?_
                  refine e_Ok.sub kAlk (e_sub_of rfl ?_) (ih6  w23 ⟨(show e_fr (kLv t) w w23 from e_fr.up j7 hw23 (by first | exact Or.inl ⟨(by omega), Or.inr (Or.inr (Or.inr rfl))⟩ | (unfold kLv; omega))), hT25, (fun c k g => by rw [← hw23, e_up_ne _ _ (by omega)]; exact j9 c k g), (by have e : w23 (6 * t + 154) 15 = v1 (6 * t + 154) 15 - 1 := (e_ue hw23); omega)⟩ (by have e : w23 (6 * t + 154) 15 = v1 (6 * t + 154) 15 - 1 := (e_ue hw23); omega))
                  exact ⟨rfl, rfl, rfl, rfl, rfl, trivial⟩
                · replace h22 : (z20 : Int) ≠ 2 := (show ¬ ((z20 : Int) = 2) from h22)
                  refine e_Ok.ps3 (x := (0, 2)) (y := (0, w (6 * t + 157) (v1 (6 * t + 154) 15 - 1))) (z := (1, cd)) (q := 133) 3 rfl ?_
                  refine e_Ok.add (z := w (6 * t + 157) (v1 (6 * t + 154) 15 - 1) + 2) rfl rfl (by omega) ?_
                  refine e_Ok.callV rfl (e_dq hd rfl) rfl (lD0 hcd) rfl rfl (c_24 j8 (kCd.fr j7 (by unfold kLv; omega) (fun k => by unfold kLv; omega) hk) (by omega)) (fun r26 w27 h28 => ?_)
                  obtain ⟨z29, rfl, rfl, q30, q30r⟩ := h28
                  replace q30 : z29 = od (w (6 * t + 157) (v1 (6 * t + 154) 15 - 1) + 2) := q30
                  refine e_Ok.nrm (q := 137) (st' := [(0, z29)]) rfl rfl ?_
                  refine e_Ok.if1 rfl (fun h31 => ?_) (fun h31 => ?_)
                  · replace h31 : (z29 : Int) = 0 := h31
                    refine e_Ok.ps2 (x := (1, 6 * t + 154)) (y := (1, 6 * t + 154)) (q := 173) 2 rfl ?_
                    refine e_Ok.getf (z := v1 (6 * t + 154) 15) rfl (lT0 (t := t) rfl gt) rfl rfl rfl (by omega) ?_
                    refine e_Ok.ps1 (x := (0, 1)) (q := 177) 1 rfl ?_
                    refine e_Ok.sub' (z := v1 (6 * t + 154) 15 - 1) rfl rfl (by omega) ?_
                    refine e_Ok.putf rfl (lT0 (t := t) rfl gt) rfl rfl ?_
                    generalize hw32 : e_up v1 (6 * t + 154) 15 (v1 (6 * t + 154) 15 - 1) = w32
                    have hT34 : e_Has kTy w32 := e_Has.upr j8 hw32 (kT_15 (t := t) rfl gt) (by omega)
                    refine e_Ok.ps0 (q := 45) 1 rfl ?_
                    refine e_Ok.sub kAlk (e_sub_of rfl ?_) (ih6  w32 ⟨(show e_fr (kLv t) w w32 from e_fr.up j7 hw32 (by first | exact Or.inl ⟨(by omega), Or.inr (Or.inr (Or.inr rfl))⟩ | (unfold kLv; omega))), hT34, (fun c k g => by rw [← hw32, e_up_ne _ _ (by omega)]; exact j9 c k g), (by have e : w32 (6 * t + 154) 15 = v1 (6 * t + 154) 15 - 1 := (e_ue hw32); omega)⟩ (by have e : w32 (6 * t + 154) 15 = v1 (6 * t + 154) 15 - 1 := (e_ue hw32); omega))
                    exact ⟨rfl, rfl, rfl, rfl, rfl, trivial⟩
                  · replace h31 : (z29 : Int) ≠ 0 := (show ¬ ((z29 : Int) = 0) from h31)
                    refine e_Ok.ps1 (x := (1, 6 * t + 154)) (q := 141) 1 rfl ?_
                    refine e_Ok.getr (z := 6 * t + 159) rfl (lT0 (t := t) rfl gt) rfl rfl ((j7 (6 * t + 154) 20 (by first | exact no_c7_2 (by omega) | (unfold kLv; omega))).trans (Eq.trans (e_Has.eq hT (kT_20 (t := t) rfl gt)) (by omega))) (by omega) ?_
                    refine e_Ok.ps1 (x := (1, 6 * t + 154)) (q := 145) 1 rfl ?_
                    refine e_Ok.getf (z := v1 (6 * t + 154) 15) rfl (lT0 (t := t) rfl gt) rfl rfl rfl (by omega) ?_
                    refine e_Ok.ps1 (x := (0, 1)) (q := 149) 1 rfl ?_
                    refine e_Ok.sub' (z := v1 (6 * t + 154) 15 - 1) rfl rfl (by omega) ?_
                    refine e_Ok.ps1 (x := (0, val)) (q := 151) 1 rfl ?_
                    refine e_Ok.ast rfl (lT5 (t := t) rfl gt) rfl rfl (by omega) ?_
                    generalize hw35 : e_up v1 (6 * t + 159) (v1 (6 * t + 154) 15 - 1) val = w35
                    have f36 : e_fr (kLv t) w w35 := e_fr.up j7 hw35 (by first | exact Or.inr (Or.inr (by omega)) | (unfold kLv; omega))
                    have hT37 : e_Has kTy w35 := e_Has.ups j8 hw35 (kT159 (t := t) _ rfl gt)
                    have hsw : tS w35 (6 * t + 154) op H := tS.val hsv (by omega) (by rw [show (6 * t + 154) + 4 = 6 * t + 158 by omega]; omega) hw35
                    refine e_Ok.ps4 (x := (0, 2)) (y := (0, 2)) (z := (0, 2)) (u := (1, 6 * t + 154)) (q := 156) 4 rfl ?_
                    refine e_Ok.shl2 rfl (by omega) (fun z38 hz38 => ?_)
                    replace hz38 : z38 = 2 * 4 := hz38
                    refine e_Ok.or2 rfl (by omega) (by omega) (fun z40 hz40 => ?_)
                    replace hz40 : z40 = 2 + z38 := hz40
                    refine e_Ok.ps3 (x := (0, 2)) (y := (0, w (6 * t + 157) (v1 (6 * t + 154) 15 - 1))) (z := (1, cd)) (q := 162) 3 rfl ?_
                    refine e_Ok.add (z := w (6 * t + 157) (v1 (6 * t + 154) 15 - 1) + 2) rfl rfl (by omega) ?_
                    refine e_Ok.callV rfl (e_dq hd rfl) rfl (lD0 hcd) rfl rfl (c_24 hT37 (kCd.fr f36 (by unfold kLv; omega) (fun k => by unfold kLv; omega) hk) (by omega)) (fun r41 w42 h43 => ?_)
                    obtain ⟨z44, rfl, rfl, q45, q45r⟩ := h43
                    replace q45 : z44 = od (w (6 * t + 157) (v1 (6 * t + 154) 15 - 1) + 2) := q45
                    refine e_Ok.nrm (q := 166) (st' := [(0, z44), (0, z40), (1, 6 * t + 154)]) rfl rfl ?_
                    refine e_Ok.callV rfl (e_dq hd rfl) rfl (lT0 (t := t) rfl gt) rfl rfl (c_189 (t := t) (op := op) (H := H) hT37 (by omega) (by omega) (by omega) (by have e : w35 (6 * t + 154) 15 = v1 (6 * t + 154) 15 := (e_uq hw35 (Or.inl (by omega)) rfl); omega) hsw (fun g => by rw [show w35 (6 * t + 154) 15 = v1 (6 * t + 154) 15 from (e_uq hw35 (Or.inl (by omega)) rfl), show (6 * t + 154) + 5 = 6 * t + 159 by omega, ← hw35, e_up_eq]; exact ⟨by omega, fun g => by omega⟩)) (fun r46 w47 h48 => ?_)
                    obtain ⟨rfl, q49f, q49T, q49s, q49p, q49n⟩ := h48
                    refine e_Ok.nrm (q := 169) (st' := []) rfl rfl ?_
                    refine e_Ok.ps1 (x := (0, 1)) (q := 170) 1 rfl ?_
                    refine e_Ok.rets rfl rfl ?_
                    have ht := (hD.2.2 (w (6 * t + 157) (v1 (6 * t + 154) 15 - 1) + 2)).2.1 (Or.inr (Or.inr (by omega)))
                    exact ⟨_, rfl, (show e_fr (kLv t) w w47 from e_fr.trans f36 (e_fr.mono q49f (fun c k q => by exact q))), q49T, q49s, rfl, Or.inl (by rw [q49p, q45]; exact ht)⟩
              · replace h21 : (2 : Int) = 1 := Classical.not_not.mp (show ¬ ((2 : Int) ≠ 1) from h21)
                exfalso; omega
        refine e_Ok.sub kAlk (e_sub_of rfl ?_) (hL5 (600 + 1 : Int).toNat  w ⟨(e_fr.refl w), hT, (fun _ _ _ => rfl), by omega⟩ (by omega))
        exact ⟨rfl, rfl, rfl, rfl, rfl, trivial⟩
      · replace h4 : (2 : Int) = 3 := Classical.not_not.mp (show ¬ ((2 : Int) ≠ 3) from h4)
        exfalso; omega
    · replace h3 : (w (6 * t + 154) 4 : Int) < 1 := Int.not_le.mp (show ¬ ((w (6 * t + 154) 4 : Int) ≥ 1) from h3)
      refine e_Ok.run (t' := (32, [(4, (0, 0)), (0, (1, 6 * t + 154)), (1, (1, cd)), (2, (0, 2)), (3, (0, val))], [(0, 3), (0, 2)], w)) 5 rfl ?_
      refine e_Ok.if2 rfl (fun h51 => ?_) (fun h51 => ?_)
      · replace h51 : (2 : Int) ≠ 3 := h51
        have hL52 : ∀ (nn : Nat) (v1 : eW), e_fr (kLv t) w v1 ∧ e_Has kTy v1 ∧ (∀ c k, ¬ (c = (6 * t + 154) ∧ k = 15) → v1 c k = w c k) ∧ ((0 ≤ v1 (6 * t + 154) 15 ∧ v1 (6 * t + 154) 15 ≤ w (6 * t + 154) 15)) → v1 (6 * t + 154) 15 < nn → e_Ok 20 elay kcode eI (d + 1) 188 (45, [(0, (1, 6 * t + 154)), (1, (1, cd)), (2, (0, 2)), (3, (0, val)), (4, (0, 0))], [], v1) (fun r w' => ∃ z : Int, r = [(0, z)] ∧ e_fr (kLv t) w w' ∧ e_Has kTy w' ∧ tS w' (6 * t + 154) op H ∧ z = 1 ∧ (40 ≤ op (w' (6 * t + 154) 3) ∨ w' (6 * t + 154) 4 = 0)) := by
          intro nn
          induction nn with
          | zero => intro v1 hj hm; obtain ⟨j54, j55, j56, j57⟩ := hj; exfalso; omega
          | succ nn ih53 =>
            intro v1 hj hm
            obtain ⟨j54, j55, j56, j57⟩ := hj
            refine e_Ok.run (t' := (46, [(0, (1, 6 * t + 154)), (1, (1, cd)), (2, (0, 2)), (3, (0, val)), (4, (0, 0))], [(1, 6 * t + 154)], v1)) 1 rfl ?_
            refine e_Ok.getf (z := v1 (6 * t + 154) 15) rfl (lT0 (t := t) rfl gt) rfl rfl rfl (by omega) ?_
            refine e_Ok.ps1 (x := (0, 0)) (q := 51) 1 rfl ?_
            refine e_Ok.if2 rfl (fun h58 => ?_) (fun h58 => ?_)
            · replace h58 : (v1 (6 * t + 154) 15 : Int) ≤ 0 := h58
              have hsv : tS v1 (6 * t + 154) op H := tS.less hs (by omega) (by rw [show v1 (6 * t + 154) 4 = w (6 * t + 154) 4 from j56 _ _ (by omega)]; omega) (fun d k g1 g2 => j56 _ _ (by omega))
              refine e_Ok.ps2 (x := (0, 2)) (y := (0, 2)) (q := 186) 2 rfl ?_
              refine e_Ok.if2 rfl (fun h59 => ?_) (fun h59 => ?_)
              · replace h59 : (2 : Int) ≠ 2 := h59
                exfalso; omega
              · replace h59 : (2 : Int) = 2 := Classical.not_not.mp (show ¬ ((2 : Int) ≠ 2) from h59)
                refine e_Ok.ps1 (x := (1, 6 * t + 154)) (q := 190) 1 rfl ?_
                refine e_Ok.callV rfl (e_dq hd rfl) rfl (lT0 (t := t) rfl gt) rfl rfl (c_183 (t := t) (op := op) (H := H) j55 (by omega) hsv) (fun r60 w61 h62 => ?_)
                obtain ⟨rfl, q63f, q63T, q63s, q63x⟩ := h62
                refine e_Ok.nrm (q := 193) (st' := []) rfl rfl ?_
                refine e_Ok.ps2 (x := (0, 3)) (y := (0, 2)) (q := 195) 2 rfl ?_
                refine e_Ok.if2 rfl (fun h65 => ?_) (fun h65 => ?_)
                · replace h65 : (2 : Int) ≠ 3 := h65
                  refine e_Ok.ps2 (x := (0, 1)) (y := (0, 2)) (q := 211) 2 rfl ?_
                  refine e_Ok.if2 rfl (fun h66 => ?_) (fun h66 => ?_)
                  · replace h66 : (2 : Int) = 1 := h66
                    exfalso; omega
                  · replace h66 : (2 : Int) ≠ 1 := (show ¬ ((2 : Int) = 1) from h66)
                    refine e_Ok.ps1 (x := (0, 1)) (q := 219) 2 rfl ?_
                    refine e_Ok.rets rfl rfl ?_
                    have h4 := e_Has.get q63T (c := 6 * t + 154) (k := 4) (lo := 0) (hi := 20) (kT_4 (t := t) rfl gt) (by decide)
                    exact ⟨_, rfl, (show e_fr (kLv t) w w61 from e_fr.trans j54 (e_fr.mono q63f (fun c k q => by exact q))), q63T, q63s, rfl, (by rcases q63x with ⟨g1, g2⟩ | ⟨g1, g2, g3⟩; (rw [g2] at h4 ⊢; exact Or.inr (by omega)); (by_cases g : 0 < w61 (6 * t + 154) 4; exact Or.inl (g3 g); exact Or.inr (by omega)))⟩
                · replace h65 : (2 : Int) = 3 := Classical.not_not.mp (show ¬ ((2 : Int) ≠ 3) from h65)
                  exfalso; omega
            · replace h58 : (v1 (6 * t + 154) 15 : Int) > 0 := Int.not_le.mp (show ¬ ((v1 (6 * t + 154) 15 : Int) ≤ 0) from h58)
              have hsv : tS v1 (6 * t + 154) op H := tS.less hs (by omega) (by rw [show v1 (6 * t + 154) 4 = w (6 * t + 154) 4 from j56 _ _ (by omega)]; omega) (fun d k g1 g2 => j56 _ _ (by omega))
              have hq := hsv.2.2 (v1 (6 * t + 154) 15 - 1) (by omega) (by omega)
              have hqw := (hs.2.2 (v1 (6 * t + 154) 15 - 1) (by omega) (by omega)).1
              have hq3 : ((0 ≤ w (6 * t + 157) (v1 (6 * t + 154) 15 - 1) ∧ w (6 * t + 157) (v1 (6 * t + 154) 15 - 1) ≤ 3999) ∧ op (w (6 * t + 157) (v1 (6 * t + 154) 15 - 1) + 1) = 49 ∧ op (w (6 * t + 157) (v1 (6 * t + 154) 15 - 1) + 2) = 49 ∧ op (w (6 * t + 157) (v1 (6 * t + 154) 15 - 1) + 3) = 49) ∧ (0 ≤ v1 (6 * t + 158) (v1 (6 * t + 154) 15 - 1) ∧ v1 (6 * t + 158) (v1 (6 * t + 154) 15 - 1) ≤ 15) := by rw [show 6 * t + 157 = (6 * t + 154) + 3 by omega, show 6 * t + 158 = (6 * t + 154) + 4 by omega]; exact ⟨hqw, hq.2.1.1⟩
              clear hq hqw
              refine e_Ok.ps1 (x := (1, 6 * t + 154)) (q := 55) 1 rfl ?_
              refine e_Ok.getr (z := 6 * t + 157) rfl (lT0 (t := t) rfl gt) rfl rfl ((j54 (6 * t + 154) 18 (by first | exact no_c7_0 (by omega) | (unfold kLv; omega))).trans (Eq.trans (e_Has.eq hT (kT_18 (t := t) rfl gt)) (by omega))) (by omega) ?_
              refine e_Ok.ps1 (x := (1, 6 * t + 154)) (q := 59) 1 rfl ?_
              refine e_Ok.getf (z := v1 (6 * t + 154) 15) rfl (lT0 (t := t) rfl gt) rfl rfl rfl (by omega) ?_
              refine e_Ok.ps1 (x := (0, 1)) (q := 63) 1 rfl ?_
              refine e_Ok.sub' (z := v1 (6 * t + 154) 15 - 1) rfl rfl (by omega) ?_
              refine e_Ok.ald (z := w (6 * t + 157) (v1 (6 * t + 154) 15 - 1)) rfl (lT3 (t := t) rfl gt) rfl (by omega) ((j54 (6 * t + 157) (v1 (6 * t + 154) 15 - 1) (by unfold kLv; omega)).trans rfl) (by omega) ?_
              refine e_Ok.run (t' := (68, [(5, (0, w (6 * t + 157) (v1 (6 * t + 154) 15 - 1))), (0, (1, 6 * t + 154)), (1, (1, cd)), (2, (0, 2)), (3, (0, val)), (4, (0, 0))], [(1, 6 * t + 154)], v1)) 2 rfl ?_
              refine e_Ok.getr (z := 6 * t + 158) rfl (lT0 (t := t) rfl gt) rfl rfl ((j54 (6 * t + 154) 19 (by first | exact no_c7_1 (by omega) | (unfold kLv; omega))).trans (Eq.trans (e_Has.eq hT (kT_19 (t := t) rfl gt)) (by omega))) (by omega) ?_
              refine e_Ok.ps1 (x := (1, 6 * t + 154)) (q := 72) 1 rfl ?_
              refine e_Ok.getf (z := v1 (6 * t + 154) 15) rfl (lT0 (t := t) rfl gt) rfl rfl rfl (by omega) ?_
              refine e_Ok.ps1 (x := (0, 1)) (q := 76) 1 rfl ?_
              refine e_Ok.sub' (z := v1 (6 * t + 154) 15 - 1) rfl rfl (by omega) ?_
              refine e_Ok.ald (z := v1 (6 * t + 158) (v1 (6 * t + 154) 15 - 1)) rfl (lT4 (t := t) rfl gt) rfl (by omega) rfl (by omega) ?_
              refine e_Ok.ps1 (x := (0, 3)) (q := 79) 1 rfl ?_
              refine e_Ok.andm 3 2 rfl (by decide) (fun z67 hz67 => ?_)
              replace hz67 : z67 = (v1 (6 * t + 158) (v1 (6 * t + 154) 15 - 1)) % 4 := hz67
              have hz67r : 0 ≤ z67 ∧ z67 ≤ 3 := by omega
              refine e_Ok.run (t' := (84, [(6, (0, z67)), (5, (0, w (6 * t + 157) (v1 (6 * t + 154) 15 - 1))), (0, (1, 6 * t + 154)), (1, (1, cd)), (2, (0, 2)), (3, (0, val)), (4, (0, 0))], [(0, 1), (0, 2)], v1)) 3 rfl ?_
              refine e_Ok.if2 rfl (fun h68 => ?_) (fun h68 => ?_)
              · replace h68 : (2 : Int) ≠ 1 := h68
                refine e_Ok.ps2 (x := (0, 2)) (y := (0, z67)) (q := 126) 2 rfl ?_
                refine e_Ok.if2 rfl (fun h69 => ?_) (fun h69 => ?_)
                · replace h69 : (z67 : Int) = 2 := h69
                  refine e_Ok.ps2 (x := (1, 6 * t + 154)) (y := (1, 6 * t + 154)) (q := 173) 2 rfl ?_
                  refine e_Ok.getf (z := v1 (6 * t + 154) 15) rfl (lT0 (t := t) rfl gt) rfl rfl rfl (by omega) ?_
                  refine e_Ok.ps1 (x := (0, 1)) (q := 177) 1 rfl ?_
                  refine e_Ok.sub' (z := v1 (6 * t + 154) 15 - 1) rfl rfl (by omega) ?_
                  refine e_Ok.putf rfl (lT0 (t := t) rfl gt) rfl rfl ?_
                  generalize hw70 : e_up v1 (6 * t + 154) 15 (v1 (6 * t + 154) 15 - 1) = w70
                  have hT72 : e_Has kTy w70 := e_Has.upr j55 hw70 (kT_15 (t := t) rfl gt) (by omega)
                  refine e_Ok.ps0 (q := 45) 1 rfl ?_
                  refine e_Ok.sub kAlk (e_sub_of rfl ?_) (ih53  w70 ⟨(show e_fr (kLv t) w w70 from e_fr.up j54 hw70 (by first | exact Or.inl ⟨(by omega), Or.inr (Or.inr (Or.inr rfl))⟩ | (unfold kLv; omega))), hT72, (fun c k g => by rw [← hw70, e_up_ne _ _ (by omega)]; exact j56 c k g), (by have e : w70 (6 * t + 154) 15 = v1 (6 * t + 154) 15 - 1 := (e_ue hw70); omega)⟩ (by have e : w70 (6 * t + 154) 15 = v1 (6 * t + 154) 15 - 1 := (e_ue hw70); omega))
                  exact ⟨rfl, rfl, rfl, rfl, rfl, trivial⟩
                · replace h69 : (z67 : Int) ≠ 2 := (show ¬ ((z67 : Int) = 2) from h69)
                  refine e_Ok.ps3 (x := (0, 2)) (y := (0, w (6 * t + 157) (v1 (6 * t + 154) 15 - 1))) (z := (1, cd)) (q := 133) 3 rfl ?_
                  refine e_Ok.add (z := w (6 * t + 157) (v1 (6 * t + 154) 15 - 1) + 2) rfl rfl (by omega) ?_
                  refine e_Ok.callV rfl (e_dq hd rfl) rfl (lD0 hcd) rfl rfl (c_24 j55 (kCd.fr j54 (by unfold kLv; omega) (fun k => by unfold kLv; omega) hk) (by omega)) (fun r73 w74 h75 => ?_)
                  obtain ⟨z76, rfl, rfl, q77, q77r⟩ := h75
                  replace q77 : z76 = od (w (6 * t + 157) (v1 (6 * t + 154) 15 - 1) + 2) := q77
                  refine e_Ok.nrm (q := 137) (st' := [(0, z76)]) rfl rfl ?_
                  refine e_Ok.if1 rfl (fun h78 => ?_) (fun h78 => ?_)
                  · replace h78 : (z76 : Int) = 0 := h78
                    refine e_Ok.ps2 (x := (1, 6 * t + 154)) (y := (1, 6 * t + 154)) (q := 173) 2 rfl ?_
                    refine e_Ok.getf (z := v1 (6 * t + 154) 15) rfl (lT0 (t := t) rfl gt) rfl rfl rfl (by omega) ?_
                    refine e_Ok.ps1 (x := (0, 1)) (q := 177) 1 rfl ?_
                    refine e_Ok.sub' (z := v1 (6 * t + 154) 15 - 1) rfl rfl (by omega) ?_
                    refine e_Ok.putf rfl (lT0 (t := t) rfl gt) rfl rfl ?_
                    generalize hw79 : e_up v1 (6 * t + 154) 15 (v1 (6 * t + 154) 15 - 1) = w79
                    have hT81 : e_Has kTy w79 := e_Has.upr j55 hw79 (kT_15 (t := t) rfl gt) (by omega)
                    refine e_Ok.ps0 (q := 45) 1 rfl ?_
                    refine e_Ok.sub kAlk (e_sub_of rfl ?_) (ih53  w79 ⟨(show e_fr (kLv t) w w79 from e_fr.up j54 hw79 (by first | exact Or.inl ⟨(by omega), Or.inr (Or.inr (Or.inr rfl))⟩ | (unfold kLv; omega))), hT81, (fun c k g => by rw [← hw79, e_up_ne _ _ (by omega)]; exact j56 c k g), (by have e : w79 (6 * t + 154) 15 = v1 (6 * t + 154) 15 - 1 := (e_ue hw79); omega)⟩ (by have e : w79 (6 * t + 154) 15 = v1 (6 * t + 154) 15 - 1 := (e_ue hw79); omega))
                    exact ⟨rfl, rfl, rfl, rfl, rfl, trivial⟩
                  · replace h78 : (z76 : Int) ≠ 0 := (show ¬ ((z76 : Int) = 0) from h78)
                    refine e_Ok.ps1 (x := (1, 6 * t + 154)) (q := 141) 1 rfl ?_
                    refine e_Ok.getr (z := 6 * t + 159) rfl (lT0 (t := t) rfl gt) rfl rfl ((j54 (6 * t + 154) 20 (by first | exact no_c7_2 (by omega) | (unfold kLv; omega))).trans (Eq.trans (e_Has.eq hT (kT_20 (t := t) rfl gt)) (by omega))) (by omega) ?_
                    refine e_Ok.ps1 (x := (1, 6 * t + 154)) (q := 145) 1 rfl ?_
                    refine e_Ok.getf (z := v1 (6 * t + 154) 15) rfl (lT0 (t := t) rfl gt) rfl rfl rfl (by omega) ?_
                    refine e_Ok.ps1 (x := (0, 1)) (q := 149) 1 rfl ?_
                    refine e_Ok.sub' (z := v1 (6 * t + 154) 15 - 1) rfl rfl (by omega) ?_
                    refine e_Ok.ps1 (x := (0, val)) (q := 151) 1 rfl ?_
                    refine e_Ok.ast rfl (lT5 (t := t) rfl gt) rfl rfl (by omega) ?_
                    generalize hw82 : e_up v1 (6 * t + 159) (v1 (6 * t + 154) 15 - 1) val = w82
                    have f83 : e_fr (kLv t) w w82 := e_fr.up j54 hw82 (by first | exact Or.inr (Or.inr (by omega)) | (unfold kLv; omega))
                    have hT84 : e_Has kTy w82 := e_Has.ups j55 hw82 (kT159 (t := t) _ rfl gt)
                    have hsw : tS w82 (6 * t + 154) op H := tS.val hsv (by omega) (by rw [show (6 * t + 154) + 4 = 6 * t + 158 by omega]; omega) hw82
                    refine e_Ok.ps4 (x := (0, 2)) (y := (0, 2)) (z := (0, 2)) (u := (1, 6 * t + 154)) (q := 156) 4 rfl ?_
                    refine e_Ok.shl2 rfl (by omega) (fun z85 hz85 => ?_)
                    replace hz85 : z85 = 2 * 4 := hz85
                    refine e_Ok.or2 rfl (by omega) (by omega) (fun z86 hz86 => ?_)
                    replace hz86 : z86 = 2 + z85 := hz86
                    refine e_Ok.ps3 (x := (0, 2)) (y := (0, w (6 * t + 157) (v1 (6 * t + 154) 15 - 1))) (z := (1, cd)) (q := 162) 3 rfl ?_
                    refine e_Ok.add (z := w (6 * t + 157) (v1 (6 * t + 154) 15 - 1) + 2) rfl rfl (by omega) ?_
                    refine e_Ok.callV rfl (e_dq hd rfl) rfl (lD0 hcd) rfl rfl (c_24 hT84 (kCd.fr f83 (by unfold kLv; omega) (fun k => by unfold kLv; omega) hk) (by omega)) (fun r87 w88 h89 => ?_)
                    obtain ⟨z90, rfl, rfl, q91, q91r⟩ := h89
                    replace q91 : z90 = od (w (6 * t + 157) (v1 (6 * t + 154) 15 - 1) + 2) := q91
                    refine e_Ok.nrm (q := 166) (st' := [(0, z90), (0, z86), (1, 6 * t + 154)]) rfl rfl ?_
                    refine e_Ok.callV rfl (e_dq hd rfl) rfl (lT0 (t := t) rfl gt) rfl rfl (c_189 (t := t) (op := op) (H := H) hT84 (by omega) (by omega) (by omega) (by have e : w82 (6 * t + 154) 15 = v1 (6 * t + 154) 15 := (e_uq hw82 (Or.inl (by omega)) rfl); omega) hsw (fun g => by rw [show w82 (6 * t + 154) 15 = v1 (6 * t + 154) 15 from (e_uq hw82 (Or.inl (by omega)) rfl), show (6 * t + 154) + 5 = 6 * t + 159 by omega, ← hw82, e_up_eq]; exact ⟨by omega, fun g => by omega⟩)) (fun r92 w93 h94 => ?_)
                    obtain ⟨rfl, q95f, q95T, q95s, q95p, q95n⟩ := h94
                    refine e_Ok.nrm (q := 169) (st' := []) rfl rfl ?_
                    refine e_Ok.ps1 (x := (0, 1)) (q := 170) 1 rfl ?_
                    refine e_Ok.rets rfl rfl ?_
                    have ht := (hD.2.2 (w (6 * t + 157) (v1 (6 * t + 154) 15 - 1) + 2)).2.1 (Or.inr (Or.inr (by omega)))
                    exact ⟨_, rfl, (show e_fr (kLv t) w w93 from e_fr.trans f83 (e_fr.mono q95f (fun c k q => by exact q))), q95T, q95s, rfl, Or.inl (by rw [q95p, q91]; exact ht)⟩
              · replace h68 : (2 : Int) = 1 := Classical.not_not.mp (show ¬ ((2 : Int) ≠ 1) from h68)
                exfalso; omega
        refine e_Ok.sub kAlk (e_sub_of rfl ?_) (hL52 (600 + 1 : Int).toNat  w ⟨(e_fr.refl w), hT, (fun _ _ _ => rfl), by omega⟩ (by omega))
        exact ⟨rfl, rfl, rfl, rfl, rfl, trivial⟩
      · replace h51 : (2 : Int) = 3 := Classical.not_not.mp (show ¬ ((2 : Int) ≠ 3) from h51)
        exfalso; omega
theorem c_188_3 {d : Nat} (hd : 22 ≤ d) {w : eW} (hT : e_Has kTy w) {t : Int} (gt : 0 ≤ t ∧ t ≤ 15) {cd : Int} {op od : Int → Int} (hk : kCd w cd op od) {col : Int → Int} (hD : cD op od col) {H val : Int} (gv : -2147483648 ≤ val ∧ val ≤ 2147483647) (hs : tS w (6 * t + 154) op H) (hvb : op (val + 1) = 49) : e_Ok 20 elay kcode eI d 188 (0, [(0, (1, 6 * t + 154)), (1, (1, cd)), (2, (0, 3)), (3, (0, val))], [], w) (fun r w' => ∃ z : Int, r = [(0, z)] ∧ e_fr (kLv t) w w' ∧ e_Has kTy w' ∧ tS w' (6 * t + 154) op H ∧ z = 1 ∧ (40 ≤ op (w' (6 * t + 154) 3) ∨ w' (6 * t + 154) 4 = 0)) := by
  obtain ⟨d, rfl⟩ : ∃ e, d = e + 1 := ⟨d - 1, by omega⟩
  have hcd := hk.1
  have hcd0 := hk.1
  unfold isCd at hcd0
  have h15 := e_Has.get hT (c := 6 * t + 154) (k := 15) (lo := 0) (hi := 600) (kT_15 (t := t) rfl gt) (by decide)
  have h4 := e_Has.get hT (c := 6 * t + 154) (k := 4) (lo := 0) (hi := 20) (kT_4 (t := t) rfl gt) (by decide)
  have hH := hs.1
  have hvp := hk.2 (val + 1)
  have hvl := e_Has.get hT (c := cd) (k := 0) (lo := 0) (hi := 4000) (kD_0 hcd) (by decide)
  refine e_Ok.ps2 (x := (0, 1)) (y := (0, 3)) (q := 2) 2 rfl ?_
  refine e_Ok.if2 rfl (fun h1 => ?_) (fun h1 => ?_)
  · replace h1 : (3 : Int) = 1 := h1
    exfalso; omega
  · replace h1 : (3 : Int) ≠ 1 := (show ¬ ((3 : Int) = 1) from h1)
    refine e_Ok.ps1 (x := (1, 6 * t + 154)) (q := 6) 1 rfl ?_
    have h2 := (e_Has.get hT (c := 6 * t + 154) (k := 4) (lo := 0) (hi := 20) (kT_4 (t := t) rfl gt) (by decide))
    refine e_Ok.getf (z := w (6 * t + 154) 4) rfl (lT0 (t := t) rfl gt) rfl rfl rfl (e_bq h2 (by decide) (by decide)) ?_
    refine e_Ok.ps1 (x := (0, 1)) (q := 10) 1 rfl ?_
    refine e_Ok.if2 rfl (fun h3 => ?_) (fun h3 => ?_)
    · replace h3 : (w (6 * t + 154) 4 : Int) ≥ 1 := h3
      have hq := hs.2.1 (w (6 * t + 154) 4 - 1) (by omega) (by omega)
      have hq2 : 0 ≤ w (6 * t + 156) (w (6 * t + 154) 4 - 1) ∧ w (6 * t + 156) (w (6 * t + 154) 4 - 1) ≤ H := by rw [show 6 * t + 156 = (6 * t + 154) + 2 by omega]; exact hq.2.2
      clear hq
      refine e_Ok.ps1 (x := (1, 6 * t + 154)) (q := 18) 1 rfl ?_
      refine e_Ok.getr (z := 6 * t + 156) rfl (lT0 (t := t) rfl gt) rfl rfl (Eq.trans (e_Has.eq hT (kT_17 (t := t) rfl gt)) (by omega)) (by omega) ?_
      refine e_Ok.ps1 (x := (1, 6 * t + 154)) (q := 22) 1 rfl ?_
      refine e_Ok.getf (z := w (6 * t + 154) 4) rfl (lT0 (t := t) rfl gt) rfl rfl rfl (by omega) ?_
      refine e_Ok.ps1 (x := (0, 1)) (q := 26) 1 rfl ?_
      refine e_Ok.sub' (z := w (6 * t + 154) 4 - 1) rfl rfl (by omega) ?_
      refine e_Ok.ald (z := w (6 * t + 156) (w (6 * t + 154) 4 - 1)) rfl (lT2 (t := t) rfl gt) rfl (by omega) rfl (by omega) ?_
      refine e_Ok.run (t' := (32, [(4, (0, w (6 * t + 156) (w (6 * t + 154) 4 - 1))), (0, (1, 6 * t + 154)), (1, (1, cd)), (2, (0, 3)), (3, (0, val))], [(0, 3), (0, 3)], w)) 3 rfl ?_
      refine e_Ok.if2 rfl (fun h4 => ?_) (fun h4 => ?_)
      · replace h4 : (3 : Int) ≠ 3 := h4
        exfalso; omega
      · replace h4 : (3 : Int) = 3 := Classical.not_not.mp (show ¬ ((3 : Int) ≠ 3) from h4)
        refine e_Ok.ps3 (x := (0, val)) (y := (1, cd)) (z := (0, w (6 * t + 156) (w (6 * t + 154) 4 - 1))) (q := 39) 3 rfl ?_
        refine e_Ok.callV rfl (e_dq hd rfl) rfl (lD0 hcd) rfl rfl (c_24 hT hk (by omega)) (fun r5 w6 h7 => ?_)
        obtain ⟨z8, rfl, rfl, q9, q9r⟩ := h7
        replace q9 : z8 = od val := q9
        refine e_Ok.nrm (q := 42) (st' := [(0, z8), (0, w (6 * t + 156) (w (6 * t + 154) 4 - 1))]) rfl rfl ?_
        refine e_Ok.add (z := w (6 * t + 156) (w (6 * t + 154) 4 - 1) + z8) rfl rfl (by omega) ?_
        refine e_Ok.run (t' := (45, [(4, (0, w (6 * t + 156) (w (6 * t + 154) 4 - 1) + z8)), (0, (1, 6 * t + 154)), (1, (1, cd)), (2, (0, 3)), (3, (0, val))], [], w)) 1 rfl ?_
        have hL10 : ∀ (nn : Nat) (v1 : eW), e_fr (kLv t) w v1 ∧ e_Has kTy v1 ∧ (∀ c k, ¬ (c = (6 * t + 154) ∧ k = 15) → v1 c k = w c k) ∧ ((0 ≤ v1 (6 * t + 154) 15 ∧ v1 (6 * t + 154) 15 ≤ w (6 * t + 154) 15)) → v1 (6 * t + 154) 15 < nn → e_Ok 20 elay kcode eI (d + 1) 188 (45, [(0, (1, 6 * t + 154)), (1, (1, cd)), (2, (0, 3)), (3, (0, val)), (4, (0, w (6 * t + 156) (w (6 * t + 154) 4 - 1) + z8))], [], v1) (fun r w' => ∃ z : Int, r = [(0, z)] ∧ e_fr (kLv t) w w' ∧ e_Has kTy w' ∧ tS w' (6 * t + 154) op H ∧ z = 1 ∧ (40 ≤ op (w' (6 * t + 154) 3) ∨ w' (6 * t + 154) 4 = 0)) := by
          intro nn
          induction nn with
          | zero => intro v1 hj hm; obtain ⟨j12, j13, j14, j15⟩ := hj; exfalso; omega
          | succ nn ih11 =>
            intro v1 hj hm
            obtain ⟨j12, j13, j14, j15⟩ := hj
            refine e_Ok.run (t' := (46, [(0, (1, 6 * t + 154)), (1, (1, cd)), (2, (0, 3)), (3, (0, val)), (4, (0, w (6 * t + 156) (w (6 * t + 154) 4 - 1) + z8))], [(1, 6 * t + 154)], v1)) 1 rfl ?_
            refine e_Ok.getf (z := v1 (6 * t + 154) 15) rfl (lT0 (t := t) rfl gt) rfl rfl rfl (by omega) ?_
            refine e_Ok.ps1 (x := (0, w (6 * t + 156) (w (6 * t + 154) 4 - 1) + z8)) (q := 51) 1 rfl ?_
            refine e_Ok.if2 rfl (fun h16 => ?_) (fun h16 => ?_)
            · replace h16 : (v1 (6 * t + 154) 15 : Int) ≤ w (6 * t + 156) (w (6 * t + 154) 4 - 1) + z8 := h16
              have hsv : tS v1 (6 * t + 154) op H := tS.less hs (by omega) (by rw [show v1 (6 * t + 154) 4 = w (6 * t + 154) 4 from j14 _ _ (by omega)]; omega) (fun d k g1 g2 => j14 _ _ (by omega))
              refine e_Ok.ps2 (x := (0, 2)) (y := (0, 3)) (q := 186) 2 rfl ?_
              refine e_Ok.if2 rfl (fun h17 => ?_) (fun h17 => ?_)
              · replace h17 : (3 : Int) ≠ 2 := h17
                refine e_Ok.ps2 (x := (0, 3)) (y := (0, 3)) (q := 195) 2 rfl ?_
                refine e_Ok.if2 rfl (fun h18 => ?_) (fun h18 => ?_)
                · replace h18 : (3 : Int) ≠ 3 := h18
                  exfalso; omega
                · replace h18 : (3 : Int) = 3 := Classical.not_not.mp (show ¬ ((3 : Int) ≠ 3) from h18)
                  refine e_Ok.ps4 (x := (0, 1)) (y := (0, val)) (z := (1, cd)) (u := (1, 6 * t + 154)) (q := 202) 4 rfl ?_
                  refine e_Ok.add (z := val + 1) rfl rfl (by omega) ?_
                  refine e_Ok.callV rfl (e_dq hd rfl) rfl (lD0 hcd) rfl rfl (c_24 j13 (kCd.fr j12 (by unfold kLv; omega) (fun k => by unfold kLv; omega) hk) (by omega)) (fun r19 w20 h21 => ?_)
                  obtain ⟨z22, rfl, rfl, q23, q23r⟩ := h21
                  replace q23 : z22 = od (val + 1) := q23
                  refine e_Ok.nrm (q := 206) (st' := [(0, z22), (1, 6 * t + 154)]) rfl rfl ?_
                  refine e_Ok.putf rfl (lT0 (t := t) rfl gt) rfl rfl ?_
                  generalize hw24 : e_up v1 (6 * t + 154) 3 z22 = w24
                  have hT26 : e_Has kTy w24 := e_Has.upr j13 hw24 (kT_3 (t := t) rfl gt) (by omega)
                  refine e_Ok.ps2 (x := (0, 1)) (y := (0, 3)) (q := 211) 2 rfl ?_
                  refine e_Ok.if2 rfl (fun h27 => ?_) (fun h27 => ?_)
                  · replace h27 : (3 : Int) = 1 := h27
                    exfalso; omega
                  · replace h27 : (3 : Int) ≠ 1 := (show ¬ ((3 : Int) = 1) from h27)
                    refine e_Ok.ps1 (x := (0, 1)) (q := 219) 2 rfl ?_
                    refine e_Ok.rets rfl rfl ?_
                    have ht := (hD.2.2 (val + 1)).2.1 (Or.inr (Or.inr hvb))
                    exact ⟨_, rfl, (show e_fr (kLv t) w w24 from e_fr.up j12 hw24 (by first | exact Or.inl ⟨(by omega), Or.inl rfl⟩ | (unfold kLv; omega))), hT26, tS.oth hsv (by omega) hw24, rfl, Or.inl (by rw [show w24 (6 * t + 154) 3 = z22 from (e_ue hw24), q23]; exact ht)⟩
              · replace h17 : (3 : Int) = 2 := Classical.not_not.mp (show ¬ ((3 : Int) ≠ 2) from h17)
                exfalso; omega
            · replace h16 : (v1 (6 * t + 154) 15 : Int) > w (6 * t + 156) (w (6 * t + 154) 4 - 1) + z8 := Int.not_le.mp (show ¬ ((v1 (6 * t + 154) 15 : Int) ≤ w (6 * t + 156) (w (6 * t + 154) 4 - 1) + z8) from h16)
              have hsv : tS v1 (6 * t + 154) op H := tS.less hs (by omega) (by rw [show v1 (6 * t + 154) 4 = w (6 * t + 154) 4 from j14 _ _ (by omega)]; omega) (fun d k g1 g2 => j14 _ _ (by omega))
              have hq := hsv.2.2 (v1 (6 * t + 154) 15 - 1) (by omega) (by omega)
              have hqw := (hs.2.2 (v1 (6 * t + 154) 15 - 1) (by omega) (by omega)).1
              have hq3 : ((0 ≤ w (6 * t + 157) (v1 (6 * t + 154) 15 - 1) ∧ w (6 * t + 157) (v1 (6 * t + 154) 15 - 1) ≤ 3999) ∧ op (w (6 * t + 157) (v1 (6 * t + 154) 15 - 1) + 1) = 49 ∧ op (w (6 * t + 157) (v1 (6 * t + 154) 15 - 1) + 2) = 49 ∧ op (w (6 * t + 157) (v1 (6 * t + 154) 15 - 1) + 3) = 49) ∧ (0 ≤ v1 (6 * t + 158) (v1 (6 * t + 154) 15 - 1) ∧ v1 (6 * t + 158) (v1 (6 * t + 154) 15 - 1) ≤ 15) := by rw [show 6 * t + 157 = (6 * t + 154) + 3 by omega, show 6 * t + 158 = (6 * t + 154) + 4 by omega]; exact ⟨hqw, hq.2.1.1⟩
              clear hq hqw
              refine e_Ok.ps1 (x := (1, 6 * t + 154)) (q := 55) 1 rfl ?_
              refine e_Ok.getr (z := 6 * t + 157) rfl (lT0 (t := t) rfl gt) rfl rfl ((j12 (6 * t + 154) 18 (by first | exact no_c7_0 (by omega) | (unfold kLv; omega))).trans (Eq.trans (e_Has.eq hT (kT_18 (t := t) rfl gt)) (by omega))) (by omega) ?_
              refine e_Ok.ps1 (x := (1, 6 * t + 154)) (q := 59) 1 rfl ?_
              refine e_Ok.getf (z := v1 (6 * t + 154) 15) rfl (lT0 (t := t) rfl gt) rfl rfl rfl (by omega) ?_
              refine e_Ok.ps1 (x := (0, 1)) (q := 63) 1 rfl ?_
              refine e_Ok.sub' (z := v1 (6 * t + 154) 15 - 1) rfl rfl (by omega) ?_
              refine e_Ok.ald (z := w (6 * t + 157) (v1 (6 * t + 154) 15 - 1)) rfl (lT3 (t := t) rfl gt) rfl (by omega) ((j12 (6 * t + 157) (v1 (6 * t + 154) 15 - 1) (by unfold kLv; omega)).trans rfl) (by omega) ?_
              refine e_Ok.run (t' := (68, [(5, (0, w (6 * t + 157) (v1 (6 * t + 154) 15 - 1))), (0, (1, 6 * t + 154)), (1, (1, cd)), (2, (0, 3)), (3, (0, val)), (4, (0, w (6 * t + 156) (w (6 * t + 154) 4 - 1) + z8))], [(1, 6 * t + 154)], v1)) 2 rfl ?_
              refine e_Ok.getr (z := 6 * t + 158) rfl (lT0 (t := t) rfl gt) rfl rfl ((j12 (6 * t + 154) 19 (by first | exact no_c7_1 (by omega) | (unfold kLv; omega))).trans (Eq.trans (e_Has.eq hT (kT_19 (t := t) rfl gt)) (by omega))) (by omega) ?_
              refine e_Ok.ps1 (x := (1, 6 * t + 154)) (q := 72) 1 rfl ?_
              refine e_Ok.getf (z := v1 (6 * t + 154) 15) rfl (lT0 (t := t) rfl gt) rfl rfl rfl (by omega) ?_
              refine e_Ok.ps1 (x := (0, 1)) (q := 76) 1 rfl ?_
              refine e_Ok.sub' (z := v1 (6 * t + 154) 15 - 1) rfl rfl (by omega) ?_
              refine e_Ok.ald (z := v1 (6 * t + 158) (v1 (6 * t + 154) 15 - 1)) rfl (lT4 (t := t) rfl gt) rfl (by omega) rfl (by omega) ?_
              refine e_Ok.ps1 (x := (0, 3)) (q := 79) 1 rfl ?_
              refine e_Ok.andm 3 2 rfl (by decide) (fun z28 hz28 => ?_)
              replace hz28 : z28 = (v1 (6 * t + 158) (v1 (6 * t + 154) 15 - 1)) % 4 := hz28
              have hz28r : 0 ≤ z28 ∧ z28 ≤ 3 := by omega
              refine e_Ok.run (t' := (84, [(6, (0, z28)), (5, (0, w (6 * t + 157) (v1 (6 * t + 154) 15 - 1))), (0, (1, 6 * t + 154)), (1, (1, cd)), (2, (0, 3)), (3, (0, val)), (4, (0, w (6 * t + 156) (w (6 * t + 154) 4 - 1) + z8))], [(0, 1), (0, 3)], v1)) 3 rfl ?_
              refine e_Ok.if2 rfl (fun h29 => ?_) (fun h29 => ?_)
              · replace h29 : (3 : Int) ≠ 1 := h29
                refine e_Ok.ps2 (x := (0, 2)) (y := (0, z28)) (q := 126) 2 rfl ?_
                refine e_Ok.if2 rfl (fun h30 => ?_) (fun h30 => ?_)
                · replace h30 : (z28 : Int) = 2 := h30
                  refine e_Ok.ps2 (x := (1, 6 * t + 154)) (y := (1, 6 * t + 154)) (q := 173) 2 rfl ?_
                  refine e_Ok.getf (z := v1 (6 * t + 154) 15) rfl (lT0 (t := t) rfl gt) rfl rfl rfl (by omega) ?_
                  refine e_Ok.ps1 (x := (0, 1)) (q := 177) 1 rfl ?_
                  refine e_Ok.sub' (z := v1 (6 * t + 154) 15 - 1) rfl rfl (by omega) ?_
                  refine e_Ok.putf rfl (lT0 (t := t) rfl gt) rfl rfl ?_
                  generalize hw31 : e_up v1 (6 * t + 154) 15 (v1 (6 * t + 154) 15 - 1) = w31
                  have hT33 : e_Has kTy w31 := e_Has.upr j13 hw31 (kT_15 (t := t) rfl gt) (by omega)
                  refine e_Ok.ps0 (q := 45) 1 rfl ?_
                  refine e_Ok.sub kAlk (e_sub_of rfl ?_) (ih11  w31 ⟨(show e_fr (kLv t) w w31 from e_fr.up j12 hw31 (by first | exact Or.inl ⟨(by omega), Or.inr (Or.inr (Or.inr rfl))⟩ | (unfold kLv; omega))), hT33, (fun c k g => by rw [← hw31, e_up_ne _ _ (by omega)]; exact j14 c k g), (by have e : w31 (6 * t + 154) 15 = v1 (6 * t + 154) 15 - 1 := (e_ue hw31); omega)⟩ (by have e : w31 (6 * t + 154) 15 = v1 (6 * t + 154) 15 - 1 := (e_ue hw31); omega))
                  exact ⟨rfl, rfl, rfl, rfl, rfl, trivial⟩
                · replace h30 : (z28 : Int) ≠ 2 := (show ¬ ((z28 : Int) = 2) from h30)
                  refine e_Ok.ps3 (x := (0, 2)) (y := (0, w (6 * t + 157) (v1 (6 * t + 154) 15 - 1))) (z := (1, cd)) (q := 133) 3 rfl ?_
                  refine e_Ok.add (z := w (6 * t + 157) (v1 (6 * t + 154) 15 - 1) + 2) rfl rfl (by omega) ?_
                  refine e_Ok.callV rfl (e_dq hd rfl) rfl (lD0 hcd) rfl rfl (c_24 j13 (kCd.fr j12 (by unfold kLv; omega) (fun k => by unfold kLv; omega) hk) (by omega)) (fun r34 w35 h36 => ?_)
                  obtain ⟨z37, rfl, rfl, q38, q38r⟩ := h36
                  replace q38 : z37 = od (w (6 * t + 157) (v1 (6 * t + 154) 15 - 1) + 2) := q38
                  refine e_Ok.nrm (q := 137) (st' := [(0, z37)]) rfl rfl ?_
                  refine e_Ok.if1 rfl (fun h40 => ?_) (fun h40 => ?_)
                  · replace h40 : (z37 : Int) = 0 := h40
                    refine e_Ok.ps2 (x := (1, 6 * t + 154)) (y := (1, 6 * t + 154)) (q := 173) 2 rfl ?_
                    refine e_Ok.getf (z := v1 (6 * t + 154) 15) rfl (lT0 (t := t) rfl gt) rfl rfl rfl (by omega) ?_
                    refine e_Ok.ps1 (x := (0, 1)) (q := 177) 1 rfl ?_
                    refine e_Ok.sub' (z := v1 (6 * t + 154) 15 - 1) rfl rfl (by omega) ?_
                    refine e_Ok.putf rfl (lT0 (t := t) rfl gt) rfl rfl ?_
                    generalize hw41 : e_up v1 (6 * t + 154) 15 (v1 (6 * t + 154) 15 - 1) = w41
                    have hT43 : e_Has kTy w41 := e_Has.upr j13 hw41 (kT_15 (t := t) rfl gt) (by omega)
                    refine e_Ok.ps0 (q := 45) 1 rfl ?_
                    refine e_Ok.sub kAlk (e_sub_of rfl ?_) (ih11  w41 ⟨(show e_fr (kLv t) w w41 from e_fr.up j12 hw41 (by first | exact Or.inl ⟨(by omega), Or.inr (Or.inr (Or.inr rfl))⟩ | (unfold kLv; omega))), hT43, (fun c k g => by rw [← hw41, e_up_ne _ _ (by omega)]; exact j14 c k g), (by have e : w41 (6 * t + 154) 15 = v1 (6 * t + 154) 15 - 1 := (e_ue hw41); omega)⟩ (by have e : w41 (6 * t + 154) 15 = v1 (6 * t + 154) 15 - 1 := (e_ue hw41); omega))
                    exact ⟨rfl, rfl, rfl, rfl, rfl, trivial⟩
                  · replace h40 : (z37 : Int) ≠ 0 := (show ¬ ((z37 : Int) = 0) from h40)
                    refine e_Ok.ps1 (x := (1, 6 * t + 154)) (q := 141) 1 rfl ?_
                    refine e_Ok.getr (z := 6 * t + 159) rfl (lT0 (t := t) rfl gt) rfl rfl ((j12 (6 * t + 154) 20 (by first | exact no_c7_2 (by omega) | (unfold kLv; omega))).trans (Eq.trans (e_Has.eq hT (kT_20 (t := t) rfl gt)) (by omega))) (by omega) ?_
                    refine e_Ok.ps1 (x := (1, 6 * t + 154)) (q := 145) 1 rfl ?_
                    refine e_Ok.getf (z := v1 (6 * t + 154) 15) rfl (lT0 (t := t) rfl gt) rfl rfl rfl (by omega) ?_
                    refine e_Ok.ps1 (x := (0, 1)) (q := 149) 1 rfl ?_
                    refine e_Ok.sub' (z := v1 (6 * t + 154) 15 - 1) rfl rfl (by omega) ?_
                    refine e_Ok.ps1 (x := (0, val)) (q := 151) 1 rfl ?_
                    refine e_Ok.ast rfl (lT5 (t := t) rfl gt) rfl rfl (by omega) ?_
                    generalize hw44 : e_up v1 (6 * t + 159) (v1 (6 * t + 154) 15 - 1) val = w44
                    have f45 : e_fr (kLv t) w w44 := e_fr.up j12 hw44 (by first | exact Or.inr (Or.inr (by omega)) | (unfold kLv; omega))
                    have hT46 : e_Has kTy w44 := e_Has.ups j13 hw44 (kT159 (t := t) _ rfl gt)
                    have hsw : tS w44 (6 * t + 154) op H := tS.val hsv (by omega) (by rw [show (6 * t + 154) + 4 = 6 * t + 158 by omega]; omega) hw44
                    refine e_Ok.ps4 (x := (0, 2)) (y := (0, 3)) (z := (0, 2)) (u := (1, 6 * t + 154)) (q := 156) 4 rfl ?_
                    refine e_Ok.shl2 rfl (by omega) (fun z47 hz47 => ?_)
                    replace hz47 : z47 = 3 * 4 := hz47
                    refine e_Ok.or2 rfl (by omega) (by omega) (fun z48 hz48 => ?_)
                    replace hz48 : z48 = 2 + z47 := hz48
                    refine e_Ok.ps3 (x := (0, 2)) (y := (0, w (6 * t + 157) (v1 (6 * t + 154) 15 - 1))) (z := (1, cd)) (q := 162) 3 rfl ?_
                    refine e_Ok.add (z := w (6 * t + 157) (v1 (6 * t + 154) 15 - 1) + 2) rfl rfl (by omega) ?_
                    refine e_Ok.callV rfl (e_dq hd rfl) rfl (lD0 hcd) rfl rfl (c_24 hT46 (kCd.fr f45 (by unfold kLv; omega) (fun k => by unfold kLv; omega) hk) (by omega)) (fun r49 w50 h51 => ?_)
                    obtain ⟨z52, rfl, rfl, q53, q53r⟩ := h51
                    replace q53 : z52 = od (w (6 * t + 157) (v1 (6 * t + 154) 15 - 1) + 2) := q53
                    refine e_Ok.nrm (q := 166) (st' := [(0, z52), (0, z48), (1, 6 * t + 154)]) rfl rfl ?_
                    refine e_Ok.callV rfl (e_dq hd rfl) rfl (lT0 (t := t) rfl gt) rfl rfl (c_189 (t := t) (op := op) (H := H) hT46 (by omega) (by omega) (by omega) (by have e : w44 (6 * t + 154) 15 = v1 (6 * t + 154) 15 := (e_uq hw44 (Or.inl (by omega)) rfl); omega) hsw (fun g => by rw [show w44 (6 * t + 154) 15 = v1 (6 * t + 154) 15 from (e_uq hw44 (Or.inl (by omega)) rfl), show (6 * t + 154) + 5 = 6 * t + 159 by omega, ← hw44, e_up_eq]; exact ⟨by omega, fun _ => hvb⟩)) (fun r54 w55 h56 => ?_)
                    obtain ⟨rfl, q57f, q57T, q57s, q57p, q57n⟩ := h56
                    refine e_Ok.nrm (q := 169) (st' := []) rfl rfl ?_
                    refine e_Ok.ps1 (x := (0, 1)) (q := 170) 1 rfl ?_
                    refine e_Ok.rets rfl rfl ?_
                    have ht := (hD.2.2 (w (6 * t + 157) (v1 (6 * t + 154) 15 - 1) + 2)).2.1 (Or.inr (Or.inr (by omega)))
                    exact ⟨_, rfl, (show e_fr (kLv t) w w55 from e_fr.trans f45 (e_fr.mono q57f (fun c k q => by exact q))), q57T, q57s, rfl, Or.inl (by rw [q57p, q53]; exact ht)⟩
              · replace h29 : (3 : Int) = 1 := Classical.not_not.mp (show ¬ ((3 : Int) ≠ 1) from h29)
                exfalso; omega
        refine e_Ok.sub kAlk (e_sub_of rfl ?_) (hL10 (600 + 1 : Int).toNat  w ⟨(e_fr.refl w), hT, (fun _ _ _ => rfl), by omega⟩ (by omega))
        exact ⟨rfl, rfl, rfl, rfl, rfl, trivial⟩
    · replace h3 : (w (6 * t + 154) 4 : Int) < 1 := Int.not_le.mp (show ¬ ((w (6 * t + 154) 4 : Int) ≥ 1) from h3)
      refine e_Ok.run (t' := (32, [(4, (0, 0)), (0, (1, 6 * t + 154)), (1, (1, cd)), (2, (0, 3)), (3, (0, val))], [(0, 3), (0, 3)], w)) 5 rfl ?_
      refine e_Ok.if2 rfl (fun h59 => ?_) (fun h59 => ?_)
      · replace h59 : (3 : Int) ≠ 3 := h59
        exfalso; omega
      · replace h59 : (3 : Int) = 3 := Classical.not_not.mp (show ¬ ((3 : Int) ≠ 3) from h59)
        refine e_Ok.ps3 (x := (0, val)) (y := (1, cd)) (z := (0, 0)) (q := 39) 3 rfl ?_
        refine e_Ok.callV rfl (e_dq hd rfl) rfl (lD0 hcd) rfl rfl (c_24 hT hk (by omega)) (fun r60 w61 h62 => ?_)
        obtain ⟨z63, rfl, rfl, q64, q64r⟩ := h62
        replace q64 : z63 = od val := q64
        refine e_Ok.nrm (q := 42) (st' := [(0, z63), (0, 0)]) rfl rfl ?_
        refine e_Ok.add (z := z63) rfl (by omega) (by omega) ?_
        refine e_Ok.run (t' := (45, [(4, (0, z63)), (0, (1, 6 * t + 154)), (1, (1, cd)), (2, (0, 3)), (3, (0, val))], [], w)) 1 rfl ?_
        have hL65 : ∀ (nn : Nat) (v1 : eW), e_fr (kLv t) w v1 ∧ e_Has kTy v1 ∧ (∀ c k, ¬ (c = (6 * t + 154) ∧ k = 15) → v1 c k = w c k) ∧ ((0 ≤ v1 (6 * t + 154) 15 ∧ v1 (6 * t + 154) 15 ≤ w (6 * t + 154) 15)) → v1 (6 * t + 154) 15 < nn → e_Ok 20 elay kcode eI (d + 1) 188 (45, [(0, (1, 6 * t + 154)), (1, (1, cd)), (2, (0, 3)), (3, (0, val)), (4, (0, z63))], [], v1) (fun r w' => ∃ z : Int, r = [(0, z)] ∧ e_fr (kLv t) w w' ∧ e_Has kTy w' ∧ tS w' (6 * t + 154) op H ∧ z = 1 ∧ (40 ≤ op (w' (6 * t + 154) 3) ∨ w' (6 * t + 154) 4 = 0)) := by
          intro nn
          induction nn with
          | zero => intro v1 hj hm; obtain ⟨j67, j68, j69, j70⟩ := hj; exfalso; omega
          | succ nn ih66 =>
            intro v1 hj hm
            obtain ⟨j67, j68, j69, j70⟩ := hj
            refine e_Ok.run (t' := (46, [(0, (1, 6 * t + 154)), (1, (1, cd)), (2, (0, 3)), (3, (0, val)), (4, (0, z63))], [(1, 6 * t + 154)], v1)) 1 rfl ?_
            refine e_Ok.getf (z := v1 (6 * t + 154) 15) rfl (lT0 (t := t) rfl gt) rfl rfl rfl (by omega) ?_
            refine e_Ok.ps1 (x := (0, z63)) (q := 51) 1 rfl ?_
            refine e_Ok.if2 rfl (fun h71 => ?_) (fun h71 => ?_)
            · replace h71 : (v1 (6 * t + 154) 15 : Int) ≤ z63 := h71
              have hsv : tS v1 (6 * t + 154) op H := tS.less hs (by omega) (by rw [show v1 (6 * t + 154) 4 = w (6 * t + 154) 4 from j69 _ _ (by omega)]; omega) (fun d k g1 g2 => j69 _ _ (by omega))
              refine e_Ok.ps2 (x := (0, 2)) (y := (0, 3)) (q := 186) 2 rfl ?_
              refine e_Ok.if2 rfl (fun h72 => ?_) (fun h72 => ?_)
              · replace h72 : (3 : Int) ≠ 2 := h72
                refine e_Ok.ps2 (x := (0, 3)) (y := (0, 3)) (q := 195) 2 rfl ?_
                refine e_Ok.if2 rfl (fun h73 => ?_) (fun h73 => ?_)
                · replace h73 : (3 : Int) ≠ 3 := h73
                  exfalso; omega
                · replace h73 : (3 : Int) = 3 := Classical.not_not.mp (show ¬ ((3 : Int) ≠ 3) from h73)
                  refine e_Ok.ps4 (x := (0, 1)) (y := (0, val)) (z := (1, cd)) (u := (1, 6 * t + 154)) (q := 202) 4 rfl ?_
                  refine e_Ok.add (z := val + 1) rfl rfl (by omega) ?_
                  refine e_Ok.callV rfl (e_dq hd rfl) rfl (lD0 hcd) rfl rfl (c_24 j68 (kCd.fr j67 (by unfold kLv; omega) (fun k => by unfold kLv; omega) hk) (by omega)) (fun r74 w75 h76 => ?_)
                  obtain ⟨z77, rfl, rfl, q78, q78r⟩ := h76
                  replace q78 : z77 = od (val + 1) := q78
                  refine e_Ok.nrm (q := 206) (st' := [(0, z77), (1, 6 * t + 154)]) rfl rfl ?_
                  refine e_Ok.putf rfl (lT0 (t := t) rfl gt) rfl rfl ?_
                  generalize hw79 : e_up v1 (6 * t + 154) 3 z77 = w79
                  have hT81 : e_Has kTy w79 := e_Has.upr j68 hw79 (kT_3 (t := t) rfl gt) (by omega)
                  refine e_Ok.ps2 (x := (0, 1)) (y := (0, 3)) (q := 211) 2 rfl ?_
                  refine e_Ok.if2 rfl (fun h82 => ?_) (fun h82 => ?_)
                  · replace h82 : (3 : Int) = 1 := h82
                    exfalso; omega
                  · replace h82 : (3 : Int) ≠ 1 := (show ¬ ((3 : Int) = 1) from h82)
                    refine e_Ok.ps1 (x := (0, 1)) (q := 219) 2 rfl ?_
                    refine e_Ok.rets rfl rfl ?_
                    have ht := (hD.2.2 (val + 1)).2.1 (Or.inr (Or.inr hvb))
                    exact ⟨_, rfl, (show e_fr (kLv t) w w79 from e_fr.up j67 hw79 (by first | exact Or.inl ⟨(by omega), Or.inl rfl⟩ | (unfold kLv; omega))), hT81, tS.oth hsv (by omega) hw79, rfl, Or.inl (by rw [show w79 (6 * t + 154) 3 = z77 from (e_ue hw79), q78]; exact ht)⟩
              · replace h72 : (3 : Int) = 2 := Classical.not_not.mp (show ¬ ((3 : Int) ≠ 2) from h72)
                exfalso; omega
            · replace h71 : (v1 (6 * t + 154) 15 : Int) > z63 := Int.not_le.mp (show ¬ ((v1 (6 * t + 154) 15 : Int) ≤ z63) from h71)
              have hsv : tS v1 (6 * t + 154) op H := tS.less hs (by omega) (by rw [show v1 (6 * t + 154) 4 = w (6 * t + 154) 4 from j69 _ _ (by omega)]; omega) (fun d k g1 g2 => j69 _ _ (by omega))
              have hq := hsv.2.2 (v1 (6 * t + 154) 15 - 1) (by omega) (by omega)
              have hqw := (hs.2.2 (v1 (6 * t + 154) 15 - 1) (by omega) (by omega)).1
              have hq3 : ((0 ≤ w (6 * t + 157) (v1 (6 * t + 154) 15 - 1) ∧ w (6 * t + 157) (v1 (6 * t + 154) 15 - 1) ≤ 3999) ∧ op (w (6 * t + 157) (v1 (6 * t + 154) 15 - 1) + 1) = 49 ∧ op (w (6 * t + 157) (v1 (6 * t + 154) 15 - 1) + 2) = 49 ∧ op (w (6 * t + 157) (v1 (6 * t + 154) 15 - 1) + 3) = 49) ∧ (0 ≤ v1 (6 * t + 158) (v1 (6 * t + 154) 15 - 1) ∧ v1 (6 * t + 158) (v1 (6 * t + 154) 15 - 1) ≤ 15) := by rw [show 6 * t + 157 = (6 * t + 154) + 3 by omega, show 6 * t + 158 = (6 * t + 154) + 4 by omega]; exact ⟨hqw, hq.2.1.1⟩
              clear hq hqw
              refine e_Ok.ps1 (x := (1, 6 * t + 154)) (q := 55) 1 rfl ?_
              refine e_Ok.getr (z := 6 * t + 157) rfl (lT0 (t := t) rfl gt) rfl rfl ((j67 (6 * t + 154) 18 (by first | exact no_c7_0 (by omega) | (unfold kLv; omega))).trans (Eq.trans (e_Has.eq hT (kT_18 (t := t) rfl gt)) (by omega))) (by omega) ?_
              refine e_Ok.ps1 (x := (1, 6 * t + 154)) (q := 59) 1 rfl ?_
              refine e_Ok.getf (z := v1 (6 * t + 154) 15) rfl (lT0 (t := t) rfl gt) rfl rfl rfl (by omega) ?_
              refine e_Ok.ps1 (x := (0, 1)) (q := 63) 1 rfl ?_
              refine e_Ok.sub' (z := v1 (6 * t + 154) 15 - 1) rfl rfl (by omega) ?_
              refine e_Ok.ald (z := w (6 * t + 157) (v1 (6 * t + 154) 15 - 1)) rfl (lT3 (t := t) rfl gt) rfl (by omega) ((j67 (6 * t + 157) (v1 (6 * t + 154) 15 - 1) (by unfold kLv; omega)).trans rfl) (by omega) ?_
              refine e_Ok.run (t' := (68, [(5, (0, w (6 * t + 157) (v1 (6 * t + 154) 15 - 1))), (0, (1, 6 * t + 154)), (1, (1, cd)), (2, (0, 3)), (3, (0, val)), (4, (0, z63))], [(1, 6 * t + 154)], v1)) 2 rfl ?_
              refine e_Ok.getr (z := 6 * t + 158) rfl (lT0 (t := t) rfl gt) rfl rfl ((j67 (6 * t + 154) 19 (by first | exact no_c7_1 (by omega) | (unfold kLv; omega))).trans (Eq.trans (e_Has.eq hT (kT_19 (t := t) rfl gt)) (by omega))) (by omega) ?_
              refine e_Ok.ps1 (x := (1, 6 * t + 154)) (q := 72) 1 rfl ?_
              refine e_Ok.getf (z := v1 (6 * t + 154) 15) rfl (lT0 (t := t) rfl gt) rfl rfl rfl (by omega) ?_
              refine e_Ok.ps1 (x := (0, 1)) (q := 76) 1 rfl ?_
              refine e_Ok.sub' (z := v1 (6 * t + 154) 15 - 1) rfl rfl (by omega) ?_
              refine e_Ok.ald (z := v1 (6 * t + 158) (v1 (6 * t + 154) 15 - 1)) rfl (lT4 (t := t) rfl gt) rfl (by omega) rfl (by omega) ?_
              refine e_Ok.ps1 (x := (0, 3)) (q := 79) 1 rfl ?_
              refine e_Ok.andm 3 2 rfl (by decide) (fun z83 hz83 => ?_)
              replace hz83 : z83 = (v1 (6 * t + 158) (v1 (6 * t + 154) 15 - 1)) % 4 := hz83
              have hz83r : 0 ≤ z83 ∧ z83 ≤ 3 := by omega
              refine e_Ok.run (t' := (84, [(6, (0, z83)), (5, (0, w (6 * t + 157) (v1 (6 * t + 154) 15 - 1))), (0, (1, 6 * t + 154)), (1, (1, cd)), (2, (0, 3)), (3, (0, val)), (4, (0, z63))], [(0, 1), (0, 3)], v1)) 3 rfl ?_
              refine e_Ok.if2 rfl (fun h84 => ?_) (fun h84 => ?_)
              · replace h84 : (3 : Int) ≠ 1 := h84
                refine e_Ok.ps2 (x := (0, 2)) (y := (0, z83)) (q := 126) 2 rfl ?_
                refine e_Ok.if2 rfl (fun h85 => ?_) (fun h85 => ?_)
                · replace h85 : (z83 : Int) = 2 := h85
                  refine e_Ok.ps2 (x := (1, 6 * t + 154)) (y := (1, 6 * t + 154)) (q := 173) 2 rfl ?_
                  refine e_Ok.getf (z := v1 (6 * t + 154) 15) rfl (lT0 (t := t) rfl gt) rfl rfl rfl (by omega) ?_
                  refine e_Ok.ps1 (x := (0, 1)) (q := 177) 1 rfl ?_
                  refine e_Ok.sub' (z := v1 (6 * t + 154) 15 - 1) rfl rfl (by omega) ?_
                  refine e_Ok.putf rfl (lT0 (t := t) rfl gt) rfl rfl ?_
                  generalize hw86 : e_up v1 (6 * t + 154) 15 (v1 (6 * t + 154) 15 - 1) = w86
                  have hT88 : e_Has kTy w86 := e_Has.upr j68 hw86 (kT_15 (t := t) rfl gt) (by omega)
                  refine e_Ok.ps0 (q := 45) 1 rfl ?_
                  refine e_Ok.sub kAlk (e_sub_of rfl ?_) (ih66  w86 ⟨(show e_fr (kLv t) w w86 from e_fr.up j67 hw86 (by first | exact Or.inl ⟨(by omega), Or.inr (Or.inr (Or.inr rfl))⟩ | (unfold kLv; omega))), hT88, (fun c k g => by rw [← hw86, e_up_ne _ _ (by omega)]; exact j69 c k g), (by have e : w86 (6 * t + 154) 15 = v1 (6 * t + 154) 15 - 1 := (e_ue hw86); omega)⟩ (by have e : w86 (6 * t + 154) 15 = v1 (6 * t + 154) 15 - 1 := (e_ue hw86); omega))
                  exact ⟨rfl, rfl, rfl, rfl, rfl, trivial⟩
                · replace h85 : (z83 : Int) ≠ 2 := (show ¬ ((z83 : Int) = 2) from h85)
                  refine e_Ok.ps3 (x := (0, 2)) (y := (0, w (6 * t + 157) (v1 (6 * t + 154) 15 - 1))) (z := (1, cd)) (q := 133) 3 rfl ?_
                  refine e_Ok.add (z := w (6 * t + 157) (v1 (6 * t + 154) 15 - 1) + 2) rfl rfl (by omega) ?_
                  refine e_Ok.callV rfl (e_dq hd rfl) rfl (lD0 hcd) rfl rfl (c_24 j68 (kCd.fr j67 (by unfold kLv; omega) (fun k => by unfold kLv; omega) hk) (by omega)) (fun r89 w90 h91 => ?_)
                  obtain ⟨z92, rfl, rfl, q93, q93r⟩ := h91
                  replace q93 : z92 = od (w (6 * t + 157) (v1 (6 * t + 154) 15 - 1) + 2) := q93
                  refine e_Ok.nrm (q := 137) (st' := [(0, z92)]) rfl rfl ?_
                  refine e_Ok.if1 rfl (fun h94 => ?_) (fun h94 => ?_)
                  · replace h94 : (z92 : Int) = 0 := h94
                    refine e_Ok.ps2 (x := (1, 6 * t + 154)) (y := (1, 6 * t + 154)) (q := 173) 2 rfl ?_
                    refine e_Ok.getf (z := v1 (6 * t + 154) 15) rfl (lT0 (t := t) rfl gt) rfl rfl rfl (by omega) ?_
                    refine e_Ok.ps1 (x := (0, 1)) (q := 177) 1 rfl ?_
                    refine e_Ok.sub' (z := v1 (6 * t + 154) 15 - 1) rfl rfl (by omega) ?_
                    refine e_Ok.putf rfl (lT0 (t := t) rfl gt) rfl rfl ?_
                    generalize hw95 : e_up v1 (6 * t + 154) 15 (v1 (6 * t + 154) 15 - 1) = w95
                    have hT103 : e_Has kTy w95 := e_Has.upr j68 hw95 (kT_15 (t := t) rfl gt) (by omega)
                    refine e_Ok.ps0 (q := 45) 1 rfl ?_
                    refine e_Ok.sub kAlk (e_sub_of rfl ?_) (ih66  w95 ⟨(show e_fr (kLv t) w w95 from e_fr.up j67 hw95 (by first | exact Or.inl ⟨(by omega), Or.inr (Or.inr (Or.inr rfl))⟩ | (unfold kLv; omega))), hT103, (fun c k g => by rw [← hw95, e_up_ne _ _ (by omega)]; exact j69 c k g), (by have e : w95 (6 * t + 154) 15 = v1 (6 * t + 154) 15 - 1 := (e_ue hw95); omega)⟩ (by have e : w95 (6 * t + 154) 15 = v1 (6 * t + 154) 15 - 1 := (e_ue hw95); omega))
                    exact ⟨rfl, rfl, rfl, rfl, rfl, trivial⟩
                  · replace h94 : (z92 : Int) ≠ 0 := (show ¬ ((z92 : Int) = 0) from h94)
                    refine e_Ok.ps1 (x := (1, 6 * t + 154)) (q := 141) 1 rfl ?_
                    refine e_Ok.getr (z := 6 * t + 159) rfl (lT0 (t := t) rfl gt) rfl rfl ((j67 (6 * t + 154) 20 (by first | exact no_c7_2 (by omega) | (unfold kLv; omega))).trans (Eq.trans (e_Has.eq hT (kT_20 (t := t) rfl gt)) (by omega))) (by omega) ?_
                    refine e_Ok.ps1 (x := (1, 6 * t + 154)) (q := 145) 1 rfl ?_
                    refine e_Ok.getf (z := v1 (6 * t + 154) 15) rfl (lT0 (t := t) rfl gt) rfl rfl rfl (by omega) ?_
                    refine e_Ok.ps1 (x := (0, 1)) (q := 149) 1 rfl ?_
                    refine e_Ok.sub' (z := v1 (6 * t + 154) 15 - 1) rfl rfl (by omega) ?_
                    refine e_Ok.ps1 (x := (0, val)) (q := 151) 1 rfl ?_
                    refine e_Ok.ast rfl (lT5 (t := t) rfl gt) rfl rfl (by omega) ?_
                    generalize hw104 : e_up v1 (6 * t + 159) (v1 (6 * t + 154) 15 - 1) val = w104
                    have f105 : e_fr (kLv t) w w104 := e_fr.up j67 hw104 (by first | exact Or.inr (Or.inr (by omega)) | (unfold kLv; omega))
                    have hT106 : e_Has kTy w104 := e_Has.ups j68 hw104 (kT159 (t := t) _ rfl gt)
                    have hsw : tS w104 (6 * t + 154) op H := tS.val hsv (by omega) (by rw [show (6 * t + 154) + 4 = 6 * t + 158 by omega]; omega) hw104
                    refine e_Ok.ps4 (x := (0, 2)) (y := (0, 3)) (z := (0, 2)) (u := (1, 6 * t + 154)) (q := 156) 4 rfl ?_
                    refine e_Ok.shl2 rfl (by omega) (fun z107 hz107 => ?_)
                    replace hz107 : z107 = 3 * 4 := hz107
                    refine e_Ok.or2 rfl (by omega) (by omega) (fun z108 hz108 => ?_)
                    replace hz108 : z108 = 2 + z107 := hz108
                    refine e_Ok.ps3 (x := (0, 2)) (y := (0, w (6 * t + 157) (v1 (6 * t + 154) 15 - 1))) (z := (1, cd)) (q := 162) 3 rfl ?_
                    refine e_Ok.add (z := w (6 * t + 157) (v1 (6 * t + 154) 15 - 1) + 2) rfl rfl (by omega) ?_
                    refine e_Ok.callV rfl (e_dq hd rfl) rfl (lD0 hcd) rfl rfl (c_24 hT106 (kCd.fr f105 (by unfold kLv; omega) (fun k => by unfold kLv; omega) hk) (by omega)) (fun r109 w110 h111 => ?_)
                    obtain ⟨z112, rfl, rfl, q113, q113r⟩ := h111
                    replace q113 : z112 = od (w (6 * t + 157) (v1 (6 * t + 154) 15 - 1) + 2) := q113
                    refine e_Ok.nrm (q := 166) (st' := [(0, z112), (0, z108), (1, 6 * t + 154)]) rfl rfl ?_
                    refine e_Ok.callV rfl (e_dq hd rfl) rfl (lT0 (t := t) rfl gt) rfl rfl (c_189 (t := t) (op := op) (H := H) hT106 (by omega) (by omega) (by omega) (by have e : w104 (6 * t + 154) 15 = v1 (6 * t + 154) 15 := (e_uq hw104 (Or.inl (by omega)) rfl); omega) hsw (fun g => by rw [show w104 (6 * t + 154) 15 = v1 (6 * t + 154) 15 from (e_uq hw104 (Or.inl (by omega)) rfl), show (6 * t + 154) + 5 = 6 * t + 159 by omega, ← hw104, e_up_eq]; exact ⟨by omega, fun _ => hvb⟩)) (fun r114 w115 h116 => ?_)
                    obtain ⟨rfl, q117f, q117T, q117s, q117p, q117n⟩ := h116
                    refine e_Ok.nrm (q := 169) (st' := []) rfl rfl ?_
                    refine e_Ok.ps1 (x := (0, 1)) (q := 170) 1 rfl ?_
                    refine e_Ok.rets rfl rfl ?_
                    have ht := (hD.2.2 (w (6 * t + 157) (v1 (6 * t + 154) 15 - 1) + 2)).2.1 (Or.inr (Or.inr (by omega)))
                    exact ⟨_, rfl, (show e_fr (kLv t) w w115 from e_fr.trans f105 (e_fr.mono q117f (fun c k q => by exact q))), q117T, q117s, rfl, Or.inl (by rw [q117p, q113]; exact ht)⟩
              · replace h84 : (3 : Int) = 1 := Classical.not_not.mp (show ¬ ((3 : Int) ≠ 1) from h84)
                exfalso; omega
        refine e_Ok.sub kAlk (e_sub_of rfl ?_) (hL65 (600 + 1 : Int).toNat  w ⟨(e_fr.refl w), hT, (fun _ _ _ => rfl), by omega⟩ (by omega))
        exact ⟨rfl, rfl, rfl, rfl, rfl, trivial⟩
end
end
-- part c8
section
noncomputable section
/-! the class: what the doer does, small steps -/
def kDs (c k : Int) : Prop := (c = 8 ∧ (k = 8 ∨ k = 10 ∨ k = 11)) ∨ c = 84
def kDp (t : Int) (c k : Int) : Prop := (c = 8 ∧ (k = 8 ∨ k = 10 ∨ k = 11)) ∨ c = 84 ∨ (c = 6 * t + 154 ∧ k = 3)
section E62k
variable {fd : Nat} {lay : List eY} {code : Nat → Nat → eE} {I : Nat → xM} {d M k a b p : Nat} {l : eL} {r : List eV} {w : eW} {Q : List eV → eW → Prop}
theorem e_Ok.swk {x : Int} {tg : Nat} {arms : List (Int × Int × Nat)} (hc : code M p = (0, ei_sw arms, a, b)) (ht : e_arm x arms = some tg) (h : e_Ok fd lay code I d M (tg, l, r, w) Q) : e_Ok fd lay code I d M (p, l, (0, x) :: r, w) Q := by
  refine e_Ok.step hc ?_ h
  unfold ei_sw
  simp only [ht]
end E62k
/-- the numbers in hand are known -/
def sK (w : eW) : Prop := (0 ≤ w 8 8 ∧ w 8 8 ≤ 128) ∧ (∀ i, 0 ≤ i → i < w 8 8 → -2147483648 ≤ w 84 i ∧ w 84 i ≤ 2147483647) ∧ (0 ≤ w 8 11 ∧ w 8 11 ≤ 1) ∧ (w 8 11 = 1 → -2147483648 ≤ w 8 10 ∧ w 8 10 ≤ 2147483647)
theorem sK.fr {S : Int → Int → Prop} {w w' : eW} (f : e_fr S w w') (h1 : ¬ S 8 8 ∧ ¬ S 8 10 ∧ ¬ S 8 11) (h2 : ∀ k, ¬ S 84 k) (h : sK w) : sK w' := by
  unfold sK at h ⊢
  rw [f _ _ h1.1, f _ _ h1.2.1, f _ _ h1.2.2]
  exact ⟨h.1, fun i g1 g2 => by rw [f _ _ (h2 i)]; exact h.2.1 i g1 g2, h.2.2⟩
theorem sK.push {w w1 w' : eW} {i n v : Int} (h : sK w) (hi : i = w 8 8) (hn : n = w 8 8 + 1) (hl : w 8 8 < 128) (hv : -2147483648 ≤ v ∧ v ≤ 2147483647) (h1 : e_up w 84 i v = w1) (h2 : e_up w1 8 8 n = w') : sK w' := by
  have e : ∀ k, k ≠ 8 → w' 8 k = w 8 k := fun k g => by rw [← h2, e_up_ne _ _ (Or.inr g), ← h1]; exact e_up_ne _ _ (by omega)
  have e8 : w' 8 8 = w 8 8 + 1 := by rw [← h2, e_up_eq, hn]
  have h0 := h.1
  refine ⟨by rw [e8]; omega, fun j g1 g2 => ?_, by rw [e 11 (by decide)]; exact h.2.2.1, by rw [e 11 (by decide), e 10 (by decide)]; exact h.2.2.2⟩
  rw [e8] at g2
  rw [← h2, e_up_ne _ _ (by omega), ← h1]
  by_cases q : j = i
  · rw [q, e_up_eq]; exact hv
  · rw [e_up_ne _ _ (Or.inr q)]; exact h.2.1 j g1 (by omega)
theorem sK.pop {w w' : eW} {n : Int} (h : sK w) (hn : n = w 8 8 - 1) (hl : 1 ≤ w 8 8) (h2 : e_up w 8 8 n = w') : sK w' := by
  have e : ∀ c k, ¬ (c = 8 ∧ k = 8) → w' c k = w c k := fun c k g => by rw [← h2]; exact e_up_ne _ _ (by omega)
  have e8 : w' 8 8 = w 8 8 - 1 := by rw [← h2, e_up_eq, hn]
  have h0 := h.1
  refine ⟨by rw [e8]; omega, fun j g1 g2 => ?_, by rw [e 8 11 (by omega)]; exact h.2.2.1, by rw [e 8 11 (by omega), e 8 10 (by omega)]; exact h.2.2.2⟩
  rw [e8] at g2
  rw [e 84 j (by omega)]
  exact h.2.1 j g1 (by omega)
theorem sK.raise {w w1 w' : eW} {v : Int} (h : sK w) (hv : -2147483648 ≤ v ∧ v ≤ 2147483647) (h1 : e_up w 8 11 1 = w1) (h2 : e_up w1 8 10 v = w') : sK w' := by
  have e : ∀ c k, ¬ (c = 8 ∧ (k = 10 ∨ k = 11)) → w' c k = w c k := fun c k g => by rw [← h2, e_up_ne _ _ (by omega), ← h1]; exact e_up_ne _ _ (by omega)
  have e11 : w' 8 11 = 1 := by rw [← h2, e_up_ne _ _ (by omega), ← h1]; exact e_up_eq _ _ _ _
  have e10 : w' 8 10 = v := by rw [← h2]; exact e_up_eq _ _ _ _
  refine ⟨by rw [e 8 8 (by omega)]; exact h.1, fun j g1 g2 => ?_, by rw [e11]; decide, fun _ => by rw [e10]; exact hv⟩
  rw [e 8 8 (by omega)] at g2
  rw [e 84 j (by omega)]
  exact h.2.1 j g1 g2
theorem c_52 {d : Nat} {w : eW} (hT : e_Has kTy w) {v : Int} (g_v : (-2147483648) ≤ v ∧ v ≤ 2147483647) (hk : sK w) : e_Ok 20 elay kcode eI d 52 (0, [(0, (1, 8)), (1, (0, v))], [], w) (fun r w' => r = [] ∧ e_fr kDs w w' ∧ e_Has kTy w' ∧ sK w') := by
  have hk0 := hk.1
  refine e_Ok.ps1 (x := (1, 8)) (q := 1) 1 rfl ?_
  refine e_Ok.getf (z := w 8 8) rfl (el_o rfl) rfl rfl rfl (by omega) ?_
  refine e_Ok.ps1 (x := (1, 8)) (q := 5) 1 rfl ?_
  refine e_Ok.getr (z := 84) rfl (el_o rfl) rfl rfl (e_Has.eq hT (kt_o rfl)) ⟨by decide, by decide⟩ ?_
  refine e_Ok.alen rfl rfl rfl ?_
  refine e_Ok.if2 rfl (fun h1 => ?_) (fun h1 => ?_)
  · replace h1 : (w 8 8 : Int) < 128 := h1
    refine e_Ok.run (t' := (14, [(0, (1, 8)), (1, (0, v))], [(1, 8)], w)) 1 rfl ?_
    refine e_Ok.getr (z := 84) rfl (el_o rfl) rfl rfl (e_Has.eq hT (kt_o rfl)) ⟨by decide, by decide⟩ ?_
    refine e_Ok.ps1 (x := (1, 8)) (q := 18) 1 rfl ?_
    refine e_Ok.getf (z := w 8 8) rfl (el_o rfl) rfl rfl rfl (by omega) ?_
    refine e_Ok.ps1 (x := (0, v)) (q := 22) 1 rfl ?_
    refine e_Ok.ast rfl (el_o rfl) rfl rfl (by omega) ?_
    generalize hw2 : e_up w 84 (w 8 8) v = w2
    have hT4 : e_Has kTy w2 := e_Has.ups hT hw2 (kt_o rfl)
    refine e_Ok.ps2 (x := (1, 8)) (y := (1, 8)) (q := 25) 2 rfl ?_
    refine e_Ok.getf (z := w 8 8) rfl (el_o rfl) rfl rfl (e_uq hw2 (Or.inl (by decide)) rfl) (by omega) ?_
    refine e_Ok.ps1 (x := (0, 1)) (q := 29) 1 rfl ?_
    refine e_Ok.add (z := w 8 8 + 1) rfl rfl (by omega) ?_
    refine e_Ok.putf rfl (el_o rfl) rfl rfl ?_
    generalize hw5 : e_up w2 8 8 (w 8 8 + 1) = w5
    have hT7 : e_Has kTy w5 := e_Has.ups hT4 hw5 (kt_o rfl)
    refine e_Ok.rets rfl rfl ?_
    exact ⟨rfl, (show e_fr kDs w w5 from e_fr.up (show e_fr kDs w w2 from e_fr.up (e_fr.refl w) hw2 (by first | exact Or.inr rfl | (unfold kDs; omega))) hw5 (by first | exact Or.inl ⟨rfl, Or.inl rfl⟩ | (unfold kDs; omega))), hT7, sK.push hk (by omega) (by omega) (by omega) (by omega) hw2 hw5⟩
  · replace h1 : (w 8 8 : Int) ≥ 128 := Int.not_lt.mp (show ¬ ((w 8 8 : Int) < 128) from h1)
    refine e_Ok.rets rfl rfl ?_
    exact ⟨rfl, (e_fr.refl w), hT, hk⟩
theorem c_53 {d : Nat} {w : eW} (hT : e_Has kTy w) (hk : sK w) : e_Ok 20 elay kcode eI d 53 (0, [(0, (1, 8))], [], w) (fun r w' => ∃ z : Int, r = [(0, z)] ∧ e_fr kDs w w' ∧ e_Has kTy w' ∧ ((-2147483648) ≤ z ∧ z ≤ 2147483647) ∧ sK w') := by
  have hk0 := hk.1
  refine e_Ok.ps1 (x := (1, 8)) (q := 1) 1 rfl ?_
  refine e_Ok.getf (z := w 8 8) rfl (el_o rfl) rfl rfl rfl (by omega) ?_
  refine e_Ok.ps1 (x := (0, 1)) (q := 5) 1 rfl ?_
  refine e_Ok.if2 rfl (fun h1 => ?_) (fun h1 => ?_)
  · replace h1 : (w 8 8 : Int) ≥ 1 := h1
    have hk1 := hk.2.1 (w 8 8 - 1) (by omega) (by omega)
    refine e_Ok.ps2 (x := (1, 8)) (y := (1, 8)) (q := 12) 2 rfl ?_
    refine e_Ok.getf (z := w 8 8) rfl (el_o rfl) rfl rfl rfl (by omega) ?_
    refine e_Ok.ps1 (x := (0, 1)) (q := 16) 1 rfl ?_
    refine e_Ok.sub' (z := w 8 8 - 1) rfl rfl (by omega) ?_
    refine e_Ok.putf rfl (el_o rfl) rfl rfl ?_
    generalize hw2 : e_up w 8 8 (w 8 8 - 1) = w2
    have hT4 : e_Has kTy w2 := e_Has.ups hT hw2 (kt_o rfl)
    refine e_Ok.ps1 (x := (1, 8)) (q := 21) 1 rfl ?_
    refine e_Ok.getr (z := 84) rfl (el_o rfl) rfl rfl (e_uq hw2 (Or.inr (by decide)) (e_Has.eq hT (kt_o rfl))) ⟨by decide, by decide⟩ ?_
    refine e_Ok.ps1 (x := (1, 8)) (q := 25) 1 rfl ?_
    refine e_Ok.getf (z := w 8 8 - 1) rfl (el_o rfl) rfl rfl (e_ue hw2) (by omega) ?_
    refine e_Ok.ald (z := w 84 (w 8 8 - 1)) rfl (el_o rfl) rfl (by omega) (e_uq hw2 (Or.inl (by decide)) rfl) (by omega) ?_
    refine e_Ok.rets rfl rfl ?_
    exact ⟨_, rfl, (show e_fr kDs w w2 from e_fr.up (e_fr.refl w) hw2 (by first | exact Or.inl ⟨rfl, Or.inl rfl⟩ | (unfold kDs; omega))), hT4, ⟨by omega, by omega⟩, sK.pop hk (by omega) (by omega) hw2⟩
  · replace h1 : (w 8 8 : Int) < 1 := Int.not_le.mp (show ¬ ((w 8 8 : Int) ≥ 1) from h1)
    refine e_Ok.ps1 (x := (0, 0)) (q := 9) 1 rfl ?_
    refine e_Ok.rets rfl rfl ?_
    exact ⟨_, rfl, (e_fr.refl w), hT, ⟨by omega, by omega⟩, hk⟩
theorem c_46 {d : Nat} {w : eW} (hT : e_Has kTy w) {v : Int} (g_v : (-2147483648) ≤ v ∧ v ≤ 2147483647) (hk : sK w) : e_Ok 20 elay kcode eI d 46 (0, [(0, (1, 8)), (1, (0, v))], [], w) (fun r w' => r = [] ∧ e_fr kDs w w' ∧ e_Has kTy w' ∧ sK w') := by
  refine e_Ok.ps2 (x := (0, 1)) (y := (1, 8)) (q := 2) 2 rfl ?_
  refine e_Ok.putb rfl (el_o rfl) rfl rfl (by omega) ?_
  generalize hw1 : e_up w 8 11 1 = w1
  have hT3 : e_Has kTy w1 := e_Has.ups hT hw1 (kt_o rfl)
  refine e_Ok.ps2 (x := (0, v)) (y := (1, 8)) (q := 7) 2 rfl ?_
  refine e_Ok.putf rfl (el_o rfl) rfl rfl ?_
  generalize hw4 : e_up w1 8 10 v = w4
  have hT6 : e_Has kTy w4 := e_Has.ups hT3 hw4 (kt_o rfl)
  refine e_Ok.rets rfl rfl ?_
  exact ⟨rfl, (show e_fr kDs w w4 from e_fr.up (show e_fr kDs w w1 from e_fr.up (e_fr.refl w) hw1 (by first | exact Or.inl ⟨rfl, Or.inr (Or.inr rfl)⟩ | (unfold kDs; omega))) hw4 (by first | exact Or.inl ⟨rfl, Or.inr (Or.inl rfl)⟩ | (unfold kDs; omega))), hT6, sK.raise hk (by omega) hw1 hw4⟩
theorem c_245 {d : Nat} (hd : 21 ≤ d) {w : eW} {a : Int} (g1 : -2147483648 ≤ a ∧ a ≤ 2147483647) : e_Ok 20 elay kcode eI d 245 (0, [(0, (0, a))], [], w) (fun r w' => ∃ z : Int, r = [(0, z)] ∧ w = w' ∧ ((z = 1 ∧ 0 ≤ a ∧ a ≤ 63) ∨ (z = 0 ∧ (a < 0 ∨ 63 < a)))) := by
  obtain ⟨d, rfl⟩ : ∃ e, d = e + 1 := ⟨d - 1, by omega⟩
  refine e_Ok.ps3 (x := (0, 63)) (y := (0, 0)) (z := (0, a)) (q := 4) 3 rfl ?_
  refine e_Ok.callS rfl (e_dq hd rfl) rfl rfl (c_242 (by omega) (by omega) (by omega)) (fun r1 w2 h3 => ?_)
  obtain ⟨z4, rfl, rfl, q5⟩ := h3
  obtain ⟨rfl, q5⟩ | ⟨rfl, q5⟩ := q5
  · refine e_Ok.nrm (q := 7) (st' := [(0, 1)]) rfl rfl ?_
    refine e_Ok.rets rfl rfl ?_
    exact ⟨_, rfl, rfl, Or.inl ⟨rfl, by omega, by omega⟩⟩
  · refine e_Ok.nrm (q := 7) (st' := [(0, 0)]) rfl rfl ?_
    refine e_Ok.rets rfl rfl ?_
    exact ⟨_, rfl, rfl, Or.inr ⟨rfl, by omega⟩⟩
theorem c_55 {d : Nat} (hd : 22 ≤ d) {w : eW} (hT : e_Has kTy w) {v : Int} (g_v : (-2147483648) ≤ v ∧ v ≤ 2147483647) (hk : sK w) : e_Ok 20 elay kcode eI d 55 (0, [(0, (1, 8)), (1, (0, v))], [], w) (fun r w' => r = [] ∧ e_fr kDs w w' ∧ e_Has kTy w' ∧ sK w') := by
  obtain ⟨d, rfl⟩ : ∃ e, d = e + 1 := ⟨d - 1, by omega⟩
  refine e_Ok.ps1 (x := (0, v)) (q := 1) 1 rfl ?_
  refine e_Ok.callS rfl (e_dq hd rfl) rfl rfl (c_245 (e_dq hd rfl) (by omega)) (fun r1 w2 h3 => ?_)
  obtain ⟨z4, rfl, rfl, q5⟩ := h3
  obtain ⟨rfl, q5⟩ | ⟨rfl, q5⟩ := q5
  · refine e_Ok.nrm (q := 4) (st' := [(0, 1)]) rfl rfl ?_
    refine e_Ok.if1 rfl (fun h6 => ?_) (fun h6 => ?_)
    · replace h6 : (1 : Int) = 0 := h6
      exfalso; omega
    · replace h6 : (1 : Int) ≠ 0 := (show ¬ ((1 : Int) = 0) from h6)
      refine e_Ok.ps2 (x := (1, 8)) (y := (1, 8)) (q := 9) 2 rfl ?_
      refine e_Ok.getr (z := 10) rfl (el_o rfl) rfl rfl (e_Has.eq hT (kt_o rfl)) ⟨by decide, by decide⟩ ?_
      refine e_Ok.getr (z := 12) rfl (el_o rfl) rfl rfl (e_Has.eq hT (kt_o rfl)) ⟨by decide, by decide⟩ ?_
      refine e_Ok.ps1 (x := (0, v)) (q := 16) 1 rfl ?_
      have h7 := (e_Has.get hT (c := 12) (k := v) (lo := (-2147483648)) (hi := 2147483647) (kt_o rfl) (by decide))
      refine e_Ok.ald (z := w 12 v) rfl (el_o rfl) rfl (by omega) rfl (e_bq h7 (by decide) (by decide)) ?_
      refine e_Ok.callV rfl (e_dq hd rfl) rfl rfl rfl rfl (c_52 hT (by omega) hk) (fun r8 w9 h10 => ?_)
      obtain ⟨rfl, q11f, q11T, q11x⟩ := h10
      refine e_Ok.nrm (q := 20) (st' := []) rfl rfl ?_
      refine e_Ok.ps0 (q := 28) 1 rfl ?_
      refine e_Ok.rets rfl rfl ?_
      exact ⟨rfl, (show e_fr kDs w w9 from e_fr.trans (e_fr.refl w) (e_fr.mono q11f (fun c k q => by exact q))), q11T, q11x⟩
  · refine e_Ok.nrm (q := 4) (st' := [(0, 0)]) rfl rfl ?_
    refine e_Ok.if1 rfl (fun h13 => ?_) (fun h13 => ?_)
    · replace h13 : (0 : Int) = 0 := h13
      refine e_Ok.ps2 (x := (0, 2)) (y := (1, 8)) (q := 25) 2 rfl ?_
      refine e_Ok.callV rfl (e_dq hd rfl) rfl rfl rfl rfl (c_46 hT (by omega) hk) (fun r14 w15 h16 => ?_)
      obtain ⟨rfl, q17f, q17T, q17x⟩ := h16
      refine e_Ok.nrm (q := 28) (st' := []) rfl rfl ?_
      refine e_Ok.rets rfl rfl ?_
      exact ⟨rfl, (show e_fr kDs w w15 from e_fr.trans (e_fr.refl w) (e_fr.mono q17f (fun c k q => by exact q))), q17T, q17x⟩
    · replace h13 : (0 : Int) ≠ 0 := (show ¬ ((0 : Int) = 0) from h13)
      exfalso; omega
theorem c_56 {d : Nat} (hd : 22 ≤ d) {w : eW} (hT : e_Has kTy w) {a v : Int} (g_a : 0 ≤ a ∧ a ≤ 3) (g_v : (-2147483648) ≤ v ∧ v ≤ 2147483647) (hk : sK w) : e_Ok 20 elay kcode eI d 56 (0, [(0, (1, 8)), (1, (1, 17 * a + 86)), (2, (0, v))], [], w) (fun r w' => r = [] ∧ e_fr kDs w w' ∧ e_Has kTy w' ∧ sK w') := by
  obtain ⟨d, rfl⟩ : ∃ e, d = e + 1 := ⟨d - 1, by omega⟩
  refine e_Ok.ps3 (x := (1, 17 * a + 86)) (y := (0, 0)) (z := (0, v)) (q := 3) 3 rfl ?_
  have h1 := (e_Has.get hT (c := 17 * a + 86) (k := 8) (lo := 0) (hi := 6) (kA_8 (a := a) rfl g_a) (by decide))
  refine e_Ok.getf (z := w (17 * a + 86) 8) rfl (lA0 (a := a) rfl g_a) rfl rfl rfl (e_bq h1 (by decide) (by decide)) ?_
  refine e_Ok.ps1 (x := (0, 1)) (q := 7) 1 rfl ?_
  refine e_Ok.sub' (z := w (17 * a + 86) 8 - 1) rfl rfl (by omega) ?_
  refine e_Ok.callS rfl (e_dq hd rfl) rfl rfl (c_242 (by omega) (by omega) (by omega)) (fun r2 w3 h4 => ?_)
  obtain ⟨z5, rfl, rfl, q6⟩ := h4
  obtain ⟨rfl, q6⟩ | ⟨rfl, q6⟩ := q6
  · refine e_Ok.nrm (q := 11) (st' := [(0, 1)]) rfl rfl ?_
    refine e_Ok.if1 rfl (fun h7 => ?_) (fun h7 => ?_)
    · replace h7 : (1 : Int) = 0 := h7
      exfalso; omega
    · replace h7 : (1 : Int) ≠ 0 := (show ¬ ((1 : Int) = 0) from h7)
      refine e_Ok.ps2 (x := (1, 17 * a + 86)) (y := (1, 8)) (q := 16) 2 rfl ?_
      refine e_Ok.getr (z := 17 * a + 87) rfl (lA0 (a := a) rfl g_a) rfl rfl (Eq.trans (e_Has.eq hT (kA_0 (a := a) rfl g_a)) (by omega)) (by omega) ?_
      refine e_Ok.ps1 (x := (0, v)) (q := 20) 1 rfl ?_
      refine e_Ok.aald (z := 17 * a + v + 97) rfl (lA1 (a := a) rfl g_a) rfl (by omega) (Eq.trans (e_Has.eq hT (kA87 (a := a) rfl g_a (by omega))) (by omega)) (by omega) ?_
      have h8 := (e_Has.get hT (c := 17 * a + v + 97) (k := 7) (lo := (-2147483648)) (hi := 2147483647) (kJ_7 (a := a) (j := v) (by omega) (by omega) (by omega)) (by decide))
      refine e_Ok.getf (z := w (17 * a + v + 97) 7) rfl (lJ (a := a) (j := v) (by omega) (by omega) (by omega)) rfl rfl rfl (e_bq h8 (by decide) (by decide)) ?_
      refine e_Ok.callV rfl (e_dq hd rfl) rfl rfl rfl rfl (c_52 hT (by omega) hk) (fun r9 w10 h11 => ?_)
      obtain ⟨rfl, q12f, q12T, q12x⟩ := h11
      refine e_Ok.nrm (q := 27) (st' := []) rfl rfl ?_
      refine e_Ok.ps0 (q := 35) 1 rfl ?_
      refine e_Ok.rets rfl rfl ?_
      exact ⟨rfl, (show e_fr kDs w w10 from e_fr.trans (e_fr.refl w) (e_fr.mono q12f (fun c k q => by exact q))), q12T, q12x⟩
  · refine e_Ok.nrm (q := 11) (st' := [(0, 0)]) rfl rfl ?_
    refine e_Ok.if1 rfl (fun h14 => ?_) (fun h14 => ?_)
    · replace h14 : (0 : Int) = 0 := h14
      refine e_Ok.ps2 (x := (0, 2)) (y := (1, 8)) (q := 32) 2 rfl ?_
      refine e_Ok.callV rfl (e_dq hd rfl) rfl rfl rfl rfl (c_46 hT (by omega) hk) (fun r15 w16 h17 => ?_)
      obtain ⟨rfl, q18f, q18T, q18x⟩ := h17
      refine e_Ok.nrm (q := 35) (st' := []) rfl rfl ?_
      refine e_Ok.rets rfl rfl ?_
      exact ⟨rfl, (show e_fr kDs w w16 from e_fr.trans (e_fr.refl w) (e_fr.mono q18f (fun c k q => by exact q))), q18T, q18x⟩
    · replace h14 : (0 : Int) ≠ 0 := (show ¬ ((0 : Int) = 0) from h14)
      exfalso; omega
theorem c_58 {d : Nat} (hd : 22 ≤ d) {w : eW} (hT : e_Has kTy w) {o v u : Int} (g_o : 14 ≤ o ∧ o ≤ 24) (g_v : (-2147483648) ≤ v ∧ v ≤ 2147483647) (g_u : (-2147483648) ≤ u ∧ u ≤ 2147483647) (hk : sK w) : e_Ok 20 elay kcode eI d 58 (0, [(0, (1, 8)), (1, (0, o)), (2, (0, v)), (3, (0, u))], [], w) (fun r w' => r = [] ∧ e_fr kDs w w' ∧ e_Has kTy w' ∧ sK w') := by
  obtain ⟨d, rfl⟩ : ∃ e, d = e + 1 := ⟨d - 1, by omega⟩
  refine e_Ok.ps2 (x := (0, 17)) (y := (0, o)) (q := 3) 2 rfl ?_
  refine e_Ok.if2 rfl (fun h1 => ?_) (fun h1 => ?_)
  · replace h1 : (o : Int) = 17 := h1
    refine e_Ok.ps1 (x := (0, v)) (q := 13) 1 rfl ?_
    refine e_Ok.if1 rfl (fun h2 => ?_) (fun h2 => ?_)
    · replace h2 : (v : Int) ≠ 0 := h2
      refine e_Ok.ps1 (x := (0, o)) (q := 23) 1 rfl ?_
      have hs4 : ∀ x : Int, 17 ≤ x ∧ x ≤ 17 → (x = 17) := fun x h => by omega
      obtain h3 := hs4 (o) (by omega)
      · refine e_Ok.swk (tg := 106) rfl (by rw [h3]; rfl) ?_
        refine e_Ok.run (t' := (108, [(0, (1, 8)), (1, (0, o)), (2, (0, v)), (3, (0, u))], [(0, v), (1, 8)], w)) 2 rfl ?_
        refine e_Ok.if1 rfl (fun h5 => ?_) (fun h5 => ?_)
        · replace h5 : (v : Int) ≠ 0 := h5
          refine e_Ok.ps2 (x := (0, v)) (y := (0, u)) (q := 117) 2 rfl ?_
          refine e_Ok.any rfl (eF_div_any (by omega)) (fun z6 z6a z6b => ?_)
          refine e_Ok.callV rfl (e_dq hd rfl) rfl rfl rfl rfl (c_52 hT (by omega) hk) (fun r7 w8 h9 => ?_)
          obtain ⟨rfl, q10f, q10T, q10x⟩ := h9
          refine e_Ok.nrm (q := 121) (st' := []) rfl rfl ?_
          refine e_Ok.ps0 (q := 241) 1 rfl ?_
          refine e_Ok.rets rfl rfl ?_
          exact ⟨rfl, (show e_fr kDs w w8 from e_fr.trans (e_fr.refl w) (e_fr.mono q10f (fun c k q => by exact q))), q10T, q10x⟩
        · replace h5 : (v : Int) = 0 := Classical.not_not.mp (show ¬ ((v : Int) ≠ 0) from h5)
          refine e_Ok.ps1 (x := (0, 0)) (q := 118) 2 rfl ?_
          refine e_Ok.callV rfl (e_dq hd rfl) rfl rfl rfl rfl (c_52 hT (by omega) hk) (fun r12 w13 h14 => ?_)
          obtain ⟨rfl, q15f, q15T, q15x⟩ := h14
          refine e_Ok.nrm (q := 121) (st' := []) rfl rfl ?_
          refine e_Ok.ps0 (q := 241) 1 rfl ?_
          refine e_Ok.rets rfl rfl ?_
          exact ⟨rfl, (show e_fr kDs w w13 from e_fr.trans (e_fr.refl w) (e_fr.mono q15f (fun c k q => by exact q))), q15T, q15x⟩
    · replace h2 : (v : Int) = 0 := Classical.not_not.mp (show ¬ ((v : Int) ≠ 0) from h2)
      refine e_Ok.ps2 (x := (0, 1)) (y := (1, 8)) (q := 18) 2 rfl ?_
      refine e_Ok.callV rfl (e_dq hd rfl) rfl rfl rfl rfl (c_46 hT (by omega) hk) (fun r17 w18 h19 => ?_)
      obtain ⟨rfl, q20f, q20T, q20x⟩ := h19
      refine e_Ok.nrm (q := 21) (st' := []) rfl rfl ?_
      refine e_Ok.rets rfl rfl ?_
      exact ⟨rfl, (show e_fr kDs w w18 from e_fr.trans (e_fr.refl w) (e_fr.mono q20f (fun c k q => by exact q))), q20T, q20x⟩
  · replace h1 : (o : Int) ≠ 17 := (show ¬ ((o : Int) = 17) from h1)
    refine e_Ok.ps2 (x := (0, 18)) (y := (0, o)) (q := 9) 2 rfl ?_
    refine e_Ok.if2 rfl (fun h22 => ?_) (fun h22 => ?_)
    · replace h22 : (o : Int) ≠ 18 := h22
      refine e_Ok.ps1 (x := (0, o)) (q := 23) 1 rfl ?_
      have hs24 : ∀ x : Int, 14 ≤ x ∧ x ≤ 24 → (x = 14) ∨ (x = 15) ∨ (x = 16) ∨ (x = 17) ∨ (x = 18) ∨ (x = 19) ∨ (x = 20) ∨ (x = 21) ∨ (x = 22) ∨ (x = 23) ∨ (x = 24) := fun x h => by omega
      obtain h23 | h23 | h23 | h23 | h23 | h23 | h23 | h23 | h23 | h23 | h23 := hs24 (o) (by omega)
      · refine e_Ok.swk (tg := 76) rfl (by rw [h23]; rfl) ?_
        refine e_Ok.run (t' := (79, [(0, (1, 8)), (1, (0, o)), (2, (0, v)), (3, (0, u))], [(0, v), (0, u), (1, 8)], w)) 3 rfl ?_
        refine e_Ok.any rfl (eF_add_any _ _) (fun z25 z25a z25b => ?_)
        refine e_Ok.callV rfl (e_dq hd rfl) rfl rfl rfl rfl (c_52 hT (by omega) hk) (fun r26 w27 h28 => ?_)
        obtain ⟨rfl, q29f, q29T, q29x⟩ := h28
        refine e_Ok.nrm (q := 83) (st' := []) rfl rfl ?_
        refine e_Ok.ps0 (q := 241) 1 rfl ?_
        refine e_Ok.rets rfl rfl ?_
        exact ⟨rfl, (show e_fr kDs w w27 from e_fr.trans (e_fr.refl w) (e_fr.mono q29f (fun c k q => by exact q))), q29T, q29x⟩
      · refine e_Ok.swk (tg := 86) rfl (by rw [h23]; rfl) ?_
        refine e_Ok.run (t' := (89, [(0, (1, 8)), (1, (0, o)), (2, (0, v)), (3, (0, u))], [(0, v), (0, u), (1, 8)], w)) 3 rfl ?_
        refine e_Ok.any rfl (eF_sub_any _ _) (fun z31 z31a z31b => ?_)
        refine e_Ok.callV rfl (e_dq hd rfl) rfl rfl rfl rfl (c_52 hT (by omega) hk) (fun r32 w33 h34 => ?_)
        obtain ⟨rfl, q35f, q35T, q35x⟩ := h34
        refine e_Ok.nrm (q := 93) (st' := []) rfl rfl ?_
        refine e_Ok.ps0 (q := 241) 1 rfl ?_
        refine e_Ok.rets rfl rfl ?_
        exact ⟨rfl, (show e_fr kDs w w33 from e_fr.trans (e_fr.refl w) (e_fr.mono q35f (fun c k q => by exact q))), q35T, q35x⟩
      · refine e_Ok.swk (tg := 96) rfl (by rw [h23]; rfl) ?_
        refine e_Ok.run (t' := (99, [(0, (1, 8)), (1, (0, o)), (2, (0, v)), (3, (0, u))], [(0, v), (0, u), (1, 8)], w)) 3 rfl ?_
        refine e_Ok.any rfl (eF_mul_any _ _) (fun z37 z37a z37b => ?_)
        refine e_Ok.callV rfl (e_dq hd rfl) rfl rfl rfl rfl (c_52 hT (by omega) hk) (fun r38 w40 h41 => ?_)
        obtain ⟨rfl, q42f, q42T, q42x⟩ := h41
        refine e_Ok.nrm (q := 103) (st' := []) rfl rfl ?_
        refine e_Ok.ps0 (q := 241) 1 rfl ?_
        refine e_Ok.rets rfl rfl ?_
        exact ⟨rfl, (show e_fr kDs w w40 from e_fr.trans (e_fr.refl w) (e_fr.mono q42f (fun c k q => by exact q))), q42T, q42x⟩
      · refine e_Ok.swk (tg := 106) rfl (by rw [h23]; rfl) ?_
        refine e_Ok.run (t' := (108, [(0, (1, 8)), (1, (0, o)), (2, (0, v)), (3, (0, u))], [(0, v), (1, 8)], w)) 2 rfl ?_
        refine e_Ok.if1 rfl (fun h44 => ?_) (fun h44 => ?_)
        · replace h44 : (v : Int) ≠ 0 := h44
          refine e_Ok.ps2 (x := (0, v)) (y := (0, u)) (q := 117) 2 rfl ?_
          refine e_Ok.any rfl (eF_div_any (by omega)) (fun z45 z45a z45b => ?_)
          refine e_Ok.callV rfl (e_dq hd rfl) rfl rfl rfl rfl (c_52 hT (by omega) hk) (fun r46 w47 h48 => ?_)
          obtain ⟨rfl, q49f, q49T, q49x⟩ := h48
          refine e_Ok.nrm (q := 121) (st' := []) rfl rfl ?_
          refine e_Ok.ps0 (q := 241) 1 rfl ?_
          refine e_Ok.rets rfl rfl ?_
          exact ⟨rfl, (show e_fr kDs w w47 from e_fr.trans (e_fr.refl w) (e_fr.mono q49f (fun c k q => by exact q))), q49T, q49x⟩
        · replace h44 : (v : Int) = 0 := Classical.not_not.mp (show ¬ ((v : Int) ≠ 0) from h44)
          refine e_Ok.ps1 (x := (0, 0)) (q := 118) 2 rfl ?_
          refine e_Ok.callV rfl (e_dq hd rfl) rfl rfl rfl rfl (c_52 hT (by omega) hk) (fun r51 w52 h53 => ?_)
          obtain ⟨rfl, q54f, q54T, q54x⟩ := h53
          refine e_Ok.nrm (q := 121) (st' := []) rfl rfl ?_
          refine e_Ok.ps0 (q := 241) 1 rfl ?_
          refine e_Ok.rets rfl rfl ?_
          exact ⟨rfl, (show e_fr kDs w w52 from e_fr.trans (e_fr.refl w) (e_fr.mono q54f (fun c k q => by exact q))), q54T, q54x⟩
      · refine e_Ok.swk (tg := 124) rfl (by rw [h23]; rfl) ?_
        refine e_Ok.run (t' := (126, [(0, (1, 8)), (1, (0, o)), (2, (0, v)), (3, (0, u))], [(0, v), (1, 8)], w)) 2 rfl ?_
        refine e_Ok.if1 rfl (fun h56 => ?_) (fun h56 => ?_)
        · replace h56 : (v : Int) ≠ 0 := h56
          refine e_Ok.ps2 (x := (0, v)) (y := (0, u)) (q := 135) 2 rfl ?_
          refine e_Ok.any rfl (eF_rem_any (by omega)) (fun z57 z57a z57b => ?_)
          refine e_Ok.callV rfl (e_dq hd rfl) rfl rfl rfl rfl (c_52 hT (by omega) hk) (fun r58 w59 h60 => ?_)
          obtain ⟨rfl, q61f, q61T, q61x⟩ := h60
          refine e_Ok.nrm (q := 139) (st' := []) rfl rfl ?_
          refine e_Ok.ps0 (q := 241) 1 rfl ?_
          refine e_Ok.rets rfl rfl ?_
          exact ⟨rfl, (show e_fr kDs w w59 from e_fr.trans (e_fr.refl w) (e_fr.mono q61f (fun c k q => by exact q))), q61T, q61x⟩
        · replace h56 : (v : Int) = 0 := Classical.not_not.mp (show ¬ ((v : Int) ≠ 0) from h56)
          refine e_Ok.ps1 (x := (0, 0)) (q := 136) 2 rfl ?_
          refine e_Ok.callV rfl (e_dq hd rfl) rfl rfl rfl rfl (c_52 hT (by omega) hk) (fun r63 w64 h65 => ?_)
          obtain ⟨rfl, q66f, q66T, q66x⟩ := h65
          refine e_Ok.nrm (q := 139) (st' := []) rfl rfl ?_
          refine e_Ok.ps0 (q := 241) 1 rfl ?_
          refine e_Ok.rets rfl rfl ?_
          exact ⟨rfl, (show e_fr kDs w w64 from e_fr.trans (e_fr.refl w) (e_fr.mono q66f (fun c k q => by exact q))), q66T, q66x⟩
      · refine e_Ok.swk (tg := 142) rfl (by rw [h23]; rfl) ?_
        refine e_Ok.run (t' := (145, [(0, (1, 8)), (1, (0, o)), (2, (0, v)), (3, (0, u))], [(0, v), (0, u), (1, 8)], w)) 3 rfl ?_
        have hJ70 : ∀ m69 : Int, 0 ≤ m69 ∧ m69 ≤ 1 → e_Ok 20 elay kcode eI (d + 1) 58 (153, [(0, (1, 8)), (1, (0, o)), (2, (0, v)), (3, (0, u))], [(0, m69), (1, 8)], w) (fun r w' => r = [] ∧ e_fr kDs w w' ∧ e_Has kTy w' ∧ sK w') := by
          intro m69 m69r
          refine e_Ok.callV rfl (e_dq hd rfl) rfl rfl rfl rfl (c_52 hT (by omega) hk) (fun r71 w72 h73 => ?_)
          obtain ⟨rfl, q74f, q74T, q74x⟩ := h73
          show e_Ok 20 elay kcode eI (d + 1) 58 (156, [(0, (1, 8)), (1, (0, o)), (2, (0, v)), (3, (0, u))], [], w72) _
          refine e_Ok.ps0 (q := 241) 1 rfl ?_
          refine e_Ok.rets rfl rfl ?_
          exact ⟨rfl, (show e_fr kDs w w72 from e_fr.trans (e_fr.refl w) (e_fr.mono q74f (fun c k q => by exact q))), q74T, q74x⟩
        refine e_Ok.if2 rfl (fun h68 => ?_) (fun h68 => ?_)
        · exact e_Ok.run 1 rfl (hJ70 0 (by omega))
        · exact e_Ok.run 2 rfl (hJ70 1 (by omega))
      · refine e_Ok.swk (tg := 159) rfl (by rw [h23]; rfl) ?_
        refine e_Ok.run (t' := (162, [(0, (1, 8)), (1, (0, o)), (2, (0, v)), (3, (0, u))], [(0, v), (0, u), (1, 8)], w)) 3 rfl ?_
        have hJ78 : ∀ m77 : Int, 0 ≤ m77 ∧ m77 ≤ 1 → e_Ok 20 elay kcode eI (d + 1) 58 (170, [(0, (1, 8)), (1, (0, o)), (2, (0, v)), (3, (0, u))], [(0, m77), (1, 8)], w) (fun r w' => r = [] ∧ e_fr kDs w w' ∧ e_Has kTy w' ∧ sK w') := by
          intro m77 m77r
          refine e_Ok.callV rfl (e_dq hd rfl) rfl rfl rfl rfl (c_52 hT (by omega) hk) (fun r79 w80 h81 => ?_)
          obtain ⟨rfl, q82f, q82T, q82x⟩ := h81
          show e_Ok 20 elay kcode eI (d + 1) 58 (173, [(0, (1, 8)), (1, (0, o)), (2, (0, v)), (3, (0, u))], [], w80) _
          refine e_Ok.ps0 (q := 241) 1 rfl ?_
          refine e_Ok.rets rfl rfl ?_
          exact ⟨rfl, (show e_fr kDs w w80 from e_fr.trans (e_fr.refl w) (e_fr.mono q82f (fun c k q => by exact q))), q82T, q82x⟩
        refine e_Ok.if2 rfl (fun h76 => ?_) (fun h76 => ?_)
        · exact e_Ok.run 1 rfl (hJ78 0 (by omega))
        · exact e_Ok.run 2 rfl (hJ78 1 (by omega))
      · refine e_Ok.swk (tg := 176) rfl (by rw [h23]; rfl) ?_
        refine e_Ok.run (t' := (179, [(0, (1, 8)), (1, (0, o)), (2, (0, v)), (3, (0, u))], [(0, v), (0, u), (1, 8)], w)) 3 rfl ?_
        have hJ86 : ∀ m85 : Int, 0 ≤ m85 ∧ m85 ≤ 1 → e_Ok 20 elay kcode eI (d + 1) 58 (187, [(0, (1, 8)), (1, (0, o)), (2, (0, v)), (3, (0, u))], [(0, m85), (1, 8)], w) (fun r w' => r = [] ∧ e_fr kDs w w' ∧ e_Has kTy w' ∧ sK w') := by
          intro m85 m85r
          refine e_Ok.callV rfl (e_dq hd rfl) rfl rfl rfl rfl (c_52 hT (by omega) hk) (fun r87 w88 h89 => ?_)
          obtain ⟨rfl, q90f, q90T, q90x⟩ := h89
          show e_Ok 20 elay kcode eI (d + 1) 58 (190, [(0, (1, 8)), (1, (0, o)), (2, (0, v)), (3, (0, u))], [], w88) _
          refine e_Ok.ps0 (q := 241) 1 rfl ?_
          refine e_Ok.rets rfl rfl ?_
          exact ⟨rfl, (show e_fr kDs w w88 from e_fr.trans (e_fr.refl w) (e_fr.mono q90f (fun c k q => by exact q))), q90T, q90x⟩
        refine e_Ok.if2 rfl (fun h84 => ?_) (fun h84 => ?_)
        · exact e_Ok.run 1 rfl (hJ86 0 (by omega))
        · exact e_Ok.run 2 rfl (hJ86 1 (by omega))
      · refine e_Ok.swk (tg := 193) rfl (by rw [h23]; rfl) ?_
        refine e_Ok.run (t' := (196, [(0, (1, 8)), (1, (0, o)), (2, (0, v)), (3, (0, u))], [(0, v), (0, u), (1, 8)], w)) 3 rfl ?_
        have hJ94 : ∀ m93 : Int, 0 ≤ m93 ∧ m93 ≤ 1 → e_Ok 20 elay kcode eI (d + 1) 58 (204, [(0, (1, 8)), (1, (0, o)), (2, (0, v)), (3, (0, u))], [(0, m93), (1, 8)], w) (fun r w' => r = [] ∧ e_fr kDs w w' ∧ e_Has kTy w' ∧ sK w') := by
          intro m93 m93r
          refine e_Ok.callV rfl (e_dq hd rfl) rfl rfl rfl rfl (c_52 hT (by omega) hk) (fun r95 w101 h103 => ?_)
          obtain ⟨rfl, q104f, q104T, q104x⟩ := h103
          show e_Ok 20 elay kcode eI (d + 1) 58 (207, [(0, (1, 8)), (1, (0, o)), (2, (0, v)), (3, (0, u))], [], w101) _
          refine e_Ok.ps0 (q := 241) 1 rfl ?_
          refine e_Ok.rets rfl rfl ?_
          exact ⟨rfl, (show e_fr kDs w w101 from e_fr.trans (e_fr.refl w) (e_fr.mono q104f (fun c k q => by exact q))), q104T, q104x⟩
        refine e_Ok.if2 rfl (fun h92 => ?_) (fun h92 => ?_)
        · exact e_Ok.run 1 rfl (hJ94 0 (by omega))
        · exact e_Ok.run 2 rfl (hJ94 1 (by omega))
      · refine e_Ok.swk (tg := 210) rfl (by rw [h23]; rfl) ?_
        refine e_Ok.run (t' := (213, [(0, (1, 8)), (1, (0, o)), (2, (0, v)), (3, (0, u))], [(0, v), (0, u), (1, 8)], w)) 3 rfl ?_
        have hJ108 : ∀ m107 : Int, 0 ≤ m107 ∧ m107 ≤ 1 → e_Ok 20 elay kcode eI (d + 1) 58 (221, [(0, (1, 8)), (1, (0, o)), (2, (0, v)), (3, (0, u))], [(0, m107), (1, 8)], w) (fun r w' => r = [] ∧ e_fr kDs w w' ∧ e_Has kTy w' ∧ sK w') := by
          intro m107 m107r
          refine e_Ok.callV rfl (e_dq hd rfl) rfl rfl rfl rfl (c_52 hT (by omega) hk) (fun r109 w110 h111 => ?_)
          obtain ⟨rfl, q112f, q112T, q112x⟩ := h111
          show e_Ok 20 elay kcode eI (d + 1) 58 (224, [(0, (1, 8)), (1, (0, o)), (2, (0, v)), (3, (0, u))], [], w110) _
          refine e_Ok.ps0 (q := 241) 1 rfl ?_
          refine e_Ok.rets rfl rfl ?_
          exact ⟨rfl, (show e_fr kDs w w110 from e_fr.trans (e_fr.refl w) (e_fr.mono q112f (fun c k q => by exact q))), q112T, q112x⟩
        refine e_Ok.if2 rfl (fun h106 => ?_) (fun h106 => ?_)
        · exact e_Ok.run 1 rfl (hJ108 0 (by omega))
        · exact e_Ok.run 2 rfl (hJ108 1 (by omega))
      · refine e_Ok.swk (tg := 227) rfl (by rw [h23]; rfl) ?_
        refine e_Ok.run (t' := (230, [(0, (1, 8)), (1, (0, o)), (2, (0, v)), (3, (0, u))], [(0, v), (0, u), (1, 8)], w)) 3 rfl ?_
        have hJ116 : ∀ m115 : Int, 0 ≤ m115 ∧ m115 ≤ 1 → e_Ok 20 elay kcode eI (d + 1) 58 (238, [(0, (1, 8)), (1, (0, o)), (2, (0, v)), (3, (0, u))], [(0, m115), (1, 8)], w) (fun r w' => r = [] ∧ e_fr kDs w w' ∧ e_Has kTy w' ∧ sK w') := by
          intro m115 m115r
          refine e_Ok.callV rfl (e_dq hd rfl) rfl rfl rfl rfl (c_52 hT (by omega) hk) (fun r117 w118 h119 => ?_)
          obtain ⟨rfl, q120f, q120T, q120x⟩ := h119
          show e_Ok 20 elay kcode eI (d + 1) 58 (241, [(0, (1, 8)), (1, (0, o)), (2, (0, v)), (3, (0, u))], [], w118) _
          refine e_Ok.rets rfl rfl ?_
          exact ⟨rfl, (show e_fr kDs w w118 from e_fr.trans (e_fr.refl w) (e_fr.mono q120f (fun c k q => by exact q))), q120T, q120x⟩
        refine e_Ok.if2 rfl (fun h114 => ?_) (fun h114 => ?_)
        · exact e_Ok.run 1 rfl (hJ116 0 (by omega))
        · exact e_Ok.run 2 rfl (hJ116 1 (by omega))
    · replace h22 : (o : Int) = 18 := Classical.not_not.mp (show ¬ ((o : Int) ≠ 18) from h22)
      refine e_Ok.ps1 (x := (0, v)) (q := 13) 1 rfl ?_
      refine e_Ok.if1 rfl (fun h122 => ?_) (fun h122 => ?_)
      · replace h122 : (v : Int) ≠ 0 := h122
        refine e_Ok.ps1 (x := (0, o)) (q := 23) 1 rfl ?_
        have hs124 : ∀ x : Int, 18 ≤ x ∧ x ≤ 18 → (x = 18) := fun x h => by omega
        obtain h123 := hs124 (o) (by omega)
        · refine e_Ok.swk (tg := 124) rfl (by rw [h123]; rfl) ?_
          refine e_Ok.run (t' := (126, [(0, (1, 8)), (1, (0, o)), (2, (0, v)), (3, (0, u))], [(0, v), (1, 8)], w)) 2 rfl ?_
          refine e_Ok.if1 rfl (fun h125 => ?_) (fun h125 => ?_)
          · replace h125 : (v : Int) ≠ 0 := h125
            refine e_Ok.ps2 (x := (0, v)) (y := (0, u)) (q := 135) 2 rfl ?_
            refine e_Ok.any rfl (eF_rem_any (by omega)) (fun z126 z126a z126b => ?_)
            refine e_Ok.callV rfl (e_dq hd rfl) rfl rfl rfl rfl (c_52 hT (by omega) hk) (fun r127 w128 h129 => ?_)
            obtain ⟨rfl, q130f, q130T, q130x⟩ := h129
            refine e_Ok.nrm (q := 139) (st' := []) rfl rfl ?_
            refine e_Ok.ps0 (q := 241) 1 rfl ?_
            refine e_Ok.rets rfl rfl ?_
            exact ⟨rfl, (show e_fr kDs w w128 from e_fr.trans (e_fr.refl w) (e_fr.mono q130f (fun c k q => by exact q))), q130T, q130x⟩
          · replace h125 : (v : Int) = 0 := Classical.not_not.mp (show ¬ ((v : Int) ≠ 0) from h125)
            refine e_Ok.ps1 (x := (0, 0)) (q := 136) 2 rfl ?_
            refine e_Ok.callV rfl (e_dq hd rfl) rfl rfl rfl rfl (c_52 hT (by omega) hk) (fun r132 w133 h134 => ?_)
            obtain ⟨rfl, q135f, q135T, q135x⟩ := h134
            refine e_Ok.nrm (q := 139) (st' := []) rfl rfl ?_
            refine e_Ok.ps0 (q := 241) 1 rfl ?_
            refine e_Ok.rets rfl rfl ?_
            exact ⟨rfl, (show e_fr kDs w w133 from e_fr.trans (e_fr.refl w) (e_fr.mono q135f (fun c k q => by exact q))), q135T, q135x⟩
      · replace h122 : (v : Int) = 0 := Classical.not_not.mp (show ¬ ((v : Int) ≠ 0) from h122)
        refine e_Ok.ps2 (x := (0, 1)) (y := (1, 8)) (q := 18) 2 rfl ?_
        refine e_Ok.callV rfl (e_dq hd rfl) rfl rfl rfl rfl (c_46 hT (by omega) hk) (fun r137 w138 h139 => ?_)
        obtain ⟨rfl, q140f, q140T, q140x⟩ := h139
        refine e_Ok.nrm (q := 21) (st' := []) rfl rfl ?_
        refine e_Ok.rets rfl rfl ?_
        exact ⟨rfl, (show e_fr kDs w w138 from e_fr.trans (e_fr.refl w) (e_fr.mono q140f (fun c k q => by exact q))), q140T, q140x⟩
theorem c_54 {d : Nat} (hd : 23 ≤ d) {w : eW} (hT : e_Has kTy w) {t a o n : Int} (g_t : 0 ≤ t ∧ t ≤ 15) (g_a : 0 ≤ a ∧ a ≤ 3) (g_o : 0 ≤ o ∧ o ≤ 8) (g_n : 0 ≤ n ∧ n ≤ 33554431) (hk : sK w) (ha : w (6 * t + 154) 2 = a) (hn : o = 2 → n ≤ 31) : e_Ok 20 elay kcode eI d 54 (0, [(0, (1, 8)), (1, (1, 6 * t + 154)), (2, (0, o)), (3, (0, n))], [], w) (fun r w' => r = [] ∧ e_fr kDs w w' ∧ e_Has kTy w' ∧ sK w') := by
  obtain ⟨d, rfl⟩ : ∃ e, d = e + 1 := ⟨d - 1, by omega⟩
  refine e_Ok.ps1 (x := (1, 8)) (q := 1) 1 rfl ?_
  refine e_Ok.getr (z := 9) rfl (el_o rfl) rfl rfl (e_Has.eq hT (kt_o rfl)) ⟨by decide, by decide⟩ ?_
  refine e_Ok.ps1 (x := (1, 6 * t + 154)) (q := 5) 1 rfl ?_
  refine e_Ok.getf (z := a) rfl (lT0 (t := t) rfl g_t) rfl rfl ha (by omega) ?_
  refine e_Ok.aald (z := 17 * a + 86) rfl (el_o rfl) rfl (by omega) (Eq.trans (e_Has.eq hT (k9 (by omega))) (by omega)) (by omega) ?_
  refine e_Ok.run (t' := (12, [(4, (1, 17 * a + 86)), (0, (1, 8)), (1, (1, 6 * t + 154)), (2, (0, o)), (3, (0, n))], [(0, o)], w)) 2 rfl ?_
  have hs2 : ∀ x : Int, 0 ≤ x ∧ x ≤ 8 → (x = 0) ∨ (x = 1) ∨ (x = 2) ∨ (x = 3) ∨ (x = 4) ∨ (x = 5) ∨ (x = 6) ∨ (x = 7) ∨ (x = 8) := fun x h => by omega
  obtain h1 | h1 | h1 | h1 | h1 | h1 | h1 | h1 | h1 := hs2 (o) (by omega)
  · refine e_Ok.swk (tg := 60) rfl (by rw [h1]; rfl) ?_
    refine e_Ok.run (t' := (62, [(4, (1, 17 * a + 86)), (0, (1, 8)), (1, (1, 6 * t + 154)), (2, (0, o)), (3, (0, n))], [(0, n), (1, 8)], w)) 2 rfl ?_
    refine e_Ok.callV rfl (e_dq hd rfl) rfl rfl rfl rfl (c_52 hT (by omega) hk) (fun r3 w4 h5 => ?_)
    obtain ⟨rfl, q6f, q6T, q6x⟩ := h5
    refine e_Ok.nrm (q := 65) (st' := []) rfl rfl ?_
    refine e_Ok.ps0 (q := 186) 1 rfl ?_
    refine e_Ok.rets rfl rfl ?_
    exact ⟨rfl, (show e_fr kDs w w4 from e_fr.trans (e_fr.refl w) (e_fr.mono q6f (fun c k q => by exact q))), q6T, q6x⟩
  · refine e_Ok.swk (tg := 68) rfl (by rw [h1]; rfl) ?_
    refine e_Ok.run (t' := (70, [(4, (1, 17 * a + 86)), (0, (1, 8)), (1, (1, 6 * t + 154)), (2, (0, o)), (3, (0, n))], [(1, 8), (1, 8)], w)) 2 rfl ?_
    refine e_Ok.callV rfl (e_dq hd rfl) rfl rfl rfl rfl (c_53 hT hk) (fun r8 w9 h10 => ?_)
    obtain ⟨z12, rfl, q11f, q11T, q11r, q11x⟩ := h10
    refine e_Ok.nrm (q := 73) (st' := [(0, z12), (1, 8)]) rfl rfl ?_
    refine e_Ok.ps1 (x := (0, 16)) (q := 75) 1 rfl ?_
    refine e_Ok.any rfl (eB_any _ _) (fun z14 z14a z14b => ?_)
    refine e_Ok.ps1 (x := (0, n)) (q := 77) 1 rfl ?_
    refine e_Ok.any rfl (eB_any _ _) (fun z15 z15a z15b => ?_)
    refine e_Ok.callV rfl (e_dq hd rfl) rfl rfl rfl rfl (c_52 q11T (by omega) q11x) (fun r16 w17 h18 => ?_)
    obtain ⟨rfl, q19f, q19T, q19x⟩ := h18
    refine e_Ok.nrm (q := 81) (st' := []) rfl rfl ?_
    refine e_Ok.ps0 (q := 186) 1 rfl ?_
    refine e_Ok.rets rfl rfl ?_
    exact ⟨rfl, (show e_fr kDs w w17 from e_fr.trans (show e_fr kDs w w9 from e_fr.trans (e_fr.refl w) (e_fr.mono q11f (fun c k q => by exact q))) (e_fr.mono q19f (fun c k q => by exact q))), q19T, q19x⟩
  · refine e_Ok.swk (tg := 84) rfl (by rw [h1]; rfl) ?_
    refine e_Ok.run (t' := (87, [(4, (1, 17 * a + 86)), (0, (1, 8)), (1, (1, 6 * t + 154)), (2, (0, o)), (3, (0, n))], [(1, 17 * a + 86), (1, 8)], w)) 2 rfl ?_
    refine e_Ok.getr (z := 17 * a + 93) rfl (lA0 (a := a) rfl g_a) rfl rfl (Eq.trans (e_Has.eq hT (kA_6 (a := a) rfl g_a)) (by omega)) (by omega) ?_
    refine e_Ok.ps1 (x := (0, n)) (q := 91) 1 rfl ?_
    have h21 := (e_Has.get hT (c := 17 * a + 93) (k := n) (lo := (-2147483648)) (hi := 2147483647) (kA93 (a := a) _ rfl g_a) (by decide))
    refine e_Ok.ald (z := w (17 * a + 93) n) rfl (lA7 (a := a) rfl g_a) rfl (by omega) rfl (e_bq h21 (by decide) (by decide)) ?_
    refine e_Ok.callV rfl (e_dq hd rfl) rfl rfl rfl rfl (c_52 hT (by omega) hk) (fun r22 w23 h24 => ?_)
    obtain ⟨rfl, q25f, q25T, q25x⟩ := h24
    refine e_Ok.nrm (q := 95) (st' := []) rfl rfl ?_
    refine e_Ok.ps0 (q := 186) 1 rfl ?_
    refine e_Ok.rets rfl rfl ?_
    exact ⟨rfl, (show e_fr kDs w w23 from e_fr.trans (e_fr.refl w) (e_fr.mono q25f (fun c k q => by exact q))), q25T, q25x⟩
  · refine e_Ok.swk (tg := 98) rfl (by rw [h1]; rfl) ?_
    refine e_Ok.run (t' := (100, [(4, (1, 17 * a + 86)), (0, (1, 8)), (1, (1, 6 * t + 154)), (2, (0, o)), (3, (0, n))], [(1, 8), (1, 8)], w)) 2 rfl ?_
    refine e_Ok.callV rfl (e_dq hd rfl) rfl rfl rfl rfl (c_53 hT hk) (fun r27 w28 h29 => ?_)
    obtain ⟨z31, rfl, q30f, q30T, q30r, q30x⟩ := h29
    refine e_Ok.nrm (q := 103) (st' := [(0, z31), (1, 8)]) rfl rfl ?_
    refine e_Ok.callV rfl (e_dq hd rfl) rfl rfl rfl rfl (c_55 (e_dq hd rfl) q30T (by omega) q30x) (fun r33 w34 h35 => ?_)
    obtain ⟨rfl, q36f, q36T, q36x⟩ := h35
    refine e_Ok.nrm (q := 106) (st' := []) rfl rfl ?_
    refine e_Ok.ps0 (q := 186) 1 rfl ?_
    refine e_Ok.rets rfl rfl ?_
    exact ⟨rfl, (show e_fr kDs w w34 from e_fr.trans (show e_fr kDs w w28 from e_fr.trans (e_fr.refl w) (e_fr.mono q30f (fun c k q => by exact q))) (e_fr.mono q36f (fun c k q => by exact q))), q36T, q36x⟩
  · refine e_Ok.swk (tg := 109) rfl (by rw [h1]; rfl) ?_
    refine e_Ok.run (t' := (113, [(4, (1, 17 * a + 86)), (0, (1, 8)), (1, (1, 6 * t + 154)), (2, (0, o)), (3, (0, n))], [(1, 8), (1, 17 * a + 86), (1, 8)], w)) 3 rfl ?_
    refine e_Ok.callV rfl (e_dq hd rfl) rfl rfl rfl rfl (c_53 hT hk) (fun r38 w40 h41 => ?_)
    obtain ⟨z43, rfl, q42f, q42T, q42r, q42x⟩ := h41
    refine e_Ok.nrm (q := 116) (st' := [(0, z43), (1, 17 * a + 86), (1, 8)]) rfl rfl ?_
    refine e_Ok.callV rfl (e_dq hd rfl) rfl rfl rfl rfl (c_56 (e_dq hd rfl) (a := a) q42T (by omega) (by omega) q42x) (fun r45 w46 h47 => ?_)
    obtain ⟨rfl, q48f, q48T, q48x⟩ := h47
    refine e_Ok.nrm (q := 119) (st' := []) rfl rfl ?_
    refine e_Ok.ps0 (q := 186) 1 rfl ?_
    refine e_Ok.rets rfl rfl ?_
    exact ⟨rfl, (show e_fr kDs w w46 from e_fr.trans (show e_fr kDs w w40 from e_fr.trans (e_fr.refl w) (e_fr.mono q42f (fun c k q => by exact q))) (e_fr.mono q48f (fun c k q => by exact q))), q48T, q48x⟩
  · refine e_Ok.swk (tg := 122) rfl (by rw [h1]; rfl) ?_
    refine e_Ok.run (t' := (124, [(4, (1, 17 * a + 86)), (0, (1, 8)), (1, (1, 6 * t + 154)), (2, (0, o)), (3, (0, n))], [(1, 8), (1, 8)], w)) 2 rfl ?_
    refine e_Ok.getr (z := 74) rfl (el_o rfl) rfl rfl (e_Has.eq hT (kt_o rfl)) ⟨by decide, by decide⟩ ?_
    have h50 := (e_Has.get hT (c := 74) (k := 0) (lo := 0) (hi := 6000) (kt_o rfl) (by decide))
    refine e_Ok.getf (z := w 74 0) rfl (el_o rfl) rfl rfl rfl (e_bq h50 (by decide) (by decide)) ?_
    refine e_Ok.callV rfl (e_dq hd rfl) rfl rfl rfl rfl (c_52 hT (by omega) hk) (fun r51 w52 h53 => ?_)
    obtain ⟨rfl, q54f, q54T, q54x⟩ := h53
    refine e_Ok.nrm (q := 133) (st' := []) rfl rfl ?_
    refine e_Ok.ps0 (q := 186) 1 rfl ?_
    refine e_Ok.rets rfl rfl ?_
    exact ⟨rfl, (show e_fr kDs w w52 from e_fr.trans (e_fr.refl w) (e_fr.mono q54f (fun c k q => by exact q))), q54T, q54x⟩
  · refine e_Ok.swk (tg := 136) rfl (by rw [h1]; rfl) ?_
    refine e_Ok.run (t' := (138, [(4, (1, 17 * a + 86)), (0, (1, 8)), (1, (1, 6 * t + 154)), (2, (0, o)), (3, (0, n))], [(1, 6 * t + 154), (1, 8)], w)) 2 rfl ?_
    have h56 := (e_Has.get hT (c := 6 * t + 154) (k := 6) (lo := (-2147483648)) (hi := 2147483647) (kT_6 (t := t) rfl g_t) (by decide))
    refine e_Ok.getf (z := w (6 * t + 154) 6) rfl (lT0 (t := t) rfl g_t) rfl rfl rfl (e_bq h56 (by decide) (by decide)) ?_
    refine e_Ok.callV rfl (e_dq hd rfl) rfl rfl rfl rfl (c_52 hT (by omega) hk) (fun r57 w58 h59 => ?_)
    obtain ⟨rfl, q60f, q60T, q60x⟩ := h59
    refine e_Ok.nrm (q := 144) (st' := []) rfl rfl ?_
    refine e_Ok.ps0 (q := 186) 1 rfl ?_
    refine e_Ok.rets rfl rfl ?_
    exact ⟨rfl, (show e_fr kDs w w58 from e_fr.trans (e_fr.refl w) (e_fr.mono q60f (fun c k q => by exact q))), q60T, q60x⟩
  · refine e_Ok.swk (tg := 147) rfl (by rw [h1]; rfl) ?_
    refine e_Ok.run (t' := (149, [(4, (1, 17 * a + 86)), (0, (1, 8)), (1, (1, 6 * t + 154)), (2, (0, o)), (3, (0, n))], [(1, 8), (1, 8)], w)) 2 rfl ?_
    refine e_Ok.getr (z := 74) rfl (el_o rfl) rfl rfl (e_Has.eq hT (kt_o rfl)) ⟨by decide, by decide⟩ ?_
    have h62 := (e_Has.get hT (c := 74) (k := 3) (lo := 0) (hi := 1) (kt_o rfl) (by decide))
    refine e_Ok.getf (z := w 74 3) rfl (el_o rfl) rfl rfl rfl (e_bq h62 (by decide) (by decide)) ?_
    have hJ65 : ∀ m64 : Int, 0 ≤ m64 ∧ m64 ≤ 1 → e_Ok 20 elay kcode eI (d + 1) 54 (163, [(4, (1, 17 * a + 86)), (0, (1, 8)), (1, (1, 6 * t + 154)), (2, (0, o)), (3, (0, n))], [(0, m64), (1, 8)], w) (fun r w' => r = [] ∧ e_fr kDs w w' ∧ e_Has kTy w' ∧ sK w') := by
      intro m64 m64r
      refine e_Ok.callV rfl (e_dq hd rfl) rfl rfl rfl rfl (c_52 hT (by omega) hk) (fun r66 w67 h68 => ?_)
      obtain ⟨rfl, q69f, q69T, q69x⟩ := h68
      show e_Ok 20 elay kcode eI (d + 1) 54 (166, [(4, (1, 17 * a + 86)), (0, (1, 8)), (1, (1, 6 * t + 154)), (2, (0, o)), (3, (0, n))], [], w67) _
      refine e_Ok.ps0 (q := 186) 1 rfl ?_
      refine e_Ok.rets rfl rfl ?_
      exact ⟨rfl, (show e_fr kDs w w67 from e_fr.trans (e_fr.refl w) (e_fr.mono q69f (fun c k q => by exact q))), q69T, q69x⟩
    refine e_Ok.if1 rfl (fun h63 => ?_) (fun h63 => ?_)
    · exact e_Ok.run 1 rfl (hJ65 0 (by omega))
    · exact e_Ok.run 2 rfl (hJ65 1 (by omega))
  · refine e_Ok.swk (tg := 169) rfl (by rw [h1]; rfl) ?_
    refine e_Ok.run (t' := (172, [(4, (1, 17 * a + 86)), (0, (1, 8)), (1, (1, 6 * t + 154)), (2, (0, o)), (3, (0, n))], [(1, 17 * a + 86), (1, 8)], w)) 2 rfl ?_
    have h71 := (e_Has.get hT (c := 17 * a + 86) (k := 14) (lo := (-1)) (hi := 31) (kA_14 (a := a) rfl g_a) (by decide))
    refine e_Ok.getf (z := w (17 * a + 86) 14) rfl (lA0 (a := a) rfl g_a) rfl rfl rfl (e_bq h71 (by decide) (by decide)) ?_
    have hJ74 : ∀ m73 : Int, 0 ≤ m73 ∧ m73 ≤ 1 → e_Ok 20 elay kcode eI (d + 1) 54 (183, [(4, (1, 17 * a + 86)), (0, (1, 8)), (1, (1, 6 * t + 154)), (2, (0, o)), (3, (0, n))], [(0, m73), (1, 8)], w) (fun r w' => r = [] ∧ e_fr kDs w w' ∧ e_Has kTy w' ∧ sK w') := by
      intro m73 m73r
      refine e_Ok.callV rfl (e_dq hd rfl) rfl rfl rfl rfl (c_52 hT (by omega) hk) (fun r75 w76 h77 => ?_)
      obtain ⟨rfl, q78f, q78T, q78x⟩ := h77
      show e_Ok 20 elay kcode eI (d + 1) 54 (186, [(4, (1, 17 * a + 86)), (0, (1, 8)), (1, (1, 6 * t + 154)), (2, (0, o)), (3, (0, n))], [], w76) _
      refine e_Ok.rets rfl rfl ?_
      exact ⟨rfl, (show e_fr kDs w w76 from e_fr.trans (e_fr.refl w) (e_fr.mono q78f (fun c k q => by exact q))), q78T, q78x⟩
    refine e_Ok.if1 rfl (fun h72 => ?_) (fun h72 => ?_)
    · exact e_Ok.run 1 rfl (hJ74 0 (by omega))
    · exact e_Ok.run 2 rfl (hJ74 1 (by omega))
theorem no_c8_0 {t : Int} (ht : 0 ≤ t ∧ t ≤ 15) : ¬ kDs (6 * t + 154) 3 := by unfold kDs; omega
theorem su_c8_6 {t : Int} {c k : Int} (q : kDs c k) : kDp t c k := by
  unfold kDs at q
  rcases q with ⟨q, (q | q | q)⟩ | q
  · exact Or.inl ⟨(by omega), Or.inl (by omega)⟩
  · exact Or.inl ⟨(by omega), Or.inr (Or.inl (by omega))⟩
  · exact Or.inl ⟨(by omega), Or.inr (Or.inr (by omega))⟩
  · exact Or.inr (Or.inl (by omega))
theorem c_57 {d : Nat} (hd : 22 ≤ d) {w : eW} (hT : e_Has kTy w) {t o n : Int} (g_t : 0 ≤ t ∧ t ≤ 15) (g_o : 9 ≤ o ∧ o ≤ 13) (g_n : 0 ≤ n ∧ n ≤ 33554431) (hk : sK w) : e_Ok 20 elay kcode eI d 57 (0, [(0, (1, 8)), (1, (1, 6 * t + 154)), (2, (0, o)), (3, (0, n))], [], w) (fun r w' => r = [] ∧ e_fr (kDp t) w w' ∧ e_Has kTy w' ∧ (sK w' ∧ (w' (6 * t + 154) 3 = w (6 * t + 154) 3 ∨ ((o = 12 ∨ o = 13) ∧ w' (6 * t + 154) 3 = n)))) := by
  obtain ⟨d, rfl⟩ : ∃ e, d = e + 1 := ⟨d - 1, by omega⟩
  refine e_Ok.ps1 (x := (1, 8)) (q := 1) 1 rfl ?_
  refine e_Ok.callV rfl (e_dq hd rfl) rfl rfl rfl rfl (c_53 hT hk) (fun r1 w2 h3 => ?_)
  obtain ⟨z5, rfl, q4f, q4T, q4r, q4x⟩ := h3
  have f6 : e_fr (kDp t) w w2 := e_fr.trans (e_fr.refl w) (e_fr.mono q4f (fun c k q => by first | exact su_c8_6 q | (unfold kDs at q; unfold kDp; omega)))
  refine e_Ok.nrm (q := 4) (st' := [(0, z5)]) rfl rfl ?_
  refine e_Ok.run (t' := (7, [(4, (0, z5)), (0, (1, 8)), (1, (1, 6 * t + 154)), (2, (0, o)), (3, (0, n))], [(0, o)], w2)) 2 rfl ?_
  have hs8 : ∀ x : Int, 9 ≤ x ∧ x ≤ 13 → (x = 9) ∨ (x = 10) ∨ (x = 11) ∨ (x = 12) ∨ (x = 13) := fun x h => by omega
  obtain h7 | h7 | h7 | h7 | h7 := hs8 (o) (by omega)
  · refine e_Ok.swk (tg := 36) rfl (by rw [h7]; rfl) ?_
    refine e_Ok.run (t' := (39, [(4, (0, z5)), (0, (1, 8)), (1, (1, 6 * t + 154)), (2, (0, o)), (3, (0, n))], [(0, z5), (1, 8)], w2)) 2 rfl ?_
    refine e_Ok.anyU rfl (fun z9 z9a z9b => ?_)
    refine e_Ok.callV rfl (e_dq hd rfl) rfl rfl rfl rfl (c_52 q4T (by omega) q4x) (fun r10 w11 h12 => ?_)
    obtain ⟨rfl, q13f, q13T, q13x⟩ := h12
    refine e_Ok.nrm (q := 43) (st' := []) rfl rfl ?_
    refine e_Ok.ps0 (q := 119) 1 rfl ?_
    refine e_Ok.rets rfl rfl ?_
    exact ⟨rfl, (show e_fr (kDp t) w w11 from e_fr.trans f6 (e_fr.mono q13f (fun c k q => by first | exact su_c8_6 q | (unfold kDs at q; unfold kDp; omega)))), q13T, ⟨q13x, Or.inl ((q13f (6 * t + 154) 3 (by first | exact no_c8_0 (by omega) | (unfold kDs; omega))).trans ((q4f (6 * t + 154) 3 (by first | exact no_c8_0 (by omega) | (unfold kDs; omega))).trans rfl))⟩⟩
  · refine e_Ok.swk (tg := 46) rfl (by rw [h7]; rfl) ?_
    refine e_Ok.run (t' := (49, [(4, (0, z5)), (0, (1, 8)), (1, (1, 6 * t + 154)), (2, (0, o)), (3, (0, n))], [(0, z5), (1, 8)], w2)) 2 rfl ?_
    have hJ17 : ∀ m16 : Int, 0 ≤ m16 ∧ m16 ≤ 1 → e_Ok 20 elay kcode eI (d + 1) 57 (57, [(4, (0, z5)), (0, (1, 8)), (1, (1, 6 * t + 154)), (2, (0, o)), (3, (0, n))], [(0, m16), (1, 8)], w2) (fun r w' => r = [] ∧ e_fr (kDp t) w w' ∧ e_Has kTy w' ∧ (sK w' ∧ (w' (6 * t + 154) 3 = w (6 * t + 154) 3 ∨ ((o = 12 ∨ o = 13) ∧ w' (6 * t + 154) 3 = n)))) := by
      intro m16 m16r
      refine e_Ok.callV rfl (e_dq hd rfl) rfl rfl rfl rfl (c_52 q4T (by omega) q4x) (fun r18 w19 h20 => ?_)
      obtain ⟨rfl, q21f, q21T, q21x⟩ := h20
      show e_Ok 20 elay kcode eI (d + 1) 57 (60, [(4, (0, z5)), (0, (1, 8)), (1, (1, 6 * t + 154)), (2, (0, o)), (3, (0, n))], [], w19) _
      refine e_Ok.ps0 (q := 119) 1 rfl ?_
      refine e_Ok.rets rfl rfl ?_
      exact ⟨rfl, (show e_fr (kDp t) w w19 from e_fr.trans f6 (e_fr.mono q21f (fun c k q => by first | exact su_c8_6 q | (unfold kDs at q; unfold kDp; omega)))), q21T, ⟨q21x, Or.inl ((q21f (6 * t + 154) 3 (by first | exact no_c8_0 (by omega) | (unfold kDs; omega))).trans ((q4f (6 * t + 154) 3 (by first | exact no_c8_0 (by omega) | (unfold kDs; omega))).trans rfl))⟩⟩
    refine e_Ok.if1 rfl (fun h15 => ?_) (fun h15 => ?_)
    · exact e_Ok.run 1 rfl (hJ17 0 (by omega))
    · exact e_Ok.run 2 rfl (hJ17 1 (by omega))
  · refine e_Ok.swk (tg := 63) rfl (by rw [h7]; rfl) ?_
    refine e_Ok.run (t' := (66, [(4, (0, z5)), (0, (1, 8)), (1, (1, 6 * t + 154)), (2, (0, o)), (3, (0, n))], [(0, z5), (1, 8)], w2)) 2 rfl ?_
    have hJ25 : ∀ m24 : Int, 0 ≤ m24 ∧ m24 ≤ 1 → e_Ok 20 elay kcode eI (d + 1) 57 (74, [(4, (0, z5)), (0, (1, 8)), (1, (1, 6 * t + 154)), (2, (0, o)), (3, (0, n))], [(0, m24), (1, 8)], w2) (fun r w' => r = [] ∧ e_fr (kDp t) w w' ∧ e_Has kTy w' ∧ (sK w' ∧ (w' (6 * t + 154) 3 = w (6 * t + 154) 3 ∨ ((o = 12 ∨ o = 13) ∧ w' (6 * t + 154) 3 = n)))) := by
      intro m24 m24r
      refine e_Ok.callV rfl (e_dq hd rfl) rfl rfl rfl rfl (c_52 q4T (by omega) q4x) (fun r26 w27 h28 => ?_)
      obtain ⟨rfl, q29f, q29T, q29x⟩ := h28
      show e_Ok 20 elay kcode eI (d + 1) 57 (77, [(4, (0, z5)), (0, (1, 8)), (1, (1, 6 * t + 154)), (2, (0, o)), (3, (0, n))], [], w27) _
      refine e_Ok.ps0 (q := 119) 1 rfl ?_
      refine e_Ok.rets rfl rfl ?_
      exact ⟨rfl, (show e_fr (kDp t) w w27 from e_fr.trans f6 (e_fr.mono q29f (fun c k q => by first | exact su_c8_6 q | (unfold kDs at q; unfold kDp; omega)))), q29T, ⟨q29x, Or.inl ((q29f (6 * t + 154) 3 (by first | exact no_c8_0 (by omega) | (unfold kDs; omega))).trans ((q4f (6 * t + 154) 3 (by first | exact no_c8_0 (by omega) | (unfold kDs; omega))).trans rfl))⟩⟩
    refine e_Ok.if1 rfl (fun h23 => ?_) (fun h23 => ?_)
    · exact e_Ok.run 1 rfl (hJ25 1 (by omega))
    · exact e_Ok.run 2 rfl (hJ25 0 (by omega))
  · refine e_Ok.swk (tg := 80) rfl (by rw [h7]; rfl) ?_
    refine e_Ok.run (t' := (82, [(4, (0, z5)), (0, (1, 8)), (1, (1, 6 * t + 154)), (2, (0, o)), (3, (0, n))], [(0, z5)], w2)) 1 rfl ?_
    refine e_Ok.if1 rfl (fun h31 => ?_) (fun h31 => ?_)
    · replace h31 : (z5 : Int) ≠ 0 := h31
      refine e_Ok.ps2 (x := (0, 1)) (y := (1, 8)) (q := 90) 2 rfl ?_
      refine e_Ok.callV rfl (e_dq hd rfl) rfl rfl rfl rfl (c_52 q4T (by omega) q4x) (fun r32 w33 h34 => ?_)
      obtain ⟨rfl, q35f, q35T, q35x⟩ := h34
      refine e_Ok.nrm (q := 93) (st' := []) rfl rfl ?_
      refine e_Ok.ps2 (x := (0, n)) (y := (1, 6 * t + 154)) (q := 95) 2 rfl ?_
      refine e_Ok.putf rfl (lT0 (t := t) rfl g_t) rfl rfl ?_
      generalize hw37 : e_up w33 (6 * t + 154) 3 n = w37
      have hT40 : e_Has kTy w37 := e_Has.upr q35T hw37 (kT_3 (t := t) rfl g_t) (by omega)
      refine e_Ok.ps0 (q := 119) 1 rfl ?_
      refine e_Ok.rets rfl rfl ?_
      exact ⟨rfl, (show e_fr (kDp t) w w37 from e_fr.up (show e_fr (kDp t) w w33 from e_fr.trans f6 (e_fr.mono q35f (fun c k q => by first | exact su_c8_6 q | (unfold kDs at q; unfold kDp; omega)))) hw37 (by first | exact Or.inr (Or.inr ⟨(by omega), rfl⟩) | (unfold kDp; omega))), hT40, ⟨(sK.fr (S := fun c k => c = 6 * t + 154 ∧ k = 3) (fun c k g => by rw [← hw37]; exact e_up_ne _ _ (by omega)) (by omega) (fun k => by omega) q35x), Or.inr ⟨by omega, (e_ue hw37)⟩⟩⟩
    · replace h31 : (z5 : Int) = 0 := Classical.not_not.mp (show ¬ ((z5 : Int) ≠ 0) from h31)
      refine e_Ok.ps0 (q := 119) 1 rfl ?_
      refine e_Ok.rets rfl rfl ?_
      exact ⟨rfl, f6, q4T, ⟨q4x, Or.inl ((q4f (6 * t + 154) 3 (by first | exact no_c8_0 (by omega) | (unfold kDs; omega))).trans rfl)⟩⟩
  · refine e_Ok.swk (tg := 101) rfl (by rw [h7]; rfl) ?_
    refine e_Ok.run (t' := (103, [(4, (0, z5)), (0, (1, 8)), (1, (1, 6 * t + 154)), (2, (0, o)), (3, (0, n))], [(0, z5)], w2)) 1 rfl ?_
    refine e_Ok.if1 rfl (fun h41 => ?_) (fun h41 => ?_)
    · replace h41 : (z5 : Int) = 0 := h41
      refine e_Ok.ps2 (x := (0, 0)) (y := (1, 8)) (q := 111) 2 rfl ?_
      refine e_Ok.callV rfl (e_dq hd rfl) rfl rfl rfl rfl (c_52 q4T (by omega) q4x) (fun r42 w43 h44 => ?_)
      obtain ⟨rfl, q45f, q45T, q45x⟩ := h44
      refine e_Ok.nrm (q := 114) (st' := []) rfl rfl ?_
      refine e_Ok.ps2 (x := (0, n)) (y := (1, 6 * t + 154)) (q := 116) 2 rfl ?_
      refine e_Ok.putf rfl (lT0 (t := t) rfl g_t) rfl rfl ?_
      generalize hw47 : e_up w43 (6 * t + 154) 3 n = w47
      have hT49 : e_Has kTy w47 := e_Has.upr q45T hw47 (kT_3 (t := t) rfl g_t) (by omega)
      refine e_Ok.rets rfl rfl ?_
      exact ⟨rfl, (show e_fr (kDp t) w w47 from e_fr.up (show e_fr (kDp t) w w43 from e_fr.trans f6 (e_fr.mono q45f (fun c k q => by first | exact su_c8_6 q | (unfold kDs at q; unfold kDp; omega)))) hw47 (by first | exact Or.inr (Or.inr ⟨(by omega), rfl⟩) | (unfold kDp; omega))), hT49, ⟨(sK.fr (S := fun c k => c = 6 * t + 154 ∧ k = 3) (fun c k g => by rw [← hw47]; exact e_up_ne _ _ (by omega)) (by omega) (fun k => by omega) q45x), Or.inr ⟨by omega, (e_ue hw47)⟩⟩⟩
    · replace h41 : (z5 : Int) ≠ 0 := (show ¬ ((z5 : Int) = 0) from h41)
      refine e_Ok.ps0 (q := 119) 1 rfl ?_
      refine e_Ok.rets rfl rfl ?_
      exact ⟨rfl, f6, q4T, ⟨q4x, Or.inl ((q4f (6 * t + 154) 3 (by first | exact no_c8_0 (by omega) | (unfold kDs; omega))).trans rfl)⟩⟩
theorem no_c8_1 {t : Int} (ht : 0 ≤ t ∧ t ≤ 15) : ¬ kEn t (6 * t + 154) 1 := by unfold kEn; omega
theorem no_c8_2 {t : Int} (ht : 0 ≤ t ∧ t ≤ 15) : ¬ kEn t (6 * t + 154) 2 := by unfold kEn; omega
theorem no_c8_3 {t : Int} (ht : 0 ≤ t ∧ t ≤ 15) : ¬ kEn t (6 * t + 154) 7 := by unfold kEn; omega
theorem no_c8_4 {t : Int} (ht : 0 ≤ t ∧ t ≤ 15) : ¬ kEn t (6 * t + 154) 10 := by unfold kEn; omega
theorem no_c8_5 {t : Int} (ht : 0 ≤ t ∧ t ≤ 15) : ¬ kEn t (6 * t + 154) 11 := by unfold kEn; omega
theorem su_c8_7 {t : Int} {c k : Int} (q : kEn t c k) : kBg t c k := by
  unfold kEn at q
  rcases q with ⟨q, (q | q)⟩ | q | q
  · exact Or.inl ⟨(by omega), Or.inl ⟨(by omega), (by omega)⟩⟩
  · exact Or.inl ⟨(by omega), Or.inl ⟨(by omega), (by omega)⟩⟩
  · exact Or.inr (Or.inl (by omega))
  · exact Or.inr (Or.inr (by omega))
theorem c_180 {d : Nat} (hd : 21 ≤ d) {w : eW} (hT : e_Has kTy w) {t : Int} (gt : 0 ≤ t ∧ t ≤ 15) {op : Int → Int} {a p tk : Int} (ga : -1 ≤ a ∧ a ≤ 3) (gp : -2147483648 ≤ p ∧ p ≤ 2147483647) (gk : -2147483648 ≤ tk ∧ tk ≤ 2147483647) : e_Ok 20 elay kcode eI d 180 (0, [(0, (1, 6 * t + 154)), (1, (0, a)), (2, (0, p)), (3, (0, tk))], [], w) (fun r w' => r = [] ∧ e_fr (kBg t) w w' ∧ e_Has kTy w' ∧ tSx w' (6 * t + 154) op ∧ (w' (6 * t + 154) 1 = 1 ∧ w' (6 * t + 154) 2 = a ∧ w' (6 * t + 154) 7 = tk ∧ w' (6 * t + 154) 10 = 0 ∧ w' (6 * t + 154) 11 = -1) ∧ w' (6 * t + 154) 4 = 1 ∧ w' (6 * t + 154) 3 = p) := by
  obtain ⟨d, rfl⟩ : ∃ e, d = e + 1 := ⟨d - 1, by omega⟩
  refine e_Ok.ps2 (x := (0, 1)) (y := (1, 6 * t + 154)) (q := 2) 2 rfl ?_
  refine e_Ok.putf rfl (lT0 (t := t) rfl gt) rfl rfl ?_
  generalize hw1 : e_up w (6 * t + 154) 1 1 = w1
  have hT3 : e_Has kTy w1 := e_Has.upr hT hw1 (kT_1 (t := t) rfl gt) (by omega)
  refine e_Ok.ps2 (x := (0, a)) (y := (1, 6 * t + 154)) (q := 7) 2 rfl ?_
  refine e_Ok.putf rfl (lT0 (t := t) rfl gt) rfl rfl ?_
  generalize hw4 : e_up w1 (6 * t + 154) 2 a = w4
  have hT6 : e_Has kTy w4 := e_Has.upr hT3 hw4 (kT_2 (t := t) rfl gt) (by omega)
  refine e_Ok.ps2 (x := (0, tk)) (y := (1, 6 * t + 154)) (q := 12) 2 rfl ?_
  refine e_Ok.putf rfl (lT0 (t := t) rfl gt) rfl rfl ?_
  generalize hw7 : e_up w4 (6 * t + 154) 7 tk = w7
  have hT9 : e_Has kTy w7 := e_Has.upr hT6 hw7 (kT_7 (t := t) rfl gt) (by omega)
  refine e_Ok.ps2 (x := (0, 0)) (y := (1, 6 * t + 154)) (q := 17) 2 rfl ?_
  refine e_Ok.putf rfl (lT0 (t := t) rfl gt) rfl rfl ?_
  generalize hw10 : e_up w7 (6 * t + 154) 5 0 = w10
  have hT12 : e_Has kTy w10 := e_Has.upr hT9 hw10 (kT_5 (t := t) rfl gt) (by omega)
  refine e_Ok.ps2 (x := (0, 0)) (y := (1, 6 * t + 154)) (q := 22) 2 rfl ?_
  refine e_Ok.putf rfl (lT0 (t := t) rfl gt) rfl rfl ?_
  generalize hw13 : e_up w10 (6 * t + 154) 6 0 = w13
  have hT15 : e_Has kTy w13 := e_Has.upr hT12 hw13 (kT_6 (t := t) rfl gt) (by omega)
  refine e_Ok.ps2 (x := (0, 0)) (y := (1, 6 * t + 154)) (q := 27) 2 rfl ?_
  refine e_Ok.putb rfl (lT0 (t := t) rfl gt) rfl rfl (by omega) ?_
  generalize hw16 : e_up w13 (6 * t + 154) 10 0 = w16
  have hT18 : e_Has kTy w16 := e_Has.upr hT15 hw16 (kT_10 (t := t) rfl gt) (by omega)
  refine e_Ok.ps2 (x := (0, (-1))) (y := (1, 6 * t + 154)) (q := 32) 2 rfl ?_
  refine e_Ok.putf rfl (lT0 (t := t) rfl gt) rfl rfl ?_
  generalize hw19 : e_up w16 (6 * t + 154) 11 (-1) = w19
  have hT21 : e_Has kTy w19 := e_Has.upr hT18 hw19 (kT_11 (t := t) rfl gt) (by omega)
  refine e_Ok.ps2 (x := (0, 0)) (y := (1, 6 * t + 154)) (q := 37) 2 rfl ?_
  refine e_Ok.putf rfl (lT0 (t := t) rfl gt) rfl rfl ?_
  generalize hw22 : e_up w19 (6 * t + 154) 14 0 = w22
  have hT24 : e_Has kTy w22 := e_Has.upr hT21 hw22 (kT_14 (t := t) rfl gt) (by omega)
  refine e_Ok.ps2 (x := (0, 0)) (y := (1, 6 * t + 154)) (q := 42) 2 rfl ?_
  refine e_Ok.putf rfl (lT0 (t := t) rfl gt) rfl rfl ?_
  generalize hw25 : e_up w22 (6 * t + 154) 4 0 = w25
  have hT27 : e_Has kTy w25 := e_Has.upr hT24 hw25 (kT_4 (t := t) rfl gt) (by omega)
  refine e_Ok.ps2 (x := (0, 0)) (y := (1, 6 * t + 154)) (q := 47) 2 rfl ?_
  refine e_Ok.putf rfl (lT0 (t := t) rfl gt) rfl rfl ?_
  generalize hw28 : e_up w25 (6 * t + 154) 15 0 = w28
  have hT30 : e_Has kTy w28 := e_Has.upr hT27 hw28 (kT_15 (t := t) rfl gt) (by omega)
  refine e_Ok.ps2 (x := (0, p)) (y := (1, 6 * t + 154)) (q := 52) 2 rfl ?_
  refine e_Ok.callV rfl (e_dq hd rfl) rfl (lT0 (t := t) rfl gt) rfl rfl (c_182 (t := t) (op := op) hT30 (by omega) (by omega) ⟨0, ⟨by have e : w28 (6 * t + 154) 15 = 0 := (e_ue hw28); omega, fun i g1 g2 => by have e : w28 (6 * t + 154) 4 = 0 := (e_uq hw28 (Or.inr (by omega)) (e_ue hw25)); omega, fun i g1 g2 => by omega⟩⟩ (fun g => by have e : w28 (6 * t + 154) 4 = 0 := (e_uq hw28 (Or.inr (by omega)) (e_ue hw25)); omega)) (fun r31 w32 h33 => ?_)
  obtain ⟨z35, rfl, q34f, q34T, q34s, q34x⟩ := h33
  have f36 : e_fr (kBg t) w w32 := e_fr.trans (show e_fr (kBg t) w w28 from e_fr.up (show e_fr (kBg t) w w25 from e_fr.up (show e_fr (kBg t) w w22 from e_fr.up (show e_fr (kBg t) w w19 from e_fr.up (show e_fr (kBg t) w w16 from e_fr.up (show e_fr (kBg t) w w13 from e_fr.up (show e_fr (kBg t) w w10 from e_fr.up (show e_fr (kBg t) w w7 from e_fr.up (show e_fr (kBg t) w w4 from e_fr.up (show e_fr (kBg t) w w1 from e_fr.up (e_fr.refl w) hw1 (by first | exact Or.inl ⟨(by omega), Or.inl ⟨(by decide), (by decide)⟩⟩ | (unfold kBg; omega))) hw4 (by first | exact Or.inl ⟨(by omega), Or.inl ⟨(by decide), (by decide)⟩⟩ | (unfold kBg; omega))) hw7 (by first | exact Or.inl ⟨(by omega), Or.inl ⟨(by decide), (by decide)⟩⟩ | (unfold kBg; omega))) hw10 (by first | exact Or.inl ⟨(by omega), Or.inl ⟨(by decide), (by decide)⟩⟩ | (unfold kBg; omega))) hw13 (by first | exact Or.inl ⟨(by omega), Or.inl ⟨(by decide), (by decide)⟩⟩ | (unfold kBg; omega))) hw16 (by first | exact Or.inl ⟨(by omega), Or.inr (Or.inl rfl)⟩ | (unfold kBg; omega))) hw19 (by first | exact Or.inl ⟨(by omega), Or.inr (Or.inr (Or.inl rfl))⟩ | (unfold kBg; omega))) hw22 (by first | exact Or.inl ⟨(by omega), Or.inr (Or.inr (Or.inr (Or.inl rfl)))⟩ | (unfold kBg; omega))) hw25 (by first | exact Or.inl ⟨(by omega), Or.inl ⟨(by decide), (by decide)⟩⟩ | (unfold kBg; omega))) hw28 (by first | exact Or.inl ⟨(by omega), Or.inr (Or.inr (Or.inr (Or.inr rfl)))⟩ | (unfold kBg; omega))) (e_fr.mono q34f (fun c k q => by first | exact su_c8_7 q | (unfold kEn at q; unfold kBg; omega)))
  refine e_Ok.nrm (q := 55) (st' := [(0, z35)]) rfl rfl ?_
  refine e_Ok.run (t' := (56, [(0, (1, 6 * t + 154)), (1, (0, a)), (2, (0, p)), (3, (0, tk))], [], w32)) 1 rfl ?_
  refine e_Ok.rets rfl rfl ?_
  exact ⟨rfl, f36, q34T, q34s, ⟨((q34f (6 * t + 154) 1 (by first | exact no_c8_1 (by omega) | (unfold kEn; omega))).trans (e_uq hw28 (Or.inr (by first | decide | omega)) (e_uq hw25 (Or.inr (by first | decide | omega)) (e_uq hw22 (Or.inr (by first | decide | omega)) (e_uq hw19 (Or.inr (by first | decide | omega)) (e_uq hw16 (Or.inr (by first | decide | omega)) (e_uq hw13 (Or.inr (by first | decide | omega)) (e_uq hw10 (Or.inr (by first | decide | omega)) (e_uq hw7 (Or.inr (by first | decide | omega)) (e_uq hw4 (Or.inr (by first | decide | omega)) (e_ue hw1))))))))))), ((q34f (6 * t + 154) 2 (by first | exact no_c8_2 (by omega) | (unfold kEn; omega))).trans (e_uq hw28 (Or.inr (by first | decide | omega)) (e_uq hw25 (Or.inr (by first | decide | omega)) (e_uq hw22 (Or.inr (by first | decide | omega)) (e_uq hw19 (Or.inr (by first | decide | omega)) (e_uq hw16 (Or.inr (by first | decide | omega)) (e_uq hw13 (Or.inr (by first | decide | omega)) (e_uq hw10 (Or.inr (by first | decide | omega)) (e_uq hw7 (Or.inr (by first | decide | omega)) (e_ue hw4)))))))))), ((q34f (6 * t + 154) 7 (by first | exact no_c8_3 (by omega) | (unfold kEn; omega))).trans (e_uq hw28 (Or.inr (by first | decide | omega)) (e_uq hw25 (Or.inr (by first | decide | omega)) (e_uq hw22 (Or.inr (by first | decide | omega)) (e_uq hw19 (Or.inr (by first | decide | omega)) (e_uq hw16 (Or.inr (by first | decide | omega)) (e_uq hw13 (Or.inr (by first | decide | omega)) (e_uq hw10 (Or.inr (by first | decide | omega)) (e_ue hw7))))))))), ((q34f (6 * t + 154) 10 (by first | exact no_c8_4 (by omega) | (unfold kEn; omega))).trans (e_uq hw28 (Or.inr (by first | decide | omega)) (e_uq hw25 (Or.inr (by first | decide | omega)) (e_uq hw22 (Or.inr (by first | decide | omega)) (e_uq hw19 (Or.inr (by first | decide | omega)) (e_ue hw16)))))), ((q34f (6 * t + 154) 11 (by first | exact no_c8_5 (by omega) | (unfold kEn; omega))).trans (e_uq hw28 (Or.inr (by first | decide | omega)) (e_uq hw25 (Or.inr (by first | decide | omega)) (e_uq hw22 (Or.inr (by first | decide | omega)) (e_ue hw19)))))⟩, (by rcases q34x with ⟨g1, g2, g3⟩ | ⟨g1, g2, g4⟩; (exact ⟨by rw [g2, show w28 (6 * t + 154) 4 = 0 from (e_uq hw28 (Or.inr (by first | decide | omega)) (e_ue hw25))]; rfl, g3⟩); (exfalso; rw [show w28 (6 * t + 154) 4 = 0 from (e_uq hw28 (Or.inr (by first | decide | omega)) (e_ue hw25))] at g4; omega))⟩
end
end
