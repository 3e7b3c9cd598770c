-- part 52
section
noncomputable section
theorem c_300 {d : Nat} {w : eW} (hT : e_Has mTy w) {a : Int} : e_Ok 20 elay ecode eI d 300 (0, [(0, (1, 275)), (1, (0, a))], [], w) (fun r w' => ∃ z : Int, r = [(0, z)] ∧ w = w' ∧ -2147483648 ≤ z ∧ z ≤ 2147483647) := by
  refine e_Ok.ps2 (x := (0, 4095)) (y := (0, a)) (q := 4) 2 rfl ?_
  refine e_Ok.andm 4095 12 rfl (by decide) (fun z1 hz1 => ?_)
  replace hz1 : 0 ≤ z1 ∧ z1 ≤ 4095 := by omega
  refine e_Ok.run (t' := (10, [(2, (0, z1)), (0, (1, 275)), (1, (0, a))], [(0, 1024), (0, z1)], w)) 3 rfl ?_
  refine e_Ok.if2 rfl (fun h2 => ?_) (fun h2 => ?_)
  · replace h2 : (z1 : Int) > 1024 := h2
    refine e_Ok.ps2 (x := (0, 2048)) (y := (0, z1)) (q := 26) 2 rfl ?_
    refine e_Ok.if2 rfl (fun h3 => ?_) (fun h3 => ?_)
    · replace h3 : (z1 : Int) > 2048 := h3
      refine e_Ok.ps2 (x := (0, 3072)) (y := (0, z1)) (q := 46) 2 rfl ?_
      refine e_Ok.if2 rfl (fun h4 => ?_) (fun h4 => ?_)
      · replace h4 : (z1 : Int) > 3072 := h4
        refine e_Ok.ps1 (x := (1, 275)) (q := 64) 1 rfl ?_
        refine e_Ok.getr (z := 320) rfl (el_o rfl) rfl (ef_o rfl) (e_Has.eq hT (mt_o rfl)) ⟨by decide, by decide⟩ ?_
        refine e_Ok.ps2 (x := (0, z1)) (y := (0, 4096)) (q := 71) 2 rfl ?_
        refine e_Ok.sub' (z := -z1 + 4096) rfl (by omega) (by omega) ?_
        have h5 := (e_Has.get hT (c := 320) (k := -z1 + 4096) (lo := (-2147483648)) (hi := 2147483647) (mt_o rfl) (by decide))
        refine e_Ok.ald (z := w 320 (-z1 + 4096)) rfl (el_o rfl) rfl (by omega) rfl (e_bq h5 (by decide) (by decide)) ?_
        refine e_Ok.anyU rfl (fun z6 z6a z6b => ?_)
        refine e_Ok.rets rfl rfl ?_
        exact ⟨_, rfl, rfl, by omega, by omega⟩
      · replace h4 : (z1 : Int) ≤ 3072 := Int.not_lt.mp (show ¬ ((z1 : Int) > 3072) from h4)
        refine e_Ok.ps1 (x := (1, 275)) (q := 50) 1 rfl ?_
        refine e_Ok.getr (z := 320) rfl (el_o rfl) rfl (ef_o rfl) (e_Has.eq hT (mt_o rfl)) ⟨by decide, by decide⟩ ?_
        refine e_Ok.ps2 (x := (0, 2048)) (y := (0, z1)) (q := 57) 2 rfl ?_
        refine e_Ok.sub' (z := z1 - 2048) rfl rfl (by omega) ?_
        have h7 := (e_Has.get hT (c := 320) (k := z1 - 2048) (lo := (-2147483648)) (hi := 2147483647) (mt_o rfl) (by decide))
        refine e_Ok.ald (z := w 320 (z1 - 2048)) rfl (el_o rfl) rfl (by omega) rfl (e_bq h7 (by decide) (by decide)) ?_
        refine e_Ok.anyU rfl (fun z8 z8a z8b => ?_)
        refine e_Ok.ps0 (q := 74) 1 rfl ?_
        refine e_Ok.rets rfl rfl ?_
        exact ⟨_, rfl, rfl, by omega, by omega⟩
    · replace h3 : (z1 : Int) ≤ 2048 := Int.not_lt.mp (show ¬ ((z1 : Int) > 2048) from h3)
      refine e_Ok.ps1 (x := (1, 275)) (q := 30) 1 rfl ?_
      refine e_Ok.getr (z := 320) rfl (el_o rfl) rfl (ef_o rfl) (e_Has.eq hT (mt_o rfl)) ⟨by decide, by decide⟩ ?_
      refine e_Ok.ps2 (x := (0, z1)) (y := (0, 2048)) (q := 37) 2 rfl ?_
      refine e_Ok.sub' (z := -z1 + 2048) rfl (by omega) (by omega) ?_
      have h9 := (e_Has.get hT (c := 320) (k := -z1 + 2048) (lo := (-2147483648)) (hi := 2147483647) (mt_o rfl) (by decide))
      refine e_Ok.ald (z := w 320 (-z1 + 2048)) rfl (el_o rfl) rfl (by omega) rfl (e_bq h9 (by decide) (by decide)) ?_
      refine e_Ok.ps0 (q := 74) 1 rfl ?_
      refine e_Ok.rets rfl rfl ?_
      exact ⟨_, rfl, rfl, by omega, by omega⟩
  · replace h2 : (z1 : Int) ≤ 1024 := Int.not_lt.mp (show ¬ ((z1 : Int) > 1024) from h2)
    refine e_Ok.ps1 (x := (1, 275)) (q := 14) 1 rfl ?_
    refine e_Ok.getr (z := 320) rfl (el_o rfl) rfl (ef_o rfl) (e_Has.eq hT (mt_o rfl)) ⟨by decide, by decide⟩ ?_
    refine e_Ok.ps1 (x := (0, z1)) (q := 18) 1 rfl ?_
    have h10 := (e_Has.get hT (c := 320) (k := z1) (lo := (-2147483648)) (hi := 2147483647) (mt_o rfl) (by decide))
    refine e_Ok.ald (z := w 320 z1) rfl (el_o rfl) rfl (by omega) rfl (e_bq h10 (by decide) (by decide)) ?_
    refine e_Ok.ps0 (q := 74) 1 rfl ?_
    refine e_Ok.rets rfl rfl ?_
    exact ⟨_, rfl, rfl, by omega, by omega⟩
theorem no_52_0 {t : Int} {k : Int} : ¬ mPt t 275 k := by unfold mPt; omega
theorem no_52_1 {t : Int} {k : Int} : ¬ mPt t 286 k := by unfold mPt; omega
theorem no_52_2 {t : Int} {k : Int} : ¬ mPt t 276 k := by unfold mPt; omega
theorem no_52_3 {t : Int} {k : Int} : ¬ mPt t 292 k := by unfold mPt; omega
theorem no_52_4 {t : Int} {k : Int} : ¬ mPt t 287 k := by unfold mPt; omega
theorem c_301_0 {d : Nat} (hd : 21 ≤ d) {w : eW} (hT : e_Has mTy w) {a : Int} (ha : 0 ≤ a ∧ a ≤ 3) : e_Ok 20 elay ecode eI d 301 (0, [(0, (1, 275)), (1, (0, a)), (2, (0, 0))], [], w) (fun r w' => r = [] ∧ e_fr (mPt (7 * a)) w w' ∧ e_pk2 w' (7 * a) (w 286 a)) := by
  obtain ⟨d, rfl⟩ : ∃ e, d = e + 1 := ⟨d - 1, by omega⟩
  have hja := (e_Has.get hT (c := 286) (k := a) (lo := 0) (hi := 6) (mt_o rfl) (by decide))
  refine e_Ok.ps1 (x := (0, 0)) (q := 1) 1 rfl ?_
  refine e_Ok.if1 rfl (fun h1 => ?_) (fun h1 => ?_)
  · replace h1 : (0 : Int) = 0 := h1
    refine e_Ok.ps2 (x := (0, a)) (y := (0, 7)) (q := 12) 2 rfl ?_
    refine e_Ok.mul (z := 7 * a) rfl rfl (by omega) ?_
    refine e_Ok.run (t' := (18, [(3, (0, 7 * a)), (0, (1, 275)), (1, (0, a)), (2, (0, 0))], [(1, 275), (4, 1048576)], w)) 3 rfl ?_
    refine e_Ok.getr (z := 282) rfl (el_o rfl) rfl (ef_o rfl) (e_Has.eq hT (mt_o rfl)) ⟨by decide, by decide⟩ ?_
    refine e_Ok.ps1 (x := (0, a)) (q := 22) 1 rfl ?_
    have h2 := (e_Has.get hT (c := 282) (k := a) (lo := (-8000)) (hi := 8000) (mt_o rfl) (by decide))
    refine e_Ok.ald (z := w 282 a) rfl (el_o rfl) rfl (by omega) rfl (e_bq h2 (by decide) (by decide)) ?_
    refine e_Ok.run (t' := (24, [(3, (0, 7 * a)), (0, (1, 275)), (1, (0, a)), (2, (0, 0))], [(4, w 282 a), (4, 1048576)], w)) 1 rfl ?_
    refine e_Ok.mulL (z := 1048576 * w 282 a) rfl (by omega) (by omega) ?_
    refine e_Ok.run (t' := (31, [(4, (4, 1048576 * w 282 a)), (3, (0, 7 * a)), (0, (1, 275)), (1, (0, a)), (2, (0, 0))], [(1, 275), (4, 1048576)], w)) 3 rfl ?_
    refine e_Ok.getr (z := 283) rfl (el_o rfl) rfl (ef_o rfl) (e_Has.eq hT (mt_o rfl)) ⟨by decide, by decide⟩ ?_
    refine e_Ok.ps1 (x := (0, a)) (q := 35) 1 rfl ?_
    have h4 := (e_Has.get hT (c := 283) (k := a) (lo := (-8000)) (hi := 8000) (mt_o rfl) (by decide))
    refine e_Ok.ald (z := w 283 a) rfl (el_o rfl) rfl (by omega) rfl (e_bq h4 (by decide) (by decide)) ?_
    refine e_Ok.run (t' := (37, [(4, (4, 1048576 * w 282 a)), (3, (0, 7 * a)), (0, (1, 275)), (1, (0, a)), (2, (0, 0))], [(4, w 283 a), (4, 1048576)], w)) 1 rfl ?_
    refine e_Ok.mulL (z := 1048576 * w 283 a) rfl (by omega) (by omega) ?_
    refine e_Ok.run (t' := (41, [(6, (4, 1048576 * w 283 a)), (4, (4, 1048576 * w 282 a)), (3, (0, 7 * a)), (0, (1, 275)), (1, (0, a)), (2, (0, 0))], [(1, 275)], w)) 2 rfl ?_
    refine e_Ok.getr (z := 284) rfl (el_o rfl) rfl (ef_o rfl) (e_Has.eq hT (mt_o rfl)) ⟨by decide, by decide⟩ ?_
    refine e_Ok.ps1 (x := (0, a)) (q := 45) 1 rfl ?_
    have h6 := (e_Has.get hT (c := 284) (k := a) (lo := 0) (hi := 4095) (mt_o rfl) (by decide))
    refine e_Ok.ald (z := w 284 a) rfl (el_o rfl) rfl (by omega) rfl (e_bq h6 (by decide) (by decide)) ?_
    refine e_Ok.run (t' := (49, [(8, (0, w 284 a)), (6, (4, 1048576 * w 283 a)), (4, (4, 1048576 * w 282 a)), (3, (0, 7 * a)), (0, (1, 275)), (1, (0, a)), (2, (0, 0))], [(1, 275)], w)) 2 rfl ?_
    refine e_Ok.getr (z := 321) rfl (el_o rfl) rfl (ef_o rfl) (e_Has.eq hT (mt_o rfl)) ⟨by decide, by decide⟩ ?_
    refine e_Ok.ps2 (x := (1, 275)) (y := (0, 7 * a)) (q := 54) 2 rfl ?_
    refine e_Ok.getr (z := 282) rfl (el_o rfl) rfl (ef_o rfl) (e_Has.eq hT (mt_o rfl)) ⟨by decide, by decide⟩ ?_
    refine e_Ok.ps1 (x := (0, a)) (q := 58) 1 rfl ?_
    refine e_Ok.ald (z := w 282 a) rfl (el_o rfl) rfl (by omega) rfl (by omega) ?_
    refine e_Ok.ast rfl (el_o rfl) rfl rfl (by omega) ?_
    generalize hw7 : e_up w 321 (7 * a) (w 282 a) = w7
    refine e_Ok.ps1 (x := (1, 275)) (q := 61) 1 rfl ?_
    refine e_Ok.getr (z := 322) rfl (el_o rfl) rfl (ef_o rfl) (e_uq hw7 (Or.inl (by decide)) (e_Has.eq hT (mt_o rfl))) ⟨by decide, by decide⟩ ?_
    refine e_Ok.ps2 (x := (1, 275)) (y := (0, 7 * a)) (q := 66) 2 rfl ?_
    refine e_Ok.getr (z := 283) rfl (el_o rfl) rfl (ef_o rfl) (e_uq hw7 (Or.inl (by decide)) (e_Has.eq hT (mt_o rfl))) ⟨by decide, by decide⟩ ?_
    refine e_Ok.ps1 (x := (0, a)) (q := 70) 1 rfl ?_
    refine e_Ok.ald (z := w 283 a) rfl (el_o rfl) rfl (by omega) (e_uq hw7 (Or.inl (by decide)) rfl) (by omega) ?_
    refine e_Ok.ast rfl (el_o rfl) rfl rfl (by omega) ?_
    generalize hw9 : e_up w7 322 (7 * a) (w 283 a) = w9
    refine e_Ok.run (t' := (75, [(9, (0, 0)), (8, (0, w 284 a)), (6, (4, 1048576 * w 283 a)), (4, (4, 1048576 * w 282 a)), (3, (0, 7 * a)), (0, (1, 275)), (1, (0, a)), (2, (0, 0))], [], w9)) 2 rfl ?_
    have hL11 : ∀ (n : Nat) (y4 : Int) (y6 : Int) (y8 : Int) (y9 : Int) (v1 : eW), e_fr (mPt (7 * a)) w v1 ∧ e_kn v1 321 (7 * a) (7 * a + y9) ∧ e_kn v1 322 (7 * a) (7 * a + y9) ∧ 0 ≤ y9 ∧ y9 ≤ 6 → 7 - y9 < n → e_Ok 20 elay ecode eI (d + 1) 301 (75, [(0, (1, 275)), (1, (0, a)), (2, (0, 0)), (3, (0, 7 * a)), (4, (4, y4)), (6, (4, y6)), (8, (0, y8)), (9, (0, y9))], [], v1) (fun r w' => r = [] ∧ e_fr (mPt (7 * a)) w w' ∧ e_pk2 w' (7 * a) (w 286 a)) := by
      intro n
      induction n with
      | zero => intro y4 y6 y8 y9 v1 hj hm; obtain ⟨j13, j14, j15, j16⟩ := hj; exfalso; omega
      | succ n ih12 =>
        intro y4 y6 y8 y9 v1 hj hm
        obtain ⟨j13, j14, j15, j16⟩ := hj
        refine e_Ok.run (t' := (78, [(0, (1, 275)), (1, (0, a)), (2, (0, 0)), (3, (0, 7 * a)), (4, (4, y4)), (6, (4, y6)), (8, (0, y8)), (9, (0, y9))], [(1, 275), (0, y9)], v1)) 2 rfl ?_
        refine e_Ok.getr (z := 286) rfl (el_o rfl) rfl (ef_o rfl) ((j13 275 15 (by first | exact no_52_0 | (unfold mPt; omega))).trans (e_Has.eq hT (mt_o rfl))) ⟨by decide, by decide⟩ ?_
        refine e_Ok.ps1 (x := (0, a)) (q := 82) 1 rfl ?_
        have h17 := (e_Has.get hT (c := 286) (k := a) (lo := 0) (hi := 6) (mt_o rfl) (by decide))
        refine e_Ok.ald (z := w 286 a) rfl (el_o rfl) rfl (by omega) ((j13 286 a (by first | exact no_52_1 | (unfold mPt; omega))).trans rfl) (e_bq h17 (by decide) (by decide)) ?_
        refine e_Ok.if2 rfl (fun h18 => ?_) (fun h18 => ?_)
        · replace h18 : (y9 : Int) ≥ w 286 a := h18
          refine e_Ok.rets rfl rfl ?_
          exact ⟨rfl, j13, e_kn_sub j14 (by omega) (by omega), e_kn_sub j15 (by omega) (by omega)⟩
        · replace h18 : (y9 : Int) < w 286 a := Int.not_le.mp (show ¬ ((y9 : Int) ≥ w 286 a) from h18)
          refine e_Ok.ps1 (x := (0, 0)) (q := 87) 1 rfl ?_
          refine e_Ok.if1 rfl (fun h19 => ?_) (fun h19 => ?_)
          · replace h19 : (0 : Int) = 0 := h19
            refine e_Ok.ps1 (x := (1, 275)) (q := 101) 1 rfl ?_
            refine e_Ok.getr (z := 276) rfl (el_o rfl) rfl (ef_o rfl) ((j13 275 0 (by first | exact no_52_0 | (unfold mPt; omega))).trans (e_Has.eq hT (mt_o rfl))) ⟨by decide, by decide⟩ ?_
            refine e_Ok.ps1 (x := (0, a)) (q := 105) 1 rfl ?_
            refine e_Ok.callS rfl (e_dq hd rfl) rfl rfl (c_268 (by omega)) (fun r20 w21 h22 => ?_)
            obtain ⟨rfl, rfl⟩ := h22
            refine e_Ok.nrm (q := 108) (st' := [(0, 36 * a + 16), (1, 276)]) rfl rfl ?_
            refine e_Ok.ps1 (x := (0, 16)) (q := 110) 1 rfl ?_
            refine e_Ok.add (z := 36 * a + 32) rfl (e_adl (by decide)) (by omega) ?_
            refine e_Ok.ps1 (x := (0, y9)) (q := 113) 1 rfl ?_
            refine e_Ok.add (z := 36 * a + y9 + 32) rfl (by omega) (by omega) ?_
            have h23 := (e_Has.get hT (c := 276) (k := 36 * a + y9 + 32) (lo := (-100000)) (hi := 100000) (nR_VALUE (a := a) (j := y9) (by omega) (by omega)) (by decide))
            refine e_Ok.ald (z := w 276 (36 * a + y9 + 32)) rfl (el_o rfl) rfl (by omega) ((j13 276 (36 * a + y9 + 32) (by first | exact no_52_2 | (unfold mPt; omega))).trans rfl) (e_bq h23 (by decide) (by decide)) ?_
            refine e_Ok.run (t' := (118, [(10, (0, w 276 (36 * a + y9 + 32))), (0, (1, 275)), (1, (0, a)), (2, (0, 0)), (3, (0, 7 * a)), (4, (4, y4)), (6, (4, y6)), (8, (0, y8)), (9, (0, y9))], [(1, 275)], v1)) 2 rfl ?_
            refine e_Ok.getr (z := 292) rfl (el_o rfl) rfl (ef_o rfl) ((j13 275 21 (by first | exact no_52_0 | (unfold mPt; omega))).trans (e_Has.eq hT (mt_o rfl))) ⟨by decide, by decide⟩ ?_
            refine e_Ok.ps2 (x := (0, a)) (y := (0, 6)) (q := 124) 2 rfl ?_
            refine e_Ok.mul (z := 6 * a) rfl rfl (by omega) ?_
            refine e_Ok.ps1 (x := (0, y9)) (q := 127) 1 rfl ?_
            refine e_Ok.add (z := 6 * a + y9) rfl rfl (by omega) ?_
            have h24 := (e_Has.get hT (c := 292) (k := 6 * a + y9) (lo := 0) (hi := 8000) (mt_o rfl) (by decide))
            refine e_Ok.ald (z := w 292 (6 * a + y9)) rfl (el_o rfl) rfl (by omega) ((j13 292 (6 * a + y9) (by first | exact no_52_3 | (unfold mPt; omega))).trans rfl) (e_bq h24 (by decide) (by decide)) ?_
            refine e_Ok.run (t' := (132, [(11, (0, w 292 (6 * a + y9))), (10, (0, w 276 (36 * a + y9 + 32))), (0, (1, 275)), (1, (0, a)), (2, (0, 0)), (3, (0, 7 * a)), (4, (4, y4)), (6, (4, y6)), (8, (0, y8)), (9, (0, y9))], [(1, 275)], v1)) 2 rfl ?_
            refine e_Ok.getr (z := 287) rfl (el_o rfl) rfl (ef_o rfl) ((j13 275 16 (by first | exact no_52_0 | (unfold mPt; omega))).trans (e_Has.eq hT (mt_o rfl))) ⟨by decide, by decide⟩ ?_
            refine e_Ok.ps2 (x := (0, a)) (y := (0, 6)) (q := 138) 2 rfl ?_
            refine e_Ok.mul (z := 6 * a) rfl rfl (by omega) ?_
            refine e_Ok.ps1 (x := (0, y9)) (q := 141) 1 rfl ?_
            refine e_Ok.add (z := 6 * a + y9) rfl rfl (by omega) ?_
            have h25 := (e_Has.get hT (c := 287) (k := 6 * a + y9) (lo := 0) (hi := 1) (mt_o rfl) (by decide))
            refine e_Ok.ald (z := w 287 (6 * a + y9)) rfl (el_o rfl) rfl (by omega) ((j13 287 (6 * a + y9) (by first | exact no_52_4 | (unfold mPt; omega))).trans rfl) (e_bq h25 (by decide) (by decide)) ?_
            refine e_Ok.ps1 (x := (0, 1)) (q := 144) 1 rfl ?_
            refine e_Ok.if2 rfl (fun h26 => ?_) (fun h26 => ?_)
            · replace h26 : (w 287 (6 * a + y9) : Int) ≠ 1 := h26
              refine e_Ok.ps2 (x := (0, w 276 (36 * a + y9 + 32))) (y := (0, w 292 (6 * a + y9))) (q := 161) 2 rfl ?_
              refine e_Ok.add (z := w 292 (6 * a + y9) + w 276 (36 * a + y9 + 32)) rfl rfl (by omega) ?_
              refine e_Ok.run (t' := (175, [(11, (0, w 292 (6 * a + y9) + w 276 (36 * a + y9 + 32))), (10, (0, w 276 (36 * a + y9 + 32))), (0, (1, 275)), (1, (0, a)), (2, (0, 0)), (3, (0, 7 * a)), (4, (4, y4)), (6, (4, y6)), (8, (0, y8)), (9, (0, y9))], [(0, 1024), (0, y8), (1, 275), (4, w 292 (6 * a + y9) + w 276 (36 * a + y9 + 32)), (4, y4)], v1)) 7 rfl ?_
              refine e_Ok.any rfl (eF_add_any _ _) (fun z27 z27a z27b => ?_)
              refine e_Ok.callV rfl (e_dq hd rfl) rfl rfl rfl rfl (c_300 (mT_Pt j13 hT)) (fun r28 w29 h30 => ?_)
              obtain ⟨z31, rfl, rfl, q32a, q32b⟩ := h30
              refine e_Ok.nrm (q := 179) (st' := [(0, z31), (4, w 292 (6 * a + y9) + w 276 (36 * a + y9 + 32)), (4, y4)]) rfl rfl ?_
              refine e_Ok.run (t' := (180, [(11, (0, w 292 (6 * a + y9) + w 276 (36 * a + y9 + 32))), (10, (0, w 276 (36 * a + y9 + 32))), (0, (1, 275)), (1, (0, a)), (2, (0, 0)), (3, (0, 7 * a)), (4, (4, y4)), (6, (4, y6)), (8, (0, y8)), (9, (0, y9))], [(4, z31), (4, w 292 (6 * a + y9) + w 276 (36 * a + y9 + 32)), (4, y4)], v1)) 1 rfl ?_
              refine e_Ok.anyL rfl ⟨_, rfl⟩ (fun x33 => ?_)
              refine e_Ok.anyL rfl ⟨_, rfl⟩ (fun x34 => ?_)
              refine e_Ok.run (t' := (192, [(4, (4, x34)), (11, (0, w 292 (6 * a + y9) + w 276 (36 * a + y9 + 32))), (10, (0, w 276 (36 * a + y9 + 32))), (0, (1, 275)), (1, (0, a)), (2, (0, 0)), (3, (0, 7 * a)), (6, (4, y6)), (8, (0, y8)), (9, (0, y9))], [(0, y8), (1, 275), (4, w 292 (6 * a + y9) + w 276 (36 * a + y9 + 32)), (4, y6)], v1)) 6 rfl ?_
              refine e_Ok.callV rfl (e_dq hd rfl) rfl rfl rfl rfl (c_300 (mT_Pt j13 hT)) (fun r35 w36 h37 => ?_)
              obtain ⟨z38, rfl, rfl, q39a, q39b⟩ := h37
              refine e_Ok.nrm (q := 195) (st' := [(0, z38), (4, w 292 (6 * a + y9) + w 276 (36 * a + y9 + 32)), (4, y6)]) rfl rfl ?_
              refine e_Ok.run (t' := (196, [(4, (4, x34)), (11, (0, w 292 (6 * a + y9) + w 276 (36 * a + y9 + 32))), (10, (0, w 276 (36 * a + y9 + 32))), (0, (1, 275)), (1, (0, a)), (2, (0, 0)), (3, (0, 7 * a)), (6, (4, y6)), (8, (0, y8)), (9, (0, y9))], [(4, z38), (4, w 292 (6 * a + y9) + w 276 (36 * a + y9 + 32)), (4, y6)], v1)) 1 rfl ?_
              refine e_Ok.anyL rfl ⟨_, rfl⟩ (fun x40 => ?_)
              refine e_Ok.anyL rfl ⟨_, rfl⟩ (fun x41 => ?_)
              refine e_Ok.run (t' := (201, [(6, (4, x41)), (4, (4, x34)), (11, (0, w 292 (6 * a + y9) + w 276 (36 * a + y9 + 32))), (10, (0, w 276 (36 * a + y9 + 32))), (0, (1, 275)), (1, (0, a)), (2, (0, 0)), (3, (0, 7 * a)), (8, (0, y8)), (9, (0, y9))], [(1, 275)], v1)) 2 rfl ?_
              refine e_Ok.getr (z := 321) rfl (el_o rfl) rfl (ef_o rfl) ((j13 275 55 (by first | exact no_52_0 | (unfold mPt; omega))).trans (e_Has.eq hT (mt_o rfl))) ⟨by decide, by decide⟩ ?_
              refine e_Ok.ps2 (x := (0, y9)) (y := (0, 7 * a)) (q := 207) 2 rfl ?_
              refine e_Ok.add (z := 7 * a + y9) rfl rfl (by omega) ?_
              refine e_Ok.ps1 (x := (0, 1)) (q := 209) 1 rfl ?_
              refine e_Ok.add (z := 7 * a + y9 + 1) rfl rfl (by omega) ?_
              refine e_Ok.ps2 (x := (4, 524288)) (y := (4, x34)) (q := 215) 2 rfl ?_
              refine e_Ok.anyL rfl ⟨_, rfl⟩ (fun x42 => ?_)
              refine e_Ok.ps1 (x := (0, 20)) (q := 218) 1 rfl ?_
              refine e_Ok.anyS rfl ⟨_, rfl⟩ (fun x43 => ?_)
              refine e_Ok.l2i rfl (fun z44 z44a z44b => ?_)
              refine e_Ok.ast rfl (el_o rfl) rfl rfl (by omega) ?_
              generalize hw45 : e_up v1 321 (7 * a + y9 + 1) z44 = w45
              refine e_Ok.run (t' := (222, [(6, (4, x41)), (4, (4, x34)), (11, (0, w 292 (6 * a + y9) + w 276 (36 * a + y9 + 32))), (10, (0, w 276 (36 * a + y9 + 32))), (0, (1, 275)), (1, (0, a)), (2, (0, 0)), (3, (0, 7 * a)), (8, (0, y8)), (9, (0, y9))], [(1, 275)], w45)) 1 rfl ?_
              refine e_Ok.getr (z := 322) rfl (el_o rfl) rfl (ef_o rfl) (e_uq hw45 (Or.inl (by decide)) ((j13 275 56 (by first | exact no_52_0 | (unfold mPt; omega))).trans (e_Has.eq hT (mt_o rfl)))) ⟨by decide, by decide⟩ ?_
              refine e_Ok.ps2 (x := (0, y9)) (y := (0, 7 * a)) (q := 228) 2 rfl ?_
              refine e_Ok.add (z := 7 * a + y9) rfl rfl (by omega) ?_
              refine e_Ok.ps1 (x := (0, 1)) (q := 230) 1 rfl ?_
              refine e_Ok.add (z := 7 * a + y9 + 1) rfl rfl (by omega) ?_
              refine e_Ok.ps2 (x := (4, 524288)) (y := (4, x41)) (q := 236) 2 rfl ?_
              refine e_Ok.anyL rfl ⟨_, rfl⟩ (fun x47 => ?_)
              refine e_Ok.ps1 (x := (0, 20)) (q := 239) 1 rfl ?_
              refine e_Ok.anyS rfl ⟨_, rfl⟩ (fun x48 => ?_)
              refine e_Ok.l2i rfl (fun z49 z49a z49b => ?_)
              refine e_Ok.ast rfl (el_o rfl) rfl rfl (by omega) ?_
              generalize hw50 : e_up w45 322 (7 * a + y9 + 1) z49 = w50
              refine e_Ok.inc (z := y9 + 1) rfl rfl (by first | with_reducible rfl | omega) (by omega) ?_
              show e_Ok 20 elay ecode eI (d + 1) 301 (245, [(9, (0, y9 + 1)), (6, (4, x41)), (4, (4, x34)), (11, (0, w 292 (6 * a + y9) + w 276 (36 * a + y9 + 32))), (10, (0, w 276 (36 * a + y9 + 32))), (0, (1, 275)), (1, (0, a)), (2, (0, 0)), (3, (0, 7 * a)), (8, (0, y8))], [], w50) _
              refine e_Ok.ps0 (q := 75) 1 rfl ?_
              refine e_Ok.sub eAlk (e_sub_of rfl ?_) (ih12 x34 x41 y8 (y9 + 1) w50 ⟨(show e_fr (mPt (7 * a)) w w50 from e_fr.up (show e_fr (mPt (7 * a)) w w45 from e_fr.up j13 hw45 (by unfold mPt; omega)) hw50 (by unfold mPt; omega)), (e_kn_sub (e_kn.oth (e_kn.ext j14 hw45 (by omega) (by omega)) hw50 (by decide)) (by omega) (by omega)), (e_kn_sub (e_kn.ext (e_kn.oth j15 hw45 (by decide)) hw50 (by omega) (by omega)) (by omega) (by omega)), by omega⟩ (by omega))
              exact ⟨rfl, rfl, rfl, rfl, rfl, rfl, rfl, rfl, trivial⟩
            · replace h26 : (w 287 (6 * a + y9) : Int) = 1 := Classical.not_not.mp (show ¬ ((w 287 (6 * a + y9) : Int) ≠ 1) from h26)
              refine e_Ok.ps2 (x := (0, w 276 (36 * a + y9 + 32))) (y := (0, y8)) (q := 151) 2 rfl ?_
              refine e_Ok.any rfl (eF_add_any _ _) (fun z52 z52a z52b => ?_)
              refine e_Ok.run (t' := (175, [(8, (0, z52)), (11, (0, w 292 (6 * a + y9))), (10, (0, w 276 (36 * a + y9 + 32))), (0, (1, 275)), (1, (0, a)), (2, (0, 0)), (3, (0, 7 * a)), (4, (4, y4)), (6, (4, y6)), (9, (0, y9))], [(0, 1024), (0, z52), (1, 275), (4, w 292 (6 * a + y9)), (4, y4)], v1)) 8 rfl ?_
              refine e_Ok.any rfl (eF_add_any _ _) (fun z53 z53a z53b => ?_)
              refine e_Ok.callV rfl (e_dq hd rfl) rfl rfl rfl rfl (c_300 (mT_Pt j13 hT)) (fun r54 w55 h56 => ?_)
              obtain ⟨z57, rfl, rfl, q58a, q58b⟩ := h56
              refine e_Ok.nrm (q := 179) (st' := [(0, z57), (4, w 292 (6 * a + y9)), (4, y4)]) rfl rfl ?_
              refine e_Ok.run (t' := (180, [(8, (0, z52)), (11, (0, w 292 (6 * a + y9))), (10, (0, w 276 (36 * a + y9 + 32))), (0, (1, 275)), (1, (0, a)), (2, (0, 0)), (3, (0, 7 * a)), (4, (4, y4)), (6, (4, y6)), (9, (0, y9))], [(4, z57), (4, w 292 (6 * a + y9)), (4, y4)], v1)) 1 rfl ?_
              refine e_Ok.anyL rfl ⟨_, rfl⟩ (fun x59 => ?_)
              refine e_Ok.anyL rfl ⟨_, rfl⟩ (fun x60 => ?_)
              refine e_Ok.run (t' := (192, [(4, (4, x60)), (8, (0, z52)), (11, (0, w 292 (6 * a + y9))), (10, (0, w 276 (36 * a + y9 + 32))), (0, (1, 275)), (1, (0, a)), (2, (0, 0)), (3, (0, 7 * a)), (6, (4, y6)), (9, (0, y9))], [(0, z52), (1, 275), (4, w 292 (6 * a + y9)), (4, y6)], v1)) 6 rfl ?_
              refine e_Ok.callV rfl (e_dq hd rfl) rfl rfl rfl rfl (c_300 (mT_Pt j13 hT)) (fun r61 w62 h63 => ?_)
              obtain ⟨z64, rfl, rfl, q65a, q65b⟩ := h63
              refine e_Ok.nrm (q := 195) (st' := [(0, z64), (4, w 292 (6 * a + y9)), (4, y6)]) rfl rfl ?_
              refine e_Ok.run (t' := (196, [(4, (4, x60)), (8, (0, z52)), (11, (0, w 292 (6 * a + y9))), (10, (0, w 276 (36 * a + y9 + 32))), (0, (1, 275)), (1, (0, a)), (2, (0, 0)), (3, (0, 7 * a)), (6, (4, y6)), (9, (0, y9))], [(4, z64), (4, w 292 (6 * a + y9)), (4, y6)], v1)) 1 rfl ?_
              refine e_Ok.anyL rfl ⟨_, rfl⟩ (fun x66 => ?_)
              refine e_Ok.anyL rfl ⟨_, rfl⟩ (fun x67 => ?_)
              refine e_Ok.run (t' := (201, [(6, (4, x67)), (4, (4, x60)), (8, (0, z52)), (11, (0, w 292 (6 * a + y9))), (10, (0, w 276 (36 * a + y9 + 32))), (0, (1, 275)), (1, (0, a)), (2, (0, 0)), (3, (0, 7 * a)), (9, (0, y9))], [(1, 275)], v1)) 2 rfl ?_
              refine e_Ok.getr (z := 321) rfl (el_o rfl) rfl (ef_o rfl) ((j13 275 55 (by first | exact no_52_0 | (unfold mPt; omega))).trans (e_Has.eq hT (mt_o rfl))) ⟨by decide, by decide⟩ ?_
              refine e_Ok.ps2 (x := (0, y9)) (y := (0, 7 * a)) (q := 207) 2 rfl ?_
              refine e_Ok.add (z := 7 * a + y9) rfl rfl (by omega) ?_
              refine e_Ok.ps1 (x := (0, 1)) (q := 209) 1 rfl ?_
              refine e_Ok.add (z := 7 * a + y9 + 1) rfl rfl (by omega) ?_
              refine e_Ok.ps2 (x := (4, 524288)) (y := (4, x60)) (q := 215) 2 rfl ?_
              refine e_Ok.anyL rfl ⟨_, rfl⟩ (fun x68 => ?_)
              refine e_Ok.ps1 (x := (0, 20)) (q := 218) 1 rfl ?_
              refine e_Ok.anyS rfl ⟨_, rfl⟩ (fun x69 => ?_)
              refine e_Ok.l2i rfl (fun z70 z70a z70b => ?_)
              refine e_Ok.ast rfl (el_o rfl) rfl rfl (by omega) ?_
              generalize hw71 : e_up v1 321 (7 * a + y9 + 1) z70 = w71
              refine e_Ok.run (t' := (222, [(6, (4, x67)), (4, (4, x60)), (8, (0, z52)), (11, (0, w 292 (6 * a + y9))), (10, (0, w 276 (36 * a + y9 + 32))), (0, (1, 275)), (1, (0, a)), (2, (0, 0)), (3, (0, 7 * a)), (9, (0, y9))], [(1, 275)], w71)) 1 rfl ?_
              refine e_Ok.getr (z := 322) rfl (el_o rfl) rfl (ef_o rfl) (e_uq hw71 (Or.inl (by decide)) ((j13 275 56 (by first | exact no_52_0 | (unfold mPt; omega))).trans (e_Has.eq hT (mt_o rfl)))) ⟨by decide, by decide⟩ ?_
              refine e_Ok.ps2 (x := (0, y9)) (y := (0, 7 * a)) (q := 228) 2 rfl ?_
              refine e_Ok.add (z := 7 * a + y9) rfl rfl (by omega) ?_
              refine e_Ok.ps1 (x := (0, 1)) (q := 230) 1 rfl ?_
              refine e_Ok.add (z := 7 * a + y9 + 1) rfl rfl (by omega) ?_
              refine e_Ok.ps2 (x := (4, 524288)) (y := (4, x67)) (q := 236) 2 rfl ?_
              refine e_Ok.anyL rfl ⟨_, rfl⟩ (fun x73 => ?_)
              refine e_Ok.ps1 (x := (0, 20)) (q := 239) 1 rfl ?_
              refine e_Ok.anyS rfl ⟨_, rfl⟩ (fun x74 => ?_)
              refine e_Ok.l2i rfl (fun z75 z75a z75b => ?_)
              refine e_Ok.ast rfl (el_o rfl) rfl rfl (by omega) ?_
              generalize hw76 : e_up w71 322 (7 * a + y9 + 1) z75 = w76
              refine e_Ok.inc (z := y9 + 1) rfl rfl (by first | with_reducible rfl | omega) (by omega) ?_
              show e_Ok 20 elay ecode eI (d + 1) 301 (245, [(9, (0, y9 + 1)), (6, (4, x67)), (4, (4, x60)), (8, (0, z52)), (11, (0, w 292 (6 * a + y9))), (10, (0, w 276 (36 * a + y9 + 32))), (0, (1, 275)), (1, (0, a)), (2, (0, 0)), (3, (0, 7 * a))], [], w76) _
              refine e_Ok.ps0 (q := 75) 1 rfl ?_
              refine e_Ok.sub eAlk (e_sub_of rfl ?_) (ih12 x60 x67 z52 (y9 + 1) w76 ⟨(show e_fr (mPt (7 * a)) w w76 from e_fr.up (show e_fr (mPt (7 * a)) w w71 from e_fr.up j13 hw71 (by unfold mPt; omega)) hw76 (by unfold mPt; omega)), (e_kn_sub (e_kn.oth (e_kn.ext j14 hw71 (by omega) (by omega)) hw76 (by decide)) (by omega) (by omega)), (e_kn_sub (e_kn.ext (e_kn.oth j15 hw71 (by decide)) hw76 (by omega) (by omega)) (by omega) (by omega)), by omega⟩ (by omega))
              exact ⟨rfl, rfl, rfl, rfl, rfl, rfl, rfl, rfl, trivial⟩
          · replace h19 : (0 : Int) ≠ 0 := (show ¬ ((0 : Int) = 0) from h19)
            exfalso; omega
    refine e_Ok.sub eAlk (e_sub_of rfl ?_) (hL11 (7 + 1 : Int).toNat (1048576 * w 282 a) (1048576 * w 283 a) (w 284 a) 0 w9 ⟨(show e_fr (mPt (7 * a)) w w9 from e_fr.up (show e_fr (mPt (7 * a)) w w7 from e_fr.up (e_fr.refl w) hw7 (by first | exact ⟨Or.inl rfl, ⟨(by omega), (by omega)⟩⟩ | (unfold mPt; omega))) hw9 (by first | exact ⟨Or.inr rfl, ⟨(by omega), (by omega)⟩⟩ | (unfold mPt; omega))), (e_kn_sub (e_kn.oth (e_kn.one hw7 (by omega)) hw9 (by decide)) (by omega) (by omega)), (e_kn_sub (e_kn.one hw9 (by omega)) (by omega) (by omega)), by omega⟩ (by omega))
    exact ⟨rfl, rfl, rfl, rfl, rfl, rfl, rfl, rfl, trivial⟩
  · replace h1 : (0 : Int) ≠ 0 := (show ¬ ((0 : Int) = 0) from h1)
    exfalso; omega
theorem no_52_5 {t : Int} {k : Int} : ¬ mPt t 323 k := by unfold mPt; omega
theorem c_301_1 {d : Nat} (hd : 21 ≤ d) {w : eW} (hT : e_Has mTy w) {a : Int} (ha : 0 ≤ a ∧ a ≤ 3) (k1 : e_kn w 323 0 (w 286 a - 1)) : e_Ok 20 elay ecode eI d 301 (0, [(0, (1, 275)), (1, (0, a)), (2, (0, 1))], [], w) (fun r w' => r = [] ∧ e_fr (mPt (28)) w w' ∧ e_pk2 w' (28) (w 286 a)) := by
  obtain ⟨d, rfl⟩ : ∃ e, d = e + 1 := ⟨d - 1, by omega⟩
  have hja := (e_Has.get hT (c := 286) (k := a) (lo := 0) (hi := 6) (mt_o rfl) (by decide))
  refine e_Ok.ps1 (x := (0, 1)) (q := 1) 1 rfl ?_
  refine e_Ok.if1 rfl (fun h1 => ?_) (fun h1 => ?_)
  · replace h1 : (1 : Int) = 0 := h1
    exfalso; omega
  · replace h1 : (1 : Int) ≠ 0 := (show ¬ ((1 : Int) = 0) from h1)
    refine e_Ok.run (t' := (18, [(3, (0, 28)), (0, (1, 275)), (1, (0, a)), (2, (0, 1))], [(1, 275), (4, 1048576)], w)) 5 rfl ?_
    refine e_Ok.getr (z := 282) rfl (el_o rfl) rfl (ef_o rfl) (e_Has.eq hT (mt_o rfl)) ⟨by decide, by decide⟩ ?_
    refine e_Ok.ps1 (x := (0, a)) (q := 22) 1 rfl ?_
    have h2 := (e_Has.get hT (c := 282) (k := a) (lo := (-8000)) (hi := 8000) (mt_o rfl) (by decide))
    refine e_Ok.ald (z := w 282 a) rfl (el_o rfl) rfl (by omega) rfl (e_bq h2 (by decide) (by decide)) ?_
    refine e_Ok.run (t' := (24, [(3, (0, 28)), (0, (1, 275)), (1, (0, a)), (2, (0, 1))], [(4, w 282 a), (4, 1048576)], w)) 1 rfl ?_
    refine e_Ok.mulL (z := 1048576 * w 282 a) rfl (by omega) (by omega) ?_
    refine e_Ok.run (t' := (31, [(4, (4, 1048576 * w 282 a)), (3, (0, 28)), (0, (1, 275)), (1, (0, a)), (2, (0, 1))], [(1, 275), (4, 1048576)], w)) 3 rfl ?_
    refine e_Ok.getr (z := 283) rfl (el_o rfl) rfl (ef_o rfl) (e_Has.eq hT (mt_o rfl)) ⟨by decide, by decide⟩ ?_
    refine e_Ok.ps1 (x := (0, a)) (q := 35) 1 rfl ?_
    have h4 := (e_Has.get hT (c := 283) (k := a) (lo := (-8000)) (hi := 8000) (mt_o rfl) (by decide))
    refine e_Ok.ald (z := w 283 a) rfl (el_o rfl) rfl (by omega) rfl (e_bq h4 (by decide) (by decide)) ?_
    refine e_Ok.run (t' := (37, [(4, (4, 1048576 * w 282 a)), (3, (0, 28)), (0, (1, 275)), (1, (0, a)), (2, (0, 1))], [(4, w 283 a), (4, 1048576)], w)) 1 rfl ?_
    refine e_Ok.mulL (z := 1048576 * w 283 a) rfl (by omega) (by omega) ?_
    refine e_Ok.run (t' := (41, [(6, (4, 1048576 * w 283 a)), (4, (4, 1048576 * w 282 a)), (3, (0, 28)), (0, (1, 275)), (1, (0, a)), (2, (0, 1))], [(1, 275)], w)) 2 rfl ?_
    refine e_Ok.getr (z := 284) rfl (el_o rfl) rfl (ef_o rfl) (e_Has.eq hT (mt_o rfl)) ⟨by decide, by decide⟩ ?_
    refine e_Ok.ps1 (x := (0, a)) (q := 45) 1 rfl ?_
    have h6 := (e_Has.get hT (c := 284) (k := a) (lo := 0) (hi := 4095) (mt_o rfl) (by decide))
    refine e_Ok.ald (z := w 284 a) rfl (el_o rfl) rfl (by omega) rfl (e_bq h6 (by decide) (by decide)) ?_
    refine e_Ok.run (t' := (49, [(8, (0, w 284 a)), (6, (4, 1048576 * w 283 a)), (4, (4, 1048576 * w 282 a)), (3, (0, 28)), (0, (1, 275)), (1, (0, a)), (2, (0, 1))], [(1, 275)], w)) 2 rfl ?_
    refine e_Ok.getr (z := 321) rfl (el_o rfl) rfl (ef_o rfl) (e_Has.eq hT (mt_o rfl)) ⟨by decide, by decide⟩ ?_
    refine e_Ok.ps2 (x := (1, 275)) (y := (0, 28)) (q := 54) 2 rfl ?_
    refine e_Ok.getr (z := 282) rfl (el_o rfl) rfl (ef_o rfl) (e_Has.eq hT (mt_o rfl)) ⟨by decide, by decide⟩ ?_
    refine e_Ok.ps1 (x := (0, a)) (q := 58) 1 rfl ?_
    refine e_Ok.ald (z := w 282 a) rfl (el_o rfl) rfl (by omega) rfl (by omega) ?_
    refine e_Ok.ast rfl (el_o rfl) rfl rfl (by omega) ?_
    generalize hw7 : e_up w 321 28 (w 282 a) = w7
    refine e_Ok.ps1 (x := (1, 275)) (q := 61) 1 rfl ?_
    refine e_Ok.getr (z := 322) rfl (el_o rfl) rfl (ef_o rfl) (e_uq hw7 (Or.inl (by decide)) (e_Has.eq hT (mt_o rfl))) ⟨by decide, by decide⟩ ?_
    refine e_Ok.ps2 (x := (1, 275)) (y := (0, 28)) (q := 66) 2 rfl ?_
    refine e_Ok.getr (z := 283) rfl (el_o rfl) rfl (ef_o rfl) (e_uq hw7 (Or.inl (by decide)) (e_Has.eq hT (mt_o rfl))) ⟨by decide, by decide⟩ ?_
    refine e_Ok.ps1 (x := (0, a)) (q := 70) 1 rfl ?_
    refine e_Ok.ald (z := w 283 a) rfl (el_o rfl) rfl (by omega) (e_uq hw7 (Or.inl (by decide)) rfl) (by omega) ?_
    refine e_Ok.ast rfl (el_o rfl) rfl rfl (by omega) ?_
    generalize hw9 : e_up w7 322 28 (w 283 a) = w9
    refine e_Ok.run (t' := (75, [(9, (0, 0)), (8, (0, w 284 a)), (6, (4, 1048576 * w 283 a)), (4, (4, 1048576 * w 282 a)), (3, (0, 28)), (0, (1, 275)), (1, (0, a)), (2, (0, 1))], [], w9)) 2 rfl ?_
    have hL11 : ∀ (n : Nat) (y4 : Int) (y6 : Int) (y8 : Int) (y9 : Int) (v1 : eW), e_fr (mPt (28)) w v1 ∧ e_kn v1 321 (28) (28 + y9) ∧ e_kn v1 322 (28) (28 + y9) ∧ 0 ≤ y9 ∧ y9 ≤ 6 → 7 - y9 < n → e_Ok 20 elay ecode eI (d + 1) 301 (75, [(0, (1, 275)), (1, (0, a)), (2, (0, 1)), (3, (0, 28)), (4, (4, y4)), (6, (4, y6)), (8, (0, y8)), (9, (0, y9))], [], v1) (fun r w' => r = [] ∧ e_fr (mPt (28)) w w' ∧ e_pk2 w' (28) (w 286 a)) := by
      intro n
      induction n with
      | zero => intro y4 y6 y8 y9 v1 hj hm; obtain ⟨j13, j14, j15, j16⟩ := hj; exfalso; omega
      | succ n ih12 =>
        intro y4 y6 y8 y9 v1 hj hm
        obtain ⟨j13, j14, j15, j16⟩ := hj
        refine e_Ok.run (t' := (78, [(0, (1, 275)), (1, (0, a)), (2, (0, 1)), (3, (0, 28)), (4, (4, y4)), (6, (4, y6)), (8, (0, y8)), (9, (0, y9))], [(1, 275), (0, y9)], v1)) 2 rfl ?_
        refine e_Ok.getr (z := 286) rfl (el_o rfl) rfl (ef_o rfl) ((j13 275 15 (by first | exact no_52_0 | (unfold mPt; omega))).trans (e_Has.eq hT (mt_o rfl))) ⟨by decide, by decide⟩ ?_
        refine e_Ok.ps1 (x := (0, a)) (q := 82) 1 rfl ?_
        have h17 := (e_Has.get hT (c := 286) (k := a) (lo := 0) (hi := 6) (mt_o rfl) (by decide))
        refine e_Ok.ald (z := w 286 a) rfl (el_o rfl) rfl (by omega) ((j13 286 a (by first | exact no_52_1 | (unfold mPt; omega))).trans rfl) (e_bq h17 (by decide) (by decide)) ?_
        refine e_Ok.if2 rfl (fun h18 => ?_) (fun h18 => ?_)
        · replace h18 : (y9 : Int) ≥ w 286 a := h18
          refine e_Ok.rets rfl rfl ?_
          exact ⟨rfl, j13, e_kn_sub j14 (by omega) (by omega), e_kn_sub j15 (by omega) (by omega)⟩
        · replace h18 : (y9 : Int) < w 286 a := Int.not_le.mp (show ¬ ((y9 : Int) ≥ w 286 a) from h18)
          refine e_Ok.ps1 (x := (0, 1)) (q := 87) 1 rfl ?_
          refine e_Ok.if1 rfl (fun h19 => ?_) (fun h19 => ?_)
          · replace h19 : (1 : Int) = 0 := h19
            exfalso; omega
          · replace h19 : (1 : Int) ≠ 0 := (show ¬ ((1 : Int) = 0) from h19)
            refine e_Ok.ps1 (x := (1, 275)) (q := 91) 1 rfl ?_
            refine e_Ok.getr (z := 323) rfl (el_o rfl) rfl (ef_o rfl) ((j13 275 57 (by first | exact no_52_0 | (unfold mPt; omega))).trans (e_Has.eq hT (mt_o rfl))) ⟨by decide, by decide⟩ ?_
            refine e_Ok.ps1 (x := (0, y9)) (q := 96) 1 rfl ?_
            have h20 := (k1 y9 (by omega) (by omega))
            refine e_Ok.ald (z := w 323 y9) rfl (el_o rfl) rfl (by omega) ((j13 323 y9 (by first | exact no_52_5 | (unfold mPt; omega))).trans rfl) (by omega) ?_
            refine e_Ok.run (t' := (118, [(10, (0, w 323 y9)), (0, (1, 275)), (1, (0, a)), (2, (0, 1)), (3, (0, 28)), (4, (4, y4)), (6, (4, y6)), (8, (0, y8)), (9, (0, y9))], [(1, 275)], v1)) 3 rfl ?_
            refine e_Ok.getr (z := 292) rfl (el_o rfl) rfl (ef_o rfl) ((j13 275 21 (by first | exact no_52_0 | (unfold mPt; omega))).trans (e_Has.eq hT (mt_o rfl))) ⟨by decide, by decide⟩ ?_
            refine e_Ok.ps2 (x := (0, a)) (y := (0, 6)) (q := 124) 2 rfl ?_
            refine e_Ok.mul (z := 6 * a) rfl rfl (by omega) ?_
            refine e_Ok.ps1 (x := (0, y9)) (q := 127) 1 rfl ?_
            refine e_Ok.add (z := 6 * a + y9) rfl rfl (by omega) ?_
            have h21 := (e_Has.get hT (c := 292) (k := 6 * a + y9) (lo := 0) (hi := 8000) (mt_o rfl) (by decide))
            refine e_Ok.ald (z := w 292 (6 * a + y9)) rfl (el_o rfl) rfl (by omega) ((j13 292 (6 * a + y9) (by first | exact no_52_3 | (unfold mPt; omega))).trans rfl) (e_bq h21 (by decide) (by decide)) ?_
            refine e_Ok.run (t' := (132, [(11, (0, w 292 (6 * a + y9))), (10, (0, w 323 y9)), (0, (1, 275)), (1, (0, a)), (2, (0, 1)), (3, (0, 28)), (4, (4, y4)), (6, (4, y6)), (8, (0, y8)), (9, (0, y9))], [(1, 275)], v1)) 2 rfl ?_
            refine e_Ok.getr (z := 287) rfl (el_o rfl) rfl (ef_o rfl) ((j13 275 16 (by first | exact no_52_0 | (unfold mPt; omega))).trans (e_Has.eq hT (mt_o rfl))) ⟨by decide, by decide⟩ ?_
            refine e_Ok.ps2 (x := (0, a)) (y := (0, 6)) (q := 138) 2 rfl ?_
            refine e_Ok.mul (z := 6 * a) rfl rfl (by omega) ?_
            refine e_Ok.ps1 (x := (0, y9)) (q := 141) 1 rfl ?_
            refine e_Ok.add (z := 6 * a + y9) rfl rfl (by omega) ?_
            have h22 := (e_Has.get hT (c := 287) (k := 6 * a + y9) (lo := 0) (hi := 1) (mt_o rfl) (by decide))
            refine e_Ok.ald (z := w 287 (6 * a + y9)) rfl (el_o rfl) rfl (by omega) ((j13 287 (6 * a + y9) (by first | exact no_52_4 | (unfold mPt; omega))).trans rfl) (e_bq h22 (by decide) (by decide)) ?_
            refine e_Ok.ps1 (x := (0, 1)) (q := 144) 1 rfl ?_
            refine e_Ok.if2 rfl (fun h23 => ?_) (fun h23 => ?_)
            · replace h23 : (w 287 (6 * a + y9) : Int) ≠ 1 := h23
              refine e_Ok.ps2 (x := (0, w 323 y9)) (y := (0, w 292 (6 * a + y9))) (q := 161) 2 rfl ?_
              refine e_Ok.any rfl (eF_add_any _ _) (fun z24 z24a z24b => ?_)
              refine e_Ok.run (t' := (175, [(11, (0, z24)), (10, (0, w 323 y9)), (0, (1, 275)), (1, (0, a)), (2, (0, 1)), (3, (0, 28)), (4, (4, y4)), (6, (4, y6)), (8, (0, y8)), (9, (0, y9))], [(0, 1024), (0, y8), (1, 275), (4, z24), (4, y4)], v1)) 7 rfl ?_
              refine e_Ok.any rfl (eF_add_any _ _) (fun z25 z25a z25b => ?_)
              refine e_Ok.callV rfl (e_dq hd rfl) rfl rfl rfl rfl (c_300 (mT_Pt j13 hT)) (fun r26 w27 h28 => ?_)
              obtain ⟨z29, rfl, rfl, q30a, q30b⟩ := h28
              refine e_Ok.nrm (q := 179) (st' := [(0, z29), (4, z24), (4, y4)]) rfl rfl ?_
              refine e_Ok.run (t' := (180, [(11, (0, z24)), (10, (0, w 323 y9)), (0, (1, 275)), (1, (0, a)), (2, (0, 1)), (3, (0, 28)), (4, (4, y4)), (6, (4, y6)), (8, (0, y8)), (9, (0, y9))], [(4, z29), (4, z24), (4, y4)], v1)) 1 rfl ?_
              refine e_Ok.anyL rfl ⟨_, rfl⟩ (fun x31 => ?_)
              refine e_Ok.anyL rfl ⟨_, rfl⟩ (fun x32 => ?_)
              refine e_Ok.run (t' := (192, [(4, (4, x32)), (11, (0, z24)), (10, (0, w 323 y9)), (0, (1, 275)), (1, (0, a)), (2, (0, 1)), (3, (0, 28)), (6, (4, y6)), (8, (0, y8)), (9, (0, y9))], [(0, y8), (1, 275), (4, z24), (4, y6)], v1)) 6 rfl ?_
              refine e_Ok.callV rfl (e_dq hd rfl) rfl rfl rfl rfl (c_300 (mT_Pt j13 hT)) (fun r33 w34 h35 => ?_)
              obtain ⟨z36, rfl, rfl, q37a, q37b⟩ := h35
              refine e_Ok.nrm (q := 195) (st' := [(0, z36), (4, z24), (4, y6)]) rfl rfl ?_
              refine e_Ok.run (t' := (196, [(4, (4, x32)), (11, (0, z24)), (10, (0, w 323 y9)), (0, (1, 275)), (1, (0, a)), (2, (0, 1)), (3, (0, 28)), (6, (4, y6)), (8, (0, y8)), (9, (0, y9))], [(4, z36), (4, z24), (4, y6)], v1)) 1 rfl ?_
              refine e_Ok.anyL rfl ⟨_, rfl⟩ (fun x38 => ?_)
              refine e_Ok.anyL rfl ⟨_, rfl⟩ (fun x39 => ?_)
              refine e_Ok.run (t' := (201, [(6, (4, x39)), (4, (4, x32)), (11, (0, z24)), (10, (0, w 323 y9)), (0, (1, 275)), (1, (0, a)), (2, (0, 1)), (3, (0, 28)), (8, (0, y8)), (9, (0, y9))], [(1, 275)], v1)) 2 rfl ?_
              refine e_Ok.getr (z := 321) rfl (el_o rfl) rfl (ef_o rfl) ((j13 275 55 (by first | exact no_52_0 | (unfold mPt; omega))).trans (e_Has.eq hT (mt_o rfl))) ⟨by decide, by decide⟩ ?_
              refine e_Ok.ps2 (x := (0, y9)) (y := (0, 28)) (q := 207) 2 rfl ?_
              refine e_Ok.add (z := y9 + 28) rfl (Int.add_comm _ _) (by omega) ?_
              refine e_Ok.ps1 (x := (0, 1)) (q := 209) 1 rfl ?_
              refine e_Ok.add (z := y9 + 29) rfl (e_adl (by decide)) (by omega) ?_
              refine e_Ok.ps2 (x := (4, 524288)) (y := (4, x32)) (q := 215) 2 rfl ?_
              refine e_Ok.anyL rfl ⟨_, rfl⟩ (fun x40 => ?_)
              refine e_Ok.ps1 (x := (0, 20)) (q := 218) 1 rfl ?_
              refine e_Ok.anyS rfl ⟨_, rfl⟩ (fun x41 => ?_)
              refine e_Ok.l2i rfl (fun z42 z42a z42b => ?_)
              refine e_Ok.ast rfl (el_o rfl) rfl rfl (by omega) ?_
              generalize hw43 : e_up v1 321 (y9 + 29) z42 = w43
              refine e_Ok.run (t' := (222, [(6, (4, x39)), (4, (4, x32)), (11, (0, z24)), (10, (0, w 323 y9)), (0, (1, 275)), (1, (0, a)), (2, (0, 1)), (3, (0, 28)), (8, (0, y8)), (9, (0, y9))], [(1, 275)], w43)) 1 rfl ?_
              refine e_Ok.getr (z := 322) rfl (el_o rfl) rfl (ef_o rfl) (e_uq hw43 (Or.inl (by decide)) ((j13 275 56 (by first | exact no_52_0 | (unfold mPt; omega))).trans (e_Has.eq hT (mt_o rfl)))) ⟨by decide, by decide⟩ ?_
              refine e_Ok.ps2 (x := (0, y9)) (y := (0, 28)) (q := 228) 2 rfl ?_
              refine e_Ok.add (z := y9 + 28) rfl (Int.add_comm _ _) (by omega) ?_
              refine e_Ok.ps1 (x := (0, 1)) (q := 230) 1 rfl ?_
              refine e_Ok.add (z := y9 + 29) rfl (e_adl (by decide)) (by omega) ?_
              refine e_Ok.ps2 (x := (4, 524288)) (y := (4, x39)) (q := 236) 2 rfl ?_
              refine e_Ok.anyL rfl ⟨_, rfl⟩ (fun x45 => ?_)
              refine e_Ok.ps1 (x := (0, 20)) (q := 239) 1 rfl ?_
              refine e_Ok.anyS rfl ⟨_, rfl⟩ (fun x46 => ?_)
              refine e_Ok.l2i rfl (fun z47 z47a z47b => ?_)
              refine e_Ok.ast rfl (el_o rfl) rfl rfl (by omega) ?_
              generalize hw48 : e_up w43 322 (y9 + 29) z47 = w48
              refine e_Ok.inc (z := y9 + 1) rfl rfl (by first | with_reducible rfl | omega) (by omega) ?_
              show e_Ok 20 elay ecode eI (d + 1) 301 (245, [(9, (0, y9 + 1)), (6, (4, x39)), (4, (4, x32)), (11, (0, z24)), (10, (0, w 323 y9)), (0, (1, 275)), (1, (0, a)), (2, (0, 1)), (3, (0, 28)), (8, (0, y8))], [], w48) _
              refine e_Ok.ps0 (q := 75) 1 rfl ?_
              refine e_Ok.sub eAlk (e_sub_of rfl ?_) (ih12 x32 x39 y8 (y9 + 1) w48 ⟨(show e_fr (mPt (28)) w w48 from e_fr.up (show e_fr (mPt (28)) w w43 from e_fr.up j13 hw43 (by unfold mPt; omega)) hw48 (by unfold mPt; omega)), (e_kn_sub (e_kn.oth (e_kn.ext j14 hw43 (by omega) (by omega)) hw48 (by decide)) (by omega) (by omega)), (e_kn_sub (e_kn.ext (e_kn.oth j15 hw43 (by decide)) hw48 (by omega) (by omega)) (by omega) (by omega)), by omega⟩ (by omega))
              exact ⟨rfl, rfl, rfl, rfl, rfl, rfl, rfl, rfl, trivial⟩
            · replace h23 : (w 287 (6 * a + y9) : Int) = 1 := Classical.not_not.mp (show ¬ ((w 287 (6 * a + y9) : Int) ≠ 1) from h23)
              refine e_Ok.ps2 (x := (0, w 323 y9)) (y := (0, y8)) (q := 151) 2 rfl ?_
              refine e_Ok.any rfl (eF_add_any _ _) (fun z50 z50a z50b => ?_)
              refine e_Ok.run (t' := (175, [(8, (0, z50)), (11, (0, w 292 (6 * a + y9))), (10, (0, w 323 y9)), (0, (1, 275)), (1, (0, a)), (2, (0, 1)), (3, (0, 28)), (4, (4, y4)), (6, (4, y6)), (9, (0, y9))], [(0, 1024), (0, z50), (1, 275), (4, w 292 (6 * a + y9)), (4, y4)], v1)) 8 rfl ?_
              refine e_Ok.any rfl (eF_add_any _ _) (fun z51 z51a z51b => ?_)
              refine e_Ok.callV rfl (e_dq hd rfl) rfl rfl rfl rfl (c_300 (mT_Pt j13 hT)) (fun r52 w53 h54 => ?_)
              obtain ⟨z55, rfl, rfl, q56a, q56b⟩ := h54
              refine e_Ok.nrm (q := 179) (st' := [(0, z55), (4, w 292 (6 * a + y9)), (4, y4)]) rfl rfl ?_
              refine e_Ok.run (t' := (180, [(8, (0, z50)), (11, (0, w 292 (6 * a + y9))), (10, (0, w 323 y9)), (0, (1, 275)), (1, (0, a)), (2, (0, 1)), (3, (0, 28)), (4, (4, y4)), (6, (4, y6)), (9, (0, y9))], [(4, z55), (4, w 292 (6 * a + y9)), (4, y4)], v1)) 1 rfl ?_
              refine e_Ok.anyL rfl ⟨_, rfl⟩ (fun x57 => ?_)
              refine e_Ok.anyL rfl ⟨_, rfl⟩ (fun x58 => ?_)
              refine e_Ok.run (t' := (192, [(4, (4, x58)), (8, (0, z50)), (11, (0, w 292 (6 * a + y9))), (10, (0, w 323 y9)), (0, (1, 275)), (1, (0, a)), (2, (0, 1)), (3, (0, 28)), (6, (4, y6)), (9, (0, y9))], [(0, z50), (1, 275), (4, w 292 (6 * a + y9)), (4, y6)], v1)) 6 rfl ?_
              refine e_Ok.callV rfl (e_dq hd rfl) rfl rfl rfl rfl (c_300 (mT_Pt j13 hT)) (fun r59 w60 h61 => ?_)
              obtain ⟨z62, rfl, rfl, q63a, q63b⟩ := h61
              refine e_Ok.nrm (q := 195) (st' := [(0, z62), (4, w 292 (6 * a + y9)), (4, y6)]) rfl rfl ?_
              refine e_Ok.run (t' := (196, [(4, (4, x58)), (8, (0, z50)), (11, (0, w 292 (6 * a + y9))), (10, (0, w 323 y9)), (0, (1, 275)), (1, (0, a)), (2, (0, 1)), (3, (0, 28)), (6, (4, y6)), (9, (0, y9))], [(4, z62), (4, w 292 (6 * a + y9)), (4, y6)], v1)) 1 rfl ?_
              refine e_Ok.anyL rfl ⟨_, rfl⟩ (fun x64 => ?_)
              refine e_Ok.anyL rfl ⟨_, rfl⟩ (fun x65 => ?_)
              refine e_Ok.run (t' := (201, [(6, (4, x65)), (4, (4, x58)), (8, (0, z50)), (11, (0, w 292 (6 * a + y9))), (10, (0, w 323 y9)), (0, (1, 275)), (1, (0, a)), (2, (0, 1)), (3, (0, 28)), (9, (0, y9))], [(1, 275)], v1)) 2 rfl ?_
              refine e_Ok.getr (z := 321) rfl (el_o rfl) rfl (ef_o rfl) ((j13 275 55 (by first | exact no_52_0 | (unfold mPt; omega))).trans (e_Has.eq hT (mt_o rfl))) ⟨by decide, by decide⟩ ?_
              refine e_Ok.ps2 (x := (0, y9)) (y := (0, 28)) (q := 207) 2 rfl ?_
              refine e_Ok.add (z := y9 + 28) rfl (Int.add_comm _ _) (by omega) ?_
              refine e_Ok.ps1 (x := (0, 1)) (q := 209) 1 rfl ?_
              refine e_Ok.add (z := y9 + 29) rfl (e_adl (by decide)) (by omega) ?_
              refine e_Ok.ps2 (x := (4, 524288)) (y := (4, x58)) (q := 215) 2 rfl ?_
              refine e_Ok.anyL rfl ⟨_, rfl⟩ (fun x66 => ?_)
              refine e_Ok.ps1 (x := (0, 20)) (q := 218) 1 rfl ?_
              refine e_Ok.anyS rfl ⟨_, rfl⟩ (fun x67 => ?_)
              refine e_Ok.l2i rfl (fun z68 z68a z68b => ?_)
              refine e_Ok.ast rfl (el_o rfl) rfl rfl (by omega) ?_
              generalize hw69 : e_up v1 321 (y9 + 29) z68 = w69
              refine e_Ok.run (t' := (222, [(6, (4, x65)), (4, (4, x58)), (8, (0, z50)), (11, (0, w 292 (6 * a + y9))), (10, (0, w 323 y9)), (0, (1, 275)), (1, (0, a)), (2, (0, 1)), (3, (0, 28)), (9, (0, y9))], [(1, 275)], w69)) 1 rfl ?_
              refine e_Ok.getr (z := 322) rfl (el_o rfl) rfl (ef_o rfl) (e_uq hw69 (Or.inl (by decide)) ((j13 275 56 (by first | exact no_52_0 | (unfold mPt; omega))).trans (e_Has.eq hT (mt_o rfl)))) ⟨by decide, by decide⟩ ?_
              refine e_Ok.ps2 (x := (0, y9)) (y := (0, 28)) (q := 228) 2 rfl ?_
              refine e_Ok.add (z := y9 + 28) rfl (Int.add_comm _ _) (by omega) ?_
              refine e_Ok.ps1 (x := (0, 1)) (q := 230) 1 rfl ?_
              refine e_Ok.add (z := y9 + 29) rfl (e_adl (by decide)) (by omega) ?_
              refine e_Ok.ps2 (x := (4, 524288)) (y := (4, x65)) (q := 236) 2 rfl ?_
              refine e_Ok.anyL rfl ⟨_, rfl⟩ (fun x71 => ?_)
              refine e_Ok.ps1 (x := (0, 20)) (q := 239) 1 rfl ?_
              refine e_Ok.anyS rfl ⟨_, rfl⟩ (fun x72 => ?_)
              refine e_Ok.l2i rfl (fun z73 z73a z73b => ?_)
              refine e_Ok.ast rfl (el_o rfl) rfl rfl (by omega) ?_
              generalize hw74 : e_up w69 322 (y9 + 29) z73 = w74
              refine e_Ok.inc (z := y9 + 1) rfl rfl (by first | with_reducible rfl | omega) (by omega) ?_
              show e_Ok 20 elay ecode eI (d + 1) 301 (245, [(9, (0, y9 + 1)), (6, (4, x65)), (4, (4, x58)), (8, (0, z50)), (11, (0, w 292 (6 * a + y9))), (10, (0, w 323 y9)), (0, (1, 275)), (1, (0, a)), (2, (0, 1)), (3, (0, 28))], [], w74) _
              refine e_Ok.ps0 (q := 75) 1 rfl ?_
              refine e_Ok.sub eAlk (e_sub_of rfl ?_) (ih12 x58 x65 z50 (y9 + 1) w74 ⟨(show e_fr (mPt (28)) w w74 from e_fr.up (show e_fr (mPt (28)) w w69 from e_fr.up j13 hw69 (by unfold mPt; omega)) hw74 (by unfold mPt; omega)), (e_kn_sub (e_kn.oth (e_kn.ext j14 hw69 (by omega) (by omega)) hw74 (by decide)) (by omega) (by omega)), (e_kn_sub (e_kn.ext (e_kn.oth j15 hw69 (by decide)) hw74 (by omega) (by omega)) (by omega) (by omega)), by omega⟩ (by omega))
              exact ⟨rfl, rfl, rfl, rfl, rfl, rfl, rfl, rfl, trivial⟩
    refine e_Ok.sub eAlk (e_sub_of rfl ?_) (hL11 (7 + 1 : Int).toNat (1048576 * w 282 a) (1048576 * w 283 a) (w 284 a) 0 w9 ⟨(show e_fr (mPt (28)) w w9 from e_fr.up (show e_fr (mPt (28)) w w7 from e_fr.up (e_fr.refl w) hw7 (by first | exact ⟨Or.inl rfl, ⟨(by decide), (by decide)⟩⟩ | (unfold mPt; omega))) hw9 (by first | exact ⟨Or.inr rfl, ⟨(by decide), (by decide)⟩⟩ | (unfold mPt; omega))), (e_kn_sub (e_kn.oth (e_kn.one hw7 (by omega)) hw9 (by decide)) (by omega) (by omega)), (e_kn_sub (e_kn.one hw9 (by omega)) (by omega) (by omega)), by omega⟩ (by omega))
    exact ⟨rfl, rfl, rfl, rfl, rfl, rfl, rfl, rfl, trivial⟩
theorem no_52_6 {k : Int} : ¬ mP 286 k := by unfold mP; omega
theorem no_52_7 {k : Int} : ¬ mP 275 k := by unfold mP; omega
theorem su_52_17 {t : Int} {c k : Int} (q : mPt t c k) : mP c k := by
  unfold mPt at q
  rcases q with ⟨(q | q), ⟨q, q⟩⟩
  · exact Or.inl (by omega)
  · exact Or.inr (by omega)
theorem c_302 {d : Nat} (hd : 22 ≤ d) {w : eW} (hT : e_Has mTy w) : e_Ok 20 elay ecode eI d 302 (0, [(0, (1, 275))], [], w) (fun r w' => r = [] ∧ e_fr mP w w' ∧ ∀ b, 0 ≤ b → b < w 275 10 → e_pk2 w' (7 * b) (w 286 b)) := by
  obtain ⟨d, rfl⟩ : ∃ e, d = e + 1 := ⟨d - 1, by omega⟩
  refine e_Ok.run (t' := (2, [(1, (0, 0)), (0, (1, 275))], [], w)) 2 rfl ?_
  have hL1 : ∀ (n : Nat) (y1 : Int) (v1 : eW), e_fr mP w v1 ∧ (∀ b, 0 ≤ b → b < y1 → e_pk2 v1 (7 * b) (w 286 b)) ∧ 0 ≤ y1 ∧ y1 ≤ 4 → 5 - y1 < n → e_Ok 20 elay ecode eI (d + 1) 302 (2, [(0, (1, 275)), (1, (0, y1))], [], v1) (fun r w' => r = [] ∧ e_fr mP w w' ∧ ∀ b, 0 ≤ b → b < w 275 10 → e_pk2 w' (7 * b) (w 286 b)) := by
    intro n
    induction n with
    | zero => intro y1 v1 hj hm; obtain ⟨j3, j4, j5⟩ := hj; exfalso; omega
    | succ n ih2 =>
      intro y1 v1 hj hm
      obtain ⟨j3, j4, j5⟩ := hj
      have l_y1 : v1 286 y1 = w 286 y1 := j3 286 y1 no_52_6
      refine e_Ok.run (t' := (4, [(0, (1, 275)), (1, (0, y1))], [(1, 275), (0, y1)], v1)) 2 rfl ?_
      have h6 := (e_Has.get hT (c := 275) (k := 10) (lo := 0) (hi := 4) (mt_o rfl) (by decide))
      refine e_Ok.getf (z := w 275 10) rfl (el_o rfl) rfl (ef_o rfl) ((j3 275 10 no_52_7).trans rfl) (e_bq h6 (by decide) (by decide)) ?_
      refine e_Ok.if2 rfl (fun h7 => ?_) (fun h7 => ?_)
      · replace h7 : (y1 : Int) ≥ w 275 10 := h7
        refine e_Ok.rets rfl rfl ?_
        exact ⟨rfl, j3, fun b g1 g2 => j4 b g1 (by omega)⟩
      · replace h7 : (y1 : Int) < w 275 10 := Int.not_le.mp (show ¬ ((y1 : Int) ≥ w 275 10) from h7)
        refine e_Ok.ps3 (x := (0, 0)) (y := (0, y1)) (z := (1, 275)) (q := 13) 3 rfl ?_
        refine e_Ok.callV rfl (e_dq hd rfl) rfl rfl rfl rfl (c_301_0 (e_dq hd rfl) (mT_P j3 hT) (by omega)) (fun r8 w9 h10 => ?_)
        obtain ⟨rfl, q11, q11k⟩ := h10
        refine e_Ok.nrm (q := 16) (st' := []) rfl rfl ?_
        refine e_Ok.inc (z := y1 + 1) rfl rfl (by first | with_reducible rfl | omega) (by omega) ?_
        show e_Ok 20 elay ecode eI (d + 1) 302 (19, [(1, (0, y1 + 1)), (0, (1, 275))], [], w9) _
        refine e_Ok.ps0 (q := 2) 1 rfl ?_
        refine e_Ok.sub eAlk (e_sub_of rfl ?_) (ih2 (y1 + 1) w9 ⟨(show e_fr mP w w9 from e_fr.trans j3 (e_fr.mono q11 (fun c k q => by first | exact su_52_17 q | (unfold mPt at q; unfold mP; omega)))), (fun b g1 g2 => Decidable.byCases (p := b = y1) (fun e => by rw [e, ← l_y1]; exact q11k) (fun e => e_pk2.fr q11 (fun k g3 g4 => by have := e_Has.get hT (c := 286) (k := b) (lo := 0) (hi := 6) (mt_o rfl) (by decide); unfold mPt; omega) (j4 b g1 (by omega)))), by omega⟩ (by omega))
        exact ⟨rfl, rfl, trivial⟩
  refine e_Ok.sub eAlk (e_sub_of rfl ?_) (hL1 (5 + 1 : Int).toNat 0 w ⟨(e_fr.refl w), (fun b g1 g2 => by omega), by omega⟩ (by omega))
  exact ⟨rfl, rfl, trivial⟩
theorem no_52_8 {k : Int} : ¬ mL 286 k := by unfold mL; omega
theorem no_52_9 : ¬ mL 275 10 := by unfold mL; omega
theorem c_317 {d : Nat} (hd : 25 ≤ d) {w : eW} (hT : e_Has mTy w) {a u m : Int} (ha : 0 ≤ a ∧ a ≤ 3) (hu : 0 ≤ u ∧ u ≤ 28) (k1 : e_kn w 321 u (u + w 286 a)) (k2 : e_kn w 322 u (u + w 286 a)) (kall : ∀ b, 0 ≤ b → b < w 275 10 → e_pk2 w (7 * b) (w 286 b)) : e_Ok 20 elay ecode eI d 317 (0, [(0, (1, 275)), (1, (0, a)), (2, (0, u)), (3, (0, m))], [], w) (fun r w' => ∃ z : Int, r = [(0, z)] ∧ e_fr mL w w' ∧ 0 ≤ z ∧ z ≤ 1) := by
  obtain ⟨d, rfl⟩ : ∃ e, d = e + 1 := ⟨d - 1, by omega⟩
  have hja := (e_Has.get hT (c := 286) (k := a) (lo := 0) (hi := 6) (mt_o rfl) (by decide))
  refine e_Ok.ps4 (x := (0, m)) (y := (0, u)) (z := (0, a)) (u := (1, 275)) (q := 4) 4 rfl ?_
  refine e_Ok.callV rfl (e_dq hd rfl) rfl rfl rfl rfl (c_315 (e_dq hd rfl) hT (by omega) (by omega) (e_kn_sub k1 (by omega) (by omega)) (e_kn_sub k2 (by omega) (by omega))) (fun r1 w2 h3 => ?_)
  obtain ⟨z4, rfl, q5, q5a, q5b⟩ := h3
  have f6 : e_fr mL w w2 := e_fr.trans (e_fr.refl w) (e_fr.mono q5 (fun c k q => by exact q))
  have l7 : w2 286 a = w 286 a := f6 286 a no_52_8
  refine e_Ok.nrm (q := 7) (st' := [(0, z4)]) rfl rfl ?_
  refine e_Ok.run (t' := (12, [(5, (0, 0)), (4, (0, z4)), (0, (1, 275)), (1, (0, a)), (2, (0, u)), (3, (0, m))], [], w2)) 3 rfl ?_
  have hL8 : ∀ (n : Nat) (y4 : Int) (y5 : Int) (v1 : eW), e_fr mL w v1 ∧ 0 ≤ y4 ∧ y4 ≤ 1 ∧ 0 ≤ y5 ∧ y5 ≤ 4 → 5 - y5 < n → e_Ok 20 elay ecode eI (d + 1) 317 (12, [(0, (1, 275)), (1, (0, a)), (2, (0, u)), (3, (0, m)), (4, (0, y4)), (5, (0, y5))], [], v1) (fun r w' => ∃ z : Int, r = [(0, z)] ∧ e_fr mL w w' ∧ 0 ≤ z ∧ z ≤ 1) := by
    intro n
    induction n with
    | zero => intro y4 y5 v1 hj hm; obtain ⟨j10, j11, j12⟩ := hj; exfalso; omega
    | succ n ih9 =>
      intro y4 y5 v1 hj hm
      obtain ⟨j10, j11, j12⟩ := hj
      have l13 : v1 286 a = w 286 a := j10 286 a no_52_8
      have l14 : v1 286 y5 = w 286 y5 := j10 286 y5 no_52_8
      refine e_Ok.run (t' := (15, [(0, (1, 275)), (1, (0, a)), (2, (0, u)), (3, (0, m)), (4, (0, y4)), (5, (0, y5))], [(1, 275), (0, y5)], v1)) 2 rfl ?_
      have h15 := (e_Has.get hT (c := 275) (k := 10) (lo := 0) (hi := 4) (mt_o rfl) (by decide))
      refine e_Ok.getf (z := w 275 10) rfl (el_o rfl) rfl (ef_o rfl) ((j10 275 10 no_52_9).trans rfl) (e_bq h15 (by decide) (by decide)) ?_
      refine e_Ok.if2 rfl (fun h16 => ?_) (fun h16 => ?_)
      · replace h16 : (y5 : Int) ≥ w 275 10 := h16
        refine e_Ok.ps1 (x := (0, y4)) (q := 59) 1 rfl ?_
        refine e_Ok.retb rfl (by omega) ?_
        exact ⟨_, rfl, j10, by omega, by omega⟩
      · replace h16 : (y5 : Int) < w 275 10 := Int.not_le.mp (show ¬ ((y5 : Int) ≥ w 275 10) from h16)
        refine e_Ok.ps1 (x := (0, y4)) (q := 23) 1 rfl ?_
        refine e_Ok.if1 rfl (fun h17 => ?_) (fun h17 => ?_)
        · replace h17 : (y4 : Int) ≠ 0 := h17
          refine e_Ok.ps1 (x := (0, y4)) (q := 59) 1 rfl ?_
          refine e_Ok.retb rfl (by omega) ?_
          exact ⟨_, rfl, j10, by omega, by omega⟩
        · replace h17 : (y4 : Int) = 0 := Classical.not_not.mp (show ¬ ((y4 : Int) ≠ 0) from h17)
          refine e_Ok.ps2 (x := (0, a)) (y := (0, y5)) (q := 29) 2 rfl ?_
          refine e_Ok.if2 rfl (fun h18 => ?_) (fun h18 => ?_)
          · replace h18 : (y5 : Int) = a := h18
            refine e_Ok.run (t' := (51, [(4, (0, 0)), (0, (1, 275)), (1, (0, a)), (2, (0, u)), (3, (0, m)), (5, (0, y5))], [], v1)) 2 rfl ?_
            refine e_Ok.inc (z := y5 + 1) rfl rfl (by first | with_reducible rfl | omega) (by omega) ?_
            show e_Ok 20 elay ecode eI (d + 1) 317 (54, [(5, (0, y5 + 1)), (4, (0, 0)), (0, (1, 275)), (1, (0, a)), (2, (0, u)), (3, (0, m))], [], v1) _
            refine e_Ok.ps0 (q := 12) 1 rfl ?_
            refine e_Ok.sub eAlk (e_sub_of rfl ?_) (ih9 0 (y5 + 1) v1 ⟨j10, by omega, by omega⟩ (by omega))
            exact ⟨rfl, rfl, rfl, rfl, rfl, rfl, trivial⟩
          · replace h18 : (y5 : Int) ≠ a := (show ¬ ((y5 : Int) = a) from h18)
            refine e_Ok.run (t' := (38, [(0, (1, 275)), (1, (0, a)), (2, (0, u)), (3, (0, m)), (4, (0, y4)), (5, (0, y5))], [(0, m), (0, y5), (0, u), (0, a), (1, 275)], v1)) 5 rfl ?_
            refine e_Ok.callV rfl (e_dq hd rfl) rfl rfl rfl rfl (c_316 (e_dq hd rfl) (mT_L j10 hT) (by omega) (by omega) (by omega) (e_kn_sub (e_kn.fr j10 (fun k q => by unfold mL at q; omega) k1) (by omega) (by omega)) (e_kn_sub (e_kn.fr j10 (fun k q => by unfold mL at q; omega) k2) (by omega) (by omega)) (e_kn_sub (e_kn.fr j10 (fun k q => by unfold mL at q; omega) (kall y5 (by omega) (by omega)).1) (by omega) (by omega)) (e_kn_sub (e_kn.fr j10 (fun k q => by unfold mL at q; omega) (kall y5 (by omega) (by omega)).2) (by omega) (by omega))) (fun r19 w20 h21 => ?_)
            obtain ⟨z22, rfl, q23, q23a, q23b⟩ := h21
            have f24 : e_fr mL w w20 := e_fr.trans j10 (e_fr.mono q23 (fun c k q => by exact q))
            have l25 : w20 286 a = w 286 a := f24 286 a no_52_8
            have l26 : w20 286 y5 = w 286 y5 := f24 286 y5 no_52_8
            refine e_Ok.nrm (q := 41) (st' := [(0, z22)]) rfl rfl ?_
            refine e_Ok.if1 rfl (fun h27 => ?_) (fun h27 => ?_)
            · replace h27 : (z22 : Int) = 0 := h27
              refine e_Ok.run (t' := (51, [(4, (0, 0)), (0, (1, 275)), (1, (0, a)), (2, (0, u)), (3, (0, m)), (5, (0, y5))], [], w20)) 2 rfl ?_
              refine e_Ok.inc (z := y5 + 1) rfl rfl (by first | with_reducible rfl | omega) (by omega) ?_
              show e_Ok 20 elay ecode eI (d + 1) 317 (54, [(5, (0, y5 + 1)), (4, (0, 0)), (0, (1, 275)), (1, (0, a)), (2, (0, u)), (3, (0, m))], [], w20) _
              refine e_Ok.ps0 (q := 12) 1 rfl ?_
              refine e_Ok.sub eAlk (e_sub_of rfl ?_) (ih9 0 (y5 + 1) w20 ⟨f24, by omega, by omega⟩ (by omega))
              exact ⟨rfl, rfl, rfl, rfl, rfl, rfl, trivial⟩
            · replace h27 : (z22 : Int) ≠ 0 := (show ¬ ((z22 : Int) = 0) from h27)
              refine e_Ok.run (t' := (51, [(4, (0, 1)), (0, (1, 275)), (1, (0, a)), (2, (0, u)), (3, (0, m)), (5, (0, y5))], [], w20)) 3 rfl ?_
              refine e_Ok.inc (z := y5 + 1) rfl rfl (by first | with_reducible rfl | omega) (by omega) ?_
              show e_Ok 20 elay ecode eI (d + 1) 317 (54, [(5, (0, y5 + 1)), (4, (0, 1)), (0, (1, 275)), (1, (0, a)), (2, (0, u)), (3, (0, m))], [], w20) _
              refine e_Ok.ps0 (q := 12) 1 rfl ?_
              refine e_Ok.sub eAlk (e_sub_of rfl ?_) (ih9 1 (y5 + 1) w20 ⟨f24, by omega, by omega⟩ (by omega))
              exact ⟨rfl, rfl, rfl, rfl, rfl, rfl, trivial⟩
  refine e_Ok.sub eAlk (e_sub_of rfl ?_) (hL8 (5 + 1 : Int).toNat z4 0 w2 ⟨f6, by omega, by omega⟩ (by omega))
  exact ⟨rfl, rfl, rfl, rfl, rfl, rfl, trivial⟩
theorem c_404 {d : Nat} (hd : 25 ≤ d) {w : eW} (hT : e_Has mTy w) (kall : ∀ b, 0 ≤ b → b < w 275 10 → e_pk2 w (7 * b) (w 286 b)) : e_Ok 20 elay ecode eI d 404 (0, [(0, (1, 275))], [], w) (fun r w' => ∃ z : Int, r = [(0, z)] ∧ e_fr mL w w' ∧ -1 ≤ z ∧ z < w 275 10) := by
  obtain ⟨d, rfl⟩ : ∃ e, d = e + 1 := ⟨d - 1, by omega⟩
  have harms := e_Has.get hT (c := 275) (k := 10) (lo := 0) (hi := 4) (mt_o rfl) (by decide)
  refine e_Ok.run (t' := (2, [(1, (0, 0)), (0, (1, 275))], [], w)) 2 rfl ?_
  have hL1 : ∀ (n : Nat) (y1 : Int) (v1 : eW), e_fr mL w v1 ∧ 0 ≤ y1 ∧ y1 ≤ 4 → 5 - y1 < n → e_Ok 20 elay ecode eI (d + 1) 404 (2, [(0, (1, 275)), (1, (0, y1))], [], v1) (fun r w' => ∃ z : Int, r = [(0, z)] ∧ e_fr mL w w' ∧ -1 ≤ z ∧ z < w 275 10) := by
    intro n
    induction n with
    | zero => intro y1 v1 hj hm; obtain ⟨j3, j4⟩ := hj; exfalso; omega
    | succ n ih2 =>
      intro y1 v1 hj hm
      obtain ⟨j3, j4⟩ := hj
      have l5 : v1 286 y1 = w 286 y1 := j3 286 y1 no_52_8
      refine e_Ok.run (t' := (4, [(0, (1, 275)), (1, (0, y1))], [(1, 275), (0, y1)], v1)) 2 rfl ?_
      have h6 := (e_Has.get hT (c := 275) (k := 10) (lo := 0) (hi := 4) (mt_o rfl) (by decide))
      refine e_Ok.getf (z := w 275 10) rfl (el_o rfl) rfl (ef_o rfl) ((j3 275 10 no_52_9).trans rfl) (e_bq h6 (by decide) (by decide)) ?_
      refine e_Ok.if2 rfl (fun h7 => ?_) (fun h7 => ?_)
      · replace h7 : (y1 : Int) ≥ w 275 10 := h7
        refine e_Ok.ps1 (x := (0, (-1))) (q := 68) 1 rfl ?_
        refine e_Ok.rets rfl rfl ?_
        exact ⟨_, rfl, j3, by omega, by omega⟩
      · replace h7 : (y1 : Int) < w 275 10 := Int.not_le.mp (show ¬ ((y1 : Int) ≥ w 275 10) from h7)
        refine e_Ok.ps4 (x := (0, y1)) (y := (0, 7)) (z := (0, y1)) (u := (1, 275)) (q := 15) 4 rfl ?_
        refine e_Ok.mul (z := 7 * y1) rfl rfl (by omega) ?_
        refine e_Ok.ps1 (x := (0, 0)) (q := 17) 1 rfl ?_
        refine e_Ok.callV rfl (e_dq hd rfl) rfl rfl rfl rfl (c_315 (e_dq hd rfl) (mT_L j3 hT) (by omega) (by omega) (e_kn_sub (e_kn.fr j3 (fun k q => by unfold mL at q; omega) (kall y1 (by omega) (by omega)).1) (by omega) (by omega)) (e_kn_sub (e_kn.fr j3 (fun k q => by unfold mL at q; omega) (kall y1 (by omega) (by omega)).2) (by omega) (by omega))) (fun r8 w9 h10 => ?_)
        obtain ⟨z11, rfl, q12, q12a, q12b⟩ := h10
        have f13 : e_fr mL w w9 := e_fr.trans j3 (e_fr.mono q12 (fun c k q => by exact q))
        have l14 : w9 286 y1 = w 286 y1 := f13 286 y1 no_52_8
        refine e_Ok.nrm (q := 20) (st' := [(0, z11)]) rfl rfl ?_
        refine e_Ok.run (t' := (23, [(2, (0, z11)), (0, (1, 275)), (1, (0, y1))], [(0, 1), (0, y1)], w9)) 3 rfl ?_
        refine e_Ok.add (z := y1 + 1) rfl rfl (by omega) ?_
        refine e_Ok.run (t' := (25, [(3, (0, y1 + 1)), (2, (0, z11)), (0, (1, 275)), (1, (0, y1))], [], w9)) 1 rfl ?_
        have hL15 : ∀ (n : Nat) (y2 : Int) (y3 : Int) (v2 : eW), e_fr mL w v2 ∧ 0 ≤ y2 ∧ y2 ≤ 1 ∧ 1 ≤ y3 ∧ y3 ≤ 5 → 6 - y3 < n → e_Ok 20 elay ecode eI (d + 1) 404 (25, [(0, (1, 275)), (1, (0, y1)), (2, (0, y2)), (3, (0, y3))], [], v2) (fun r w' => ∃ z : Int, r = [(0, z)] ∧ e_fr mL w w' ∧ -1 ≤ z ∧ z < w 275 10) := by
          intro n
          induction n with
          | zero => intro y2 y3 v2 hj hm; obtain ⟨j17, j18, j19⟩ := hj; exfalso; omega
          | succ n ih16 =>
            intro y2 y3 v2 hj hm
            obtain ⟨j17, j18, j19⟩ := hj
            have l20 : v2 286 y1 = w 286 y1 := j17 286 y1 no_52_8
            have l21 : v2 286 y3 = w 286 y3 := j17 286 y3 no_52_8
            refine e_Ok.run (t' := (27, [(0, (1, 275)), (1, (0, y1)), (2, (0, y2)), (3, (0, y3))], [(1, 275), (0, y3)], v2)) 2 rfl ?_
            refine e_Ok.getf (z := w 275 10) rfl (el_o rfl) rfl (ef_o rfl) ((j17 275 10 no_52_9).trans rfl) (by omega) ?_
            refine e_Ok.if2 rfl (fun h22 => ?_) (fun h22 => ?_)
            · replace h22 : (y3 : Int) ≥ w 275 10 := h22
              refine e_Ok.ps1 (x := (0, y2)) (q := 56) 1 rfl ?_
              refine e_Ok.if1 rfl (fun h23 => ?_) (fun h23 => ?_)
              · replace h23 : (y2 : Int) = 0 := h23
                refine e_Ok.inc (z := y1 + 1) rfl rfl (by first | with_reducible rfl | omega) (by omega) ?_
                show e_Ok 20 elay ecode eI (d + 1) 404 (64, [(1, (0, y1 + 1)), (0, (1, 275)), (2, (0, y2)), (3, (0, y3))], [], v2) _
                refine e_Ok.ps0 (q := 2) 1 rfl ?_
                refine e_Ok.sub eAlk (e_sub_of rfl ?_) (ih2 (y1 + 1) v2 ⟨j17, by omega⟩ (by omega))
                exact ⟨rfl, rfl, trivial⟩
              · replace h23 : (y2 : Int) ≠ 0 := (show ¬ ((y2 : Int) = 0) from h23)
                refine e_Ok.ps1 (x := (0, y1)) (q := 60) 1 rfl ?_
                refine e_Ok.rets rfl rfl ?_
                exact ⟨_, rfl, j17, by omega, by omega⟩
            · replace h22 : (y3 : Int) < w 275 10 := Int.not_le.mp (show ¬ ((y3 : Int) ≥ w 275 10) from h22)
              refine e_Ok.ps1 (x := (0, y2)) (q := 34) 1 rfl ?_
              refine e_Ok.if1 rfl (fun h24 => ?_) (fun h24 => ?_)
              · replace h24 : (y2 : Int) ≠ 0 := h24
                refine e_Ok.ps1 (x := (0, y2)) (q := 56) 1 rfl ?_
                refine e_Ok.if1 rfl (fun h25 => ?_) (fun h25 => ?_)
                · replace h25 : (y2 : Int) = 0 := h25
                  exfalso; omega
                · replace h25 : (y2 : Int) ≠ 0 := (show ¬ ((y2 : Int) = 0) from h25)
                  refine e_Ok.ps1 (x := (0, y1)) (q := 60) 1 rfl ?_
                  refine e_Ok.rets rfl rfl ?_
                  exact ⟨_, rfl, j17, by omega, by omega⟩
              · replace h24 : (y2 : Int) = 0 := Classical.not_not.mp (show ¬ ((y2 : Int) ≠ 0) from h24)
                refine e_Ok.ps4 (x := (0, y1)) (y := (0, 7)) (z := (0, y1)) (u := (1, 275)) (q := 42) 4 rfl ?_
                refine e_Ok.mul (z := 7 * y1) rfl rfl (by omega) ?_
                refine e_Ok.ps2 (x := (0, 0)) (y := (0, y3)) (q := 45) 2 rfl ?_
                refine e_Ok.callV rfl (e_dq hd rfl) rfl rfl rfl rfl (c_316 (e_dq hd rfl) (mT_L j17 hT) (by omega) (by omega) (by omega) (e_kn_sub (e_kn.fr j17 (fun k q => by unfold mL at q; omega) (kall y1 (by omega) (by omega)).1) (by omega) (by omega)) (e_kn_sub (e_kn.fr j17 (fun k q => by unfold mL at q; omega) (kall y1 (by omega) (by omega)).2) (by omega) (by omega)) (e_kn_sub (e_kn.fr j17 (fun k q => by unfold mL at q; omega) (kall y3 (by omega) (by omega)).1) (by omega) (by omega)) (e_kn_sub (e_kn.fr j17 (fun k q => by unfold mL at q; omega) (kall y3 (by omega) (by omega)).2) (by omega) (by omega))) (fun r26 w27 h28 => ?_)
                obtain ⟨z29, rfl, q30, q30a, q30b⟩ := h28
                have f31 : e_fr mL w w27 := e_fr.trans j17 (e_fr.mono q30 (fun c k q => by exact q))
                have l32 : w27 286 y1 = w 286 y1 := f31 286 y1 no_52_8
                have l33 : w27 286 y3 = w 286 y3 := f31 286 y3 no_52_8
                refine e_Ok.nrm (q := 48) (st' := [(0, z29)]) rfl rfl ?_
                refine e_Ok.run (t' := (49, [(2, (0, z29)), (0, (1, 275)), (1, (0, y1)), (3, (0, y3))], [], w27)) 1 rfl ?_
                refine e_Ok.inc (z := y3 + 1) rfl rfl (by first | with_reducible rfl | omega) (by omega) ?_
                show e_Ok 20 elay ecode eI (d + 1) 404 (52, [(3, (0, y3 + 1)), (2, (0, z29)), (0, (1, 275)), (1, (0, y1))], [], w27) _
                refine e_Ok.ps0 (q := 25) 1 rfl ?_
                refine e_Ok.sub eAlk (e_sub_of rfl ?_) (ih16 z29 (y3 + 1) w27 ⟨f31, by omega, by omega⟩ (by omega))
                exact ⟨rfl, rfl, rfl, rfl, trivial⟩
        refine e_Ok.sub eAlk (e_sub_of rfl ?_) (hL15 (6 + 1 : Int).toNat z11 (y1 + 1) w9 ⟨f13, by omega, by omega⟩ (by omega))
        exact ⟨rfl, rfl, rfl, rfl, trivial⟩
  refine e_Ok.sub eAlk (e_sub_of rfl ?_) (hL1 (5 + 1 : Int).toNat 0 w ⟨(e_fr.refl w), by omega⟩ (by omega))
  exact ⟨rfl, rfl, trivial⟩
theorem c_319 {d : Nat} {w : eW} (hT : e_Has mTy w) {a b c : Int} (hE : w 276 5 ≤ 2147483646) (ha : -2147483648 ≤ a ∧ a ≤ 2147483647) (hb : -2147483648 ≤ b ∧ b ≤ 2147483647) (hc : -2147483648 ≤ c ∧ c ≤ 2147483647) : e_Ok 20 elay ecode eI d 319 (0, [(0, (1, 275)), (1, (0, a)), (2, (0, b)), (3, (0, c))], [], w) (fun r w' => r = [] ∧ e_fr mE w w' ∧ e_Has mTy w' ∧ w' 276 5 = w 276 5 + 1) := by
  have hev := e_Has.get hT (c := 276) (k := 5) (lo := 0) (hi := 2147483647) (mt_o rfl) (by decide)
  refine e_Ok.ps1 (x := (1, 275)) (q := 1) 1 rfl ?_
  refine e_Ok.getr (z := 276) rfl (el_o rfl) rfl (ef_o rfl) (e_Has.eq hT (mt_o rfl)) ⟨by decide, by decide⟩ ?_
  refine e_Ok.ps1 (x := (0, 5)) (q := 5) 1 rfl ?_
  refine e_Ok.ald (z := w 276 5) rfl (el_o rfl) rfl (by omega) rfl (by omega) ?_
  refine e_Ok.ps1 (x := (0, 2000)) (q := 9) 1 rfl ?_
  refine e_Ok.if2 rfl (fun h1 => ?_) (fun h1 => ?_)
  · replace h1 : (w 276 5 : Int) ≥ 2000 := h1
    refine e_Ok.ps1 (x := (1, 275)) (q := 70) 1 rfl ?_
    refine e_Ok.getr (z := 276) rfl (el_o rfl) rfl (ef_o rfl) (e_Has.eq hT (mt_o rfl)) ⟨by decide, by decide⟩ ?_
    refine e_Ok.ps3 (x := (0, 5)) (y := (1, 276)) (z := (0, 5)) (q := 75) 2 rfl ?_
    refine e_Ok.ald (z := w 276 5) rfl (el_o rfl) rfl (by omega) rfl (by omega) ?_
    refine e_Ok.ps1 (x := (0, 1)) (q := 77) 1 rfl ?_
    refine e_Ok.add (z := w 276 5 + 1) rfl rfl (by omega) ?_
    refine e_Ok.ast rfl (el_o rfl) rfl rfl (by omega) ?_
    generalize hw2 : e_up w 276 5 (w 276 5 + 1) = w2
    have hT4 : e_Has mTy w2 := e_Has.upr hT hw2 (mt_o rfl) (by omega)
    refine e_Ok.rets rfl rfl ?_
    exact ⟨rfl, (show e_fr mE w w2 from e_fr.up (e_fr.refl w) hw2 (by first | exact ⟨rfl, Or.inl rfl⟩ | (unfold mE; omega))), hT4, (e_ue hw2)⟩
  · replace h1 : (w 276 5 : Int) < 2000 := Int.not_le.mp (show ¬ ((w 276 5 : Int) ≥ 2000) from h1)
    refine e_Ok.ps3 (x := (1, 275)) (y := (0, 4)) (z := (0, 25060)) (q := 17) 3 rfl ?_
    refine e_Ok.getr (z := 276) rfl (el_o rfl) rfl (ef_o rfl) (e_Has.eq hT (mt_o rfl)) ⟨by decide, by decide⟩ ?_
    refine e_Ok.ps1 (x := (0, 5)) (q := 21) 1 rfl ?_
    refine e_Ok.ald (z := w 276 5) rfl (el_o rfl) rfl (by omega) rfl (by omega) ?_
    refine e_Ok.mul (z := 4 * w 276 5) rfl rfl (by omega) ?_
    refine e_Ok.add (z := 4 * w 276 5 + 25060) rfl (Int.add_comm _ _) (by omega) ?_
    refine e_Ok.run (t' := (27, [(4, (0, 4 * w 276 5 + 25060)), (0, (1, 275)), (1, (0, a)), (2, (0, b)), (3, (0, c))], [(1, 275)], w)) 2 rfl ?_
    refine e_Ok.getr (z := 276) rfl (el_o rfl) rfl (ef_o rfl) (e_Has.eq hT (mt_o rfl)) ⟨by decide, by decide⟩ ?_
    refine e_Ok.ps2 (x := (1, 275)) (y := (0, 4 * w 276 5 + 25060)) (q := 33) 2 rfl ?_
    refine e_Ok.getr (z := 276) rfl (el_o rfl) rfl (ef_o rfl) (e_Has.eq hT (mt_o rfl)) ⟨by decide, by decide⟩ ?_
    refine e_Ok.ps1 (x := (0, 0)) (q := 37) 1 rfl ?_
    have h5 := (e_Has.get hT (c := 276) (k := 0) (lo := 0) (hi := 6000) (mt_o rfl) (by decide))
    refine e_Ok.ald (z := w 276 0) rfl (el_o rfl) rfl (by omega) rfl (e_bq h5 (by decide) (by decide)) ?_
    refine e_Ok.ast rfl (el_o rfl) rfl rfl (by omega) ?_
    generalize hw6 : e_up w 276 (4 * w 276 5 + 25060) (w 276 0) = w6
    have hT8 : e_Has mTy w6 := e_Has.upr hT hw6 (nR_EV (by omega)) (by omega)
    refine e_Ok.ps1 (x := (1, 275)) (q := 40) 1 rfl ?_
    refine e_Ok.getr (z := 276) rfl (el_o rfl) rfl (ef_o rfl) (e_uq hw6 (Or.inl (by decide)) (e_Has.eq hT (mt_o rfl))) ⟨by decide, by decide⟩ ?_
    refine e_Ok.ps2 (x := (0, 1)) (y := (0, 4 * w 276 5 + 25060)) (q := 46) 2 rfl ?_
    refine e_Ok.add (z := 4 * w 276 5 + 25061) rfl (e_adl (by decide)) (by omega) ?_
    refine e_Ok.ps1 (x := (0, a)) (q := 48) 1 rfl ?_
    refine e_Ok.ast rfl (el_o rfl) rfl rfl (by omega) ?_
    generalize hw9 : e_up w6 276 (4 * w 276 5 + 25061) a = w9
    have hT11 : e_Has mTy w9 := e_Has.upr hT8 hw9 (nR_EV (by omega)) (by omega)
    refine e_Ok.ps1 (x := (1, 275)) (q := 50) 1 rfl ?_
    refine e_Ok.getr (z := 276) rfl (el_o rfl) rfl (ef_o rfl) (e_uq hw9 (Or.inl (by decide)) (e_uq hw6 (Or.inl (by decide)) (e_Has.eq hT (mt_o rfl)))) ⟨by decide, by decide⟩ ?_
    refine e_Ok.ps2 (x := (0, 2)) (y := (0, 4 * w 276 5 + 25060)) (q := 56) 2 rfl ?_
    refine e_Ok.add (z := 4 * w 276 5 + 25062) rfl (e_adl (by decide)) (by omega) ?_
    refine e_Ok.ps1 (x := (0, b)) (q := 58) 1 rfl ?_
    refine e_Ok.ast rfl (el_o rfl) rfl rfl (by omega) ?_
    generalize hw12 : e_up w9 276 (4 * w 276 5 + 25062) b = w12
    have hT14 : e_Has mTy w12 := e_Has.upr hT11 hw12 (nR_EV (by omega)) (by omega)
    refine e_Ok.ps1 (x := (1, 275)) (q := 60) 1 rfl ?_
    refine e_Ok.getr (z := 276) rfl (el_o rfl) rfl (ef_o rfl) (e_uq hw12 (Or.inl (by decide)) (e_uq hw9 (Or.inl (by decide)) (e_uq hw6 (Or.inl (by decide)) (e_Has.eq hT (mt_o rfl))))) ⟨by decide, by decide⟩ ?_
    refine e_Ok.ps2 (x := (0, 3)) (y := (0, 4 * w 276 5 + 25060)) (q := 66) 2 rfl ?_
    refine e_Ok.add (z := 4 * w 276 5 + 25063) rfl (e_adl (by decide)) (by omega) ?_
    refine e_Ok.ps1 (x := (0, c)) (q := 68) 1 rfl ?_
    refine e_Ok.ast rfl (el_o rfl) rfl rfl (by omega) ?_
    generalize hw15 : e_up w12 276 (4 * w 276 5 + 25063) c = w15
    have hT17 : e_Has mTy w15 := e_Has.upr hT14 hw15 (nR_EV (by omega)) (by omega)
    refine e_Ok.ps1 (x := (1, 275)) (q := 70) 1 rfl ?_
    refine e_Ok.getr (z := 276) rfl (el_o rfl) rfl (ef_o rfl) (e_uq hw15 (Or.inl (by decide)) (e_uq hw12 (Or.inl (by decide)) (e_uq hw9 (Or.inl (by decide)) (e_uq hw6 (Or.inl (by decide)) (e_Has.eq hT (mt_o rfl)))))) ⟨by decide, by decide⟩ ?_
    refine e_Ok.ps3 (x := (0, 5)) (y := (1, 276)) (z := (0, 5)) (q := 75) 2 rfl ?_
    refine e_Ok.ald (z := w 276 5) rfl (el_o rfl) rfl (by omega) (e_uq hw15 (Or.inr (by omega)) (e_uq hw12 (Or.inr (by omega)) (e_uq hw9 (Or.inr (by omega)) (e_uq hw6 (Or.inr (by omega)) rfl)))) (by omega) ?_
    refine e_Ok.ps1 (x := (0, 1)) (q := 77) 1 rfl ?_
    refine e_Ok.add (z := w 276 5 + 1) rfl rfl (by omega) ?_
    refine e_Ok.ast rfl (el_o rfl) rfl rfl (by omega) ?_
    generalize hw18 : e_up w15 276 5 (w 276 5 + 1) = w18
    have hT20 : e_Has mTy w18 := e_Has.upr hT17 hw18 (mt_o rfl) (by omega)
    refine e_Ok.rets rfl rfl ?_
    exact ⟨rfl, (show e_fr mE w w18 from e_fr.up (show e_fr mE w w15 from e_fr.up (show e_fr mE w w12 from e_fr.up (show e_fr mE w w9 from e_fr.up (show e_fr mE w w6 from e_fr.up (e_fr.refl w) hw6 (by first | exact ⟨rfl, Or.inr (by omega)⟩ | (unfold mE; omega))) hw9 (by first | exact ⟨rfl, Or.inr (by omega)⟩ | (unfold mE; omega))) hw12 (by first | exact ⟨rfl, Or.inr (by omega)⟩ | (unfold mE; omega))) hw15 (by first | exact ⟨rfl, Or.inr (by omega)⟩ | (unfold mE; omega))) hw18 (by first | exact ⟨rfl, Or.inl rfl⟩ | (unfold mE; omega))), hT20, (e_ue hw18)⟩
theorem no_52_10 {k : Int} : ¬ mQ 275 k := by unfold mQ; omega
theorem no_52_11 {k : Int} : ¬ mQ 276 k := by unfold mQ; omega
theorem no_52_12 {k : Int} : ¬ mQ 319 k := by unfold mQ; omega
theorem no_52_13 {k : Int} : ¬ mQ 318 k := by unfold mQ; omega
theorem c_320 {d : Nat} {w : eW} (hT : e_Has mTy w) (hA : mAc w) {p : Int} (hp : 0 ≤ p ∧ p ≤ 63) : e_Ok 20 elay ecode eI d 320 (0, [(0, (1, 275)), (1, (0, p))], [], w) (fun r w' => ∃ z : Int, r = [(0, z)] ∧ e_fr mQ w w' ∧ -2147483648 ≤ z ∧ z ≤ 2147483647) := by
  obtain ⟨rk, hrk⟩ := hA
  have hrp := hrk p (by omega) (by omega)
  refine e_Ok.run (t' := (4, [(3, (0, p)), (2, (0, 0)), (0, (1, 275)), (1, (0, p))], [], w)) 4 rfl ?_
  have hL1 : ∀ (n : Nat) (y2 : Int) (y3 : Int) (v1 : eW), e_fr mQ w v1 ∧ e_kr v1 326 0 (y2 - 1) 0 63 ∧ 0 ≤ y3 ∧ y3 ≤ 63 ∧ 0 ≤ y2 ∧ y2 + rk y3 ≤ 63 ∧ 0 ≤ rk y3 → rk y3 < n → e_Ok 20 elay ecode eI d 320 (4, [(0, (1, 275)), (2, (0, y2)), (3, (0, y3))], [], v1) (fun r w' => ∃ z : Int, r = [(0, z)] ∧ e_fr mQ w w' ∧ -2147483648 ≤ z ∧ z ≤ 2147483647) := by
    intro n
    induction n with
    | zero => intro y2 y3 v1 hj hm; obtain ⟨j3, j4, j5, j6⟩ := hj; exfalso; omega
    | succ n ih2 =>
      intro y2 y3 v1 hj hm
      obtain ⟨j3, j4, j5, j6⟩ := hj
      refine e_Ok.run (t' := (5, [(0, (1, 275)), (2, (0, y2)), (3, (0, y3))], [(1, 275)], v1)) 1 rfl ?_
      refine e_Ok.getr (z := 276) rfl (el_o rfl) rfl (ef_o rfl) ((j3 275 0 no_52_10).trans (e_Has.eq hT (mt_o rfl))) ⟨by decide, by decide⟩ ?_
      refine e_Ok.ps2 (x := (0, y3)) (y := (0, 224)) (q := 12) 2 rfl ?_
      refine e_Ok.add (z := y3 + 224) rfl (Int.add_comm _ _) (by omega) ?_
      have h7 := (e_Has.get hT (c := 276) (k := y3 + 224) (lo := 0) (hi := 1) (nR_FORCED (p := y3) (by omega)) (by decide))
      refine e_Ok.ald (z := w 276 (y3 + 224)) rfl (el_o rfl) rfl (by omega) ((j3 276 (y3 + 224) no_52_11).trans rfl) (e_bq h7 (by decide) (by decide)) ?_
      refine e_Ok.if1 rfl (fun h8 => ?_) (fun h8 => ?_)
      · replace h8 : (w 276 (y3 + 224) : Int) ≠ 0 := h8
        refine e_Ok.ps1 (x := (1, 275)) (q := 47) 1 rfl ?_
        refine e_Ok.getr (z := 276) rfl (el_o rfl) rfl (ef_o rfl) ((j3 275 0 no_52_10).trans (e_Has.eq hT (mt_o rfl))) ⟨by decide, by decide⟩ ?_
        refine e_Ok.ps2 (x := (0, y3)) (y := (0, 224)) (q := 54) 2 rfl ?_
        refine e_Ok.add (z := y3 + 224) rfl (Int.add_comm _ _) (by omega) ?_
        refine e_Ok.ald (z := w 276 (y3 + 224)) rfl (el_o rfl) rfl (by omega) ((j3 276 (y3 + 224) no_52_11).trans rfl) (by omega) ?_
        refine e_Ok.ps1 (x := (0, 1)) (q := 57) 1 rfl ?_
        refine e_Ok.if2 rfl (fun h9 => ?_) (fun h9 => ?_)
        · replace h9 : (w 276 (y3 + 224) : Int) ≠ 1 := h9
          exfalso; omega
        · replace h9 : (w 276 (y3 + 224) : Int) = 1 := Classical.not_not.mp (show ¬ ((w 276 (y3 + 224) : Int) ≠ 1) from h9)
          refine e_Ok.ps1 (x := (1, 275)) (q := 61) 1 rfl ?_
          refine e_Ok.getr (z := 276) rfl (el_o rfl) rfl (ef_o rfl) ((j3 275 0 no_52_10).trans (e_Has.eq hT (mt_o rfl))) ⟨by decide, by decide⟩ ?_
          refine e_Ok.ps2 (x := (0, y3)) (y := (0, 288)) (q := 68) 2 rfl ?_
          refine e_Ok.add (z := y3 + 288) rfl (Int.add_comm _ _) (by omega) ?_
          have h10 := (e_Has.get hT (c := 276) (k := y3 + 288) (lo := (-2147483648)) (hi := 2147483647) (nR_FORCE (p := y3) (by omega)) (by decide))
          refine e_Ok.ald (z := w 276 (y3 + 288)) rfl (el_o rfl) rfl (by omega) ((j3 276 (y3 + 288) no_52_11).trans rfl) (e_bq h10 (by decide) (by decide)) ?_
          refine e_Ok.run (t' := (87, [(4, (0, w 276 (y3 + 288))), (0, (1, 275)), (2, (0, y2)), (3, (0, y3))], [(0, 1), (0, y2)], v1)) 4 rfl ?_
          refine e_Ok.sub' (z := y2 - 1) rfl rfl (by omega) ?_
          refine e_Ok.run (t' := (90, [(5, (0, y2 - 1)), (4, (0, w 276 (y3 + 288))), (0, (1, 275)), (2, (0, y2)), (3, (0, y3))], [], v1)) 1 rfl ?_
          have hL11 : ∀ (n : Nat) (y4 : Int) (y5 : Int), -2147483648 ≤ y4 ∧ y4 ≤ 2147483647 ∧ -1 ≤ y5 ∧ y5 ≤ y2 - 1 → y5 + 1 < n → e_Ok 20 elay ecode eI d 320 (90, [(0, (1, 275)), (4, (0, y4)), (5, (0, y5))], [], v1) (fun r w' => ∃ z : Int, r = [(0, z)] ∧ e_fr mQ w w' ∧ -2147483648 ≤ z ∧ z ≤ 2147483647) := by
            intro n
            induction n with
            | zero => intro y4 y5 hj hm; obtain ⟨j13, j14⟩ := hj; exfalso; omega
            | succ n ih12 =>
              intro y4 y5 hj hm
              obtain ⟨j13, j14⟩ := hj
              refine e_Ok.run (t' := (92, [(0, (1, 275)), (4, (0, y4)), (5, (0, y5))], [(0, y5)], v1)) 1 rfl ?_
              refine e_Ok.if1 rfl (fun h15 => ?_) (fun h15 => ?_)
              · replace h15 : (y5 : Int) < 0 := h15
                refine e_Ok.ps1 (x := (0, y4)) (q := 135) 1 rfl ?_
                refine e_Ok.rets rfl rfl ?_
                exact ⟨_, rfl, j3, by omega, by omega⟩
              · replace h15 : (y5 : Int) ≥ 0 := Int.not_lt.mp (show ¬ ((y5 : Int) < 0) from h15)
                refine e_Ok.ps1 (x := (1, 275)) (q := 96) 1 rfl ?_
                refine e_Ok.getr (z := 319) rfl (el_o rfl) rfl (ef_o rfl) ((j3 275 53 no_52_10).trans (e_Has.eq hT (mt_o rfl))) ⟨by decide, by decide⟩ ?_
                refine e_Ok.ps1 (x := (1, 275)) (q := 100) 1 rfl ?_
                refine e_Ok.getr (z := 326) rfl (el_o rfl) rfl (ef_o rfl) ((j3 275 63 no_52_10).trans (e_Has.eq hT (mt_o rfl))) ⟨by decide, by decide⟩ ?_
                refine e_Ok.ps1 (x := (0, y5)) (q := 105) 1 rfl ?_
                have h16 := (j4 y5 (by omega) (by omega))
                refine e_Ok.ald (z := v1 326 y5) rfl (el_o rfl) rfl (by omega) rfl (by omega) ?_
                have h17 := (e_Has.get hT (c := 319) (k := v1 326 y5) (lo := 0) (hi := 1) (mt_o rfl) (by decide))
                refine e_Ok.ald (z := w 319 (v1 326 y5)) rfl (el_o rfl) rfl (by omega) ((j3 319 (v1 326 y5) no_52_12).trans rfl) (e_bq h17 (by decide) (by decide)) ?_
                refine e_Ok.if1 rfl (fun h18 => ?_) (fun h18 => ?_)
                · replace h18 : (w 319 (v1 326 y5) : Int) ≠ 0 := h18
                  refine e_Ok.ps1 (x := (0, y4)) (q := 117) 1 rfl ?_
                  refine e_Ok.if1 rfl (fun h19 => ?_) (fun h19 => ?_)
                  · replace h19 : (y4 : Int) ≠ 0 := h19
                    refine e_Ok.run (t' := (127, [(4, (0, 0)), (0, (1, 275)), (5, (0, y5))], [], v1)) 2 rfl ?_
                    refine e_Ok.inc (z := y5 - 1) rfl rfl (by first | with_reducible rfl | omega) (by omega) ?_
                    show e_Ok 20 elay ecode eI d 320 (130, [(5, (0, y5 - 1)), (4, (0, 0)), (0, (1, 275))], [], v1) _
                    refine e_Ok.ps0 (q := 90) 1 rfl ?_
                    refine e_Ok.sub eAlk (e_sub_of rfl ?_) (ih12 0 (y5 - 1) ⟨by omega, by omega⟩ (by omega))
                    exact ⟨rfl, rfl, rfl, trivial⟩
                  · replace h19 : (y4 : Int) = 0 := Classical.not_not.mp (show ¬ ((y4 : Int) ≠ 0) from h19)
                    refine e_Ok.run (t' := (127, [(4, (0, 1)), (0, (1, 275)), (5, (0, y5))], [], v1)) 3 rfl ?_
                    refine e_Ok.inc (z := y5 - 1) rfl rfl (by first | with_reducible rfl | omega) (by omega) ?_
                    show e_Ok 20 elay ecode eI d 320 (130, [(5, (0, y5 - 1)), (4, (0, 1)), (0, (1, 275))], [], v1) _
                    refine e_Ok.ps0 (q := 90) 1 rfl ?_
                    refine e_Ok.sub eAlk (e_sub_of rfl ?_) (ih12 1 (y5 - 1) ⟨by omega, by omega⟩ (by omega))
                    exact ⟨rfl, rfl, rfl, trivial⟩
                · replace h18 : (w 319 (v1 326 y5) : Int) = 0 := Classical.not_not.mp (show ¬ ((w 319 (v1 326 y5) : Int) ≠ 0) from h18)
                  refine e_Ok.run (t' := (127, [(4, (0, y4)), (0, (1, 275)), (5, (0, y5))], [], v1)) 3 rfl ?_
                  refine e_Ok.inc (z := y5 - 1) rfl rfl (by first | with_reducible rfl | omega) (by omega) ?_
                  show e_Ok 20 elay ecode eI d 320 (130, [(5, (0, y5 - 1)), (4, (0, y4)), (0, (1, 275))], [], v1) _
                  refine e_Ok.ps0 (q := 90) 1 rfl ?_
                  refine e_Ok.sub eAlk (e_sub_of rfl ?_) (ih12 y4 (y5 - 1) ⟨by omega, by omega⟩ (by omega))
                  exact ⟨rfl, rfl, rfl, trivial⟩
          refine e_Ok.sub eAlk (e_sub_of rfl ?_) (hL11 (63 + 1 : Int).toNat (w 276 (y3 + 288)) (y2 - 1) ⟨by omega, by omega⟩ (by omega))
          exact ⟨rfl, rfl, rfl, trivial⟩
      · replace h8 : (w 276 (y3 + 224) : Int) = 0 := Classical.not_not.mp (show ¬ ((w 276 (y3 + 224) : Int) ≠ 0) from h8)
        refine e_Ok.ps1 (x := (1, 275)) (q := 18) 1 rfl ?_
        refine e_Ok.getr (z := 318) rfl (el_o rfl) rfl (ef_o rfl) ((j3 275 52 no_52_10).trans (e_Has.eq hT (mt_o rfl))) ⟨by decide, by decide⟩ ?_
        refine e_Ok.ps1 (x := (0, y3)) (q := 22) 1 rfl ?_
        have h20 := (e_Has.get hT (c := 318) (k := y3) (lo := (-1)) (hi := 63) (mt_o rfl) (by decide))
        refine e_Ok.ald (z := w 318 y3) rfl (el_o rfl) rfl (by omega) ((j3 318 y3 no_52_13).trans rfl) (e_bq h20 (by decide) (by decide)) ?_
        refine e_Ok.if1 rfl (fun h21 => ?_) (fun h21 => ?_)
        · replace h21 : (w 318 y3 : Int) < 0 := h21
          refine e_Ok.ps1 (x := (1, 275)) (q := 47) 1 rfl ?_
          refine e_Ok.getr (z := 276) rfl (el_o rfl) rfl (ef_o rfl) ((j3 275 0 no_52_10).trans (e_Has.eq hT (mt_o rfl))) ⟨by decide, by decide⟩ ?_
          refine e_Ok.ps2 (x := (0, y3)) (y := (0, 224)) (q := 54) 2 rfl ?_
          refine e_Ok.add (z := y3 + 224) rfl (Int.add_comm _ _) (by omega) ?_
          refine e_Ok.ald (z := w 276 (y3 + 224)) rfl (el_o rfl) rfl (by omega) ((j3 276 (y3 + 224) no_52_11).trans rfl) (by omega) ?_
          refine e_Ok.ps1 (x := (0, 1)) (q := 57) 1 rfl ?_
          refine e_Ok.if2 rfl (fun h22 => ?_) (fun h22 => ?_)
          · replace h22 : (w 276 (y3 + 224) : Int) ≠ 1 := h22
            refine e_Ok.ps1 (x := (1, 275)) (q := 74) 1 rfl ?_
            refine e_Ok.getr (z := 276) rfl (el_o rfl) rfl (ef_o rfl) ((j3 275 0 no_52_10).trans (e_Has.eq hT (mt_o rfl))) ⟨by decide, by decide⟩ ?_
            refine e_Ok.ps2 (x := (0, y3)) (y := (0, 160)) (q := 81) 2 rfl ?_
            refine e_Ok.add (z := y3 + 160) rfl (Int.add_comm _ _) (by omega) ?_
            have h23 := (e_Has.get hT (c := 276) (k := y3 + 160) (lo := (-2147483648)) (hi := 2147483647) (nR_OWN (p := y3) (by omega)) (by decide))
            refine e_Ok.ald (z := w 276 (y3 + 160)) rfl (el_o rfl) rfl (by omega) ((j3 276 (y3 + 160) no_52_11).trans rfl) (e_bq h23 (by decide) (by decide)) ?_
            refine e_Ok.run (t' := (87, [(4, (0, w 276 (y3 + 160))), (0, (1, 275)), (2, (0, y2)), (3, (0, y3))], [(0, 1), (0, y2)], v1)) 3 rfl ?_
            refine e_Ok.sub' (z := y2 - 1) rfl rfl (by omega) ?_
            refine e_Ok.run (t' := (90, [(5, (0, y2 - 1)), (4, (0, w 276 (y3 + 160))), (0, (1, 275)), (2, (0, y2)), (3, (0, y3))], [], v1)) 1 rfl ?_
            have hL24 : ∀ (n : Nat) (y4 : Int) (y5 : Int), -2147483648 ≤ y4 ∧ y4 ≤ 2147483647 ∧ -1 ≤ y5 ∧ y5 ≤ y2 - 1 → y5 + 1 < n → e_Ok 20 elay ecode eI d 320 (90, [(0, (1, 275)), (4, (0, y4)), (5, (0, y5))], [], v1) (fun r w' => ∃ z : Int, r = [(0, z)] ∧ e_fr mQ w w' ∧ -2147483648 ≤ z ∧ z ≤ 2147483647) := by
              intro n
              induction n with
              | zero => intro y4 y5 hj hm; obtain ⟨j26, j27⟩ := hj; exfalso; omega
              | succ n ih25 =>
                intro y4 y5 hj hm
                obtain ⟨j26, j27⟩ := hj
                refine e_Ok.run (t' := (92, [(0, (1, 275)), (4, (0, y4)), (5, (0, y5))], [(0, y5)], v1)) 1 rfl ?_
                refine e_Ok.if1 rfl (fun h28 => ?_) (fun h28 => ?_)
                · replace h28 : (y5 : Int) < 0 := h28
                  refine e_Ok.ps1 (x := (0, y4)) (q := 135) 1 rfl ?_
                  refine e_Ok.rets rfl rfl ?_
                  exact ⟨_, rfl, j3, by omega, by omega⟩
                · replace h28 : (y5 : Int) ≥ 0 := Int.not_lt.mp (show ¬ ((y5 : Int) < 0) from h28)
                  refine e_Ok.ps1 (x := (1, 275)) (q := 96) 1 rfl ?_
                  refine e_Ok.getr (z := 319) rfl (el_o rfl) rfl (ef_o rfl) ((j3 275 53 no_52_10).trans (e_Has.eq hT (mt_o rfl))) ⟨by decide, by decide⟩ ?_
                  refine e_Ok.ps1 (x := (1, 275)) (q := 100) 1 rfl ?_
                  refine e_Ok.getr (z := 326) rfl (el_o rfl) rfl (ef_o rfl) ((j3 275 63 no_52_10).trans (e_Has.eq hT (mt_o rfl))) ⟨by decide, by decide⟩ ?_
                  refine e_Ok.ps1 (x := (0, y5)) (q := 105) 1 rfl ?_
                  have h29 := (j4 y5 (by omega) (by omega))
                  refine e_Ok.ald (z := v1 326 y5) rfl (el_o rfl) rfl (by omega) rfl (by omega) ?_
                  have h30 := (e_Has.get hT (c := 319) (k := v1 326 y5) (lo := 0) (hi := 1) (mt_o rfl) (by decide))
                  refine e_Ok.ald (z := w 319 (v1 326 y5)) rfl (el_o rfl) rfl (by omega) ((j3 319 (v1 326 y5) no_52_12).trans rfl) (e_bq h30 (by decide) (by decide)) ?_
                  refine e_Ok.if1 rfl (fun h31 => ?_) (fun h31 => ?_)
                  · replace h31 : (w 319 (v1 326 y5) : Int) ≠ 0 := h31
                    refine e_Ok.ps1 (x := (0, y4)) (q := 117) 1 rfl ?_
                    refine e_Ok.if1 rfl (fun h32 => ?_) (fun h32 => ?_)
                    · replace h32 : (y4 : Int) ≠ 0 := h32
                      refine e_Ok.run (t' := (127, [(4, (0, 0)), (0, (1, 275)), (5, (0, y5))], [], v1)) 2 rfl ?_
                      refine e_Ok.inc (z := y5 - 1) rfl rfl (by first | with_reducible rfl | omega) (by omega) ?_
                      show e_Ok 20 elay ecode eI d 320 (130, [(5, (0, y5 - 1)), (4, (0, 0)), (0, (1, 275))], [], v1) _
                      refine e_Ok.ps0 (q := 90) 1 rfl ?_
                      refine e_Ok.sub eAlk (e_sub_of rfl ?_) (ih25 0 (y5 - 1) ⟨by omega, by omega⟩ (by omega))
                      exact ⟨rfl, rfl, rfl, trivial⟩
                    · replace h32 : (y4 : Int) = 0 := Classical.not_not.mp (show ¬ ((y4 : Int) ≠ 0) from h32)
                      refine e_Ok.run (t' := (127, [(4, (0, 1)), (0, (1, 275)), (5, (0, y5))], [], v1)) 3 rfl ?_
                      refine e_Ok.inc (z := y5 - 1) rfl rfl (by first | with_reducible rfl | omega) (by omega) ?_
                      show e_Ok 20 elay ecode eI d 320 (130, [(5, (0, y5 - 1)), (4, (0, 1)), (0, (1, 275))], [], v1) _
                      refine e_Ok.ps0 (q := 90) 1 rfl ?_
                      refine e_Ok.sub eAlk (e_sub_of rfl ?_) (ih25 1 (y5 - 1) ⟨by omega, by omega⟩ (by omega))
                      exact ⟨rfl, rfl, rfl, trivial⟩
                  · replace h31 : (w 319 (v1 326 y5) : Int) = 0 := Classical.not_not.mp (show ¬ ((w 319 (v1 326 y5) : Int) ≠ 0) from h31)
                    refine e_Ok.run (t' := (127, [(4, (0, y4)), (0, (1, 275)), (5, (0, y5))], [], v1)) 3 rfl ?_
                    refine e_Ok.inc (z := y5 - 1) rfl rfl (by first | with_reducible rfl | omega) (by omega) ?_
                    show e_Ok 20 elay ecode eI d 320 (130, [(5, (0, y5 - 1)), (4, (0, y4)), (0, (1, 275))], [], v1) _
                    refine e_Ok.ps0 (q := 90) 1 rfl ?_
                    refine e_Ok.sub eAlk (e_sub_of rfl ?_) (ih25 y4 (y5 - 1) ⟨by omega, by omega⟩ (by omega))
                    exact ⟨rfl, rfl, rfl, trivial⟩
            refine e_Ok.sub eAlk (e_sub_of rfl ?_) (hL24 (63 + 1 : Int).toNat (w 276 (y3 + 160)) (y2 - 1) ⟨by omega, by omega⟩ (by omega))
            exact ⟨rfl, rfl, rfl, trivial⟩
          · replace h22 : (w 276 (y3 + 224) : Int) = 1 := Classical.not_not.mp (show ¬ ((w 276 (y3 + 224) : Int) ≠ 1) from h22)
            exfalso; omega
        · replace h21 : (w 318 y3 : Int) ≥ 0 := Int.not_lt.mp (show ¬ ((w 318 y3 : Int) < 0) from h21)
          refine e_Ok.ps1 (x := (1, 275)) (q := 27) 1 rfl ?_
          refine e_Ok.getr (z := 326) rfl (el_o rfl) rfl (ef_o rfl) ((j3 275 63 no_52_10).trans (e_Has.eq hT (mt_o rfl))) ⟨by decide, by decide⟩ ?_
          refine e_Ok.ps2 (x := (0, y3)) (y := (0, y2)) (q := 32) 2 rfl ?_
          refine e_Ok.ast rfl (el_o rfl) rfl rfl (by omega) ?_
          generalize hw33 : e_up v1 326 y2 y3 = w33
          refine e_Ok.inc (z := y2 + 1) rfl rfl (by first | with_reducible rfl | omega) (by omega) ?_
          show e_Ok 20 elay ecode eI d 320 (36, [(2, (0, y2 + 1)), (0, (1, 275)), (3, (0, y3))], [], w33) _
          refine e_Ok.ps1 (x := (1, 275)) (q := 37) 1 rfl ?_
          refine e_Ok.getr (z := 318) rfl (el_o rfl) rfl (ef_o rfl) (e_uq hw33 (Or.inl (by decide)) ((j3 275 52 no_52_10).trans (e_Has.eq hT (mt_o rfl)))) ⟨by decide, by decide⟩ ?_
          refine e_Ok.ps1 (x := (0, y3)) (q := 41) 1 rfl ?_
          refine e_Ok.ald (z := w 318 y3) rfl (el_o rfl) rfl (by omega) (e_uq hw33 (Or.inl (by decide)) ((j3 318 y3 no_52_13).trans rfl)) (by omega) ?_
          refine e_Ok.run (t' := (4, [(3, (0, w 318 y3)), (2, (0, y2 + 1)), (0, (1, 275))], [], w33)) 2 rfl ?_
          refine e_Ok.sub eAlk (e_sub_of rfl ?_) (ih2 (y2 + 1) (w 318 y3) w33 ⟨(show e_fr mQ w w33 from e_fr.up j3 hw33 (by first | exact rfl | (unfold mQ; omega))), (fun i g1 g2 => (e_kr.ext j4 hw33 (by omega) (by omega)) i g1 (by omega)), by have g := hrk y3 (by omega) (by omega); have g2 := g.2 (by omega); have g3 := hrk (w 318 y3) (by omega) (by omega); omega, by have g := hrk y3 (by omega) (by omega); have g2 := g.2 (by omega); have g3 := hrk (w 318 y3) (by omega) (by omega); omega⟩ (by have g := hrk y3 (by omega) (by omega); have g2 := g.2 (by omega); have g3 := hrk (w 318 y3) (by omega) (by omega); omega))
          exact ⟨rfl, rfl, rfl, trivial⟩
  refine e_Ok.sub eAlk (e_sub_of rfl ?_) (hL1 (rk p + 1 : Int).toNat 0 p w ⟨(e_fr.refl w), (e_kr.nil (by omega)), by omega, by omega⟩ (by omega))
  exact ⟨rfl, rfl, rfl, trivial⟩
theorem no_52_14 {k : Int} : ¬ mW 275 k := by unfold mW; omega
theorem su_52_18 {c k : Int} (q : mQ c k) : mW c k := by
  unfold mQ at q
  rcases q with q
  · exact Or.inl (by omega)
theorem c_321 {d : Nat} (hd : 21 ≤ d) {w : eW} (hT : e_Has mTy w) (hA : mAc w) : e_Ok 20 elay ecode eI d 321 (0, [(0, (1, 275))], [], w) (fun r w' => r = [] ∧ e_fr mW w w' ∧ e_kr w' 327 0 63 0 1) := by
  obtain ⟨d, rfl⟩ : ∃ e, d = e + 1 := ⟨d - 1, by omega⟩
  refine e_Ok.run (t' := (2, [(1, (0, 0)), (0, (1, 275))], [], w)) 2 rfl ?_
  have hL1 : ∀ (n : Nat) (y1 : Int) (v1 : eW), e_fr mW w v1 ∧ e_kr v1 327 0 (y1 - 1) 0 1 ∧ 0 ≤ y1 ∧ y1 ≤ 64 → 65 - y1 < n → e_Ok 20 elay ecode eI (d + 1) 321 (2, [(0, (1, 275)), (1, (0, y1))], [], v1) (fun r w' => r = [] ∧ e_fr mW w w' ∧ e_kr w' 327 0 63 0 1) := by
    intro n
    induction n with
    | zero => intro y1 v1 hj hm; obtain ⟨j3, j4, j5⟩ := hj; exfalso; omega
    | succ n ih2 =>
      intro y1 v1 hj hm
      obtain ⟨j3, j4, j5⟩ := hj
      refine e_Ok.run (t' := (5, [(0, (1, 275)), (1, (0, y1))], [(0, 64), (0, y1)], v1)) 2 rfl ?_
      refine e_Ok.if2 rfl (fun h6 => ?_) (fun h6 => ?_)
      · replace h6 : (y1 : Int) ≥ 64 := h6
        refine e_Ok.rets rfl rfl ?_
        exact ⟨rfl, j3, fun i g1 g2 => j4 i g1 (by omega)⟩
      · replace h6 : (y1 : Int) < 64 := Int.not_le.mp (show ¬ ((y1 : Int) ≥ 64) from h6)
        refine e_Ok.ps1 (x := (1, 275)) (q := 9) 1 rfl ?_
        refine e_Ok.getr (z := 327) rfl (el_o rfl) rfl (ef_o rfl) ((j3 275 64 no_52_14).trans (e_Has.eq hT (mt_o rfl))) ⟨by decide, by decide⟩ ?_
        refine e_Ok.ps3 (x := (0, y1)) (y := (1, 275)) (z := (0, y1)) (q := 15) 3 rfl ?_
        refine e_Ok.callV rfl (e_dq hd rfl) rfl rfl rfl rfl (c_320 (mT_W j3 hT) (mAc.fr' (fun k q => by unfold mW at q; omega) j3 hA) (by omega)) (fun r7 w8 h9 => ?_)
        obtain ⟨z10, rfl, q11, q11a, q11b⟩ := h9
        refine e_Ok.nrm (q := 18) (st' := [(0, z10), (0, y1), (1, 327)]) rfl rfl ?_
        have hJ15 : ∀ m14 : Int, 0 ≤ m14 ∧ m14 ≤ 1 → e_Ok 20 elay ecode eI (d + 1) 321 (26, [(0, (1, 275)), (1, (0, y1))], [(0, m14), (0, y1), (1, 327)], w8) (fun r w' => r = [] ∧ e_fr mW w w' ∧ e_kr w' 327 0 63 0 1) := by
          intro m14 m14r
          refine e_Ok.ast rfl (el_o rfl) rfl (e_nar_b (by omega)) (by omega) ?_
          generalize hw16 : e_up w8 327 y1 m14 = w16
          refine e_Ok.inc (z := y1 + 1) rfl rfl (by first | with_reducible rfl | omega) (by omega) ?_
          show e_Ok 20 elay ecode eI (d + 1) 321 (30, [(1, (0, y1 + 1)), (0, (1, 275))], [], w16) _
          refine e_Ok.ps0 (q := 2) 1 rfl ?_
          refine e_Ok.sub eAlk (e_sub_of rfl ?_) (ih2 (y1 + 1) w16 ⟨(show e_fr mW w w16 from e_fr.up (show e_fr mW w w8 from e_fr.trans j3 (e_fr.mono q11 (fun c k q => su_52_18 q))) hw16 (by first | exact Or.inr rfl | (unfold mW; omega))), (fun i g1 g2 => (e_kr.ext (e_kr.fr q11 (fun k q => by unfold mQ at q; omega) j4) hw16 (by omega) (by omega)) i g1 (by omega)), by omega⟩ (by omega))
          exact ⟨rfl, rfl, trivial⟩
        refine e_Ok.if1 rfl (fun h13 => ?_) (fun h13 => ?_)
        · exact e_Ok.run 1 rfl (hJ15 0 (by omega))
        · exact e_Ok.run 2 rfl (hJ15 1 (by omega))
  refine e_Ok.sub eAlk (e_sub_of rfl ?_) (hL1 (65 + 1 : Int).toNat 0 w ⟨(e_fr.refl w), (e_kr.nil (by omega)), by omega⟩ (by omega))
  exact ⟨rfl, rfl, trivial⟩
theorem no_52_15 {k : Int} : ¬ mR 275 k := by unfold mR; omega
theorem no_52_16 {k : Int} : ¬ mR 327 k := by unfold mR; omega
theorem su_52_19 {c k : Int} (q : mQ c k) : mR c k := by
  unfold mQ at q
  rcases q with q
  · exact Or.inr (by omega)
theorem c_322 {d : Nat} (hd : 21 ≤ d) {w : eW} (hT : e_Has mTy w) (hA : mAc w) (hk : e_kr w 327 0 63 0 1) : e_Ok 20 elay ecode eI d 322 (0, [(0, (1, 275))], [], w) (fun r w' => r = [] ∧ e_fr mR w w' ∧ e_Has mTy w') := by
  obtain ⟨d, rfl⟩ : ∃ e, d = e + 1 := ⟨d - 1, by omega⟩
  refine e_Ok.run (t' := (2, [(1, (0, 0)), (0, (1, 275))], [], w)) 2 rfl ?_
  have hL1 : ∀ (n : Nat) (y1 : Int) (v1 : eW), e_fr mR w v1 ∧ e_Has mTy v1 ∧ 0 ≤ y1 ∧ y1 ≤ 64 → 65 - y1 < n → e_Ok 20 elay ecode eI (d + 1) 322 (2, [(0, (1, 275)), (1, (0, y1))], [], v1) (fun r w' => r = [] ∧ e_fr mR w w' ∧ e_Has mTy w') := by
    intro n
    induction n with
    | zero => intro y1 v1 hj hm; obtain ⟨j3, j4, j5⟩ := hj; exfalso; omega
    | succ n ih2 =>
      intro y1 v1 hj hm
      obtain ⟨j3, j4, j5⟩ := hj
      refine e_Ok.run (t' := (5, [(0, (1, 275)), (1, (0, y1))], [(0, 64), (0, y1)], v1)) 2 rfl ?_
      refine e_Ok.if2 rfl (fun h6 => ?_) (fun h6 => ?_)
      · replace h6 : (y1 : Int) ≥ 64 := h6
        refine e_Ok.rets rfl rfl ?_
        exact ⟨rfl, j3, j4⟩
      · replace h6 : (y1 : Int) < 64 := Int.not_le.mp (show ¬ ((y1 : Int) ≥ 64) from h6)
        refine e_Ok.ps1 (x := (1, 275)) (q := 9) 1 rfl ?_
        refine e_Ok.getr (z := 276) rfl (el_o rfl) rfl (ef_o rfl) ((j3 275 0 no_52_15).trans (e_Has.eq hT (mt_o rfl))) ⟨by decide, by decide⟩ ?_
        refine e_Ok.ps2 (x := (0, y1)) (y := (0, 352)) (q := 16) 2 rfl ?_
        refine e_Ok.add (z := y1 + 352) rfl (Int.add_comm _ _) (by omega) ?_
        refine e_Ok.ps2 (x := (0, y1 + 352)) (y := (1, 276)) (q := 18) 1 rfl ?_
        have h7 := (e_Has.get j4 (c := 276) (k := y1 + 352) (lo := (-2147483648)) (hi := 2147483647) (nR_RISES (p := y1) (by omega)) (by decide))
        refine e_Ok.ald (z := v1 276 (y1 + 352)) rfl (el_o rfl) rfl (by omega) rfl (e_bq h7 (by decide) (by decide)) ?_
        refine e_Ok.ps1 (x := (1, 275)) (q := 20) 1 rfl ?_
        refine e_Ok.getr (z := 327) rfl (el_o rfl) rfl (ef_o rfl) ((j3 275 64 no_52_15).trans (e_Has.eq hT (mt_o rfl))) ⟨by decide, by decide⟩ ?_
        refine e_Ok.ps1 (x := (0, y1)) (q := 24) 1 rfl ?_
        have h8 := (hk y1 (by omega) (by omega))
        refine e_Ok.ald (z := w 327 y1) rfl (el_o rfl) rfl (by omega) ((j3 327 y1 no_52_16).trans rfl) (by omega) ?_
        refine e_Ok.if1 rfl (fun h9 => ?_) (fun h9 => ?_)
        · replace h9 : (w 327 y1 : Int) = 0 := h9
          refine e_Ok.ps1 (x := (0, 0)) (q := 41) 1 rfl ?_
          refine e_Ok.add (z := v1 276 (y1 + 352)) rfl (by omega) (by omega) ?_
          refine e_Ok.ast rfl (el_o rfl) rfl rfl (by omega) ?_
          generalize hw10 : e_up v1 276 (y1 + 352) (v1 276 (y1 + 352)) = w10
          have hT12 : e_Has mTy w10 := e_Has.upr j4 hw10 (nR_RISES (p := y1) (by omega)) (by omega)
          refine e_Ok.inc (z := y1 + 1) rfl rfl (by first | with_reducible rfl | omega) (by omega) ?_
          show e_Ok 20 elay ecode eI (d + 1) 322 (46, [(1, (0, y1 + 1)), (0, (1, 275))], [], w10) _
          refine e_Ok.ps0 (q := 2) 1 rfl ?_
          refine e_Ok.sub eAlk (e_sub_of rfl ?_) (ih2 (y1 + 1) w10 ⟨(show e_fr mR w w10 from e_fr.up j3 hw10 (by unfold mR; omega)), hT12, by omega⟩ (by omega))
          exact ⟨rfl, rfl, trivial⟩
        · replace h9 : (w 327 y1 : Int) ≠ 0 := (show ¬ ((w 327 y1 : Int) = 0) from h9)
          refine e_Ok.ps2 (x := (0, y1)) (y := (1, 275)) (q := 30) 2 rfl ?_
          refine e_Ok.callV rfl (e_dq hd rfl) rfl rfl rfl rfl (c_320 j4 (mAc.fr' (fun k q => by unfold mR at q; omega) j3 hA) (by omega)) (fun r13 w14 h15 => ?_)
          obtain ⟨z16, rfl, q17, q17a, q17b⟩ := h15
          refine e_Ok.nrm (q := 33) (st' := [(0, z16), (0, v1 276 (y1 + 352)), (0, y1 + 352), (1, 276)]) rfl rfl ?_
          have hJ21 : ∀ m20 : Int, 0 ≤ m20 ∧ m20 ≤ 1 → e_Ok 20 elay ecode eI (d + 1) 322 (41, [(0, (1, 275)), (1, (0, y1))], [(0, m20), (0, v1 276 (y1 + 352)), (0, y1 + 352), (1, 276)], w14) (fun r w' => r = [] ∧ e_fr mR w w' ∧ e_Has mTy w') := by
            intro m20 m20r
            refine e_Ok.any rfl (eF_add_any _ _) (fun z22 z22a z22b => ?_)
            refine e_Ok.ast rfl (el_o rfl) rfl rfl (by omega) ?_
            generalize hw23 : e_up w14 276 (y1 + 352) z22 = w23
            have hT25 : e_Has mTy w23 := e_Has.upr (mT_Q q17 j4) hw23 (nR_RISES (p := y1) (by omega)) (by omega)
            refine e_Ok.inc (z := y1 + 1) rfl rfl (by first | with_reducible rfl | omega) (by omega) ?_
            show e_Ok 20 elay ecode eI (d + 1) 322 (46, [(1, (0, y1 + 1)), (0, (1, 275))], [], w23) _
            refine e_Ok.ps0 (q := 2) 1 rfl ?_
            refine e_Ok.sub eAlk (e_sub_of rfl ?_) (ih2 (y1 + 1) w23 ⟨(show e_fr mR w w23 from e_fr.up (show e_fr mR w w14 from e_fr.trans j3 (e_fr.mono q17 (fun c k q => su_52_19 q))) hw23 (by unfold mR; omega)), hT25, by omega⟩ (by omega))
            exact ⟨rfl, rfl, trivial⟩
          refine e_Ok.if1 rfl (fun h19 => ?_) (fun h19 => ?_)
          · exact e_Ok.run 1 rfl (hJ21 0 (by omega))
          · exact e_Ok.run 2 rfl (hJ21 1 (by omega))
  refine e_Ok.sub eAlk (e_sub_of rfl ?_) (hL1 (65 + 1 : Int).toNat 0 w ⟨(e_fr.refl w), hT, by omega⟩ (by omega))
  exact ⟨rfl, rfl, trivial⟩
end
end
-- part 53
section
noncomputable section
def mF (f a b c k : Int) : Prop := (c = 275 ∧ k = f) ∨ (a ≤ c ∧ c ≤ b)
def mF2 (f c1 c2 c k : Int) : Prop := (c = 275 ∧ k = f) ∨ c = c1 ∨ c = c2
def mTape (c k : Int) : Prop := (c = 275 ∧ k = 9) ∨ c = 281
theorem mT_hi {S : Int → Int → Prop} {w w' : eW} (hS : ∀ c k, S c k → mTy c k = (1, 0)) (f : e_fr S w w') (h : e_Has mTy w) : e_Has mTy w' := h.fr hS f
theorem hT_lo {S : Int → Int → Prop} {w w' : eW} (hS : ∀ c k, S c k → hTy c k = (1, 0)) (f : e_fr S w w') (h : e_Has hTy w) : e_Has hTy w' := h.fr hS f
theorem c_271 {d : Nat} (hd : 22 ≤ d) {w : eW} (hT : e_Has mTy w) {a j : Int} : e_Ok 20 elay ecode eI d 271 (0, [(0, (1, 275)), (1, (0, a)), (2, (0, j))], [], w) (fun r w' => ∃ z : Int, r = [(0, z)] ∧ w = w' ∧ ((z = 1 ∧ (0 ≤ a ∧ a < w 275 10) ∧ 0 ≤ j ∧ j < w 286 a) ∨ (z = 0 ∧ True))) := by
  obtain ⟨d, rfl⟩ : ∃ e, d = e + 1 := ⟨d - 1, by omega⟩
  refine e_Ok.ps2 (x := (0, a)) (y := (1, 275)) (q := 2) 2 rfl ?_
  refine e_Ok.callV rfl (e_dq hd rfl) rfl rfl rfl rfl (c_270 (e_dq hd rfl) hT) (fun r1 w2 h3 => ?_)
  have h4 := e_Has.get hT (c := 275) (k := 10) (lo := 0) (hi := 4) (mt_o rfl) (by decide)
  obtain ⟨z5, rfl, rfl, q6⟩ := h3
  obtain ⟨rfl, q6⟩ | ⟨rfl, q6⟩ := q6
  · refine e_Ok.nrm (q := 5) (st' := [(0, 1)]) rfl rfl ?_
    refine e_Ok.if1 rfl (fun h7 => ?_) (fun h7 => ?_)
    · replace h7 : (1 : Int) = 0 := h7
      exfalso; omega
    · replace h7 : (1 : Int) ≠ 0 := (show ¬ ((1 : Int) = 0) from h7)
      refine e_Ok.ps3 (x := (1, 275)) (y := (4, 0)) (z := (4, j)) (q := 12) 4 rfl ?_
      refine e_Ok.getr (z := 286) rfl (el_o rfl) rfl (ef_o rfl) (e_Has.eq hT (mt_o rfl)) ⟨by decide, by decide⟩ ?_
      refine e_Ok.ps1 (x := (0, a)) (q := 16) 1 rfl ?_
      have h8 := (e_Has.get hT (c := 286) (k := a) (lo := 0) (hi := 6) (mt_o rfl) (by decide))
      refine e_Ok.ald (z := w 286 a) rfl (el_o rfl) rfl (by omega) rfl (e_bq h8 (by decide) (by decide)) ?_
      refine e_Ok.ps1 (x := (0, 1)) (q := 18) 1 rfl ?_
      refine e_Ok.sub' (z := w 286 a - 1) rfl rfl (by omega) ?_
      refine e_Ok.run (t' := (20, [(0, (1, 275)), (1, (0, a)), (2, (0, j))], [(4, w 286 a - 1), (4, 0), (4, j)], w)) 1 rfl ?_
      refine e_Ok.callS rfl (e_dq hd rfl) rfl rfl (c_266) (fun r9 w10 h11 => ?_)
      obtain ⟨z12, rfl, rfl, q13⟩ := h11
      obtain ⟨rfl, q13⟩ | ⟨rfl, q13⟩ := q13
      · refine e_Ok.nrm (q := 23) (st' := [(0, 1)]) rfl rfl ?_
        refine e_Ok.if1 rfl (fun h14 => ?_) (fun h14 => ?_)
        · replace h14 : (1 : Int) = 0 := h14
          exfalso; omega
        · replace h14 : (1 : Int) ≠ 0 := (show ¬ ((1 : Int) = 0) from h14)
          refine e_Ok.ps1 (x := (0, 1)) (q := 31) 2 rfl ?_
          refine e_Ok.rets rfl rfl ?_
          exact ⟨_, rfl, rfl, Or.inl ⟨rfl, by omega, by omega⟩⟩
      · refine e_Ok.nrm (q := 23) (st' := [(0, 0)]) rfl rfl ?_
        refine e_Ok.if1 rfl (fun h15 => ?_) (fun h15 => ?_)
        · replace h15 : (0 : Int) = 0 := h15
          refine e_Ok.ps1 (x := (0, 0)) (q := 31) 1 rfl ?_
          refine e_Ok.rets rfl rfl ?_
          exact ⟨_, rfl, rfl, Or.inr ⟨rfl, trivial⟩⟩
        · replace h15 : (0 : Int) ≠ 0 := (show ¬ ((0 : Int) = 0) from h15)
          exfalso; omega
  · refine e_Ok.nrm (q := 5) (st' := [(0, 0)]) rfl rfl ?_
    refine e_Ok.if1 rfl (fun h16 => ?_) (fun h16 => ?_)
    · replace h16 : (0 : Int) = 0 := h16
      refine e_Ok.ps1 (x := (0, 0)) (q := 31) 1 rfl ?_
      refine e_Ok.rets rfl rfl ?_
      exact ⟨_, rfl, rfl, Or.inr ⟨rfl, trivial⟩⟩
    · replace h16 : (0 : Int) ≠ 0 := (show ¬ ((0 : Int) = 0) from h16)
      exfalso; omega
theorem c_272 {d : Nat} (hd : 21 ≤ d) {w : eW} {x y : Int} : e_Ok 20 elay ecode eI d 272 (0, [(0, (0, x)), (1, (0, y))], [], w) (fun r w' => ∃ z : Int, r = [(0, z)] ∧ w = w' ∧ ((z = 1 ∧ (-16000 ≤ x ∧ x ≤ 16000) ∧ -16000 ≤ y ∧ y ≤ 16000) ∨ (z = 0 ∧ True))) := by
  obtain ⟨d, rfl⟩ : ∃ e, d = e + 1 := ⟨d - 1, by omega⟩
  refine e_Ok.ps3 (x := (4, 16000)) (y := (4, (-16000))) (z := (4, x)) (q := 8) 4 rfl ?_
  refine e_Ok.callS rfl (e_dq hd rfl) rfl rfl (c_266) (fun r1 w2 h3 => ?_)
  obtain ⟨z4, rfl, rfl, q5⟩ := h3
  obtain ⟨rfl, q5⟩ | ⟨rfl, q5⟩ := q5
  · refine e_Ok.nrm (q := 11) (st' := [(0, 1)]) rfl rfl ?_
    refine e_Ok.if1 rfl (fun h6 => ?_) (fun h6 => ?_)
    · replace h6 : (1 : Int) = 0 := h6
      exfalso; omega
    · replace h6 : (1 : Int) ≠ 0 := (show ¬ ((1 : Int) = 0) from h6)
      refine e_Ok.ps3 (x := (4, 16000)) (y := (4, (-16000))) (z := (4, y)) (q := 22) 4 rfl ?_
      refine e_Ok.callS rfl (e_dq hd rfl) rfl rfl (c_266) (fun r7 w8 h9 => ?_)
      obtain ⟨z10, rfl, rfl, q11⟩ := h9
      obtain ⟨rfl, q11⟩ | ⟨rfl, q11⟩ := q11
      · refine e_Ok.nrm (q := 25) (st' := [(0, 1)]) rfl rfl ?_
        refine e_Ok.if1 rfl (fun h12 => ?_) (fun h12 => ?_)
        · replace h12 : (1 : Int) = 0 := h12
          exfalso; omega
        · replace h12 : (1 : Int) ≠ 0 := (show ¬ ((1 : Int) = 0) from h12)
          refine e_Ok.ps1 (x := (0, 1)) (q := 33) 2 rfl ?_
          refine e_Ok.rets rfl rfl ?_
          exact ⟨_, rfl, rfl, Or.inl ⟨rfl, by omega, by omega⟩⟩
      · refine e_Ok.nrm (q := 25) (st' := [(0, 0)]) rfl rfl ?_
        refine e_Ok.if1 rfl (fun h13 => ?_) (fun h13 => ?_)
        · replace h13 : (0 : Int) = 0 := h13
          refine e_Ok.ps1 (x := (0, 0)) (q := 33) 1 rfl ?_
          refine e_Ok.rets rfl rfl ?_
          exact ⟨_, rfl, rfl, Or.inr ⟨rfl, trivial⟩⟩
        · replace h13 : (0 : Int) ≠ 0 := (show ¬ ((0 : Int) = 0) from h13)
          exfalso; omega
  · refine e_Ok.nrm (q := 11) (st' := [(0, 0)]) rfl rfl ?_
    refine e_Ok.if1 rfl (fun h14 => ?_) (fun h14 => ?_)
    · replace h14 : (0 : Int) = 0 := h14
      refine e_Ok.ps1 (x := (0, 0)) (q := 33) 1 rfl ?_
      refine e_Ok.rets rfl rfl ?_
      exact ⟨_, rfl, rfl, Or.inr ⟨rfl, trivial⟩⟩
    · replace h14 : (0 : Int) ≠ 0 := (show ¬ ((0 : Int) = 0) from h14)
      exfalso; omega
theorem c_273 {d : Nat} (hd : 22 ≤ d) {w : eW} {x y u v : Int} (hu : -2147483648 ≤ u ∧ u ≤ 2147483647) (hv : -2147483648 ≤ v ∧ v ≤ 2147483647) : e_Ok 20 elay ecode eI d 273 (0, [(0, (0, x)), (1, (0, y)), (2, (0, u)), (3, (0, v))], [], w) (fun r w' => ∃ z : Int, r = [(0, z)] ∧ w = w' ∧ ((z = 1 ∧ (-16000 ≤ x ∧ x ≤ 16000) ∧ (-16000 ≤ y ∧ y ≤ 16000) ∧ (0 ≤ u ∧ u ≤ 32000) ∧ 0 ≤ v ∧ v ≤ 32000) ∨ (z = 0 ∧ True))) := by
  obtain ⟨d, rfl⟩ : ∃ e, d = e + 1 := ⟨d - 1, by omega⟩
  refine e_Ok.ps2 (x := (0, y)) (y := (0, x)) (q := 2) 2 rfl ?_
  refine e_Ok.callS rfl (e_dq hd rfl) rfl rfl (c_272 (e_dq hd rfl)) (fun r1 w2 h3 => ?_)
  obtain ⟨z4, rfl, rfl, q5⟩ := h3
  obtain ⟨rfl, q5⟩ | ⟨rfl, q5⟩ := q5
  · refine e_Ok.nrm (q := 5) (st' := [(0, 1)]) rfl rfl ?_
    refine e_Ok.if1 rfl (fun h6 => ?_) (fun h6 => ?_)
    · replace h6 : (1 : Int) = 0 := h6
      exfalso; omega
    · replace h6 : (1 : Int) ≠ 0 := (show ¬ ((1 : Int) = 0) from h6)
      refine e_Ok.ps1 (x := (0, u)) (q := 9) 1 rfl ?_
      refine e_Ok.if1 rfl (fun h7 => ?_) (fun h7 => ?_)
      · replace h7 : (u : Int) < 0 := h7
        refine e_Ok.ps1 (x := (0, 0)) (q := 45) 1 rfl ?_
        refine e_Ok.rets rfl rfl ?_
        exact ⟨_, rfl, rfl, Or.inr ⟨rfl, trivial⟩⟩
      · replace h7 : (u : Int) ≥ 0 := Int.not_lt.mp (show ¬ ((u : Int) < 0) from h7)
        refine e_Ok.ps1 (x := (0, v)) (q := 13) 1 rfl ?_
        refine e_Ok.if1 rfl (fun h8 => ?_) (fun h8 => ?_)
        · replace h8 : (v : Int) < 0 := h8
          refine e_Ok.ps1 (x := (0, 0)) (q := 45) 1 rfl ?_
          refine e_Ok.rets rfl rfl ?_
          exact ⟨_, rfl, rfl, Or.inr ⟨rfl, trivial⟩⟩
        · replace h8 : (v : Int) ≥ 0 := Int.not_lt.mp (show ¬ ((v : Int) < 0) from h8)
          refine e_Ok.ps2 (x := (4, u)) (y := (4, x)) (q := 20) 4 rfl ?_
          refine e_Ok.addL (z := x + u) rfl (by omega) (by omega) ?_
          refine e_Ok.ps1 (x := (4, 16000)) (q := 24) 1 rfl ?_
          refine e_Ok.lcmp rfl (fun z10 z10a z10b z10c => ?_)
          refine e_Ok.if1 rfl (fun h11 => ?_) (fun h11 => ?_)
          · replace h11 : (z10 : Int) > 0 := h11
            refine e_Ok.ps1 (x := (0, 0)) (q := 45) 1 rfl ?_
            refine e_Ok.rets rfl rfl ?_
            exact ⟨_, rfl, rfl, Or.inr ⟨rfl, trivial⟩⟩
          · replace h11 : (z10 : Int) ≤ 0 := Int.not_lt.mp (show ¬ ((z10 : Int) > 0) from h11)
            refine e_Ok.ps2 (x := (4, v)) (y := (4, y)) (q := 32) 4 rfl ?_
            refine e_Ok.addL (z := y + v) rfl (by omega) (by omega) ?_
            refine e_Ok.ps1 (x := (4, 16000)) (q := 36) 1 rfl ?_
            refine e_Ok.lcmp rfl (fun z13 z13a z13b z13c => ?_)
            refine e_Ok.if1 rfl (fun h14 => ?_) (fun h14 => ?_)
            · replace h14 : (z13 : Int) > 0 := h14
              refine e_Ok.ps1 (x := (0, 0)) (q := 45) 1 rfl ?_
              refine e_Ok.rets rfl rfl ?_
              exact ⟨_, rfl, rfl, Or.inr ⟨rfl, trivial⟩⟩
            · replace h14 : (z13 : Int) ≤ 0 := Int.not_lt.mp (show ¬ ((z13 : Int) > 0) from h14)
              refine e_Ok.ps1 (x := (0, 1)) (q := 45) 2 rfl ?_
              refine e_Ok.rets rfl rfl ?_
              exact ⟨_, rfl, rfl, Or.inl ⟨rfl, by omega, by omega, by omega, by omega⟩⟩
  · refine e_Ok.nrm (q := 5) (st' := [(0, 0)]) rfl rfl ?_
    refine e_Ok.if1 rfl (fun h15 => ?_) (fun h15 => ?_)
    · replace h15 : (0 : Int) = 0 := h15
      refine e_Ok.ps1 (x := (0, 0)) (q := 45) 1 rfl ?_
      refine e_Ok.rets rfl rfl ?_
      exact ⟨_, rfl, rfl, Or.inr ⟨rfl, trivial⟩⟩
    · replace h15 : (0 : Int) ≠ 0 := (show ¬ ((0 : Int) = 0) from h15)
      exfalso; omega
theorem c_278 {d : Nat} (hd : 23 ≤ d) {w : eW} (hT : e_Has mTy w) {p1 p2 p3 p4 : Int} (g1 : (-2147483648) ≤ p1 ∧ p1 ≤ 2147483647) (g2 : (-2147483648) ≤ p2 ∧ p2 ≤ 2147483647) (g3 : (-2147483648) ≤ p3 ∧ p3 ≤ 2147483647) (g4 : (-2147483648) ≤ p4 ∧ p4 ≤ 2147483647) : e_Ok 20 elay ecode eI d 278 (0, [(0, (1, 275)), (1, (0, p1)), (2, (0, p2)), (3, (0, p3)), (4, (0, p4))], [], w) (fun r w' => ∃ z : Int, r = [(0, z)] ∧ e_fr (mF 10 282 285) w w' ∧ e_Has mTy w' ∧ (((-8000 ≤ p1 ∧ p1 ≤ 8000 ∧ -8000 ≤ p2 ∧ p2 ≤ 8000 ∧ 0 ≤ p3 ∧ p3 ≤ 4095 ∧ 0 ≤ p4 ∧ p4 ≤ 800 ∧ w 275 3 = 0 ∧ w 275 10 < 4) ∧ w' 275 10 = w 275 10 + 1) ∨ (¬ (-8000 ≤ p1 ∧ p1 ≤ 8000 ∧ -8000 ≤ p2 ∧ p2 ≤ 8000 ∧ 0 ≤ p3 ∧ p3 ≤ 4095 ∧ 0 ≤ p4 ∧ p4 ≤ 800 ∧ w 275 3 = 0 ∧ w 275 10 < 4) ∧ w' 275 10 = w 275 10))) := by
  obtain ⟨d, rfl⟩ : ∃ e, d = e + 1 := ⟨d - 1, by omega⟩
  have ho := e_Has.get hT (c := 275) (k := 3) (lo := 0) (hi := 1) (mt_o rfl) (by decide)
  have hr := e_Has.get hT (c := 275) (k := 10) (lo := 0) (hi := 4) (mt_o rfl) (by decide)
  refine e_Ok.ps3 (x := (4, 8000)) (y := (4, (-8000))) (z := (4, p1)) (q := 8) 4 rfl ?_
  refine e_Ok.callS rfl (e_dq hd rfl) rfl rfl (c_266) (fun r1 w2 h3 => ?_)
  obtain ⟨z4, rfl, rfl, q5⟩ := h3
  obtain ⟨rfl, q5⟩ | ⟨rfl, q5⟩ := q5
  · refine e_Ok.nrm (q := 11) (st' := [(0, 1)]) rfl rfl ?_
    refine e_Ok.if1 rfl (fun h6 => ?_) (fun h6 => ?_)
    · replace h6 : (1 : Int) = 0 := h6
      exfalso; omega
    · replace h6 : (1 : Int) ≠ 0 := (show ¬ ((1 : Int) = 0) from h6)
      refine e_Ok.ps3 (x := (4, 8000)) (y := (4, (-8000))) (z := (4, p2)) (q := 22) 4 rfl ?_
      refine e_Ok.callS rfl (e_dq hd rfl) rfl rfl (c_266) (fun r7 w8 h9 => ?_)
      obtain ⟨z10, rfl, rfl, q11⟩ := h9
      obtain ⟨rfl, q11⟩ | ⟨rfl, q11⟩ := q11
      · refine e_Ok.nrm (q := 25) (st' := [(0, 1)]) rfl rfl ?_
        refine e_Ok.if1 rfl (fun h12 => ?_) (fun h12 => ?_)
        · replace h12 : (1 : Int) = 0 := h12
          exfalso; omega
        · replace h12 : (1 : Int) ≠ 0 := (show ¬ ((1 : Int) = 0) from h12)
          refine e_Ok.ps3 (x := (4, 4095)) (y := (4, 0)) (z := (4, p3)) (q := 34) 4 rfl ?_
          refine e_Ok.callS rfl (e_dq hd rfl) rfl rfl (c_266) (fun r13 w14 h15 => ?_)
          obtain ⟨z16, rfl, rfl, q17⟩ := h15
          obtain ⟨rfl, q17⟩ | ⟨rfl, q17⟩ := q17
          · refine e_Ok.nrm (q := 37) (st' := [(0, 1)]) rfl rfl ?_
            refine e_Ok.if1 rfl (fun h18 => ?_) (fun h18 => ?_)
            · replace h18 : (1 : Int) = 0 := h18
              exfalso; omega
            · replace h18 : (1 : Int) ≠ 0 := (show ¬ ((1 : Int) = 0) from h18)
              refine e_Ok.ps3 (x := (4, 800)) (y := (4, 0)) (z := (4, p4)) (q := 47) 4 rfl ?_
              refine e_Ok.callS rfl (e_dq hd rfl) rfl rfl (c_266) (fun r19 w20 h21 => ?_)
              obtain ⟨z22, rfl, rfl, q23⟩ := h21
              obtain ⟨rfl, q23⟩ | ⟨rfl, q23⟩ := q23
              · refine e_Ok.nrm (q := 50) (st' := [(0, 1)]) rfl rfl ?_
                refine e_Ok.if1 rfl (fun h24 => ?_) (fun h24 => ?_)
                · replace h24 : (1 : Int) ≠ 0 := h24
                  refine e_Ok.ps1 (x := (1, 275)) (q := 56) 1 rfl ?_
                  refine e_Ok.getf (z := w 275 3) rfl (el_o rfl) rfl (ef_o rfl) rfl (by omega) ?_
                  refine e_Ok.if1 rfl (fun h25 => ?_) (fun h25 => ?_)
                  · replace h25 : (w 275 3 : Int) = 0 := h25
                    refine e_Ok.ps1 (x := (1, 275)) (q := 66) 1 rfl ?_
                    refine e_Ok.getf (z := w 275 10) rfl (el_o rfl) rfl (ef_o rfl) rfl (by omega) ?_
                    refine e_Ok.ps1 (x := (0, 4)) (q := 70) 1 rfl ?_
                    refine e_Ok.if2 rfl (fun h26 => ?_) (fun h26 => ?_)
                    · replace h26 : (w 275 10 : Int) ≠ 4 := h26
                      refine e_Ok.ps1 (x := (1, 275)) (q := 77) 1 rfl ?_
                      refine e_Ok.getr (z := 282) rfl (el_o rfl) rfl (ef_o rfl) (e_Has.eq hT (mt_o rfl)) ⟨by decide, by decide⟩ ?_
                      refine e_Ok.ps1 (x := (1, 275)) (q := 81) 1 rfl ?_
                      refine e_Ok.getf (z := w 275 10) rfl (el_o rfl) rfl (ef_o rfl) rfl (by omega) ?_
                      refine e_Ok.ps1 (x := (0, p1)) (q := 85) 1 rfl ?_
                      refine e_Ok.ast rfl (el_o rfl) rfl rfl (by omega) ?_
                      generalize hw27 : e_up w 282 (w 275 10) p1 = w27
                      have hT29 : e_Has mTy w27 := e_Has.upr hT hw27 (mt_o rfl) (by omega)
                      refine e_Ok.ps1 (x := (1, 275)) (q := 87) 1 rfl ?_
                      refine e_Ok.getr (z := 283) rfl (el_o rfl) rfl (ef_o rfl) (e_uq hw27 (Or.inl (by decide)) (e_Has.eq hT (mt_o rfl))) ⟨by decide, by decide⟩ ?_
                      refine e_Ok.ps1 (x := (1, 275)) (q := 91) 1 rfl ?_
                      refine e_Ok.getf (z := w 275 10) rfl (el_o rfl) rfl (ef_o rfl) (e_uq hw27 (Or.inl (by decide)) rfl) (by omega) ?_
                      refine e_Ok.ps1 (x := (0, p2)) (q := 95) 1 rfl ?_
                      refine e_Ok.ast rfl (el_o rfl) rfl rfl (by omega) ?_
                      generalize hw30 : e_up w27 283 (w 275 10) p2 = w30
                      have hT32 : e_Has mTy w30 := e_Has.upr hT29 hw30 (mt_o rfl) (by omega)
                      refine e_Ok.ps1 (x := (1, 275)) (q := 97) 1 rfl ?_
                      refine e_Ok.getr (z := 284) rfl (el_o rfl) rfl (ef_o rfl) (e_uq hw30 (Or.inl (by decide)) (e_uq hw27 (Or.inl (by decide)) (e_Has.eq hT (mt_o rfl)))) ⟨by decide, by decide⟩ ?_
                      refine e_Ok.ps1 (x := (1, 275)) (q := 101) 1 rfl ?_
                      refine e_Ok.getf (z := w 275 10) rfl (el_o rfl) rfl (ef_o rfl) (e_uq hw30 (Or.inl (by decide)) (e_uq hw27 (Or.inl (by decide)) rfl)) (by omega) ?_
                      refine e_Ok.ps1 (x := (0, p3)) (q := 105) 1 rfl ?_
                      refine e_Ok.ast rfl (el_o rfl) rfl rfl (by omega) ?_
                      generalize hw33 : e_up w30 284 (w 275 10) p3 = w33
                      have hT35 : e_Has mTy w33 := e_Has.upr hT32 hw33 (mt_o rfl) (by omega)
                      refine e_Ok.ps1 (x := (1, 275)) (q := 107) 1 rfl ?_
                      refine e_Ok.getr (z := 285) rfl (el_o rfl) rfl (ef_o rfl) (e_uq hw33 (Or.inl (by decide)) (e_uq hw30 (Or.inl (by decide)) (e_uq hw27 (Or.inl (by decide)) (e_Has.eq hT (mt_o rfl))))) ⟨by decide, by decide⟩ ?_
                      refine e_Ok.ps1 (x := (1, 275)) (q := 111) 1 rfl ?_
                      refine e_Ok.getf (z := w 275 10) rfl (el_o rfl) rfl (ef_o rfl) (e_uq hw33 (Or.inl (by decide)) (e_uq hw30 (Or.inl (by decide)) (e_uq hw27 (Or.inl (by decide)) rfl))) (by omega) ?_
                      refine e_Ok.ps1 (x := (0, p4)) (q := 116) 1 rfl ?_
                      refine e_Ok.ast rfl (el_o rfl) rfl rfl (by omega) ?_
                      generalize hw36 : e_up w33 285 (w 275 10) p4 = w36
                      have hT38 : e_Has mTy w36 := e_Has.upr hT35 hw36 (mt_o rfl) (by omega)
                      refine e_Ok.ps2 (x := (1, 275)) (y := (1, 275)) (q := 119) 2 rfl ?_
                      refine e_Ok.getf (z := w 275 10) rfl (el_o rfl) rfl (ef_o rfl) (e_uq hw36 (Or.inl (by decide)) (e_uq hw33 (Or.inl (by decide)) (e_uq hw30 (Or.inl (by decide)) (e_uq hw27 (Or.inl (by decide)) rfl)))) (by omega) ?_
                      refine e_Ok.ps1 (x := (0, 1)) (q := 123) 1 rfl ?_
                      refine e_Ok.add (z := w 275 10 + 1) rfl rfl (by omega) ?_
                      refine e_Ok.putf rfl (el_o rfl) rfl (ef_o rfl) ?_
                      generalize hw39 : e_up w36 275 10 (w 275 10 + 1) = w39
                      have hT41 : e_Has mTy w39 := e_Has.upr hT38 hw39 (mt_o rfl) (by omega)
                      refine e_Ok.ps1 (x := (1, 275)) (q := 128) 1 rfl ?_
                      refine e_Ok.getf (z := w 275 10 + 1) rfl (el_o rfl) rfl (ef_o rfl) (e_ue hw39) (by omega) ?_
                      refine e_Ok.ps1 (x := (0, 1)) (q := 132) 1 rfl ?_
                      refine e_Ok.sub' (z := w 275 10) rfl (by omega) (by omega) ?_
                      refine e_Ok.rets rfl rfl ?_
                      have e42 : w39 275 10 = w 275 10 + 1 := (e_ue hw39)
                      exact ⟨_, rfl, (show e_fr (mF 10 282 285) w w39 from e_fr.up (show e_fr (mF 10 282 285) w w36 from e_fr.up (show e_fr (mF 10 282 285) w w33 from e_fr.up (show e_fr (mF 10 282 285) w w30 from e_fr.up (show e_fr (mF 10 282 285) w w27 from e_fr.up (e_fr.refl w) hw27 (by first | exact Or.inr ⟨(by decide), (by decide)⟩ | (unfold mF; omega))) hw30 (by first | exact Or.inr ⟨(by decide), (by decide)⟩ | (unfold mF; omega))) hw33 (by first | exact Or.inr ⟨(by decide), (by decide)⟩ | (unfold mF; omega))) hw36 (by first | exact Or.inr ⟨(by decide), (by decide)⟩ | (unfold mF; omega))) hw39 (by first | exact Or.inl ⟨rfl, rfl⟩ | (unfold mF; omega))), hT41, by omega⟩
                    · replace h26 : (w 275 10 : Int) = 4 := Classical.not_not.mp (show ¬ ((w 275 10 : Int) ≠ 4) from h26)
                      refine e_Ok.ps1 (x := (0, (-3))) (q := 75) 1 rfl ?_
                      refine e_Ok.rets rfl rfl ?_
                      have e43 : w 275 10 = w 275 10 := rfl
                      exact ⟨_, rfl, (e_fr.refl w), hT, by omega⟩
                  · replace h25 : (w 275 3 : Int) ≠ 0 := (show ¬ ((w 275 3 : Int) = 0) from h25)
                    refine e_Ok.ps1 (x := (0, (-2))) (q := 64) 1 rfl ?_
                    refine e_Ok.rets rfl rfl ?_
                    have e44 : w 275 10 = w 275 10 := rfl
                    exact ⟨_, rfl, (e_fr.refl w), hT, by omega⟩
                · replace h24 : (1 : Int) = 0 := Classical.not_not.mp (show ¬ ((1 : Int) ≠ 0) from h24)
                  exfalso; omega
              · refine e_Ok.nrm (q := 50) (st' := [(0, 0)]) rfl rfl ?_
                refine e_Ok.if1 rfl (fun h45 => ?_) (fun h45 => ?_)
                · replace h45 : (0 : Int) ≠ 0 := h45
                  exfalso; omega
                · replace h45 : (0 : Int) = 0 := Classical.not_not.mp (show ¬ ((0 : Int) ≠ 0) from h45)
                  refine e_Ok.ps1 (x := (0, (-1))) (q := 54) 1 rfl ?_
                  refine e_Ok.rets rfl rfl ?_
                  have e46 : w 275 10 = w 275 10 := rfl
                  exact ⟨_, rfl, (e_fr.refl w), hT, by omega⟩
          · refine e_Ok.nrm (q := 37) (st' := [(0, 0)]) rfl rfl ?_
            refine e_Ok.if1 rfl (fun h47 => ?_) (fun h47 => ?_)
            · replace h47 : (0 : Int) = 0 := h47
              refine e_Ok.ps1 (x := (0, (-1))) (q := 54) 1 rfl ?_
              refine e_Ok.rets rfl rfl ?_
              have e48 : w 275 10 = w 275 10 := rfl
              exact ⟨_, rfl, (e_fr.refl w), hT, by omega⟩
            · replace h47 : (0 : Int) ≠ 0 := (show ¬ ((0 : Int) = 0) from h47)
              exfalso; omega
      · refine e_Ok.nrm (q := 25) (st' := [(0, 0)]) rfl rfl ?_
        refine e_Ok.if1 rfl (fun h49 => ?_) (fun h49 => ?_)
        · replace h49 : (0 : Int) = 0 := h49
          refine e_Ok.ps1 (x := (0, (-1))) (q := 54) 1 rfl ?_
          refine e_Ok.rets rfl rfl ?_
          have e50 : w 275 10 = w 275 10 := rfl
          exact ⟨_, rfl, (e_fr.refl w), hT, by omega⟩
        · replace h49 : (0 : Int) ≠ 0 := (show ¬ ((0 : Int) = 0) from h49)
          exfalso; omega
  · refine e_Ok.nrm (q := 11) (st' := [(0, 0)]) rfl rfl ?_
    refine e_Ok.if1 rfl (fun h51 => ?_) (fun h51 => ?_)
    · replace h51 : (0 : Int) = 0 := h51
      refine e_Ok.ps1 (x := (0, (-1))) (q := 54) 1 rfl ?_
      refine e_Ok.rets rfl rfl ?_
      have e52 : w 275 10 = w 275 10 := rfl
      exact ⟨_, rfl, (e_fr.refl w), hT, by omega⟩
    · replace h51 : (0 : Int) ≠ 0 := (show ¬ ((0 : Int) = 0) from h51)
      exfalso; omega
theorem c_280 {d : Nat} (hd : 23 ≤ d) {w : eW} (hT : e_Has mTy w) {p1 p2 p3 : Int} (g1 : (-2147483648) ≤ p1 ∧ p1 ≤ 2147483647) (g2 : (-2147483648) ≤ p2 ∧ p2 ≤ 2147483647) (g3 : (-2147483648) ≤ p3 ∧ p3 ≤ 2147483647) : e_Ok 20 elay ecode eI d 280 (0, [(0, (1, 275)), (1, (0, p1)), (2, (0, p2)), (3, (0, p3))], [], w) (fun r w' => ∃ z : Int, r = [(0, z)] ∧ e_fr (mF (-1) 293 293) w w' ∧ e_Has mTy w' ∧ True) := by
  obtain ⟨d, rfl⟩ : ∃ e, d = e + 1 := ⟨d - 1, by omega⟩
  refine e_Ok.ps3 (x := (0, p2)) (y := (0, p1)) (z := (1, 275)) (q := 3) 3 rfl ?_
  refine e_Ok.callV rfl (e_dq hd rfl) rfl rfl rfl rfl (c_271 (e_dq hd rfl) hT) (fun r1 w2 h3 => ?_)
  obtain ⟨z4, rfl, rfl, q5⟩ := h3
  have h6 := e_Has.get hT (c := 275) (k := 10) (lo := 0) (hi := 4) (mt_o rfl) (by decide)
  have h7 := e_Has.get hT (c := 286) (k := p1) (lo := 0) (hi := 6) (mt_o rfl) (by decide)
  obtain ⟨rfl, q5⟩ | ⟨rfl, q5⟩ := q5
  · refine e_Ok.nrm (q := 6) (st' := [(0, 1)]) rfl rfl ?_
    refine e_Ok.if1 rfl (fun h8 => ?_) (fun h8 => ?_)
    · replace h8 : (1 : Int) = 0 := h8
      exfalso; omega
    · replace h8 : (1 : Int) ≠ 0 := (show ¬ ((1 : Int) = 0) from h8)
      refine e_Ok.ps3 (x := (4, 800)) (y := (4, 0)) (z := (4, p3)) (q := 15) 4 rfl ?_
      refine e_Ok.callS rfl (e_dq hd rfl) rfl rfl (c_266) (fun r9 w10 h11 => ?_)
      obtain ⟨z12, rfl, rfl, q13⟩ := h11
      obtain ⟨rfl, q13⟩ | ⟨rfl, q13⟩ := q13
      · refine e_Ok.nrm (q := 18) (st' := [(0, 1)]) rfl rfl ?_
        refine e_Ok.if1 rfl (fun h14 => ?_) (fun h14 => ?_)
        · replace h14 : (1 : Int) ≠ 0 := h14
          refine e_Ok.ps1 (x := (1, 275)) (q := 24) 1 rfl ?_
          have h15 := (e_Has.get hT (c := 275) (k := 3) (lo := 0) (hi := 1) (mt_o rfl) (by decide))
          refine e_Ok.getf (z := w 275 3) rfl (el_o rfl) rfl (ef_o rfl) rfl (e_bq h15 (by decide) (by decide)) ?_
          refine e_Ok.if1 rfl (fun h16 => ?_) (fun h16 => ?_)
          · replace h16 : (w 275 3 : Int) = 0 := h16
            refine e_Ok.ps1 (x := (1, 275)) (q := 34) 1 rfl ?_
            refine e_Ok.getr (z := 293) rfl (el_o rfl) rfl (ef_o rfl) (e_Has.eq hT (mt_o rfl)) ⟨by decide, by decide⟩ ?_
            refine e_Ok.ps2 (x := (0, p1)) (y := (0, 6)) (q := 40) 2 rfl ?_
            refine e_Ok.mul (z := 6 * p1) rfl rfl (by omega) ?_
            refine e_Ok.ps1 (x := (0, p2)) (q := 42) 1 rfl ?_
            refine e_Ok.add (z := 6 * p1 + p2) rfl rfl (by omega) ?_
            have h17 := (e_Has.get hT (c := 293) (k := 6 * p1 + p2) (lo := 0) (hi := 800) (mt_o rfl) (by decide))
            refine e_Ok.ald (z := w 293 (6 * p1 + p2)) rfl (el_o rfl) rfl (by omega) rfl (e_bq h17 (by decide) (by decide)) ?_
            refine e_Ok.run (t' := (47, [(4, (0, w 293 (6 * p1 + p2))), (0, (1, 275)), (1, (0, p1)), (2, (0, p2)), (3, (0, p3))], [(1, 275)], w)) 2 rfl ?_
            refine e_Ok.getr (z := 293) rfl (el_o rfl) rfl (ef_o rfl) (e_Has.eq hT (mt_o rfl)) ⟨by decide, by decide⟩ ?_
            refine e_Ok.ps2 (x := (0, p1)) (y := (0, 6)) (q := 53) 2 rfl ?_
            refine e_Ok.mul (z := 6 * p1) rfl rfl (by omega) ?_
            refine e_Ok.ps1 (x := (0, p2)) (q := 55) 1 rfl ?_
            refine e_Ok.add (z := 6 * p1 + p2) rfl rfl (by omega) ?_
            refine e_Ok.ps1 (x := (0, p3)) (q := 57) 1 rfl ?_
            refine e_Ok.ast rfl (el_o rfl) rfl rfl (by omega) ?_
            generalize hw18 : e_up w 293 (6 * p1 + p2) p3 = w18
            have hT20 : e_Has mTy w18 := e_Has.upr hT hw18 (mt_o rfl) (by omega)
            refine e_Ok.ps1 (x := (0, w 293 (6 * p1 + p2))) (q := 60) 1 rfl ?_
            refine e_Ok.rets rfl rfl ?_
            exact ⟨_, rfl, (show e_fr (mF (-1) 293 293) w w18 from e_fr.up (e_fr.refl w) hw18 (by first | exact Or.inr ⟨(by decide), (by decide)⟩ | (unfold mF; omega))), hT20, trivial⟩
          · replace h16 : (w 275 3 : Int) ≠ 0 := (show ¬ ((w 275 3 : Int) = 0) from h16)
            refine e_Ok.ps1 (x := (0, (-2))) (q := 32) 1 rfl ?_
            refine e_Ok.rets rfl rfl ?_
            exact ⟨_, rfl, (e_fr.refl w), hT, trivial⟩
        · replace h14 : (1 : Int) = 0 := Classical.not_not.mp (show ¬ ((1 : Int) ≠ 0) from h14)
          exfalso; omega
      · refine e_Ok.nrm (q := 18) (st' := [(0, 0)]) rfl rfl ?_
        refine e_Ok.if1 rfl (fun h21 => ?_) (fun h21 => ?_)
        · replace h21 : (0 : Int) ≠ 0 := h21
          exfalso; omega
        · replace h21 : (0 : Int) = 0 := Classical.not_not.mp (show ¬ ((0 : Int) ≠ 0) from h21)
          refine e_Ok.ps1 (x := (0, (-1))) (q := 22) 1 rfl ?_
          refine e_Ok.rets rfl rfl ?_
          exact ⟨_, rfl, (e_fr.refl w), hT, trivial⟩
  · refine e_Ok.nrm (q := 6) (st' := [(0, 0)]) rfl rfl ?_
    refine e_Ok.if1 rfl (fun h22 => ?_) (fun h22 => ?_)
    · replace h22 : (0 : Int) = 0 := h22
      refine e_Ok.ps1 (x := (0, (-1))) (q := 22) 1 rfl ?_
      refine e_Ok.rets rfl rfl ?_
      exact ⟨_, rfl, (e_fr.refl w), hT, trivial⟩
    · replace h22 : (0 : Int) ≠ 0 := (show ¬ ((0 : Int) = 0) from h22)
      exfalso; omega
theorem c_281 {d : Nat} (hd : 23 ≤ d) {w : eW} (hT : e_Has mTy w) {p1 p2 p3 p4 : Int} (g1 : (-2147483648) ≤ p1 ∧ p1 ≤ 2147483647) (g2 : (-2147483648) ≤ p2 ∧ p2 ≤ 2147483647) (g3 : (-2147483648) ≤ p3 ∧ p3 ≤ 2147483647) (g4 : (-2147483648) ≤ p4 ∧ p4 ≤ 2147483647) : e_Ok 20 elay ecode eI d 281 (0, [(0, (1, 275)), (1, (0, p1)), (2, (0, p2)), (3, (0, p3)), (4, (0, p4))], [], w) (fun r w' => ∃ z : Int, r = [(0, z)] ∧ e_fr (mF (-1) 290 291) w w' ∧ e_Has mTy w' ∧ True) := by
  obtain ⟨d, rfl⟩ : ∃ e, d = e + 1 := ⟨d - 1, by omega⟩
  refine e_Ok.ps3 (x := (0, p2)) (y := (0, p1)) (z := (1, 275)) (q := 3) 3 rfl ?_
  refine e_Ok.callV rfl (e_dq hd rfl) rfl rfl rfl rfl (c_271 (e_dq hd rfl) hT) (fun r1 w2 h3 => ?_)
  obtain ⟨z4, rfl, rfl, q5⟩ := h3
  have h6 := e_Has.get hT (c := 275) (k := 10) (lo := 0) (hi := 4) (mt_o rfl) (by decide)
  have h7 := e_Has.get hT (c := 286) (k := p1) (lo := 0) (hi := 6) (mt_o rfl) (by decide)
  obtain ⟨rfl, q5⟩ | ⟨rfl, q5⟩ := q5
  · refine e_Ok.nrm (q := 6) (st' := [(0, 1)]) rfl rfl ?_
    refine e_Ok.if1 rfl (fun h8 => ?_) (fun h8 => ?_)
    · replace h8 : (1 : Int) = 0 := h8
      exfalso; omega
    · replace h8 : (1 : Int) ≠ 0 := (show ¬ ((1 : Int) = 0) from h8)
      refine e_Ok.ps3 (x := (4, 2000)) (y := (4, 1)) (z := (4, p3)) (q := 15) 4 rfl ?_
      refine e_Ok.callS rfl (e_dq hd rfl) rfl rfl (c_266) (fun r9 w10 h11 => ?_)
      obtain ⟨z12, rfl, rfl, q13⟩ := h11
      obtain ⟨rfl, q13⟩ | ⟨rfl, q13⟩ := q13
      · refine e_Ok.nrm (q := 18) (st' := [(0, 1)]) rfl rfl ?_
        refine e_Ok.if1 rfl (fun h14 => ?_) (fun h14 => ?_)
        · replace h14 : (1 : Int) = 0 := h14
          exfalso; omega
        · replace h14 : (1 : Int) ≠ 0 := (show ¬ ((1 : Int) = 0) from h14)
          refine e_Ok.ps3 (x := (4, 2000)) (y := (4, 1)) (z := (4, p4)) (q := 28) 4 rfl ?_
          refine e_Ok.callS rfl (e_dq hd rfl) rfl rfl (c_266) (fun r15 w16 h17 => ?_)
          obtain ⟨z18, rfl, rfl, q19⟩ := h17
          obtain ⟨rfl, q19⟩ | ⟨rfl, q19⟩ := q19
          · refine e_Ok.nrm (q := 31) (st' := [(0, 1)]) rfl rfl ?_
            refine e_Ok.if1 rfl (fun h20 => ?_) (fun h20 => ?_)
            · replace h20 : (1 : Int) ≠ 0 := h20
              refine e_Ok.ps1 (x := (1, 275)) (q := 37) 1 rfl ?_
              have h21 := (e_Has.get hT (c := 275) (k := 3) (lo := 0) (hi := 1) (mt_o rfl) (by decide))
              refine e_Ok.getf (z := w 275 3) rfl (el_o rfl) rfl (ef_o rfl) rfl (e_bq h21 (by decide) (by decide)) ?_
              refine e_Ok.if1 rfl (fun h22 => ?_) (fun h22 => ?_)
              · replace h22 : (w 275 3 : Int) = 0 := h22
                refine e_Ok.ps1 (x := (1, 275)) (q := 47) 1 rfl ?_
                refine e_Ok.getr (z := 290) rfl (el_o rfl) rfl (ef_o rfl) (e_Has.eq hT (mt_o rfl)) ⟨by decide, by decide⟩ ?_
                refine e_Ok.ps2 (x := (0, p1)) (y := (0, 6)) (q := 53) 2 rfl ?_
                refine e_Ok.mul (z := 6 * p1) rfl rfl (by omega) ?_
                refine e_Ok.ps1 (x := (0, p2)) (q := 55) 1 rfl ?_
                refine e_Ok.add (z := 6 * p1 + p2) rfl rfl (by omega) ?_
                refine e_Ok.ps1 (x := (0, p3)) (q := 57) 1 rfl ?_
                refine e_Ok.ast rfl (el_o rfl) rfl rfl (by omega) ?_
                generalize hw23 : e_up w 290 (6 * p1 + p2) p3 = w23
                have hT25 : e_Has mTy w23 := e_Has.upr hT hw23 (mt_o rfl) (by omega)
                refine e_Ok.ps1 (x := (1, 275)) (q := 59) 1 rfl ?_
                refine e_Ok.getr (z := 291) rfl (el_o rfl) rfl (ef_o rfl) (e_uq hw23 (Or.inl (by decide)) (e_Has.eq hT (mt_o rfl))) ⟨by decide, by decide⟩ ?_
                refine e_Ok.ps2 (x := (0, p1)) (y := (0, 6)) (q := 65) 2 rfl ?_
                refine e_Ok.mul (z := 6 * p1) rfl rfl (by omega) ?_
                refine e_Ok.ps1 (x := (0, p2)) (q := 67) 1 rfl ?_
                refine e_Ok.add (z := 6 * p1 + p2) rfl rfl (by omega) ?_
                refine e_Ok.ps1 (x := (0, p4)) (q := 70) 1 rfl ?_
                refine e_Ok.ast rfl (el_o rfl) rfl rfl (by omega) ?_
                generalize hw26 : e_up w23 291 (6 * p1 + p2) p4 = w26
                have hT28 : e_Has mTy w26 := e_Has.upr hT25 hw26 (mt_o rfl) (by omega)
                refine e_Ok.ps1 (x := (0, 0)) (q := 72) 1 rfl ?_
                refine e_Ok.rets rfl rfl ?_
                exact ⟨_, rfl, (show e_fr (mF (-1) 290 291) w w26 from e_fr.up (show e_fr (mF (-1) 290 291) w w23 from e_fr.up (e_fr.refl w) hw23 (by first | exact Or.inr ⟨(by decide), (by decide)⟩ | (unfold mF; omega))) hw26 (by first | exact Or.inr ⟨(by decide), (by decide)⟩ | (unfold mF; omega))), hT28, trivial⟩
              · replace h22 : (w 275 3 : Int) ≠ 0 := (show ¬ ((w 275 3 : Int) = 0) from h22)
                refine e_Ok.ps1 (x := (0, (-2))) (q := 45) 1 rfl ?_
                refine e_Ok.rets rfl rfl ?_
                exact ⟨_, rfl, (e_fr.refl w), hT, trivial⟩
            · replace h20 : (1 : Int) = 0 := Classical.not_not.mp (show ¬ ((1 : Int) ≠ 0) from h20)
              exfalso; omega
          · refine e_Ok.nrm (q := 31) (st' := [(0, 0)]) rfl rfl ?_
            refine e_Ok.if1 rfl (fun h29 => ?_) (fun h29 => ?_)
            · replace h29 : (0 : Int) ≠ 0 := h29
              exfalso; omega
            · replace h29 : (0 : Int) = 0 := Classical.not_not.mp (show ¬ ((0 : Int) ≠ 0) from h29)
              refine e_Ok.ps1 (x := (0, (-1))) (q := 35) 1 rfl ?_
              refine e_Ok.rets rfl rfl ?_
              exact ⟨_, rfl, (e_fr.refl w), hT, trivial⟩
      · refine e_Ok.nrm (q := 18) (st' := [(0, 0)]) rfl rfl ?_
        refine e_Ok.if1 rfl (fun h30 => ?_) (fun h30 => ?_)
        · replace h30 : (0 : Int) = 0 := h30
          refine e_Ok.ps1 (x := (0, (-1))) (q := 35) 1 rfl ?_
          refine e_Ok.rets rfl rfl ?_
          exact ⟨_, rfl, (e_fr.refl w), hT, trivial⟩
        · replace h30 : (0 : Int) ≠ 0 := (show ¬ ((0 : Int) = 0) from h30)
          exfalso; omega
  · refine e_Ok.nrm (q := 6) (st' := [(0, 0)]) rfl rfl ?_
    refine e_Ok.if1 rfl (fun h31 => ?_) (fun h31 => ?_)
    · replace h31 : (0 : Int) = 0 := h31
      refine e_Ok.ps1 (x := (0, (-1))) (q := 35) 1 rfl ?_
      refine e_Ok.rets rfl rfl ?_
      exact ⟨_, rfl, (e_fr.refl w), hT, trivial⟩
    · replace h31 : (0 : Int) ≠ 0 := (show ¬ ((0 : Int) = 0) from h31)
      exfalso; omega
theorem c_282 {d : Nat} (hd : 23 ≤ d) {w : eW} (hT : e_Has mTy w) {p1 p2 p3 p4 p5 : Int} (g1 : 0 ≤ p1 ∧ p1 ≤ 1) (g2 : (-16000) ≤ p2 ∧ p2 ≤ 16000) (g3 : (-16000) ≤ p3 ∧ p3 ≤ 16000) (g4 : (-2147483648) ≤ p4 ∧ p4 ≤ 2147483647) (g5 : (-2147483648) ≤ p5 ∧ p5 ≤ 2147483647) : e_Ok 20 elay ecode eI d 282 (0, [(0, (1, 275)), (1, (0, p1)), (2, (0, p2)), (3, (0, p3)), (4, (0, p4)), (5, (0, p5))], [], w) (fun r w' => ∃ z : Int, r = [(0, z)] ∧ e_fr (mF 23 294 298) w w' ∧ e_Has mTy w' ∧ True) := by
  refine e_Ok.ps1 (x := (1, 275)) (q := 1) 1 rfl ?_
  have h1 := (e_Has.get hT (c := 275) (k := 3) (lo := 0) (hi := 1) (mt_o rfl) (by decide))
  refine e_Ok.getf (z := w 275 3) rfl (el_o rfl) rfl (ef_o rfl) rfl (e_bq h1 (by decide) (by decide)) ?_
  refine e_Ok.if1 rfl (fun h2 => ?_) (fun h2 => ?_)
  · replace h2 : (w 275 3 : Int) = 0 := h2
    refine e_Ok.ps1 (x := (1, 275)) (q := 11) 1 rfl ?_
    have h3 := (e_Has.get hT (c := 275) (k := 23) (lo := 0) (hi := 16) (mt_o rfl) (by decide))
    refine e_Ok.getf (z := w 275 23) rfl (el_o rfl) rfl (ef_o rfl) rfl (e_bq h3 (by decide) (by decide)) ?_
    refine e_Ok.ps1 (x := (0, 16)) (q := 16) 1 rfl ?_
    refine e_Ok.if2 rfl (fun h4 => ?_) (fun h4 => ?_)
    · replace h4 : (w 275 23 : Int) ≠ 16 := h4
      refine e_Ok.ps1 (x := (1, 275)) (q := 23) 1 rfl ?_
      refine e_Ok.getr (z := 294) rfl (el_o rfl) rfl (ef_o rfl) (e_Has.eq hT (mt_o rfl)) ⟨by decide, by decide⟩ ?_
      refine e_Ok.ps1 (x := (1, 275)) (q := 27) 1 rfl ?_
      refine e_Ok.getf (z := w 275 23) rfl (el_o rfl) rfl (ef_o rfl) rfl (by omega) ?_
      refine e_Ok.ps1 (x := (0, p1)) (q := 31) 1 rfl ?_
      refine e_Ok.ast rfl (el_o rfl) rfl (e_nar_b (by omega)) (by omega) ?_
      generalize hw5 : e_up w 294 (w 275 23) p1 = w5
      have hT7 : e_Has mTy w5 := e_Has.upr hT hw5 (mt_o rfl) (by omega)
      refine e_Ok.ps1 (x := (1, 275)) (q := 33) 1 rfl ?_
      refine e_Ok.getr (z := 295) rfl (el_o rfl) rfl (ef_o rfl) (e_uq hw5 (Or.inl (by decide)) (e_Has.eq hT (mt_o rfl))) ⟨by decide, by decide⟩ ?_
      refine e_Ok.ps1 (x := (1, 275)) (q := 37) 1 rfl ?_
      refine e_Ok.getf (z := w 275 23) rfl (el_o rfl) rfl (ef_o rfl) (e_uq hw5 (Or.inl (by decide)) rfl) (by omega) ?_
      refine e_Ok.ps1 (x := (0, p2)) (q := 41) 1 rfl ?_
      refine e_Ok.ast rfl (el_o rfl) rfl rfl (by omega) ?_
      generalize hw8 : e_up w5 295 (w 275 23) p2 = w8
      have hT10 : e_Has mTy w8 := e_Has.upr hT7 hw8 (mt_o rfl) (by omega)
      refine e_Ok.ps1 (x := (1, 275)) (q := 43) 1 rfl ?_
      refine e_Ok.getr (z := 296) rfl (el_o rfl) rfl (ef_o rfl) (e_uq hw8 (Or.inl (by decide)) (e_uq hw5 (Or.inl (by decide)) (e_Has.eq hT (mt_o rfl)))) ⟨by decide, by decide⟩ ?_
      refine e_Ok.ps1 (x := (1, 275)) (q := 47) 1 rfl ?_
      refine e_Ok.getf (z := w 275 23) rfl (el_o rfl) rfl (ef_o rfl) (e_uq hw8 (Or.inl (by decide)) (e_uq hw5 (Or.inl (by decide)) rfl)) (by omega) ?_
      refine e_Ok.ps1 (x := (0, p3)) (q := 51) 1 rfl ?_
      refine e_Ok.ast rfl (el_o rfl) rfl rfl (by omega) ?_
      generalize hw11 : e_up w8 296 (w 275 23) p3 = w11
      have hT13 : e_Has mTy w11 := e_Has.upr hT10 hw11 (mt_o rfl) (by omega)
      refine e_Ok.ps1 (x := (1, 275)) (q := 53) 1 rfl ?_
      refine e_Ok.getr (z := 297) rfl (el_o rfl) rfl (ef_o rfl) (e_uq hw11 (Or.inl (by decide)) (e_uq hw8 (Or.inl (by decide)) (e_uq hw5 (Or.inl (by decide)) (e_Has.eq hT (mt_o rfl))))) ⟨by decide, by decide⟩ ?_
      refine e_Ok.ps1 (x := (1, 275)) (q := 57) 1 rfl ?_
      refine e_Ok.getf (z := w 275 23) rfl (el_o rfl) rfl (ef_o rfl) (e_uq hw11 (Or.inl (by decide)) (e_uq hw8 (Or.inl (by decide)) (e_uq hw5 (Or.inl (by decide)) rfl))) (by omega) ?_
      refine e_Ok.ps1 (x := (0, p4)) (q := 62) 1 rfl ?_
      refine e_Ok.ast rfl (el_o rfl) rfl rfl (by omega) ?_
      generalize hw14 : e_up w11 297 (w 275 23) p4 = w14
      have hT16 : e_Has mTy w14 := e_Has.upr hT13 hw14 (mt_o rfl) (by omega)
      refine e_Ok.ps1 (x := (1, 275)) (q := 64) 1 rfl ?_
      refine e_Ok.getr (z := 298) rfl (el_o rfl) rfl (ef_o rfl) (e_uq hw14 (Or.inl (by decide)) (e_uq hw11 (Or.inl (by decide)) (e_uq hw8 (Or.inl (by decide)) (e_uq hw5 (Or.inl (by decide)) (e_Has.eq hT (mt_o rfl)))))) ⟨by decide, by decide⟩ ?_
      refine e_Ok.ps1 (x := (1, 275)) (q := 68) 1 rfl ?_
      refine e_Ok.getf (z := w 275 23) rfl (el_o rfl) rfl (ef_o rfl) (e_uq hw14 (Or.inl (by decide)) (e_uq hw11 (Or.inl (by decide)) (e_uq hw8 (Or.inl (by decide)) (e_uq hw5 (Or.inl (by decide)) rfl)))) (by omega) ?_
      refine e_Ok.ps1 (x := (0, p5)) (q := 73) 1 rfl ?_
      refine e_Ok.ast rfl (el_o rfl) rfl rfl (by omega) ?_
      generalize hw17 : e_up w14 298 (w 275 23) p5 = w17
      have hT19 : e_Has mTy w17 := e_Has.upr hT16 hw17 (mt_o rfl) (by omega)
      refine e_Ok.ps2 (x := (1, 275)) (y := (1, 275)) (q := 76) 2 rfl ?_
      refine e_Ok.getf (z := w 275 23) rfl (el_o rfl) rfl (ef_o rfl) (e_uq hw17 (Or.inl (by decide)) (e_uq hw14 (Or.inl (by decide)) (e_uq hw11 (Or.inl (by decide)) (e_uq hw8 (Or.inl (by decide)) (e_uq hw5 (Or.inl (by decide)) rfl))))) (by omega) ?_
      refine e_Ok.ps1 (x := (0, 1)) (q := 80) 1 rfl ?_
      refine e_Ok.add (z := w 275 23 + 1) rfl rfl (by omega) ?_
      refine e_Ok.putf rfl (el_o rfl) rfl (ef_o rfl) ?_
      generalize hw20 : e_up w17 275 23 (w 275 23 + 1) = w20
      have hT22 : e_Has mTy w20 := e_Has.upr hT19 hw20 (mt_o rfl) (by omega)
      refine e_Ok.ps1 (x := (1, 275)) (q := 85) 1 rfl ?_
      refine e_Ok.getf (z := w 275 23 + 1) rfl (el_o rfl) rfl (ef_o rfl) (e_ue hw20) (by omega) ?_
      refine e_Ok.ps1 (x := (0, 1)) (q := 89) 1 rfl ?_
      refine e_Ok.sub' (z := w 275 23) rfl (by omega) (by omega) ?_
      refine e_Ok.rets rfl rfl ?_
      exact ⟨_, rfl, (show e_fr (mF 23 294 298) w w20 from e_fr.up (show e_fr (mF 23 294 298) w w17 from e_fr.up (show e_fr (mF 23 294 298) w w14 from e_fr.up (show e_fr (mF 23 294 298) w w11 from e_fr.up (show e_fr (mF 23 294 298) w w8 from e_fr.up (show e_fr (mF 23 294 298) w w5 from e_fr.up (e_fr.refl w) hw5 (by first | exact Or.inr ⟨(by decide), (by decide)⟩ | (unfold mF; omega))) hw8 (by first | exact Or.inr ⟨(by decide), (by decide)⟩ | (unfold mF; omega))) hw11 (by first | exact Or.inr ⟨(by decide), (by decide)⟩ | (unfold mF; omega))) hw14 (by first | exact Or.inr ⟨(by decide), (by decide)⟩ | (unfold mF; omega))) hw17 (by first | exact Or.inr ⟨(by decide), (by decide)⟩ | (unfold mF; omega))) hw20 (by first | exact Or.inl ⟨rfl, rfl⟩ | (unfold mF; omega))), hT22, trivial⟩
    · replace h4 : (w 275 23 : Int) = 16 := Classical.not_not.mp (show ¬ ((w 275 23 : Int) ≠ 16) from h4)
      refine e_Ok.ps1 (x := (0, (-3))) (q := 21) 1 rfl ?_
      refine e_Ok.rets rfl rfl ?_
      exact ⟨_, rfl, (e_fr.refl w), hT, trivial⟩
  · replace h2 : (w 275 3 : Int) ≠ 0 := (show ¬ ((w 275 3 : Int) = 0) from h2)
    refine e_Ok.ps1 (x := (0, (-2))) (q := 9) 1 rfl ?_
    refine e_Ok.rets rfl rfl ?_
    exact ⟨_, rfl, (e_fr.refl w), hT, trivial⟩
theorem c_283 {d : Nat} (hd : 25 ≤ d) {w : eW} (hT : e_Has mTy w) {p1 p2 p3 : Int} (g1 : (-2147483648) ≤ p1 ∧ p1 ≤ 2147483647) (g2 : (-2147483648) ≤ p2 ∧ p2 ≤ 2147483647) (g3 : (-2147483648) ≤ p3 ∧ p3 ≤ 2147483647) : e_Ok 20 elay ecode eI d 283 (0, [(0, (1, 275)), (1, (0, p1)), (2, (0, p2)), (3, (0, p3))], [], w) (fun r w' => ∃ z : Int, r = [(0, z)] ∧ e_fr (mF 23 294 298) w w' ∧ e_Has mTy w' ∧ True) := by
  obtain ⟨d, rfl⟩ : ∃ e, d = e + 1 := ⟨d - 1, by omega⟩
  refine e_Ok.ps2 (x := (0, p2)) (y := (0, p1)) (q := 2) 2 rfl ?_
  refine e_Ok.callS rfl (e_dq hd rfl) rfl rfl (c_272 (e_dq hd rfl)) (fun r1 w2 h3 => ?_)
  obtain ⟨z4, rfl, rfl, q5⟩ := h3
  obtain ⟨rfl, q5⟩ | ⟨rfl, q5⟩ := q5
  · refine e_Ok.nrm (q := 5) (st' := [(0, 1)]) rfl rfl ?_
    refine e_Ok.if1 rfl (fun h6 => ?_) (fun h6 => ?_)
    · replace h6 : (1 : Int) = 0 := h6
      exfalso; omega
    · replace h6 : (1 : Int) ≠ 0 := (show ¬ ((1 : Int) = 0) from h6)
      refine e_Ok.ps3 (x := (4, 8000)) (y := (4, 0)) (z := (4, p3)) (q := 14) 4 rfl ?_
      refine e_Ok.callS rfl (e_dq hd rfl) rfl rfl (c_266) (fun r7 w8 h9 => ?_)
      obtain ⟨z10, rfl, rfl, q11⟩ := h9
      obtain ⟨rfl, q11⟩ | ⟨rfl, q11⟩ := q11
      · refine e_Ok.nrm (q := 17) (st' := [(0, 1)]) rfl rfl ?_
        refine e_Ok.if1 rfl (fun h12 => ?_) (fun h12 => ?_)
        · replace h12 : (1 : Int) = 0 := h12
          exfalso; omega
        · replace h12 : (1 : Int) ≠ 0 := (show ¬ ((1 : Int) = 0) from h12)
          refine e_Ok.run (t' := (26, [(0, (1, 275)), (1, (0, p1)), (2, (0, p2)), (3, (0, p3))], [(0, 0), (0, p3), (0, p2), (0, p1), (0, 0), (1, 275)], w)) 6 rfl ?_
          refine e_Ok.callV rfl (e_dq hd rfl) rfl rfl rfl rfl (c_282 (e_dq hd rfl) hT (by omega) (by omega) (by omega) (by omega) (by omega)) (fun r13 w14 h15 => ?_)
          obtain ⟨z16, rfl, q17, q17T, -⟩ := h15
          refine e_Ok.nrm (q := 29) (st' := [(0, z16)]) rfl rfl ?_
          refine e_Ok.ps0 (q := 33) 1 rfl ?_
          refine e_Ok.rets rfl rfl ?_
          exact ⟨_, rfl, (show e_fr (mF 23 294 298) w w14 from e_fr.trans (e_fr.refl w) (e_fr.mono q17 (fun c k q => by exact q))), q17T, trivial⟩
      · refine e_Ok.nrm (q := 17) (st' := [(0, 0)]) rfl rfl ?_
        refine e_Ok.if1 rfl (fun h19 => ?_) (fun h19 => ?_)
        · replace h19 : (0 : Int) = 0 := h19
          refine e_Ok.ps1 (x := (0, (-1))) (q := 33) 1 rfl ?_
          refine e_Ok.rets rfl rfl ?_
          exact ⟨_, rfl, (e_fr.refl w), hT, trivial⟩
        · replace h19 : (0 : Int) ≠ 0 := (show ¬ ((0 : Int) = 0) from h19)
          exfalso; omega
  · refine e_Ok.nrm (q := 5) (st' := [(0, 0)]) rfl rfl ?_
    refine e_Ok.if1 rfl (fun h20 => ?_) (fun h20 => ?_)
    · replace h20 : (0 : Int) = 0 := h20
      refine e_Ok.ps1 (x := (0, (-1))) (q := 33) 1 rfl ?_
      refine e_Ok.rets rfl rfl ?_
      exact ⟨_, rfl, (e_fr.refl w), hT, trivial⟩
    · replace h20 : (0 : Int) ≠ 0 := (show ¬ ((0 : Int) = 0) from h20)
      exfalso; omega
theorem c_284 {d : Nat} (hd : 25 ≤ d) {w : eW} (hT : e_Has mTy w) {p1 p2 p3 p4 : Int} (g1 : (-2147483648) ≤ p1 ∧ p1 ≤ 2147483647) (g2 : (-2147483648) ≤ p2 ∧ p2 ≤ 2147483647) (g3 : (-2147483648) ≤ p3 ∧ p3 ≤ 2147483647) (g4 : (-2147483648) ≤ p4 ∧ p4 ≤ 2147483647) : e_Ok 20 elay ecode eI d 284 (0, [(0, (1, 275)), (1, (0, p1)), (2, (0, p2)), (3, (0, p3)), (4, (0, p4))], [], w) (fun r w' => ∃ z : Int, r = [(0, z)] ∧ e_fr (mF 23 294 298) w w' ∧ e_Has mTy w' ∧ True) := by
  obtain ⟨d, rfl⟩ : ∃ e, d = e + 1 := ⟨d - 1, by omega⟩
  refine e_Ok.ps4 (x := (0, p4)) (y := (0, p3)) (z := (0, p2)) (u := (0, p1)) (q := 5) 4 rfl ?_
  refine e_Ok.callS rfl (e_dq hd rfl) rfl rfl (c_273 (e_dq hd rfl) (by omega) (by omega)) (fun r1 w2 h3 => ?_)
  obtain ⟨z4, rfl, rfl, q5⟩ := h3
  obtain ⟨rfl, q5⟩ | ⟨rfl, q5⟩ := q5
  · refine e_Ok.nrm (q := 8) (st' := [(0, 1)]) rfl rfl ?_
    refine e_Ok.if1 rfl (fun h6 => ?_) (fun h6 => ?_)
    · replace h6 : (1 : Int) = 0 := h6
      exfalso; omega
    · replace h6 : (1 : Int) ≠ 0 := (show ¬ ((1 : Int) = 0) from h6)
      refine e_Ok.run (t' := (18, [(0, (1, 275)), (1, (0, p1)), (2, (0, p2)), (3, (0, p3)), (4, (0, p4))], [(0, p4), (0, p3), (0, p2), (0, p1), (0, 1), (1, 275)], w)) 6 rfl ?_
      refine e_Ok.callV rfl (e_dq hd rfl) rfl rfl rfl rfl (c_282 (e_dq hd rfl) hT (by omega) (by omega) (by omega) (by omega) (by omega)) (fun r7 w8 h9 => ?_)
      obtain ⟨z10, rfl, q11, q11T, -⟩ := h9
      refine e_Ok.nrm (q := 21) (st' := [(0, z10)]) rfl rfl ?_
      refine e_Ok.ps0 (q := 25) 1 rfl ?_
      refine e_Ok.rets rfl rfl ?_
      exact ⟨_, rfl, (show e_fr (mF 23 294 298) w w8 from e_fr.trans (e_fr.refl w) (e_fr.mono q11 (fun c k q => by exact q))), q11T, trivial⟩
  · refine e_Ok.nrm (q := 8) (st' := [(0, 0)]) rfl rfl ?_
    refine e_Ok.if1 rfl (fun h13 => ?_) (fun h13 => ?_)
    · replace h13 : (0 : Int) = 0 := h13
      refine e_Ok.ps1 (x := (0, (-1))) (q := 25) 1 rfl ?_
      refine e_Ok.rets rfl rfl ?_
      exact ⟨_, rfl, (e_fr.refl w), hT, trivial⟩
    · replace h13 : (0 : Int) ≠ 0 := (show ¬ ((0 : Int) = 0) from h13)
      exfalso; omega
theorem c_285 {d : Nat} (hd : 23 ≤ d) {w : eW} (hT : e_Has mTy w) {p1 p2 p3 : Int} (g1 : (-2147483648) ≤ p1 ∧ p1 ≤ 2147483647) (g2 : (-2147483648) ≤ p2 ∧ p2 ≤ 2147483647) (g3 : (-2147483648) ≤ p3 ∧ p3 ≤ 2147483647) : e_Ok 20 elay ecode eI d 285 (0, [(0, (1, 275)), (1, (0, p1)), (2, (0, p2)), (3, (0, p3))], [], w) (fun r w' => ∃ z : Int, r = [(0, z)] ∧ e_fr (mF (-1) 299 299) w w' ∧ e_Has mTy w' ∧ True) := by
  obtain ⟨d, rfl⟩ : ∃ e, d = e + 1 := ⟨d - 1, by omega⟩
  refine e_Ok.ps2 (x := (0, p1)) (y := (1, 275)) (q := 2) 2 rfl ?_
  refine e_Ok.callV rfl (e_dq hd rfl) rfl rfl rfl rfl (c_270 (e_dq hd rfl) hT) (fun r1 w2 h3 => ?_)
  have h4 := e_Has.get hT (c := 275) (k := 10) (lo := 0) (hi := 4) (mt_o rfl) (by decide)
  obtain ⟨z5, rfl, rfl, q6⟩ := h3
  obtain ⟨rfl, q6⟩ | ⟨rfl, q6⟩ := q6
  · refine e_Ok.nrm (q := 5) (st' := [(0, 1)]) rfl rfl ?_
    refine e_Ok.if1 rfl (fun h7 => ?_) (fun h7 => ?_)
    · replace h7 : (1 : Int) = 0 := h7
      exfalso; omega
    · replace h7 : (1 : Int) ≠ 0 := (show ¬ ((1 : Int) = 0) from h7)
      refine e_Ok.ps3 (x := (4, 6)) (y := (4, 0)) (z := (4, p2)) (q := 14) 4 rfl ?_
      refine e_Ok.callS rfl (e_dq hd rfl) rfl rfl (c_266) (fun r8 w9 h10 => ?_)
      obtain ⟨z11, rfl, rfl, q12⟩ := h10
      obtain ⟨rfl, q12⟩ | ⟨rfl, q12⟩ := q12
      · refine e_Ok.nrm (q := 17) (st' := [(0, 1)]) rfl rfl ?_
        refine e_Ok.if1 rfl (fun h13 => ?_) (fun h13 => ?_)
        · replace h13 : (1 : Int) = 0 := h13
          exfalso; omega
        · replace h13 : (1 : Int) ≠ 0 := (show ¬ ((1 : Int) = 0) from h13)
          refine e_Ok.ps3 (x := (1, 275)) (y := (4, 0)) (z := (4, p3)) (q := 24) 4 rfl ?_
          have h14 := (e_Has.get hT (c := 275) (k := 23) (lo := 0) (hi := 16) (mt_o rfl) (by decide))
          refine e_Ok.getf (z := w 275 23) rfl (el_o rfl) rfl (ef_o rfl) rfl (e_bq h14 (by decide) (by decide)) ?_
          refine e_Ok.ps1 (x := (0, 1)) (q := 28) 1 rfl ?_
          refine e_Ok.sub' (z := w 275 23 - 1) rfl rfl (by omega) ?_
          refine e_Ok.run (t' := (30, [(0, (1, 275)), (1, (0, p1)), (2, (0, p2)), (3, (0, p3))], [(4, w 275 23 - 1), (4, 0), (4, p3)], w)) 1 rfl ?_
          refine e_Ok.callS rfl (e_dq hd rfl) rfl rfl (c_266) (fun r15 w16 h17 => ?_)
          obtain ⟨z18, rfl, rfl, q19⟩ := h17
          obtain ⟨rfl, q19⟩ | ⟨rfl, q19⟩ := q19
          · refine e_Ok.nrm (q := 33) (st' := [(0, 1)]) rfl rfl ?_
            refine e_Ok.if1 rfl (fun h20 => ?_) (fun h20 => ?_)
            · replace h20 : (1 : Int) ≠ 0 := h20
              refine e_Ok.ps1 (x := (1, 275)) (q := 39) 1 rfl ?_
              have h21 := (e_Has.get hT (c := 275) (k := 3) (lo := 0) (hi := 1) (mt_o rfl) (by decide))
              refine e_Ok.getf (z := w 275 3) rfl (el_o rfl) rfl (ef_o rfl) rfl (e_bq h21 (by decide) (by decide)) ?_
              refine e_Ok.if1 rfl (fun h22 => ?_) (fun h22 => ?_)
              · replace h22 : (w 275 3 : Int) = 0 := h22
                refine e_Ok.ps2 (x := (0, p1)) (y := (0, 112)) (q := 51) 2 rfl ?_
                refine e_Ok.mul (z := 112 * p1) rfl rfl (by omega) ?_
                refine e_Ok.ps2 (x := (0, p2)) (y := (0, 16)) (q := 55) 2 rfl ?_
                refine e_Ok.mul (z := 16 * p2) rfl rfl (by omega) ?_
                refine e_Ok.add (z := 112 * p1 + 16 * p2) rfl rfl (by omega) ?_
                refine e_Ok.ps1 (x := (0, p3)) (q := 58) 1 rfl ?_
                refine e_Ok.add (z := 112 * p1 + 16 * p2 + p3) rfl rfl (by omega) ?_
                refine e_Ok.run (t' := (62, [(4, (0, 112 * p1 + 16 * p2 + p3)), (0, (1, 275)), (1, (0, p1)), (2, (0, p2)), (3, (0, p3))], [(1, 275)], w)) 2 rfl ?_
                refine e_Ok.getr (z := 299) rfl (el_o rfl) rfl (ef_o rfl) (e_Has.eq hT (mt_o rfl)) ⟨by decide, by decide⟩ ?_
                refine e_Ok.ps1 (x := (0, 112 * p1 + 16 * p2 + p3)) (q := 67) 1 rfl ?_
                have h23 := (e_Has.get hT (c := 299) (k := 112 * p1 + 16 * p2 + p3) (lo := 0) (hi := 1) (mt_o rfl) (by decide))
                refine e_Ok.ald (z := w 299 (112 * p1 + 16 * p2 + p3)) rfl (el_o rfl) rfl (by omega) rfl (e_bq h23 (by decide) (by decide)) ?_
                refine e_Ok.if1 rfl (fun h24 => ?_) (fun h24 => ?_)
                · replace h24 : (w 299 (112 * p1 + 16 * p2 + p3) : Int) = 0 := h24
                  refine e_Ok.run (t' := (79, [(5, (0, 1)), (4, (0, 112 * p1 + 16 * p2 + p3)), (0, (1, 275)), (1, (0, p1)), (2, (0, p2)), (3, (0, p3))], [(1, 275)], w)) 3 rfl ?_
                  refine e_Ok.getr (z := 299) rfl (el_o rfl) rfl (ef_o rfl) (e_Has.eq hT (mt_o rfl)) ⟨by decide, by decide⟩ ?_
                  refine e_Ok.ps2 (x := (0, 1)) (y := (0, 112 * p1 + 16 * p2 + p3)) (q := 85) 2 rfl ?_
                  refine e_Ok.ast rfl (el_o rfl) rfl (e_nar_b (by omega)) (by omega) ?_
                  generalize hw25 : e_up w 299 (112 * p1 + 16 * p2 + p3) 1 = w25
                  have hT27 : e_Has mTy w25 := e_Has.upr hT hw25 (mt_o rfl) (by omega)
                  refine e_Ok.ps1 (x := (0, 1)) (q := 88) 1 rfl ?_
                  refine e_Ok.rets rfl rfl ?_
                  exact ⟨_, rfl, (show e_fr (mF (-1) 299 299) w w25 from e_fr.up (e_fr.refl w) hw25 (by first | exact Or.inr ⟨(by decide), (by decide)⟩ | (unfold mF; omega))), hT27, trivial⟩
                · replace h24 : (w 299 (112 * p1 + 16 * p2 + p3) : Int) ≠ 0 := (show ¬ ((w 299 (112 * p1 + 16 * p2 + p3) : Int) = 0) from h24)
                  refine e_Ok.run (t' := (79, [(5, (0, 0)), (4, (0, 112 * p1 + 16 * p2 + p3)), (0, (1, 275)), (1, (0, p1)), (2, (0, p2)), (3, (0, p3))], [(1, 275)], w)) 4 rfl ?_
                  refine e_Ok.getr (z := 299) rfl (el_o rfl) rfl (ef_o rfl) (e_Has.eq hT (mt_o rfl)) ⟨by decide, by decide⟩ ?_
                  refine e_Ok.ps2 (x := (0, 1)) (y := (0, 112 * p1 + 16 * p2 + p3)) (q := 85) 2 rfl ?_
                  refine e_Ok.ast rfl (el_o rfl) rfl (e_nar_b (by omega)) (by omega) ?_
                  generalize hw28 : e_up w 299 (112 * p1 + 16 * p2 + p3) 1 = w28
                  have hT30 : e_Has mTy w28 := e_Has.upr hT hw28 (mt_o rfl) (by omega)
                  refine e_Ok.ps1 (x := (0, 0)) (q := 88) 1 rfl ?_
                  refine e_Ok.rets rfl rfl ?_
                  exact ⟨_, rfl, (show e_fr (mF (-1) 299 299) w w28 from e_fr.up (e_fr.refl w) hw28 (by first | exact Or.inr ⟨(by decide), (by decide)⟩ | (unfold mF; omega))), hT30, trivial⟩
              · replace h22 : (w 275 3 : Int) ≠ 0 := (show ¬ ((w 275 3 : Int) = 0) from h22)
                refine e_Ok.ps1 (x := (0, (-2))) (q := 47) 1 rfl ?_
                refine e_Ok.rets rfl rfl ?_
                exact ⟨_, rfl, (e_fr.refl w), hT, trivial⟩
            · replace h20 : (1 : Int) = 0 := Classical.not_not.mp (show ¬ ((1 : Int) ≠ 0) from h20)
              exfalso; omega
          · refine e_Ok.nrm (q := 33) (st' := [(0, 0)]) rfl rfl ?_
            refine e_Ok.if1 rfl (fun h31 => ?_) (fun h31 => ?_)
            · replace h31 : (0 : Int) ≠ 0 := h31
              exfalso; omega
            · replace h31 : (0 : Int) = 0 := Classical.not_not.mp (show ¬ ((0 : Int) ≠ 0) from h31)
              refine e_Ok.ps1 (x := (0, (-1))) (q := 37) 1 rfl ?_
              refine e_Ok.rets rfl rfl ?_
              exact ⟨_, rfl, (e_fr.refl w), hT, trivial⟩
      · refine e_Ok.nrm (q := 17) (st' := [(0, 0)]) rfl rfl ?_
        refine e_Ok.if1 rfl (fun h32 => ?_) (fun h32 => ?_)
        · replace h32 : (0 : Int) = 0 := h32
          refine e_Ok.ps1 (x := (0, (-1))) (q := 37) 1 rfl ?_
          refine e_Ok.rets rfl rfl ?_
          exact ⟨_, rfl, (e_fr.refl w), hT, trivial⟩
        · replace h32 : (0 : Int) ≠ 0 := (show ¬ ((0 : Int) = 0) from h32)
          exfalso; omega
  · refine e_Ok.nrm (q := 5) (st' := [(0, 0)]) rfl rfl ?_
    refine e_Ok.if1 rfl (fun h33 => ?_) (fun h33 => ?_)
    · replace h33 : (0 : Int) = 0 := h33
      refine e_Ok.ps1 (x := (0, (-1))) (q := 37) 1 rfl ?_
      refine e_Ok.rets rfl rfl ?_
      exact ⟨_, rfl, (e_fr.refl w), hT, trivial⟩
    · replace h33 : (0 : Int) ≠ 0 := (show ¬ ((0 : Int) = 0) from h33)
      exfalso; omega
set_option maxHeartbeats 4000000 in
theorem c_286 {d : Nat} (hd : 23 ≤ d) {w : eW} (hT : e_Has mTy w) {p1 p2 p3 p4 p5 : Int} (g1 : (-2147483648) ≤ p1 ∧ p1 ≤ 2147483647) (g2 : (-2147483648) ≤ p2 ∧ p2 ≤ 2147483647) (g3 : (-2147483648) ≤ p3 ∧ p3 ≤ 2147483647) (g4 : (-2147483648) ≤ p4 ∧ p4 ≤ 2147483647) (g5 : (-2147483648) ≤ p5 ∧ p5 ≤ 2147483647) : e_Ok 20 elay ecode eI d 286 (0, [(0, (1, 275)), (1, (0, p1)), (2, (0, p2)), (3, (0, p3)), (4, (0, p4)), (5, (0, p5))], [], w) (fun r w' => ∃ z : Int, r = [(0, z)] ∧ e_fr (mF 30 300 306) w w' ∧ e_Has mTy w' ∧ True) := by
  obtain ⟨d, rfl⟩ : ∃ e, d = e + 1 := ⟨d - 1, by omega⟩
  refine e_Ok.ps2 (x := (0, p2)) (y := (0, p1)) (q := 2) 2 rfl ?_
  refine e_Ok.callS rfl (e_dq hd rfl) rfl rfl (c_272 (e_dq hd rfl)) (fun r1 w2 h3 => ?_)
  obtain ⟨z4, rfl, rfl, q5⟩ := h3
  obtain ⟨rfl, q5⟩ | ⟨rfl, q5⟩ := q5
  · refine e_Ok.nrm (q := 5) (st' := [(0, 1)]) rfl rfl ?_
    refine e_Ok.if1 rfl (fun h6 => ?_) (fun h6 => ?_)
    · replace h6 : (1 : Int) = 0 := h6
      exfalso; omega
    · replace h6 : (1 : Int) ≠ 0 := (show ¬ ((1 : Int) = 0) from h6)
      refine e_Ok.ps3 (x := (4, 3)) (y := (4, 0)) (z := (4, p3)) (q := 14) 4 rfl ?_
      refine e_Ok.callS rfl (e_dq hd rfl) rfl rfl (c_266) (fun r7 w8 h9 => ?_)
      obtain ⟨z10, rfl, rfl, q11⟩ := h9
      obtain ⟨rfl, q11⟩ | ⟨rfl, q11⟩ := q11
      · refine e_Ok.nrm (q := 17) (st' := [(0, 1)]) rfl rfl ?_
        refine e_Ok.if1 rfl (fun h12 => ?_) (fun h12 => ?_)
        · replace h12 : (1 : Int) = 0 := h12
          exfalso; omega
        · replace h12 : (1 : Int) ≠ 0 := (show ¬ ((1 : Int) = 0) from h12)
          refine e_Ok.ps3 (x := (4, 16000)) (y := (4, 0)) (z := (4, p4)) (q := 27) 4 rfl ?_
          refine e_Ok.callS rfl (e_dq hd rfl) rfl rfl (c_266) (fun r13 w14 h15 => ?_)
          obtain ⟨z16, rfl, rfl, q17⟩ := h15
          obtain ⟨rfl, q17⟩ | ⟨rfl, q17⟩ := q17
          · refine e_Ok.nrm (q := 30) (st' := [(0, 1)]) rfl rfl ?_
            refine e_Ok.if1 rfl (fun h18 => ?_) (fun h18 => ?_)
            · replace h18 : (1 : Int) = 0 := h18
              exfalso; omega
            · replace h18 : (1 : Int) ≠ 0 := (show ¬ ((1 : Int) = 0) from h18)
              refine e_Ok.ps3 (x := (4, 2000)) (y := (4, 0)) (z := (4, p5)) (q := 40) 4 rfl ?_
              refine e_Ok.callS rfl (e_dq hd rfl) rfl rfl (c_266) (fun r19 w20 h21 => ?_)
              obtain ⟨z22, rfl, rfl, q23⟩ := h21
              obtain ⟨rfl, q23⟩ | ⟨rfl, q23⟩ := q23
              · refine e_Ok.nrm (q := 43) (st' := [(0, 1)]) rfl rfl ?_
                refine e_Ok.if1 rfl (fun h24 => ?_) (fun h24 => ?_)
                · replace h24 : (1 : Int) ≠ 0 := h24
                  have hC99 : e_Ok 20 elay ecode eI (d + 1) 286 (99, [(0, (1, 275)), (1, (0, p1)), (2, (0, p2)), (3, (0, p3)), (4, (0, p4)), (5, (0, p5))], [], w) (fun r w' => ∃ z : Int, r = [(0, z)] ∧ e_fr (mF 30 300 306) w w' ∧ e_Has mTy w' ∧ True) := by
                    refine e_Ok.run (t' := (100, [(0, (1, 275)), (1, (0, p1)), (2, (0, p2)), (3, (0, p3)), (4, (0, p4)), (5, (0, p5))], [(1, 275)], w)) 1 rfl ?_
                    have h25 := (e_Has.get hT (c := 275) (k := 3) (lo := 0) (hi := 1) (mt_o rfl) (by decide))
                    refine e_Ok.getf (z := w 275 3) rfl (el_o rfl) rfl (ef_o rfl) rfl (e_bq h25 (by decide) (by decide)) ?_
                    refine e_Ok.if1 rfl (fun h26 => ?_) (fun h26 => ?_)
                    · replace h26 : (w 275 3 : Int) = 0 := h26
                      refine e_Ok.ps1 (x := (1, 275)) (q := 110) 1 rfl ?_
                      have h27 := (e_Has.get hT (c := 275) (k := 30) (lo := 0) (hi := 4) (mt_o rfl) (by decide))
                      refine e_Ok.getf (z := w 275 30) rfl (el_o rfl) rfl (ef_o rfl) rfl (e_bq h27 (by decide) (by decide)) ?_
                      refine e_Ok.ps1 (x := (0, 4)) (q := 114) 1 rfl ?_
                      refine e_Ok.if2 rfl (fun h28 => ?_) (fun h28 => ?_)
                      · replace h28 : (w 275 30 : Int) ≠ 4 := h28
                        refine e_Ok.ps1 (x := (1, 275)) (q := 121) 1 rfl ?_
                        refine e_Ok.getr (z := 300) rfl (el_o rfl) rfl (ef_o rfl) (e_Has.eq hT (mt_o rfl)) ⟨by decide, by decide⟩ ?_
                        refine e_Ok.ps1 (x := (1, 275)) (q := 125) 1 rfl ?_
                        refine e_Ok.getf (z := w 275 30) rfl (el_o rfl) rfl (ef_o rfl) rfl (by omega) ?_
                        refine e_Ok.ps1 (x := (0, p1)) (q := 129) 1 rfl ?_
                        refine e_Ok.ast rfl (el_o rfl) rfl rfl (by omega) ?_
                        generalize hw29 : e_up w 300 (w 275 30) p1 = w29
                        have hT31 : e_Has mTy w29 := e_Has.upr hT hw29 (mt_o rfl) (by omega)
                        refine e_Ok.ps1 (x := (1, 275)) (q := 131) 1 rfl ?_
                        refine e_Ok.getr (z := 301) rfl (el_o rfl) rfl (ef_o rfl) (e_uq hw29 (Or.inl (by decide)) (e_Has.eq hT (mt_o rfl))) ⟨by decide, by decide⟩ ?_
                        refine e_Ok.ps1 (x := (1, 275)) (q := 135) 1 rfl ?_
                        refine e_Ok.getf (z := w 275 30) rfl (el_o rfl) rfl (ef_o rfl) (e_uq hw29 (Or.inl (by decide)) rfl) (by omega) ?_
                        refine e_Ok.ps1 (x := (0, p2)) (q := 139) 1 rfl ?_
                        refine e_Ok.ast rfl (el_o rfl) rfl rfl (by omega) ?_
                        generalize hw32 : e_up w29 301 (w 275 30) p2 = w32
                        have hT34 : e_Has mTy w32 := e_Has.upr hT31 hw32 (mt_o rfl) (by omega)
                        refine e_Ok.ps1 (x := (1, 275)) (q := 141) 1 rfl ?_
                        refine e_Ok.getr (z := 302) rfl (el_o rfl) rfl (ef_o rfl) (e_uq hw32 (Or.inl (by decide)) (e_uq hw29 (Or.inl (by decide)) (e_Has.eq hT (mt_o rfl)))) ⟨by decide, by decide⟩ ?_
                        refine e_Ok.ps1 (x := (1, 275)) (q := 145) 1 rfl ?_
                        refine e_Ok.getf (z := w 275 30) rfl (el_o rfl) rfl (ef_o rfl) (e_uq hw32 (Or.inl (by decide)) (e_uq hw29 (Or.inl (by decide)) rfl)) (by omega) ?_
                        refine e_Ok.ps1 (x := (0, p3)) (q := 149) 1 rfl ?_
                        refine e_Ok.ast rfl (el_o rfl) rfl rfl (by omega) ?_
                        generalize hw35 : e_up w32 302 (w 275 30) p3 = w35
                        have hT37 : e_Has mTy w35 := e_Has.upr hT34 hw35 (mt_o rfl) (by omega)
                        refine e_Ok.ps1 (x := (1, 275)) (q := 151) 1 rfl ?_
                        refine e_Ok.getr (z := 303) rfl (el_o rfl) rfl (ef_o rfl) (e_uq hw35 (Or.inl (by decide)) (e_uq hw32 (Or.inl (by decide)) (e_uq hw29 (Or.inl (by decide)) (e_Has.eq hT (mt_o rfl))))) ⟨by decide, by decide⟩ ?_
                        refine e_Ok.ps1 (x := (1, 275)) (q := 155) 1 rfl ?_
                        refine e_Ok.getf (z := w 275 30) rfl (el_o rfl) rfl (ef_o rfl) (e_uq hw35 (Or.inl (by decide)) (e_uq hw32 (Or.inl (by decide)) (e_uq hw29 (Or.inl (by decide)) rfl))) (by omega) ?_
                        refine e_Ok.ps1 (x := (0, p4)) (q := 160) 1 rfl ?_
                        refine e_Ok.ast rfl (el_o rfl) rfl rfl (by omega) ?_
                        generalize hw38 : e_up w35 303 (w 275 30) p4 = w38
                        have hT41 : e_Has mTy w38 := e_Has.upr hT37 hw38 (mt_o rfl) (by omega)
                        refine e_Ok.ps1 (x := (1, 275)) (q := 162) 1 rfl ?_
                        refine e_Ok.getr (z := 304) rfl (el_o rfl) rfl (ef_o rfl) (e_uq hw38 (Or.inl (by decide)) (e_uq hw35 (Or.inl (by decide)) (e_uq hw32 (Or.inl (by decide)) (e_uq hw29 (Or.inl (by decide)) (e_Has.eq hT (mt_o rfl)))))) ⟨by decide, by decide⟩ ?_
                        refine e_Ok.ps1 (x := (1, 275)) (q := 166) 1 rfl ?_
                        refine e_Ok.getf (z := w 275 30) rfl (el_o rfl) rfl (ef_o rfl) (e_uq hw38 (Or.inl (by decide)) (e_uq hw35 (Or.inl (by decide)) (e_uq hw32 (Or.inl (by decide)) (e_uq hw29 (Or.inl (by decide)) rfl)))) (by omega) ?_
                        refine e_Ok.ps1 (x := (0, 0)) (q := 170) 1 rfl ?_
                        refine e_Ok.ast rfl (el_o rfl) rfl rfl (by omega) ?_
                        generalize hw42 : e_up w38 304 (w 275 30) 0 = w42
                        have hT44 : e_Has mTy w42 := e_Has.upr hT41 hw42 (mt_o rfl) (by omega)
                        refine e_Ok.ps1 (x := (1, 275)) (q := 172) 1 rfl ?_
                        refine e_Ok.getr (z := 306) rfl (el_o rfl) rfl (ef_o rfl) (e_uq hw42 (Or.inl (by decide)) (e_uq hw38 (Or.inl (by decide)) (e_uq hw35 (Or.inl (by decide)) (e_uq hw32 (Or.inl (by decide)) (e_uq hw29 (Or.inl (by decide)) (e_Has.eq hT (mt_o rfl))))))) ⟨by decide, by decide⟩ ?_
                        refine e_Ok.ps1 (x := (1, 275)) (q := 176) 1 rfl ?_
                        refine e_Ok.getf (z := w 275 30) rfl (el_o rfl) rfl (ef_o rfl) (e_uq hw42 (Or.inl (by decide)) (e_uq hw38 (Or.inl (by decide)) (e_uq hw35 (Or.inl (by decide)) (e_uq hw32 (Or.inl (by decide)) (e_uq hw29 (Or.inl (by decide)) rfl))))) (by omega) ?_
                        refine e_Ok.ps1 (x := (0, (-1))) (q := 180) 1 rfl ?_
                        refine e_Ok.ast rfl (el_o rfl) rfl rfl (by omega) ?_
                        generalize hw45 : e_up w42 306 (w 275 30) (-1) = w45
                        have hT47 : e_Has mTy w45 := e_Has.upr hT44 hw45 (mt_o rfl) (by omega)
                        refine e_Ok.ps1 (x := (1, 275)) (q := 182) 1 rfl ?_
                        refine e_Ok.getr (z := 305) rfl (el_o rfl) rfl (ef_o rfl) (e_uq hw45 (Or.inl (by decide)) (e_uq hw42 (Or.inl (by decide)) (e_uq hw38 (Or.inl (by decide)) (e_uq hw35 (Or.inl (by decide)) (e_uq hw32 (Or.inl (by decide)) (e_uq hw29 (Or.inl (by decide)) (e_Has.eq hT (mt_o rfl)))))))) ⟨by decide, by decide⟩ ?_
                        refine e_Ok.ps1 (x := (1, 275)) (q := 186) 1 rfl ?_
                        refine e_Ok.getf (z := w 275 30) rfl (el_o rfl) rfl (ef_o rfl) (e_uq hw45 (Or.inl (by decide)) (e_uq hw42 (Or.inl (by decide)) (e_uq hw38 (Or.inl (by decide)) (e_uq hw35 (Or.inl (by decide)) (e_uq hw32 (Or.inl (by decide)) (e_uq hw29 (Or.inl (by decide)) rfl)))))) (by omega) ?_
                        refine e_Ok.ps1 (x := (0, p5)) (q := 191) 1 rfl ?_
                        refine e_Ok.ast rfl (el_o rfl) rfl rfl (by omega) ?_
                        generalize hw48 : e_up w45 305 (w 275 30) p5 = w48
                        have hT50 : e_Has mTy w48 := e_Has.upr hT47 hw48 (mt_o rfl) (by omega)
                        refine e_Ok.ps2 (x := (1, 275)) (y := (1, 275)) (q := 194) 2 rfl ?_
                        refine e_Ok.getf (z := w 275 30) rfl (el_o rfl) rfl (ef_o rfl) (e_uq hw48 (Or.inl (by decide)) (e_uq hw45 (Or.inl (by decide)) (e_uq hw42 (Or.inl (by decide)) (e_uq hw38 (Or.inl (by decide)) (e_uq hw35 (Or.inl (by decide)) (e_uq hw32 (Or.inl (by decide)) (e_uq hw29 (Or.inl (by decide)) rfl))))))) (by omega) ?_
                        refine e_Ok.ps1 (x := (0, 1)) (q := 198) 1 rfl ?_
                        refine e_Ok.add (z := w 275 30 + 1) rfl rfl (by omega) ?_
                        refine e_Ok.putf rfl (el_o rfl) rfl (ef_o rfl) ?_
                        generalize hw51 : e_up w48 275 30 (w 275 30 + 1) = w51
                        have hT53 : e_Has mTy w51 := e_Has.upr hT50 hw51 (mt_o rfl) (by omega)
                        refine e_Ok.ps1 (x := (1, 275)) (q := 203) 1 rfl ?_
                        refine e_Ok.getf (z := w 275 30 + 1) rfl (el_o rfl) rfl (ef_o rfl) (e_ue hw51) (by omega) ?_
                        refine e_Ok.ps1 (x := (0, 1)) (q := 207) 1 rfl ?_
                        refine e_Ok.sub' (z := w 275 30) rfl (by omega) (by omega) ?_
                        refine e_Ok.rets rfl rfl ?_
                        exact ⟨_, rfl, (show e_fr (mF 30 300 306) w w51 from e_fr.up (show e_fr (mF 30 300 306) w w48 from e_fr.up (show e_fr (mF 30 300 306) w w45 from e_fr.up (show e_fr (mF 30 300 306) w w42 from e_fr.up (show e_fr (mF 30 300 306) w w38 from e_fr.up (show e_fr (mF 30 300 306) w w35 from e_fr.up (show e_fr (mF 30 300 306) w w32 from e_fr.up (show e_fr (mF 30 300 306) w w29 from e_fr.up (e_fr.refl w) hw29 (by first | exact Or.inr ⟨(by decide), (by decide)⟩ | (unfold mF; omega))) hw32 (by first | exact Or.inr ⟨(by decide), (by decide)⟩ | (unfold mF; omega))) hw35 (by first | exact Or.inr ⟨(by decide), (by decide)⟩ | (unfold mF; omega))) hw38 (by first | exact Or.inr ⟨(by decide), (by decide)⟩ | (unfold mF; omega))) hw42 (by first | exact Or.inr ⟨(by decide), (by decide)⟩ | (unfold mF; omega))) hw45 (by first | exact Or.inr ⟨(by decide), (by decide)⟩ | (unfold mF; omega))) hw48 (by first | exact Or.inr ⟨(by decide), (by decide)⟩ | (unfold mF; omega))) hw51 (by first | exact Or.inl ⟨rfl, rfl⟩ | (unfold mF; omega))), hT53, trivial⟩
                      · replace h28 : (w 275 30 : Int) = 4 := Classical.not_not.mp (show ¬ ((w 275 30 : Int) ≠ 4) from h28)
                        refine e_Ok.ps1 (x := (0, (-3))) (q := 119) 1 rfl ?_
                        refine e_Ok.rets rfl rfl ?_
                        exact ⟨_, rfl, (e_fr.refl w), hT, trivial⟩
                    · replace h26 : (w 275 3 : Int) ≠ 0 := (show ¬ ((w 275 3 : Int) = 0) from h26)
                      refine e_Ok.ps1 (x := (0, (-2))) (q := 108) 1 rfl ?_
                      refine e_Ok.rets rfl rfl ?_
                      exact ⟨_, rfl, (e_fr.refl w), hT, trivial⟩
                  refine e_Ok.run (t' := (50, [(0, (1, 275)), (1, (0, p1)), (2, (0, p2)), (3, (0, p3)), (4, (0, p4)), (5, (0, p5))], [(0, 2), (0, p3)], w)) 2 rfl ?_
                  refine e_Ok.if2 rfl (fun h54 => ?_) (fun h54 => ?_)
                  · replace h54 : (p3 : Int) ≥ 2 := h54
                    refine e_Ok.ps1 (x := (0, p4)) (q := 60) 1 rfl ?_
                    refine e_Ok.neg (z := -p4) rfl (by omega) (by omega) ?_
                    refine e_Ok.run (t' := (65, [(6, (0, -p4)), (0, (1, 275)), (1, (0, p1)), (2, (0, p2)), (3, (0, p3)), (4, (0, p4)), (5, (0, p5))], [(0, 2), (0, p3)], w)) 3 rfl ?_
                    refine e_Ok.remn (fun z55 hz55 => ?_) rfl (by omega) (by omega)
                    replace hz55 : z55 = p3 % 2 := hz55
                    have z55r : 0 ≤ z55 ∧ z55 ≤ 1 := by omega
                    refine e_Ok.if1 rfl (fun h56 => ?_) (fun h56 => ?_)
                    · replace h56 : (z55 : Int) ≠ 0 := h56
                      refine e_Ok.ps3 (x := (0, 2)) (y := (0, p3)) (z := (0, p1)) (q := 79) 3 rfl ?_
                      refine e_Ok.remn (fun z57 hz57 => ?_) rfl (by omega) (by omega)
                      replace hz57 : z57 = p3 % 2 := hz57
                      have z57r : 0 ≤ z57 ∧ z57 ≤ 1 := by omega
                      refine e_Ok.if1 rfl (fun h58 => ?_) (fun h58 => ?_)
                      · replace h58 : (z57 : Int) ≠ 0 := h58
                        refine e_Ok.ps2 (x := (0, -p4)) (y := (0, p2)) (q := 90) 2 rfl ?_
                        refine e_Ok.add (z := p2 - p4) rfl (by omega) (by omega) ?_
                        refine e_Ok.callS rfl (e_dq hd rfl) rfl rfl (c_272 (e_dq hd rfl)) (fun r59 w60 h61 => ?_)
                        obtain ⟨z62, rfl, rfl, q63⟩ := h61
                        obtain ⟨rfl, q63⟩ | ⟨rfl, q63⟩ := q63
                        · refine e_Ok.nrm (q := 94) (st' := [(0, 1)]) rfl rfl ?_
                          refine e_Ok.if1 rfl (fun h64 => ?_) (fun h64 => ?_)
                          · replace h64 : (1 : Int) ≠ 0 := h64
                            refine e_Ok.sub eAlk (e_sub_of rfl ?_) hC99
                            exact ⟨rfl, rfl, rfl, rfl, rfl, rfl, trivial⟩
                          · replace h64 : (1 : Int) = 0 := Classical.not_not.mp (show ¬ ((1 : Int) ≠ 0) from h64)
                            exfalso; omega
                        · refine e_Ok.nrm (q := 94) (st' := [(0, 0)]) rfl rfl ?_
                          refine e_Ok.if1 rfl (fun h65 => ?_) (fun h65 => ?_)
                          · replace h65 : (0 : Int) ≠ 0 := h65
                            exfalso; omega
                          · replace h65 : (0 : Int) = 0 := Classical.not_not.mp (show ¬ ((0 : Int) ≠ 0) from h65)
                            refine e_Ok.ps1 (x := (0, (-1))) (q := 98) 1 rfl ?_
                            refine e_Ok.rets rfl rfl ?_
                            exact ⟨_, rfl, (e_fr.refl w), hT, trivial⟩
                      · replace h58 : (z57 : Int) = 0 := Classical.not_not.mp (show ¬ ((z57 : Int) ≠ 0) from h58)
                        refine e_Ok.ps1 (x := (0, p2)) (q := 91) 2 rfl ?_
                        refine e_Ok.callS rfl (e_dq hd rfl) rfl rfl (c_272 (e_dq hd rfl)) (fun r66 w67 h68 => ?_)
                        obtain ⟨z69, rfl, rfl, q70⟩ := h68
                        obtain ⟨rfl, q70⟩ | ⟨rfl, q70⟩ := q70
                        · refine e_Ok.nrm (q := 94) (st' := [(0, 1)]) rfl rfl ?_
                          refine e_Ok.if1 rfl (fun h71 => ?_) (fun h71 => ?_)
                          · replace h71 : (1 : Int) ≠ 0 := h71
                            refine e_Ok.sub eAlk (e_sub_of rfl ?_) hC99
                            exact ⟨rfl, rfl, rfl, rfl, rfl, rfl, trivial⟩
                          · replace h71 : (1 : Int) = 0 := Classical.not_not.mp (show ¬ ((1 : Int) ≠ 0) from h71)
                            exfalso; omega
                        · refine e_Ok.nrm (q := 94) (st' := [(0, 0)]) rfl rfl ?_
                          refine e_Ok.if1 rfl (fun h72 => ?_) (fun h72 => ?_)
                          · replace h72 : (0 : Int) ≠ 0 := h72
                            exfalso; omega
                          · replace h72 : (0 : Int) = 0 := Classical.not_not.mp (show ¬ ((0 : Int) ≠ 0) from h72)
                            refine e_Ok.ps1 (x := (0, (-1))) (q := 98) 1 rfl ?_
                            refine e_Ok.rets rfl rfl ?_
                            exact ⟨_, rfl, (e_fr.refl w), hT, trivial⟩
                    · replace h56 : (z55 : Int) = 0 := Classical.not_not.mp (show ¬ ((z55 : Int) ≠ 0) from h56)
                      refine e_Ok.ps2 (x := (0, -p4)) (y := (0, p1)) (q := 72) 2 rfl ?_
                      refine e_Ok.add (z := p1 - p4) rfl (by omega) (by omega) ?_
                      refine e_Ok.ps2 (x := (0, 2)) (y := (0, p3)) (q := 79) 3 rfl ?_
                      refine e_Ok.remn (fun z73 hz73 => ?_) rfl (by omega) (by omega)
                      replace hz73 : z73 = p3 % 2 := hz73
                      have z73r : 0 ≤ z73 ∧ z73 ≤ 1 := by omega
                      refine e_Ok.if1 rfl (fun h74 => ?_) (fun h74 => ?_)
                      · replace h74 : (z73 : Int) ≠ 0 := h74
                        refine e_Ok.ps2 (x := (0, -p4)) (y := (0, p2)) (q := 90) 2 rfl ?_
                        refine e_Ok.add (z := p2 - p4) rfl (by omega) (by omega) ?_
                        refine e_Ok.callS rfl (e_dq hd rfl) rfl rfl (c_272 (e_dq hd rfl)) (fun r75 w76 h77 => ?_)
                        obtain ⟨z78, rfl, rfl, q79⟩ := h77
                        obtain ⟨rfl, q79⟩ | ⟨rfl, q79⟩ := q79
                        · refine e_Ok.nrm (q := 94) (st' := [(0, 1)]) rfl rfl ?_
                          refine e_Ok.if1 rfl (fun h80 => ?_) (fun h80 => ?_)
                          · replace h80 : (1 : Int) ≠ 0 := h80
                            refine e_Ok.sub eAlk (e_sub_of rfl ?_) hC99
                            exact ⟨rfl, rfl, rfl, rfl, rfl, rfl, trivial⟩
                          · replace h80 : (1 : Int) = 0 := Classical.not_not.mp (show ¬ ((1 : Int) ≠ 0) from h80)
                            exfalso; omega
                        · refine e_Ok.nrm (q := 94) (st' := [(0, 0)]) rfl rfl ?_
                          refine e_Ok.if1 rfl (fun h81 => ?_) (fun h81 => ?_)
                          · replace h81 : (0 : Int) ≠ 0 := h81
                            exfalso; omega
                          · replace h81 : (0 : Int) = 0 := Classical.not_not.mp (show ¬ ((0 : Int) ≠ 0) from h81)
                            refine e_Ok.ps1 (x := (0, (-1))) (q := 98) 1 rfl ?_
                            refine e_Ok.rets rfl rfl ?_
                            exact ⟨_, rfl, (e_fr.refl w), hT, trivial⟩
                      · replace h74 : (z73 : Int) = 0 := Classical.not_not.mp (show ¬ ((z73 : Int) ≠ 0) from h74)
                        refine e_Ok.ps1 (x := (0, p2)) (q := 91) 2 rfl ?_
                        refine e_Ok.callS rfl (e_dq hd rfl) rfl rfl (c_272 (e_dq hd rfl)) (fun r82 w83 h84 => ?_)
                        obtain ⟨z85, rfl, rfl, q86⟩ := h84
                        obtain ⟨rfl, q86⟩ | ⟨rfl, q86⟩ := q86
                        · refine e_Ok.nrm (q := 94) (st' := [(0, 1)]) rfl rfl ?_
                          refine e_Ok.if1 rfl (fun h87 => ?_) (fun h87 => ?_)
                          · replace h87 : (1 : Int) ≠ 0 := h87
                            refine e_Ok.sub eAlk (e_sub_of rfl ?_) hC99
                            exact ⟨rfl, rfl, rfl, rfl, rfl, rfl, trivial⟩
                          · replace h87 : (1 : Int) = 0 := Classical.not_not.mp (show ¬ ((1 : Int) ≠ 0) from h87)
                            exfalso; omega
                        · refine e_Ok.nrm (q := 94) (st' := [(0, 0)]) rfl rfl ?_
                          refine e_Ok.if1 rfl (fun h88 => ?_) (fun h88 => ?_)
                          · replace h88 : (0 : Int) ≠ 0 := h88
                            exfalso; omega
                          · replace h88 : (0 : Int) = 0 := Classical.not_not.mp (show ¬ ((0 : Int) ≠ 0) from h88)
                            refine e_Ok.ps1 (x := (0, (-1))) (q := 98) 1 rfl ?_
                            refine e_Ok.rets rfl rfl ?_
                            exact ⟨_, rfl, (e_fr.refl w), hT, trivial⟩
                  · replace h54 : (p3 : Int) < 2 := Int.not_le.mp (show ¬ ((p3 : Int) ≥ 2) from h54)
                    refine e_Ok.run (t' := (65, [(6, (0, p4)), (0, (1, 275)), (1, (0, p1)), (2, (0, p2)), (3, (0, p3)), (4, (0, p4)), (5, (0, p5))], [(0, 2), (0, p3)], w)) 5 rfl ?_
                    refine e_Ok.remn (fun z89 hz89 => ?_) rfl (by omega) (by omega)
                    replace hz89 : z89 = p3 % 2 := hz89
                    have z89r : 0 ≤ z89 ∧ z89 ≤ 1 := by omega
                    refine e_Ok.if1 rfl (fun h90 => ?_) (fun h90 => ?_)
                    · replace h90 : (z89 : Int) ≠ 0 := h90
                      refine e_Ok.ps3 (x := (0, 2)) (y := (0, p3)) (z := (0, p1)) (q := 79) 3 rfl ?_
                      refine e_Ok.remn (fun z91 hz91 => ?_) rfl (by omega) (by omega)
                      replace hz91 : z91 = p3 % 2 := hz91
                      have z91r : 0 ≤ z91 ∧ z91 ≤ 1 := by omega
                      refine e_Ok.if1 rfl (fun h92 => ?_) (fun h92 => ?_)
                      · replace h92 : (z91 : Int) ≠ 0 := h92
                        refine e_Ok.ps2 (x := (0, p4)) (y := (0, p2)) (q := 90) 2 rfl ?_
                        refine e_Ok.add (z := p2 + p4) rfl rfl (by omega) ?_
                        refine e_Ok.callS rfl (e_dq hd rfl) rfl rfl (c_272 (e_dq hd rfl)) (fun r93 w94 h95 => ?_)
                        obtain ⟨z101, rfl, rfl, q103⟩ := h95
                        obtain ⟨rfl, q103⟩ | ⟨rfl, q103⟩ := q103
                        · refine e_Ok.nrm (q := 94) (st' := [(0, 1)]) rfl rfl ?_
                          refine e_Ok.if1 rfl (fun h104 => ?_) (fun h104 => ?_)
                          · replace h104 : (1 : Int) ≠ 0 := h104
                            refine e_Ok.sub eAlk (e_sub_of rfl ?_) hC99
                            exact ⟨rfl, rfl, rfl, rfl, rfl, rfl, trivial⟩
                          · replace h104 : (1 : Int) = 0 := Classical.not_not.mp (show ¬ ((1 : Int) ≠ 0) from h104)
                            exfalso; omega
                        · refine e_Ok.nrm (q := 94) (st' := [(0, 0)]) rfl rfl ?_
                          refine e_Ok.if1 rfl (fun h105 => ?_) (fun h105 => ?_)
                          · replace h105 : (0 : Int) ≠ 0 := h105
                            exfalso; omega
                          · replace h105 : (0 : Int) = 0 := Classical.not_not.mp (show ¬ ((0 : Int) ≠ 0) from h105)
                            refine e_Ok.ps1 (x := (0, (-1))) (q := 98) 1 rfl ?_
                            refine e_Ok.rets rfl rfl ?_
                            exact ⟨_, rfl, (e_fr.refl w), hT, trivial⟩
                      · replace h92 : (z91 : Int) = 0 := Classical.not_not.mp (show ¬ ((z91 : Int) ≠ 0) from h92)
                        refine e_Ok.ps1 (x := (0, p2)) (q := 91) 2 rfl ?_
                        refine e_Ok.callS rfl (e_dq hd rfl) rfl rfl (c_272 (e_dq hd rfl)) (fun r106 w107 h108 => ?_)
                        obtain ⟨z109, rfl, rfl, q110⟩ := h108
                        obtain ⟨rfl, q110⟩ | ⟨rfl, q110⟩ := q110
                        · refine e_Ok.nrm (q := 94) (st' := [(0, 1)]) rfl rfl ?_
                          refine e_Ok.if1 rfl (fun h111 => ?_) (fun h111 => ?_)
                          · replace h111 : (1 : Int) ≠ 0 := h111
                            refine e_Ok.sub eAlk (e_sub_of rfl ?_) hC99
                            exact ⟨rfl, rfl, rfl, rfl, rfl, rfl, trivial⟩
                          · replace h111 : (1 : Int) = 0 := Classical.not_not.mp (show ¬ ((1 : Int) ≠ 0) from h111)
                            exfalso; omega
                        · refine e_Ok.nrm (q := 94) (st' := [(0, 0)]) rfl rfl ?_
                          refine e_Ok.if1 rfl (fun h112 => ?_) (fun h112 => ?_)
                          · replace h112 : (0 : Int) ≠ 0 := h112
                            exfalso; omega
                          · replace h112 : (0 : Int) = 0 := Classical.not_not.mp (show ¬ ((0 : Int) ≠ 0) from h112)
                            refine e_Ok.ps1 (x := (0, (-1))) (q := 98) 1 rfl ?_
                            refine e_Ok.rets rfl rfl ?_
                            exact ⟨_, rfl, (e_fr.refl w), hT, trivial⟩
                    · replace h90 : (z89 : Int) = 0 := Classical.not_not.mp (show ¬ ((z89 : Int) ≠ 0) from h90)
                      refine e_Ok.ps2 (x := (0, p4)) (y := (0, p1)) (q := 72) 2 rfl ?_
                      refine e_Ok.add (z := p1 + p4) rfl rfl (by omega) ?_
                      refine e_Ok.ps2 (x := (0, 2)) (y := (0, p3)) (q := 79) 3 rfl ?_
                      refine e_Ok.remn (fun z113 hz113 => ?_) rfl (by omega) (by omega)
                      replace hz113 : z113 = p3 % 2 := hz113
                      have z113r : 0 ≤ z113 ∧ z113 ≤ 1 := by omega
                      refine e_Ok.if1 rfl (fun h114 => ?_) (fun h114 => ?_)
                      · replace h114 : (z113 : Int) ≠ 0 := h114
                        refine e_Ok.ps2 (x := (0, p4)) (y := (0, p2)) (q := 90) 2 rfl ?_
                        refine e_Ok.add (z := p2 + p4) rfl rfl (by omega) ?_
                        refine e_Ok.callS rfl (e_dq hd rfl) rfl rfl (c_272 (e_dq hd rfl)) (fun r115 w116 h117 => ?_)
                        obtain ⟨z118, rfl, rfl, q119⟩ := h117
                        obtain ⟨rfl, q119⟩ | ⟨rfl, q119⟩ := q119
                        · refine e_Ok.nrm (q := 94) (st' := [(0, 1)]) rfl rfl ?_
                          refine e_Ok.if1 rfl (fun h120 => ?_) (fun h120 => ?_)
                          · replace h120 : (1 : Int) ≠ 0 := h120
                            refine e_Ok.sub eAlk (e_sub_of rfl ?_) hC99
                            exact ⟨rfl, rfl, rfl, rfl, rfl, rfl, trivial⟩
                          · replace h120 : (1 : Int) = 0 := Classical.not_not.mp (show ¬ ((1 : Int) ≠ 0) from h120)
                            exfalso; omega
                        · refine e_Ok.nrm (q := 94) (st' := [(0, 0)]) rfl rfl ?_
                          refine e_Ok.if1 rfl (fun h121 => ?_) (fun h121 => ?_)
                          · replace h121 : (0 : Int) ≠ 0 := h121
                            exfalso; omega
                          · replace h121 : (0 : Int) = 0 := Classical.not_not.mp (show ¬ ((0 : Int) ≠ 0) from h121)
                            refine e_Ok.ps1 (x := (0, (-1))) (q := 98) 1 rfl ?_
                            refine e_Ok.rets rfl rfl ?_
                            exact ⟨_, rfl, (e_fr.refl w), hT, trivial⟩
                      · replace h114 : (z113 : Int) = 0 := Classical.not_not.mp (show ¬ ((z113 : Int) ≠ 0) from h114)
                        refine e_Ok.ps1 (x := (0, p2)) (q := 91) 2 rfl ?_
                        refine e_Ok.callS rfl (e_dq hd rfl) rfl rfl (c_272 (e_dq hd rfl)) (fun r122 w123 h124 => ?_)
                        obtain ⟨z125, rfl, rfl, q126⟩ := h124
                        obtain ⟨rfl, q126⟩ | ⟨rfl, q126⟩ := q126
                        · refine e_Ok.nrm (q := 94) (st' := [(0, 1)]) rfl rfl ?_
                          refine e_Ok.if1 rfl (fun h127 => ?_) (fun h127 => ?_)
                          · replace h127 : (1 : Int) ≠ 0 := h127
                            refine e_Ok.sub eAlk (e_sub_of rfl ?_) hC99
                            exact ⟨rfl, rfl, rfl, rfl, rfl, rfl, trivial⟩
                          · replace h127 : (1 : Int) = 0 := Classical.not_not.mp (show ¬ ((1 : Int) ≠ 0) from h127)
                            exfalso; omega
                        · refine e_Ok.nrm (q := 94) (st' := [(0, 0)]) rfl rfl ?_
                          refine e_Ok.if1 rfl (fun h128 => ?_) (fun h128 => ?_)
                          · replace h128 : (0 : Int) ≠ 0 := h128
                            exfalso; omega
                          · replace h128 : (0 : Int) = 0 := Classical.not_not.mp (show ¬ ((0 : Int) ≠ 0) from h128)
                            refine e_Ok.ps1 (x := (0, (-1))) (q := 98) 1 rfl ?_
                            refine e_Ok.rets rfl rfl ?_
                            exact ⟨_, rfl, (e_fr.refl w), hT, trivial⟩
                · replace h24 : (1 : Int) = 0 := Classical.not_not.mp (show ¬ ((1 : Int) ≠ 0) from h24)
                  exfalso; omega
              · refine e_Ok.nrm (q := 43) (st' := [(0, 0)]) rfl rfl ?_
                refine e_Ok.if1 rfl (fun h129 => ?_) (fun h129 => ?_)
                · replace h129 : (0 : Int) ≠ 0 := h129
                  exfalso; omega
                · replace h129 : (0 : Int) = 0 := Classical.not_not.mp (show ¬ ((0 : Int) ≠ 0) from h129)
                  refine e_Ok.ps1 (x := (0, (-1))) (q := 47) 1 rfl ?_
                  refine e_Ok.rets rfl rfl ?_
                  exact ⟨_, rfl, (e_fr.refl w), hT, trivial⟩
          · refine e_Ok.nrm (q := 30) (st' := [(0, 0)]) rfl rfl ?_
            refine e_Ok.if1 rfl (fun h130 => ?_) (fun h130 => ?_)
            · replace h130 : (0 : Int) = 0 := h130
              refine e_Ok.ps1 (x := (0, (-1))) (q := 47) 1 rfl ?_
              refine e_Ok.rets rfl rfl ?_
              exact ⟨_, rfl, (e_fr.refl w), hT, trivial⟩
            · replace h130 : (0 : Int) ≠ 0 := (show ¬ ((0 : Int) = 0) from h130)
              exfalso; omega
      · refine e_Ok.nrm (q := 17) (st' := [(0, 0)]) rfl rfl ?_
        refine e_Ok.if1 rfl (fun h131 => ?_) (fun h131 => ?_)
        · replace h131 : (0 : Int) = 0 := h131
          refine e_Ok.ps1 (x := (0, (-1))) (q := 47) 1 rfl ?_
          refine e_Ok.rets rfl rfl ?_
          exact ⟨_, rfl, (e_fr.refl w), hT, trivial⟩
        · replace h131 : (0 : Int) ≠ 0 := (show ¬ ((0 : Int) = 0) from h131)
          exfalso; omega
  · refine e_Ok.nrm (q := 5) (st' := [(0, 0)]) rfl rfl ?_
    refine e_Ok.if1 rfl (fun h132 => ?_) (fun h132 => ?_)
    · replace h132 : (0 : Int) = 0 := h132
      refine e_Ok.ps1 (x := (0, (-1))) (q := 47) 1 rfl ?_
      refine e_Ok.rets rfl rfl ?_
      exact ⟨_, rfl, (e_fr.refl w), hT, trivial⟩
    · replace h132 : (0 : Int) ≠ 0 := (show ¬ ((0 : Int) = 0) from h132)
      exfalso; omega
theorem c_287 {d : Nat} (hd : 23 ≤ d) {w : eW} (hT : e_Has mTy w) {p1 p2 : Int} (g1 : (-2147483648) ≤ p1 ∧ p1 ≤ 2147483647) (g2 : (-2147483648) ≤ p2 ∧ p2 ≤ 2147483647) : e_Ok 20 elay ecode eI d 287 (0, [(0, (1, 275)), (1, (0, p1)), (2, (0, p2))], [], w) (fun r w' => ∃ z : Int, r = [(0, z)] ∧ e_fr (mF (-1) 304 304) w w' ∧ e_Has mTy w' ∧ True) := by
  obtain ⟨d, rfl⟩ : ∃ e, d = e + 1 := ⟨d - 1, by omega⟩
  refine e_Ok.ps3 (x := (1, 275)) (y := (4, 0)) (z := (4, p1)) (q := 4) 4 rfl ?_
  have h1 := (e_Has.get hT (c := 275) (k := 30) (lo := 0) (hi := 4) (mt_o rfl) (by decide))
  refine e_Ok.getf (z := w 275 30) rfl (el_o rfl) rfl (ef_o rfl) rfl (e_bq h1 (by decide) (by decide)) ?_
  refine e_Ok.ps1 (x := (0, 1)) (q := 8) 1 rfl ?_
  refine e_Ok.sub' (z := w 275 30 - 1) rfl rfl (by omega) ?_
  refine e_Ok.run (t' := (10, [(0, (1, 275)), (1, (0, p1)), (2, (0, p2))], [(4, w 275 30 - 1), (4, 0), (4, p1)], w)) 1 rfl ?_
  refine e_Ok.callS rfl (e_dq hd rfl) rfl rfl (c_266) (fun r2 w3 h4 => ?_)
  obtain ⟨z5, rfl, rfl, q6⟩ := h4
  obtain ⟨rfl, q6⟩ | ⟨rfl, q6⟩ := q6
  · refine e_Ok.nrm (q := 13) (st' := [(0, 1)]) rfl rfl ?_
    refine e_Ok.if1 rfl (fun h7 => ?_) (fun h7 => ?_)
    · replace h7 : (1 : Int) = 0 := h7
      exfalso; omega
    · replace h7 : (1 : Int) ≠ 0 := (show ¬ ((1 : Int) = 0) from h7)
      refine e_Ok.ps3 (x := (4, 100)) (y := (4, 0)) (z := (4, p2)) (q := 22) 4 rfl ?_
      refine e_Ok.callS rfl (e_dq hd rfl) rfl rfl (c_266) (fun r8 w9 h10 => ?_)
      obtain ⟨z11, rfl, rfl, q12⟩ := h10
      obtain ⟨rfl, q12⟩ | ⟨rfl, q12⟩ := q12
      · refine e_Ok.nrm (q := 25) (st' := [(0, 1)]) rfl rfl ?_
        refine e_Ok.if1 rfl (fun h13 => ?_) (fun h13 => ?_)
        · replace h13 : (1 : Int) ≠ 0 := h13
          refine e_Ok.ps1 (x := (1, 275)) (q := 31) 1 rfl ?_
          have h14 := (e_Has.get hT (c := 275) (k := 3) (lo := 0) (hi := 1) (mt_o rfl) (by decide))
          refine e_Ok.getf (z := w 275 3) rfl (el_o rfl) rfl (ef_o rfl) rfl (e_bq h14 (by decide) (by decide)) ?_
          refine e_Ok.if1 rfl (fun h15 => ?_) (fun h15 => ?_)
          · replace h15 : (w 275 3 : Int) = 0 := h15
            refine e_Ok.ps1 (x := (1, 275)) (q := 41) 1 rfl ?_
            refine e_Ok.getr (z := 304) rfl (el_o rfl) rfl (ef_o rfl) (e_Has.eq hT (mt_o rfl)) ⟨by decide, by decide⟩ ?_
            refine e_Ok.ps1 (x := (0, p1)) (q := 45) 1 rfl ?_
            have h16 := (e_Has.get hT (c := 304) (k := p1) (lo := 0) (hi := 100) (mt_o rfl) (by decide))
            refine e_Ok.ald (z := w 304 p1) rfl (el_o rfl) rfl (by omega) rfl (e_bq h16 (by decide) (by decide)) ?_
            refine e_Ok.run (t' := (48, [(3, (0, w 304 p1)), (0, (1, 275)), (1, (0, p1)), (2, (0, p2))], [(1, 275)], w)) 2 rfl ?_
            refine e_Ok.getr (z := 304) rfl (el_o rfl) rfl (ef_o rfl) (e_Has.eq hT (mt_o rfl)) ⟨by decide, by decide⟩ ?_
            refine e_Ok.ps2 (x := (0, p2)) (y := (0, p1)) (q := 53) 2 rfl ?_
            refine e_Ok.ast rfl (el_o rfl) rfl rfl (by omega) ?_
            generalize hw17 : e_up w 304 p1 p2 = w17
            have hT19 : e_Has mTy w17 := e_Has.upr hT hw17 (mt_o rfl) (by omega)
            refine e_Ok.ps1 (x := (0, w 304 p1)) (q := 55) 1 rfl ?_
            refine e_Ok.rets rfl rfl ?_
            exact ⟨_, rfl, (show e_fr (mF (-1) 304 304) w w17 from e_fr.up (e_fr.refl w) hw17 (by first | exact Or.inr ⟨(by decide), (by decide)⟩ | (unfold mF; omega))), hT19, trivial⟩
          · replace h15 : (w 275 3 : Int) ≠ 0 := (show ¬ ((w 275 3 : Int) = 0) from h15)
            refine e_Ok.ps1 (x := (0, (-2))) (q := 39) 1 rfl ?_
            refine e_Ok.rets rfl rfl ?_
            exact ⟨_, rfl, (e_fr.refl w), hT, trivial⟩
        · replace h13 : (1 : Int) = 0 := Classical.not_not.mp (show ¬ ((1 : Int) ≠ 0) from h13)
          exfalso; omega
      · refine e_Ok.nrm (q := 25) (st' := [(0, 0)]) rfl rfl ?_
        refine e_Ok.if1 rfl (fun h20 => ?_) (fun h20 => ?_)
        · replace h20 : (0 : Int) ≠ 0 := h20
          exfalso; omega
        · replace h20 : (0 : Int) = 0 := Classical.not_not.mp (show ¬ ((0 : Int) ≠ 0) from h20)
          refine e_Ok.ps1 (x := (0, (-1))) (q := 29) 1 rfl ?_
          refine e_Ok.rets rfl rfl ?_
          exact ⟨_, rfl, (e_fr.refl w), hT, trivial⟩
  · refine e_Ok.nrm (q := 13) (st' := [(0, 0)]) rfl rfl ?_
    refine e_Ok.if1 rfl (fun h21 => ?_) (fun h21 => ?_)
    · replace h21 : (0 : Int) = 0 := h21
      refine e_Ok.ps1 (x := (0, (-1))) (q := 29) 1 rfl ?_
      refine e_Ok.rets rfl rfl ?_
      exact ⟨_, rfl, (e_fr.refl w), hT, trivial⟩
    · replace h21 : (0 : Int) ≠ 0 := (show ¬ ((0 : Int) = 0) from h21)
      exfalso; omega
theorem c_288 {d : Nat} (hd : 23 ≤ d) {w : eW} (hT : e_Has mTy w) {p1 p2 p3 p4 : Int} (g1 : (-2147483648) ≤ p1 ∧ p1 ≤ 2147483647) (g2 : (-2147483648) ≤ p2 ∧ p2 ≤ 2147483647) (g3 : (-2147483648) ≤ p3 ∧ p3 ≤ 2147483647) (g4 : (-2147483648) ≤ p4 ∧ p4 ≤ 2147483647) : e_Ok 20 elay ecode eI d 288 (0, [(0, (1, 275)), (1, (0, p1)), (2, (0, p2)), (3, (0, p3)), (4, (0, p4))], [], w) (fun r w' => ∃ z : Int, r = [(0, z)] ∧ e_fr (mF (-1) 306 308) w w' ∧ e_Has mTy w' ∧ True) := by
  obtain ⟨d, rfl⟩ : ∃ e, d = e + 1 := ⟨d - 1, by omega⟩
  refine e_Ok.ps3 (x := (1, 275)) (y := (4, 0)) (z := (4, p1)) (q := 4) 4 rfl ?_
  have h1 := (e_Has.get hT (c := 275) (k := 30) (lo := 0) (hi := 4) (mt_o rfl) (by decide))
  refine e_Ok.getf (z := w 275 30) rfl (el_o rfl) rfl (ef_o rfl) rfl (e_bq h1 (by decide) (by decide)) ?_
  refine e_Ok.ps1 (x := (0, 1)) (q := 8) 1 rfl ?_
  refine e_Ok.sub' (z := w 275 30 - 1) rfl rfl (by omega) ?_
  refine e_Ok.run (t' := (10, [(0, (1, 275)), (1, (0, p1)), (2, (0, p2)), (3, (0, p3)), (4, (0, p4))], [(4, w 275 30 - 1), (4, 0), (4, p1)], w)) 1 rfl ?_
  refine e_Ok.callS rfl (e_dq hd rfl) rfl rfl (c_266) (fun r2 w3 h4 => ?_)
  obtain ⟨z5, rfl, rfl, q6⟩ := h4
  obtain ⟨rfl, q6⟩ | ⟨rfl, q6⟩ := q6
  · refine e_Ok.nrm (q := 13) (st' := [(0, 1)]) rfl rfl ?_
    refine e_Ok.if1 rfl (fun h7 => ?_) (fun h7 => ?_)
    · replace h7 : (1 : Int) = 0 := h7
      exfalso; omega
    · replace h7 : (1 : Int) ≠ 0 := (show ¬ ((1 : Int) = 0) from h7)
      refine e_Ok.ps3 (x := (4, 63)) (y := (4, 0)) (z := (4, p2)) (q := 22) 4 rfl ?_
      refine e_Ok.callS rfl (e_dq hd rfl) rfl rfl (c_266) (fun r8 w9 h10 => ?_)
      obtain ⟨z11, rfl, rfl, q12⟩ := h10
      obtain ⟨rfl, q12⟩ | ⟨rfl, q12⟩ := q12
      · refine e_Ok.nrm (q := 25) (st' := [(0, 1)]) rfl rfl ?_
        refine e_Ok.if1 rfl (fun h13 => ?_) (fun h13 => ?_)
        · replace h13 : (1 : Int) = 0 := h13
          exfalso; omega
        · replace h13 : (1 : Int) ≠ 0 := (show ¬ ((1 : Int) = 0) from h13)
          refine e_Ok.ps1 (x := (0, p3)) (q := 29) 1 rfl ?_
          refine e_Ok.if1 rfl (fun h14 => ?_) (fun h14 => ?_)
          · replace h14 : (p3 : Int) < 0 := h14
            refine e_Ok.ps1 (x := (0, (-1))) (q := 39) 1 rfl ?_
            refine e_Ok.rets rfl rfl ?_
            exact ⟨_, rfl, (e_fr.refl w), hT, trivial⟩
          · replace h14 : (p3 : Int) ≥ 0 := Int.not_lt.mp (show ¬ ((p3 : Int) < 0) from h14)
            refine e_Ok.ps2 (x := (0, p3)) (y := (0, p4)) (q := 35) 2 rfl ?_
            refine e_Ok.if2 rfl (fun h15 => ?_) (fun h15 => ?_)
            · replace h15 : (p4 : Int) ≥ p3 := h15
              refine e_Ok.ps1 (x := (1, 275)) (q := 41) 1 rfl ?_
              have h16 := (e_Has.get hT (c := 275) (k := 3) (lo := 0) (hi := 1) (mt_o rfl) (by decide))
              refine e_Ok.getf (z := w 275 3) rfl (el_o rfl) rfl (ef_o rfl) rfl (e_bq h16 (by decide) (by decide)) ?_
              refine e_Ok.if1 rfl (fun h17 => ?_) (fun h17 => ?_)
              · replace h17 : (w 275 3 : Int) = 0 := h17
                refine e_Ok.ps1 (x := (1, 275)) (q := 51) 1 rfl ?_
                refine e_Ok.getr (z := 306) rfl (el_o rfl) rfl (ef_o rfl) (e_Has.eq hT (mt_o rfl)) ⟨by decide, by decide⟩ ?_
                refine e_Ok.ps2 (x := (0, p2)) (y := (0, p1)) (q := 56) 2 rfl ?_
                refine e_Ok.ast rfl (el_o rfl) rfl rfl (by omega) ?_
                generalize hw18 : e_up w 306 p1 p2 = w18
                have hT20 : e_Has mTy w18 := e_Has.upr hT hw18 (mt_o rfl) (by omega)
                refine e_Ok.ps1 (x := (1, 275)) (q := 58) 1 rfl ?_
                refine e_Ok.getr (z := 307) rfl (el_o rfl) rfl (ef_o rfl) (e_uq hw18 (Or.inl (by decide)) (e_Has.eq hT (mt_o rfl))) ⟨by decide, by decide⟩ ?_
                refine e_Ok.ps2 (x := (0, p3)) (y := (0, p1)) (q := 63) 2 rfl ?_
                refine e_Ok.ast rfl (el_o rfl) rfl rfl (by omega) ?_
                generalize hw21 : e_up w18 307 p1 p3 = w21
                have hT23 : e_Has mTy w21 := e_Has.upr hT20 hw21 (mt_o rfl) (by omega)
                refine e_Ok.ps1 (x := (1, 275)) (q := 65) 1 rfl ?_
                refine e_Ok.getr (z := 308) rfl (el_o rfl) rfl (ef_o rfl) (e_uq hw21 (Or.inl (by decide)) (e_uq hw18 (Or.inl (by decide)) (e_Has.eq hT (mt_o rfl)))) ⟨by decide, by decide⟩ ?_
                refine e_Ok.ps2 (x := (0, p4)) (y := (0, p1)) (q := 71) 2 rfl ?_
                refine e_Ok.ast rfl (el_o rfl) rfl rfl (by omega) ?_
                generalize hw24 : e_up w21 308 p1 p4 = w24
                have hT26 : e_Has mTy w24 := e_Has.upr hT23 hw24 (mt_o rfl) (by omega)
                refine e_Ok.ps1 (x := (0, 0)) (q := 73) 1 rfl ?_
                refine e_Ok.rets rfl rfl ?_
                exact ⟨_, rfl, (show e_fr (mF (-1) 306 308) w w24 from e_fr.up (show e_fr (mF (-1) 306 308) w w21 from e_fr.up (show e_fr (mF (-1) 306 308) w w18 from e_fr.up (e_fr.refl w) hw18 (by first | exact Or.inr ⟨(by decide), (by decide)⟩ | (unfold mF; omega))) hw21 (by first | exact Or.inr ⟨(by decide), (by decide)⟩ | (unfold mF; omega))) hw24 (by first | exact Or.inr ⟨(by decide), (by decide)⟩ | (unfold mF; omega))), hT26, trivial⟩
              · replace h17 : (w 275 3 : Int) ≠ 0 := (show ¬ ((w 275 3 : Int) = 0) from h17)
                refine e_Ok.ps1 (x := (0, (-2))) (q := 49) 1 rfl ?_
                refine e_Ok.rets rfl rfl ?_
                exact ⟨_, rfl, (e_fr.refl w), hT, trivial⟩
            · replace h15 : (p4 : Int) < p3 := Int.not_le.mp (show ¬ ((p4 : Int) ≥ p3) from h15)
              refine e_Ok.ps1 (x := (0, (-1))) (q := 39) 1 rfl ?_
              refine e_Ok.rets rfl rfl ?_
              exact ⟨_, rfl, (e_fr.refl w), hT, trivial⟩
      · refine e_Ok.nrm (q := 25) (st' := [(0, 0)]) rfl rfl ?_
        refine e_Ok.if1 rfl (fun h27 => ?_) (fun h27 => ?_)
        · replace h27 : (0 : Int) = 0 := h27
          refine e_Ok.ps1 (x := (0, (-1))) (q := 39) 1 rfl ?_
          refine e_Ok.rets rfl rfl ?_
          exact ⟨_, rfl, (e_fr.refl w), hT, trivial⟩
        · replace h27 : (0 : Int) ≠ 0 := (show ¬ ((0 : Int) = 0) from h27)
          exfalso; omega
  · refine e_Ok.nrm (q := 13) (st' := [(0, 0)]) rfl rfl ?_
    refine e_Ok.if1 rfl (fun h28 => ?_) (fun h28 => ?_)
    · replace h28 : (0 : Int) = 0 := h28
      refine e_Ok.ps1 (x := (0, (-1))) (q := 39) 1 rfl ?_
      refine e_Ok.rets rfl rfl ?_
      exact ⟨_, rfl, (e_fr.refl w), hT, trivial⟩
    · replace h28 : (0 : Int) ≠ 0 := (show ¬ ((0 : Int) = 0) from h28)
      exfalso; omega
theorem c_291 {d : Nat} (hd : 23 ≤ d) {w : eW} (hT : e_Has mTy w) {p1 p2 p3 p4 p5 : Int} (g1 : (-2147483648) ≤ p1 ∧ p1 ≤ 2147483647) (g2 : (-2147483648) ≤ p2 ∧ p2 ≤ 2147483647) (g3 : (-2147483648) ≤ p3 ∧ p3 ≤ 2147483647) (g4 : (-2147483648) ≤ p4 ∧ p4 ≤ 2147483647) (g5 : (-2147483648) ≤ p5 ∧ p5 ≤ 2147483647) : e_Ok 20 elay ecode eI d 291 (0, [(0, (1, 275)), (1, (0, p1)), (2, (0, p2)), (3, (0, p3)), (4, (0, p4)), (5, (0, p5))], [], w) (fun r w' => ∃ z : Int, r = [(0, z)] ∧ e_fr (mF 42 310 315) w w' ∧ e_Has mTy w' ∧ True) := by
  obtain ⟨d, rfl⟩ : ∃ e, d = e + 1 := ⟨d - 1, by omega⟩
  refine e_Ok.ps2 (x := (0, p1)) (y := (1, 275)) (q := 2) 2 rfl ?_
  refine e_Ok.callV rfl (e_dq hd rfl) rfl rfl rfl rfl (c_270 (e_dq hd rfl) hT) (fun r1 w2 h3 => ?_)
  have h4 := e_Has.get hT (c := 275) (k := 10) (lo := 0) (hi := 4) (mt_o rfl) (by decide)
  obtain ⟨z5, rfl, rfl, q6⟩ := h3
  obtain ⟨rfl, q6⟩ | ⟨rfl, q6⟩ := q6
  · refine e_Ok.nrm (q := 5) (st' := [(0, 1)]) rfl rfl ?_
    refine e_Ok.if1 rfl (fun h7 => ?_) (fun h7 => ?_)
    · replace h7 : (1 : Int) = 0 := h7
      exfalso; omega
    · replace h7 : (1 : Int) ≠ 0 := (show ¬ ((1 : Int) = 0) from h7)
      refine e_Ok.ps4 (x := (0, p5)) (y := (0, p4)) (z := (0, p3)) (u := (0, p2)) (q := 14) 4 rfl ?_
      refine e_Ok.callS rfl (e_dq hd rfl) rfl rfl (c_273 (e_dq hd rfl) (by omega) (by omega)) (fun r8 w9 h10 => ?_)
      obtain ⟨z11, rfl, rfl, q12⟩ := h10
      obtain ⟨rfl, q12⟩ | ⟨rfl, q12⟩ := q12
      · refine e_Ok.nrm (q := 17) (st' := [(0, 1)]) rfl rfl ?_
        refine e_Ok.if1 rfl (fun h13 => ?_) (fun h13 => ?_)
        · replace h13 : (1 : Int) ≠ 0 := h13
          refine e_Ok.ps1 (x := (1, 275)) (q := 23) 1 rfl ?_
          have h14 := (e_Has.get hT (c := 275) (k := 3) (lo := 0) (hi := 1) (mt_o rfl) (by decide))
          refine e_Ok.getf (z := w 275 3) rfl (el_o rfl) rfl (ef_o rfl) rfl (e_bq h14 (by decide) (by decide)) ?_
          refine e_Ok.if1 rfl (fun h15 => ?_) (fun h15 => ?_)
          · replace h15 : (w 275 3 : Int) = 0 := h15
            refine e_Ok.ps1 (x := (1, 275)) (q := 33) 1 rfl ?_
            have h16 := (e_Has.get hT (c := 275) (k := 42) (lo := 0) (hi := 8) (mt_o rfl) (by decide))
            refine e_Ok.getf (z := w 275 42) rfl (el_o rfl) rfl (ef_o rfl) rfl (e_bq h16 (by decide) (by decide)) ?_
            refine e_Ok.ps1 (x := (0, 8)) (q := 38) 1 rfl ?_
            refine e_Ok.if2 rfl (fun h17 => ?_) (fun h17 => ?_)
            · replace h17 : (w 275 42 : Int) ≠ 8 := h17
              refine e_Ok.ps1 (x := (1, 275)) (q := 45) 1 rfl ?_
              refine e_Ok.getr (z := 310) rfl (el_o rfl) rfl (ef_o rfl) (e_Has.eq hT (mt_o rfl)) ⟨by decide, by decide⟩ ?_
              refine e_Ok.ps1 (x := (1, 275)) (q := 49) 1 rfl ?_
              refine e_Ok.getf (z := w 275 42) rfl (el_o rfl) rfl (ef_o rfl) rfl (by omega) ?_
              refine e_Ok.ps1 (x := (0, p1)) (q := 53) 1 rfl ?_
              refine e_Ok.ast rfl (el_o rfl) rfl rfl (by omega) ?_
              generalize hw18 : e_up w 310 (w 275 42) p1 = w18
              have hT20 : e_Has mTy w18 := e_Has.upr hT hw18 (mt_o rfl) (by omega)
              refine e_Ok.ps1 (x := (1, 275)) (q := 55) 1 rfl ?_
              refine e_Ok.getr (z := 311) rfl (el_o rfl) rfl (ef_o rfl) (e_uq hw18 (Or.inl (by decide)) (e_Has.eq hT (mt_o rfl))) ⟨by decide, by decide⟩ ?_
              refine e_Ok.ps1 (x := (1, 275)) (q := 59) 1 rfl ?_
              refine e_Ok.getf (z := w 275 42) rfl (el_o rfl) rfl (ef_o rfl) (e_uq hw18 (Or.inl (by decide)) rfl) (by omega) ?_
              refine e_Ok.ps1 (x := (0, p2)) (q := 63) 1 rfl ?_
              refine e_Ok.ast rfl (el_o rfl) rfl rfl (by omega) ?_
              generalize hw21 : e_up w18 311 (w 275 42) p2 = w21
              have hT23 : e_Has mTy w21 := e_Has.upr hT20 hw21 (mt_o rfl) (by omega)
              refine e_Ok.ps1 (x := (1, 275)) (q := 65) 1 rfl ?_
              refine e_Ok.getr (z := 312) rfl (el_o rfl) rfl (ef_o rfl) (e_uq hw21 (Or.inl (by decide)) (e_uq hw18 (Or.inl (by decide)) (e_Has.eq hT (mt_o rfl)))) ⟨by decide, by decide⟩ ?_
              refine e_Ok.ps1 (x := (1, 275)) (q := 69) 1 rfl ?_
              refine e_Ok.getf (z := w 275 42) rfl (el_o rfl) rfl (ef_o rfl) (e_uq hw21 (Or.inl (by decide)) (e_uq hw18 (Or.inl (by decide)) rfl)) (by omega) ?_
              refine e_Ok.ps1 (x := (0, p3)) (q := 73) 1 rfl ?_
              refine e_Ok.ast rfl (el_o rfl) rfl rfl (by omega) ?_
              generalize hw24 : e_up w21 312 (w 275 42) p3 = w24
              have hT26 : e_Has mTy w24 := e_Has.upr hT23 hw24 (mt_o rfl) (by omega)
              refine e_Ok.ps1 (x := (1, 275)) (q := 75) 1 rfl ?_
              refine e_Ok.getr (z := 313) rfl (el_o rfl) rfl (ef_o rfl) (e_uq hw24 (Or.inl (by decide)) (e_uq hw21 (Or.inl (by decide)) (e_uq hw18 (Or.inl (by decide)) (e_Has.eq hT (mt_o rfl))))) ⟨by decide, by decide⟩ ?_
              refine e_Ok.ps1 (x := (1, 275)) (q := 79) 1 rfl ?_
              refine e_Ok.getf (z := w 275 42) rfl (el_o rfl) rfl (ef_o rfl) (e_uq hw24 (Or.inl (by decide)) (e_uq hw21 (Or.inl (by decide)) (e_uq hw18 (Or.inl (by decide)) rfl))) (by omega) ?_
              refine e_Ok.ps1 (x := (0, p4)) (q := 84) 1 rfl ?_
              refine e_Ok.ast rfl (el_o rfl) rfl rfl (by omega) ?_
              generalize hw27 : e_up w24 313 (w 275 42) p4 = w27
              have hT29 : e_Has mTy w27 := e_Has.upr hT26 hw27 (mt_o rfl) (by omega)
              refine e_Ok.ps1 (x := (1, 275)) (q := 86) 1 rfl ?_
              refine e_Ok.getr (z := 314) rfl (el_o rfl) rfl (ef_o rfl) (e_uq hw27 (Or.inl (by decide)) (e_uq hw24 (Or.inl (by decide)) (e_uq hw21 (Or.inl (by decide)) (e_uq hw18 (Or.inl (by decide)) (e_Has.eq hT (mt_o rfl)))))) ⟨by decide, by decide⟩ ?_
              refine e_Ok.ps1 (x := (1, 275)) (q := 90) 1 rfl ?_
              refine e_Ok.getf (z := w 275 42) rfl (el_o rfl) rfl (ef_o rfl) (e_uq hw27 (Or.inl (by decide)) (e_uq hw24 (Or.inl (by decide)) (e_uq hw21 (Or.inl (by decide)) (e_uq hw18 (Or.inl (by decide)) rfl)))) (by omega) ?_
              refine e_Ok.ps1 (x := (0, p5)) (q := 95) 1 rfl ?_
              refine e_Ok.ast rfl (el_o rfl) rfl rfl (by omega) ?_
              generalize hw30 : e_up w27 314 (w 275 42) p5 = w30
              have hT32 : e_Has mTy w30 := e_Has.upr hT29 hw30 (mt_o rfl) (by omega)
              refine e_Ok.ps1 (x := (1, 275)) (q := 97) 1 rfl ?_
              refine e_Ok.getr (z := 315) rfl (el_o rfl) rfl (ef_o rfl) (e_uq hw30 (Or.inl (by decide)) (e_uq hw27 (Or.inl (by decide)) (e_uq hw24 (Or.inl (by decide)) (e_uq hw21 (Or.inl (by decide)) (e_uq hw18 (Or.inl (by decide)) (e_Has.eq hT (mt_o rfl))))))) ⟨by decide, by decide⟩ ?_
              refine e_Ok.ps1 (x := (1, 275)) (q := 101) 1 rfl ?_
              refine e_Ok.getf (z := w 275 42) rfl (el_o rfl) rfl (ef_o rfl) (e_uq hw30 (Or.inl (by decide)) (e_uq hw27 (Or.inl (by decide)) (e_uq hw24 (Or.inl (by decide)) (e_uq hw21 (Or.inl (by decide)) (e_uq hw18 (Or.inl (by decide)) rfl))))) (by omega) ?_
              refine e_Ok.ps1 (x := (0, (-1))) (q := 105) 1 rfl ?_
              refine e_Ok.ast rfl (el_o rfl) rfl rfl (by omega) ?_
              generalize hw33 : e_up w30 315 (w 275 42) (-1) = w33
              have hT35 : e_Has mTy w33 := e_Has.upr hT32 hw33 (mt_o rfl) (by omega)
              refine e_Ok.ps2 (x := (1, 275)) (y := (1, 275)) (q := 108) 2 rfl ?_
              refine e_Ok.getf (z := w 275 42) rfl (el_o rfl) rfl (ef_o rfl) (e_uq hw33 (Or.inl (by decide)) (e_uq hw30 (Or.inl (by decide)) (e_uq hw27 (Or.inl (by decide)) (e_uq hw24 (Or.inl (by decide)) (e_uq hw21 (Or.inl (by decide)) (e_uq hw18 (Or.inl (by decide)) rfl)))))) (by omega) ?_
              refine e_Ok.ps1 (x := (0, 1)) (q := 112) 1 rfl ?_
              refine e_Ok.add (z := w 275 42 + 1) rfl rfl (by omega) ?_
              refine e_Ok.putf rfl (el_o rfl) rfl (ef_o rfl) ?_
              generalize hw36 : e_up w33 275 42 (w 275 42 + 1) = w36
              have hT38 : e_Has mTy w36 := e_Has.upr hT35 hw36 (mt_o rfl) (by omega)
              refine e_Ok.ps1 (x := (1, 275)) (q := 117) 1 rfl ?_
              refine e_Ok.getf (z := w 275 42 + 1) rfl (el_o rfl) rfl (ef_o rfl) (e_ue hw36) (by omega) ?_
              refine e_Ok.ps1 (x := (0, 1)) (q := 121) 1 rfl ?_
              refine e_Ok.sub' (z := w 275 42) rfl (by omega) (by omega) ?_
              refine e_Ok.rets rfl rfl ?_
              exact ⟨_, rfl, (show e_fr (mF 42 310 315) w w36 from e_fr.up (show e_fr (mF 42 310 315) w w33 from e_fr.up (show e_fr (mF 42 310 315) w w30 from e_fr.up (show e_fr (mF 42 310 315) w w27 from e_fr.up (show e_fr (mF 42 310 315) w w24 from e_fr.up (show e_fr (mF 42 310 315) w w21 from e_fr.up (show e_fr (mF 42 310 315) w w18 from e_fr.up (e_fr.refl w) hw18 (by first | exact Or.inr ⟨(by decide), (by decide)⟩ | (unfold mF; omega))) hw21 (by first | exact Or.inr ⟨(by decide), (by decide)⟩ | (unfold mF; omega))) hw24 (by first | exact Or.inr ⟨(by decide), (by decide)⟩ | (unfold mF; omega))) hw27 (by first | exact Or.inr ⟨(by decide), (by decide)⟩ | (unfold mF; omega))) hw30 (by first | exact Or.inr ⟨(by decide), (by decide)⟩ | (unfold mF; omega))) hw33 (by first | exact Or.inr ⟨(by decide), (by decide)⟩ | (unfold mF; omega))) hw36 (by first | exact Or.inl ⟨rfl, rfl⟩ | (unfold mF; omega))), hT38, trivial⟩
            · replace h17 : (w 275 42 : Int) = 8 := Classical.not_not.mp (show ¬ ((w 275 42 : Int) ≠ 8) from h17)
              refine e_Ok.ps1 (x := (0, (-3))) (q := 43) 1 rfl ?_
              refine e_Ok.rets rfl rfl ?_
              exact ⟨_, rfl, (e_fr.refl w), hT, trivial⟩
          · replace h15 : (w 275 3 : Int) ≠ 0 := (show ¬ ((w 275 3 : Int) = 0) from h15)
            refine e_Ok.ps1 (x := (0, (-2))) (q := 31) 1 rfl ?_
            refine e_Ok.rets rfl rfl ?_
            exact ⟨_, rfl, (e_fr.refl w), hT, trivial⟩
        · replace h13 : (1 : Int) = 0 := Classical.not_not.mp (show ¬ ((1 : Int) ≠ 0) from h13)
          exfalso; omega
      · refine e_Ok.nrm (q := 17) (st' := [(0, 0)]) rfl rfl ?_
        refine e_Ok.if1 rfl (fun h39 => ?_) (fun h39 => ?_)
        · replace h39 : (0 : Int) ≠ 0 := h39
          exfalso; omega
        · replace h39 : (0 : Int) = 0 := Classical.not_not.mp (show ¬ ((0 : Int) ≠ 0) from h39)
          refine e_Ok.ps1 (x := (0, (-1))) (q := 21) 1 rfl ?_
          refine e_Ok.rets rfl rfl ?_
          exact ⟨_, rfl, (e_fr.refl w), hT, trivial⟩
  · refine e_Ok.nrm (q := 5) (st' := [(0, 0)]) rfl rfl ?_
    refine e_Ok.if1 rfl (fun h40 => ?_) (fun h40 => ?_)
    · replace h40 : (0 : Int) = 0 := h40
      refine e_Ok.ps1 (x := (0, (-1))) (q := 21) 1 rfl ?_
      refine e_Ok.rets rfl rfl ?_
      exact ⟨_, rfl, (e_fr.refl w), hT, trivial⟩
    · replace h40 : (0 : Int) ≠ 0 := (show ¬ ((0 : Int) = 0) from h40)
      exfalso; omega
theorem c_292 {d : Nat} (hd : 23 ≤ d) {w : eW} (hT : e_Has mTy w) {p1 p2 : Int} (g1 : (-2147483648) ≤ p1 ∧ p1 ≤ 2147483647) (g2 : (-2147483648) ≤ p2 ∧ p2 ≤ 2147483647) : e_Ok 20 elay ecode eI d 292 (0, [(0, (1, 275)), (1, (0, p1)), (2, (0, p2))], [], w) (fun r w' => ∃ z : Int, r = [(0, z)] ∧ e_fr (mF (-1) 315 315) w w' ∧ e_Has mTy w' ∧ True) := by
  obtain ⟨d, rfl⟩ : ∃ e, d = e + 1 := ⟨d - 1, by omega⟩
  refine e_Ok.ps3 (x := (1, 275)) (y := (4, 0)) (z := (4, p1)) (q := 4) 4 rfl ?_
  have h1 := (e_Has.get hT (c := 275) (k := 42) (lo := 0) (hi := 8) (mt_o rfl) (by decide))
  refine e_Ok.getf (z := w 275 42) rfl (el_o rfl) rfl (ef_o rfl) rfl (e_bq h1 (by decide) (by decide)) ?_
  refine e_Ok.ps1 (x := (0, 1)) (q := 8) 1 rfl ?_
  refine e_Ok.sub' (z := w 275 42 - 1) rfl rfl (by omega) ?_
  refine e_Ok.run (t' := (10, [(0, (1, 275)), (1, (0, p1)), (2, (0, p2))], [(4, w 275 42 - 1), (4, 0), (4, p1)], w)) 1 rfl ?_
  refine e_Ok.callS rfl (e_dq hd rfl) rfl rfl (c_266) (fun r2 w3 h4 => ?_)
  obtain ⟨z5, rfl, rfl, q6⟩ := h4
  obtain ⟨rfl, q6⟩ | ⟨rfl, q6⟩ := q6
  · refine e_Ok.nrm (q := 13) (st' := [(0, 1)]) rfl rfl ?_
    refine e_Ok.if1 rfl (fun h7 => ?_) (fun h7 => ?_)
    · replace h7 : (1 : Int) = 0 := h7
      exfalso; omega
    · replace h7 : (1 : Int) ≠ 0 := (show ¬ ((1 : Int) = 0) from h7)
      refine e_Ok.ps3 (x := (4, 32000)) (y := (4, (-1))) (z := (4, p2)) (q := 24) 4 rfl ?_
      refine e_Ok.callS rfl (e_dq hd rfl) rfl rfl (c_266) (fun r8 w9 h10 => ?_)
      obtain ⟨z11, rfl, rfl, q12⟩ := h10
      obtain ⟨rfl, q12⟩ | ⟨rfl, q12⟩ := q12
      · refine e_Ok.nrm (q := 27) (st' := [(0, 1)]) rfl rfl ?_
        refine e_Ok.if1 rfl (fun h13 => ?_) (fun h13 => ?_)
        · replace h13 : (1 : Int) ≠ 0 := h13
          refine e_Ok.ps1 (x := (1, 275)) (q := 33) 1 rfl ?_
          have h14 := (e_Has.get hT (c := 275) (k := 3) (lo := 0) (hi := 1) (mt_o rfl) (by decide))
          refine e_Ok.getf (z := w 275 3) rfl (el_o rfl) rfl (ef_o rfl) rfl (e_bq h14 (by decide) (by decide)) ?_
          refine e_Ok.if1 rfl (fun h15 => ?_) (fun h15 => ?_)
          · replace h15 : (w 275 3 : Int) = 0 := h15
            refine e_Ok.ps1 (x := (1, 275)) (q := 43) 1 rfl ?_
            refine e_Ok.getr (z := 315) rfl (el_o rfl) rfl (ef_o rfl) (e_Has.eq hT (mt_o rfl)) ⟨by decide, by decide⟩ ?_
            refine e_Ok.ps1 (x := (0, p1)) (q := 47) 1 rfl ?_
            have h16 := (e_Has.get hT (c := 315) (k := p1) (lo := (-2147483648)) (hi := 2147483647) (mt_o rfl) (by decide))
            refine e_Ok.ald (z := w 315 p1) rfl (el_o rfl) rfl (by omega) rfl (e_bq h16 (by decide) (by decide)) ?_
            refine e_Ok.run (t' := (50, [(3, (0, w 315 p1)), (0, (1, 275)), (1, (0, p1)), (2, (0, p2))], [(1, 275)], w)) 2 rfl ?_
            refine e_Ok.getr (z := 315) rfl (el_o rfl) rfl (ef_o rfl) (e_Has.eq hT (mt_o rfl)) ⟨by decide, by decide⟩ ?_
            refine e_Ok.ps2 (x := (0, p2)) (y := (0, p1)) (q := 55) 2 rfl ?_
            refine e_Ok.ast rfl (el_o rfl) rfl rfl (by omega) ?_
            generalize hw17 : e_up w 315 p1 p2 = w17
            have hT19 : e_Has mTy w17 := e_Has.upr hT hw17 (mt_o rfl) (by omega)
            refine e_Ok.ps1 (x := (0, w 315 p1)) (q := 57) 1 rfl ?_
            refine e_Ok.rets rfl rfl ?_
            exact ⟨_, rfl, (show e_fr (mF (-1) 315 315) w w17 from e_fr.up (e_fr.refl w) hw17 (by first | exact Or.inr ⟨(by decide), (by decide)⟩ | (unfold mF; omega))), hT19, trivial⟩
          · replace h15 : (w 275 3 : Int) ≠ 0 := (show ¬ ((w 275 3 : Int) = 0) from h15)
            refine e_Ok.ps1 (x := (0, (-2))) (q := 41) 1 rfl ?_
            refine e_Ok.rets rfl rfl ?_
            exact ⟨_, rfl, (e_fr.refl w), hT, trivial⟩
        · replace h13 : (1 : Int) = 0 := Classical.not_not.mp (show ¬ ((1 : Int) ≠ 0) from h13)
          exfalso; omega
      · refine e_Ok.nrm (q := 27) (st' := [(0, 0)]) rfl rfl ?_
        refine e_Ok.if1 rfl (fun h20 => ?_) (fun h20 => ?_)
        · replace h20 : (0 : Int) ≠ 0 := h20
          exfalso; omega
        · replace h20 : (0 : Int) = 0 := Classical.not_not.mp (show ¬ ((0 : Int) ≠ 0) from h20)
          refine e_Ok.ps1 (x := (0, (-1))) (q := 31) 1 rfl ?_
          refine e_Ok.rets rfl rfl ?_
          exact ⟨_, rfl, (e_fr.refl w), hT, trivial⟩
  · refine e_Ok.nrm (q := 13) (st' := [(0, 0)]) rfl rfl ?_
    refine e_Ok.if1 rfl (fun h21 => ?_) (fun h21 => ?_)
    · replace h21 : (0 : Int) = 0 := h21
      refine e_Ok.ps1 (x := (0, (-1))) (q := 31) 1 rfl ?_
      refine e_Ok.rets rfl rfl ?_
      exact ⟨_, rfl, (e_fr.refl w), hT, trivial⟩
    · replace h21 : (0 : Int) ≠ 0 := (show ¬ ((0 : Int) = 0) from h21)
      exfalso; omega
theorem c_293 {d : Nat} (hd : 23 ≤ d) {w : eW} (hT : e_Has mTy w) {p1 : Int} (g1 : (-2147483648) ≤ p1 ∧ p1 ≤ 2147483647) : e_Ok 20 elay ecode eI d 293 (0, [(0, (1, 275)), (1, (0, p1))], [], w) (fun r w' => ∃ z : Int, r = [(0, z)] ∧ e_fr (mF 49 316 316) w w' ∧ e_Has mTy w' ∧ True) := by
  obtain ⟨d, rfl⟩ : ∃ e, d = e + 1 := ⟨d - 1, by omega⟩
  refine e_Ok.ps3 (x := (4, 1000)) (y := (4, 0)) (z := (4, p1)) (q := 6) 4 rfl ?_
  refine e_Ok.callS rfl (e_dq hd rfl) rfl rfl (c_266) (fun r1 w2 h3 => ?_)
  obtain ⟨z4, rfl, rfl, q5⟩ := h3
  obtain ⟨rfl, q5⟩ | ⟨rfl, q5⟩ := q5
  · refine e_Ok.nrm (q := 9) (st' := [(0, 1)]) rfl rfl ?_
    refine e_Ok.if1 rfl (fun h6 => ?_) (fun h6 => ?_)
    · replace h6 : (1 : Int) ≠ 0 := h6
      refine e_Ok.ps1 (x := (1, 275)) (q := 15) 1 rfl ?_
      have h7 := (e_Has.get hT (c := 275) (k := 3) (lo := 0) (hi := 1) (mt_o rfl) (by decide))
      refine e_Ok.getf (z := w 275 3) rfl (el_o rfl) rfl (ef_o rfl) rfl (e_bq h7 (by decide) (by decide)) ?_
      refine e_Ok.if1 rfl (fun h8 => ?_) (fun h8 => ?_)
      · replace h8 : (w 275 3 : Int) = 0 := h8
        refine e_Ok.ps1 (x := (1, 275)) (q := 25) 1 rfl ?_
        have h9 := (e_Has.get hT (c := 275) (k := 49) (lo := 0) (hi := 8) (mt_o rfl) (by decide))
        refine e_Ok.getf (z := w 275 49) rfl (el_o rfl) rfl (ef_o rfl) rfl (e_bq h9 (by decide) (by decide)) ?_
        refine e_Ok.ps1 (x := (0, 8)) (q := 30) 1 rfl ?_
        refine e_Ok.if2 rfl (fun h10 => ?_) (fun h10 => ?_)
        · replace h10 : (w 275 49 : Int) ≠ 8 := h10
          refine e_Ok.ps1 (x := (1, 275)) (q := 37) 1 rfl ?_
          refine e_Ok.getr (z := 316) rfl (el_o rfl) rfl (ef_o rfl) (e_Has.eq hT (mt_o rfl)) ⟨by decide, by decide⟩ ?_
          refine e_Ok.ps1 (x := (1, 275)) (q := 41) 1 rfl ?_
          refine e_Ok.getf (z := w 275 49) rfl (el_o rfl) rfl (ef_o rfl) rfl (by omega) ?_
          refine e_Ok.ps1 (x := (0, p1)) (q := 45) 1 rfl ?_
          refine e_Ok.ast rfl (el_o rfl) rfl rfl (by omega) ?_
          generalize hw11 : e_up w 316 (w 275 49) p1 = w11
          have hT13 : e_Has mTy w11 := e_Has.upr hT hw11 (mt_o rfl) (by omega)
          refine e_Ok.ps2 (x := (1, 275)) (y := (1, 275)) (q := 48) 2 rfl ?_
          refine e_Ok.getf (z := w 275 49) rfl (el_o rfl) rfl (ef_o rfl) (e_uq hw11 (Or.inl (by decide)) rfl) (by omega) ?_
          refine e_Ok.ps1 (x := (0, 1)) (q := 52) 1 rfl ?_
          refine e_Ok.add (z := w 275 49 + 1) rfl rfl (by omega) ?_
          refine e_Ok.putf rfl (el_o rfl) rfl (ef_o rfl) ?_
          generalize hw14 : e_up w11 275 49 (w 275 49 + 1) = w14
          have hT16 : e_Has mTy w14 := e_Has.upr hT13 hw14 (mt_o rfl) (by omega)
          refine e_Ok.ps1 (x := (1, 275)) (q := 57) 1 rfl ?_
          refine e_Ok.getf (z := w 275 49 + 1) rfl (el_o rfl) rfl (ef_o rfl) (e_ue hw14) (by omega) ?_
          refine e_Ok.ps1 (x := (0, 1)) (q := 61) 1 rfl ?_
          refine e_Ok.sub' (z := w 275 49) rfl (by omega) (by omega) ?_
          refine e_Ok.rets rfl rfl ?_
          exact ⟨_, rfl, (show e_fr (mF 49 316 316) w w14 from e_fr.up (show e_fr (mF 49 316 316) w w11 from e_fr.up (e_fr.refl w) hw11 (by first | exact Or.inr ⟨(by decide), (by decide)⟩ | (unfold mF; omega))) hw14 (by first | exact Or.inl ⟨rfl, rfl⟩ | (unfold mF; omega))), hT16, trivial⟩
        · replace h10 : (w 275 49 : Int) = 8 := Classical.not_not.mp (show ¬ ((w 275 49 : Int) ≠ 8) from h10)
          refine e_Ok.ps1 (x := (0, (-3))) (q := 35) 1 rfl ?_
          refine e_Ok.rets rfl rfl ?_
          exact ⟨_, rfl, (e_fr.refl w), hT, trivial⟩
      · replace h8 : (w 275 3 : Int) ≠ 0 := (show ¬ ((w 275 3 : Int) = 0) from h8)
        refine e_Ok.ps1 (x := (0, (-2))) (q := 23) 1 rfl ?_
        refine e_Ok.rets rfl rfl ?_
        exact ⟨_, rfl, (e_fr.refl w), hT, trivial⟩
    · replace h6 : (1 : Int) = 0 := Classical.not_not.mp (show ¬ ((1 : Int) ≠ 0) from h6)
      exfalso; omega
  · refine e_Ok.nrm (q := 9) (st' := [(0, 0)]) rfl rfl ?_
    refine e_Ok.if1 rfl (fun h17 => ?_) (fun h17 => ?_)
    · replace h17 : (0 : Int) ≠ 0 := h17
      exfalso; omega
    · replace h17 : (0 : Int) = 0 := Classical.not_not.mp (show ¬ ((0 : Int) ≠ 0) from h17)
      refine e_Ok.ps1 (x := (0, (-1))) (q := 13) 1 rfl ?_
      refine e_Ok.rets rfl rfl ?_
      exact ⟨_, rfl, (e_fr.refl w), hT, trivial⟩
theorem c_294 {d : Nat} (hd : 23 ≤ d) {w : eW} (hT : e_Has mTy w) {p1 p2 : Int} (g1 : (-2147483648) ≤ p1 ∧ p1 ≤ 2147483647) (g2 : 0 ≤ p2 ∧ p2 ≤ 1) : e_Ok 20 elay ecode eI d 294 (0, [(0, (1, 275)), (1, (0, p1)), (2, (0, p2))], [], w) (fun r w' => ∃ z : Int, r = [(0, z)] ∧ e_fr (mF (-1) 317 317) w w' ∧ e_Has mTy w' ∧ True) := by
  obtain ⟨d, rfl⟩ : ∃ e, d = e + 1 := ⟨d - 1, by omega⟩
  refine e_Ok.ps3 (x := (4, 7)) (y := (4, 0)) (z := (4, p1)) (q := 6) 4 rfl ?_
  refine e_Ok.callS rfl (e_dq hd rfl) rfl rfl (c_266) (fun r1 w2 h3 => ?_)
  obtain ⟨z4, rfl, rfl, q5⟩ := h3
  obtain ⟨rfl, q5⟩ | ⟨rfl, q5⟩ := q5
  · refine e_Ok.nrm (q := 9) (st' := [(0, 1)]) rfl rfl ?_
    refine e_Ok.if1 rfl (fun h6 => ?_) (fun h6 => ?_)
    · replace h6 : (1 : Int) ≠ 0 := h6
      refine e_Ok.ps1 (x := (1, 275)) (q := 15) 1 rfl ?_
      have h7 := (e_Has.get hT (c := 275) (k := 3) (lo := 0) (hi := 1) (mt_o rfl) (by decide))
      refine e_Ok.getf (z := w 275 3) rfl (el_o rfl) rfl (ef_o rfl) rfl (e_bq h7 (by decide) (by decide)) ?_
      refine e_Ok.if1 rfl (fun h8 => ?_) (fun h8 => ?_)
      · replace h8 : (w 275 3 : Int) = 0 := h8
        refine e_Ok.ps1 (x := (1, 275)) (q := 25) 1 rfl ?_
        refine e_Ok.getr (z := 317) rfl (el_o rfl) rfl (ef_o rfl) (e_Has.eq hT (mt_o rfl)) ⟨by decide, by decide⟩ ?_
        refine e_Ok.ps2 (x := (0, p2)) (y := (0, p1)) (q := 30) 2 rfl ?_
        refine e_Ok.ast rfl (el_o rfl) rfl (e_nar_b (by omega)) (by omega) ?_
        generalize hw9 : e_up w 317 p1 p2 = w9
        have hT11 : e_Has mTy w9 := e_Has.upr hT hw9 (mt_o rfl) (by omega)
        refine e_Ok.ps1 (x := (0, 0)) (q := 32) 1 rfl ?_
        refine e_Ok.rets rfl rfl ?_
        exact ⟨_, rfl, (show e_fr (mF (-1) 317 317) w w9 from e_fr.up (e_fr.refl w) hw9 (by first | exact Or.inr ⟨(by decide), (by decide)⟩ | (unfold mF; omega))), hT11, trivial⟩
      · replace h8 : (w 275 3 : Int) ≠ 0 := (show ¬ ((w 275 3 : Int) = 0) from h8)
        refine e_Ok.ps1 (x := (0, (-2))) (q := 23) 1 rfl ?_
        refine e_Ok.rets rfl rfl ?_
        exact ⟨_, rfl, (e_fr.refl w), hT, trivial⟩
    · replace h6 : (1 : Int) = 0 := Classical.not_not.mp (show ¬ ((1 : Int) ≠ 0) from h6)
      exfalso; omega
  · refine e_Ok.nrm (q := 9) (st' := [(0, 0)]) rfl rfl ?_
    refine e_Ok.if1 rfl (fun h12 => ?_) (fun h12 => ?_)
    · replace h12 : (0 : Int) ≠ 0 := h12
      exfalso; omega
    · replace h12 : (0 : Int) = 0 := Classical.not_not.mp (show ¬ ((0 : Int) ≠ 0) from h12)
      refine e_Ok.ps1 (x := (0, (-1))) (q := 13) 1 rfl ?_
      refine e_Ok.rets rfl rfl ?_
      exact ⟨_, rfl, (e_fr.refl w), hT, trivial⟩
end
end
-- part 54
section
noncomputable section
theorem no_54_0 : ¬ mTape 275 8 := by unfold mTape; omega
theorem c_275 {d : Nat} {w : eW} (hT : e_Has mTy w) (hH : e_Has hTy w) {a : Int} (ht : w 275 9 ≤ 3996) : e_Ok 20 elay ecode eI d 275 (0, [(0, (1, 275)), (1, (0, a))], [], w) (fun r w' => r = [] ∧ e_fr mTape w w' ∧ e_Has mTy w' ∧ e_Has hTy w' ∧ w' 275 9 = w 275 9 + 4) := by
  have h9 := e_Has.get hH (c := 275) (k := 9) (lo := 0) (hi := 4000) rfl (by decide)
  refine e_Ok.run (t' := (3, [(2, (0, 24)), (0, (1, 275)), (1, (0, a))], [], w)) 2 rfl ?_
  have hL1 : ∀ (n : Nat) (y2 : Int) (v1 : eW), e_fr mTape w v1 ∧ e_Has mTy v1 ∧ e_Has hTy v1 ∧ 8 * v1 275 9 = 8 * w 275 9 + 24 - y2 ∧ -8 ≤ y2 ∧ y2 ≤ 24 ∧ y2 % 8 = 0 → y2 + 8 < n → e_Ok 20 elay ecode eI d 275 (3, [(0, (1, 275)), (1, (0, a)), (2, (0, y2))], [], v1) (fun r w' => r = [] ∧ e_fr mTape w w' ∧ e_Has mTy w' ∧ e_Has hTy w' ∧ w' 275 9 = w 275 9 + 4) := by
    intro n
    induction n with
    | zero => intro y2 v1 hj hm; obtain ⟨j3, j4, j5, j6, j7⟩ := hj; exfalso; omega
    | succ n ih2 =>
      intro y2 v1 hj hm
      obtain ⟨j3, j4, j5, j6, j7⟩ := hj
      refine e_Ok.run (t' := (4, [(0, (1, 275)), (1, (0, a)), (2, (0, y2))], [(0, y2)], v1)) 1 rfl ?_
      refine e_Ok.if1 rfl (fun h8 => ?_) (fun h8 => ?_)
      · replace h8 : (y2 : Int) < 0 := h8
        refine e_Ok.rets rfl rfl ?_
        exact ⟨rfl, j3, j4, j5, by omega⟩
      · replace h8 : (y2 : Int) ≥ 0 := Int.not_lt.mp (show ¬ ((y2 : Int) < 0) from h8)
        refine e_Ok.ps1 (x := (1, 275)) (q := 8) 1 rfl ?_
        refine e_Ok.getr (z := 281) rfl (el_o rfl) rfl (ef_o rfl) ((j3 275 8 no_54_0).trans (e_Has.eq hT (mt_o rfl))) ⟨by decide, by decide⟩ ?_
        refine e_Ok.ps1 (x := (1, 275)) (q := 12) 1 rfl ?_
        refine e_Ok.getf (z := v1 275 9) rfl (el_o rfl) rfl (ef_o rfl) rfl (by omega) ?_
        refine e_Ok.ps2 (x := (0, y2)) (y := (0, a)) (q := 17) 2 rfl ?_
        refine e_Ok.any rfl (eB_any _ _) (fun z9 z9a z9b => ?_)
        refine e_Ok.i2b rfl (fun z10 hz10 => ?_)
        obtain ⟨z11, hz11, z11r⟩ := e_nar_2 z10
        refine e_Ok.ast rfl (el_o rfl) rfl hz11 (by omega) ?_
        generalize hw12 : e_up v1 281 (v1 275 9) z11 = w12
        have hH14 : e_Has hTy w12 := e_Has.upr j5 hw12 rfl (by omega)
        have hT15 : e_Has mTy w12 := e_Has.ups j4 hw12 rfl
        refine e_Ok.ps2 (x := (1, 275)) (y := (1, 275)) (q := 22) 2 rfl ?_
        refine e_Ok.getf (z := v1 275 9) rfl (el_o rfl) rfl (ef_o rfl) (e_uq hw12 (Or.inl (by decide)) rfl) (by omega) ?_
        refine e_Ok.ps1 (x := (0, 1)) (q := 26) 1 rfl ?_
        refine e_Ok.add (z := v1 275 9 + 1) rfl rfl (by omega) ?_
        refine e_Ok.putf rfl (el_o rfl) rfl (ef_o rfl) ?_
        generalize hw16 : e_up w12 275 9 (v1 275 9 + 1) = w16
        have hH18 : e_Has hTy w16 := e_Has.upr hH14 hw16 rfl (by omega)
        have hT19 : e_Has mTy w16 := e_Has.ups hT15 hw16 (mt_o rfl)
        refine e_Ok.inc (z := y2 - 8) rfl rfl (by first | with_reducible rfl | omega) (by omega) ?_
        show e_Ok 20 elay ecode eI d 275 (33, [(2, (0, y2 - 8)), (0, (1, 275)), (1, (0, a))], [], w16) _
        refine e_Ok.ps0 (q := 3) 1 rfl ?_
        refine e_Ok.sub eAlk (e_sub_of rfl ?_) (ih2 (y2 - 8) w16 ⟨(show e_fr mTape w w16 from e_fr.up (show e_fr mTape w w12 from e_fr.up j3 hw12 (by first | exact Or.inr rfl | (unfold mTape; omega))) hw16 (by first | exact Or.inl ⟨rfl, rfl⟩ | (unfold mTape; omega))), hT19, hH18, by have := (show w16 275 9 = v1 275 9 + 1 from (e_ue hw16)); omega, by omega⟩ (by omega))
        exact ⟨rfl, rfl, rfl, trivial⟩
  refine e_Ok.sub eAlk (e_sub_of rfl ?_) (hL1 (32 + 1 : Int).toNat 24 w ⟨(e_fr.refl w), hT, hH, by omega, by omega⟩ (by omega))
  exact ⟨rfl, rfl, rfl, trivial⟩
theorem c_274 {d : Nat} (hd : 21 ≤ d) {w : eW} (hT : e_Has mTy w) (hH : e_Has hTy w) {a b c e f : Int} : e_Ok 20 elay ecode eI d 274 (0, [(0, (1, 275)), (1, (0, a)), (2, (0, b)), (3, (0, c)), (4, (0, e)), (5, (0, f))], [], w) (fun r w' => ∃ z : Int, r = [(0, z)] ∧ e_fr mTape w w' ∧ e_Has mTy w' ∧ e_Has hTy w' ∧ ((w 275 9 ≤ 3980 ∧ z = w 275 9 + 20 ∧ w' 275 9 = w 275 9 + 20) ∨ (3980 < w 275 9 ∧ z = -3 ∧ w' 275 9 = w 275 9))) := by
  obtain ⟨d, rfl⟩ : ∃ e, d = e + 1 := ⟨d - 1, by omega⟩
  refine e_Ok.ps1 (x := (1, 275)) (q := 1) 1 rfl ?_
  have h1 := (e_Has.get hH (c := 275) (k := 9) (lo := 0) (hi := 4000) rfl (by decide))
  refine e_Ok.getf (z := w 275 9) rfl (el_o rfl) rfl (ef_o rfl) rfl (e_bq h1 (by decide) (by decide)) ?_
  refine e_Ok.ps1 (x := (0, 20)) (q := 6) 1 rfl ?_
  refine e_Ok.add (z := w 275 9 + 20) rfl rfl (by omega) ?_
  refine e_Ok.ps1 (x := (0, 4000)) (q := 10) 1 rfl ?_
  refine e_Ok.if2 rfl (fun h2 => ?_) (fun h2 => ?_)
  · replace h2 : (w 275 9 + 20 : Int) ≤ 4000 := h2
    refine e_Ok.ps2 (x := (0, a)) (y := (1, 275)) (q := 18) 2 rfl ?_
    refine e_Ok.callV rfl (e_dq hd rfl) rfl rfl rfl rfl (c_275 hT hH (by omega)) (fun r3 w4 h5 => ?_)
    obtain ⟨rfl, q6, q6T, q6H, q6n⟩ := h5
    have h8 := e_Has.get q6H (c := 275) (k := 9) (lo := 0) (hi := 4000) rfl (by decide)
    refine e_Ok.nrm (q := 21) (st' := []) rfl rfl ?_
    refine e_Ok.ps2 (x := (0, b)) (y := (1, 275)) (q := 23) 2 rfl ?_
    refine e_Ok.callV rfl (e_dq hd rfl) rfl rfl rfl rfl (c_275 q6T q6H (by omega)) (fun r9 w10 h11 => ?_)
    obtain ⟨rfl, q12, q12T, q12H, q12n⟩ := h11
    have h14 := e_Has.get q12H (c := 275) (k := 9) (lo := 0) (hi := 4000) rfl (by decide)
    refine e_Ok.nrm (q := 26) (st' := []) rfl rfl ?_
    refine e_Ok.ps2 (x := (0, c)) (y := (1, 275)) (q := 28) 2 rfl ?_
    refine e_Ok.callV rfl (e_dq hd rfl) rfl rfl rfl rfl (c_275 q12T q12H (by omega)) (fun r15 w16 h17 => ?_)
    obtain ⟨rfl, q18, q18T, q18H, q18n⟩ := h17
    have h20 := e_Has.get q18H (c := 275) (k := 9) (lo := 0) (hi := 4000) rfl (by decide)
    refine e_Ok.nrm (q := 31) (st' := []) rfl rfl ?_
    refine e_Ok.ps2 (x := (0, e)) (y := (1, 275)) (q := 34) 2 rfl ?_
    refine e_Ok.callV rfl (e_dq hd rfl) rfl rfl rfl rfl (c_275 q18T q18H (by omega)) (fun r21 w22 h23 => ?_)
    obtain ⟨rfl, q24, q24T, q24H, q24n⟩ := h23
    have h26 := e_Has.get q24H (c := 275) (k := 9) (lo := 0) (hi := 4000) rfl (by decide)
    refine e_Ok.nrm (q := 37) (st' := []) rfl rfl ?_
    refine e_Ok.ps2 (x := (0, f)) (y := (1, 275)) (q := 40) 2 rfl ?_
    refine e_Ok.callV rfl (e_dq hd rfl) rfl rfl rfl rfl (c_275 q24T q24H (by omega)) (fun r27 w28 h29 => ?_)
    obtain ⟨rfl, q30, q30T, q30H, q30n⟩ := h29
    have h32 := e_Has.get q30H (c := 275) (k := 9) (lo := 0) (hi := 4000) rfl (by decide)
    refine e_Ok.nrm (q := 43) (st' := []) rfl rfl ?_
    refine e_Ok.ps1 (x := (1, 275)) (q := 44) 1 rfl ?_
    refine e_Ok.getf (z := w28 275 9) rfl (el_o rfl) rfl (ef_o rfl) rfl (by omega) ?_
    refine e_Ok.rets rfl rfl ?_
    exact ⟨_, rfl, (show e_fr mTape w w28 from e_fr.trans (show e_fr mTape w w22 from e_fr.trans (show e_fr mTape w w16 from e_fr.trans (show e_fr mTape w w10 from e_fr.trans (show e_fr mTape w w4 from e_fr.trans (e_fr.refl w) (e_fr.mono q6 (fun c k q => by exact q))) (e_fr.mono q12 (fun c k q => by exact q))) (e_fr.mono q18 (fun c k q => by exact q))) (e_fr.mono q24 (fun c k q => by exact q))) (e_fr.mono q30 (fun c k q => by exact q))), q30T, q30H, by omega⟩
  · replace h2 : (w 275 9 + 20 : Int) > 4000 := Int.not_le.mp (show ¬ ((w 275 9 + 20 : Int) ≤ 4000) from h2)
    refine e_Ok.ps1 (x := (0, (-3))) (q := 15) 1 rfl ?_
    refine e_Ok.rets rfl rfl ?_
    exact ⟨_, rfl, (e_fr.refl w), hT, hH, by omega⟩
theorem c_276 {d : Nat} (hd : 21 ≤ d) {w : eW} (hT : e_Has mTy w) (hH : e_Has hTy w) {a : Int} : e_Ok 20 elay ecode eI d 276 (0, [(0, (1, 275)), (1, (0, a))], [], w) (fun r w' => ∃ z : Int, r = [(0, z)] ∧ e_fr mTape w w' ∧ e_Has mTy w' ∧ e_Has hTy w' ∧ ((0 ≤ a ∧ a ≤ w 275 9 ∧ z = w 275 9 - a ∧ w' 275 9 = w 275 9 - a) ∨ ((a < 0 ∨ w 275 9 < a) ∧ z = -1 ∧ w' 275 9 = w 275 9))) := by
  obtain ⟨d, rfl⟩ : ∃ e, d = e + 1 := ⟨d - 1, by omega⟩
  refine e_Ok.ps3 (x := (1, 275)) (y := (4, 0)) (z := (4, a)) (q := 4) 4 rfl ?_
  have h1 := (e_Has.get hH (c := 275) (k := 9) (lo := 0) (hi := 4000) rfl (by decide))
  refine e_Ok.getf (z := w 275 9) rfl (el_o rfl) rfl (ef_o rfl) rfl (e_bq h1 (by decide) (by decide)) ?_
  refine e_Ok.run (t' := (8, [(0, (1, 275)), (1, (0, a))], [(4, w 275 9), (4, 0), (4, a)], w)) 1 rfl ?_
  refine e_Ok.callS rfl (e_dq hd rfl) rfl rfl (c_266) (fun r2 w3 h4 => ?_)
  obtain ⟨z5, rfl, rfl, q6⟩ := h4
  obtain ⟨rfl, q6⟩ | ⟨rfl, q6⟩ := q6
  · refine e_Ok.nrm (q := 11) (st' := [(0, 1)]) rfl rfl ?_
    refine e_Ok.if1 rfl (fun h7 => ?_) (fun h7 => ?_)
    · replace h7 : (1 : Int) ≠ 0 := h7
      refine e_Ok.ps2 (x := (1, 275)) (y := (1, 275)) (q := 18) 2 rfl ?_
      refine e_Ok.getf (z := w 275 9) rfl (el_o rfl) rfl (ef_o rfl) rfl (by omega) ?_
      refine e_Ok.ps1 (x := (0, a)) (q := 22) 1 rfl ?_
      refine e_Ok.sub' (z := w 275 9 - a) rfl rfl (by omega) ?_
      refine e_Ok.putf rfl (el_o rfl) rfl (ef_o rfl) ?_
      generalize hw8 : e_up w 275 9 (w 275 9 - a) = w8
      have hH10 : e_Has hTy w8 := e_Has.upr hH hw8 rfl (by omega)
      have hT11 : e_Has mTy w8 := e_Has.ups hT hw8 (mt_o rfl)
      refine e_Ok.ps1 (x := (1, 275)) (q := 27) 1 rfl ?_
      refine e_Ok.getf (z := w 275 9 - a) rfl (el_o rfl) rfl (ef_o rfl) (e_ue hw8) (by omega) ?_
      refine e_Ok.rets rfl rfl ?_
      have e9 : w8 275 9 = w 275 9 - a := (e_ue hw8)
      exact ⟨_, rfl, (show e_fr mTape w w8 from e_fr.up (e_fr.refl w) hw8 (by first | exact Or.inl ⟨rfl, rfl⟩ | (unfold mTape; omega))), hT11, hH10, by omega⟩
    · replace h7 : (1 : Int) = 0 := Classical.not_not.mp (show ¬ ((1 : Int) ≠ 0) from h7)
      exfalso; omega
  · refine e_Ok.nrm (q := 11) (st' := [(0, 0)]) rfl rfl ?_
    refine e_Ok.if1 rfl (fun h12 => ?_) (fun h12 => ?_)
    · replace h12 : (0 : Int) ≠ 0 := h12
      exfalso; omega
    · replace h12 : (0 : Int) = 0 := Classical.not_not.mp (show ¬ ((0 : Int) ≠ 0) from h12)
      refine e_Ok.ps1 (x := (0, (-1))) (q := 15) 1 rfl ?_
      refine e_Ok.rets rfl rfl ?_
      have e9 : w 275 9 = w 275 9 := rfl
      exact ⟨_, rfl, (e_fr.refl w), hT, hH, by omega⟩
theorem no_54_1 {k : Int} : ¬ mO 275 k := by unfold mO; omega
theorem su_54_4 {c k : Int} (q : mW c k) : mO c k := by
  unfold mW at q
  rcases q with q | q
  · exact Or.inr (Or.inl (by omega))
  · exact Or.inr (Or.inr (by omega))
theorem su_54_5 {c k : Int} (q : mR c k) : mO c k := by
  unfold mR at q
  rcases q with ⟨q, ⟨q, q⟩⟩ | q
  · exact Or.inl ⟨(by omega), Or.inr ⟨(by omega), (by omega)⟩⟩
  · exact Or.inr (Or.inl (by omega))
theorem c_323 {d : Nat} (hd : 23 ≤ d) {w : eW} (hT : e_Has mTy w) (hA : mAc w) {p v : Int} (hp : 0 ≤ p ∧ p ≤ 63) (hv : -2147483648 ≤ v ∧ v ≤ 2147483647) : e_Ok 20 elay ecode eI d 323 (0, [(0, (1, 275)), (1, (0, p)), (2, (0, v))], [], w) (fun r w' => r = [] ∧ e_fr mO w w' ∧ e_Has mTy w') := by
  obtain ⟨d, rfl⟩ : ∃ e, d = e + 1 := ⟨d - 1, by omega⟩
  refine e_Ok.ps1 (x := (1, 275)) (q := 1) 1 rfl ?_
  refine e_Ok.getr (z := 276) rfl (el_o rfl) rfl (ef_o rfl) (e_Has.eq hT (mt_o rfl)) ⟨by decide, by decide⟩ ?_
  refine e_Ok.ps2 (x := (0, p)) (y := (0, 160)) (q := 8) 2 rfl ?_
  refine e_Ok.add (z := p + 160) rfl (Int.add_comm _ _) (by omega) ?_
  have h1 := (e_Has.get hT (c := 276) (k := p + 160) (lo := (-2147483648)) (hi := 2147483647) (nR_OWN (p := p) (by omega)) (by decide))
  refine e_Ok.ald (z := w 276 (p + 160)) rfl (el_o rfl) rfl (by omega) rfl (e_bq h1 (by decide) (by decide)) ?_
  refine e_Ok.ps1 (x := (0, v)) (q := 11) 1 rfl ?_
  refine e_Ok.if2 rfl (fun h2 => ?_) (fun h2 => ?_)
  · replace h2 : (w 276 (p + 160) : Int) = v := h2
    refine e_Ok.rets rfl rfl ?_
    exact ⟨rfl, (e_fr.refl w), hT⟩
  · replace h2 : (w 276 (p + 160) : Int) ≠ v := (show ¬ ((w 276 (p + 160) : Int) = v) from h2)
    refine e_Ok.ps1 (x := (1, 275)) (q := 15) 1 rfl ?_
    refine e_Ok.callV rfl (e_dq hd rfl) rfl rfl rfl rfl (c_321 (e_dq hd rfl) hT hA) (fun r3 w4 h5 => ?_)
    obtain ⟨rfl, q6, q6k⟩ := h5
    have f7 : e_fr mO w w4 := e_fr.trans (e_fr.refl w) (e_fr.mono q6 (fun c k q => su_54_4 q))
    refine e_Ok.nrm (q := 18) (st' := []) rfl rfl ?_
    refine e_Ok.ps1 (x := (1, 275)) (q := 19) 1 rfl ?_
    refine e_Ok.getr (z := 276) rfl (el_o rfl) rfl (ef_o rfl) ((f7 275 0 no_54_1).trans (e_Has.eq hT (mt_o rfl))) ⟨by decide, by decide⟩ ?_
    refine e_Ok.ps2 (x := (0, p)) (y := (0, 160)) (q := 26) 2 rfl ?_
    refine e_Ok.add (z := p + 160) rfl (Int.add_comm _ _) (by omega) ?_
    refine e_Ok.ps1 (x := (0, v)) (q := 28) 1 rfl ?_
    refine e_Ok.ast rfl (el_o rfl) rfl rfl (by omega) ?_
    generalize hw8 : e_up w4 276 (p + 160) v = w8
    have f9 : e_fr mO w w8 := e_fr.up f7 hw8 (by unfold mO; omega)
    have hT10 : e_Has mTy w8 := e_Has.upr (mT_W q6 hT) hw8 (nR_OWN (p := p) (by omega)) (by omega)
    refine e_Ok.ps1 (x := (1, 275)) (q := 30) 1 rfl ?_
    refine e_Ok.callV rfl (e_dq hd rfl) rfl rfl rfl rfl (c_322 (e_dq hd rfl) hT10 (mAc.fr' (fun k q => by unfold mO at q; omega) f9 hA) (e_kr.oth q6k hw8 (by decide))) (fun r11 w12 h13 => ?_)
    obtain ⟨rfl, q14, q14T⟩ := h13
    refine e_Ok.nrm (q := 33) (st' := []) rfl rfl ?_
    refine e_Ok.rets rfl rfl ?_
    exact ⟨rfl, (show e_fr mO w w12 from e_fr.trans f9 (e_fr.mono q14 (fun c k q => su_54_5 q))), q14T⟩
theorem no_54_2 {k : Int} : ¬ mK 275 k := by unfold mK; omega
theorem no_54_3 {k : Int} : ¬ mK 286 k := by unfold mK; omega
theorem su_54_6 {c k : Int} (q : mP c k) : mK c k := by
  unfold mP at q
  rcases q with q | q
  · exact Or.inr (Or.inl (by omega))
  · exact Or.inr (Or.inr (by omega))
theorem c_303 {d : Nat} (hd : 23 ≤ d) {w : eW} (hT : e_Has mTy w) : e_Ok 20 elay ecode eI d 303 (0, [(0, (1, 275))], [], w) (fun r w' => r = [] ∧ e_fr mK w w' ∧ e_Has mTy w') := by
  obtain ⟨d, rfl⟩ : ∃ e, d = e + 1 := ⟨d - 1, by omega⟩
  refine e_Ok.ps1 (x := (1, 275)) (q := 1) 1 rfl ?_
  refine e_Ok.callV rfl (e_dq hd rfl) rfl rfl rfl rfl (c_302 (e_dq hd rfl) hT) (fun r1 w2 h3 => ?_)
  obtain ⟨rfl, q4, q4k⟩ := h3
  refine e_Ok.nrm (q := 4) (st' := []) rfl rfl ?_
  refine e_Ok.run (t' := (6, [(1, (0, 0)), (0, (1, 275))], [], w2)) 2 rfl ?_
  have hL6 : ∀ (n : Nat) (y1 : Int) (v1 : eW), e_fr mK w v1 ∧ e_Has mTy v1 ∧ (∀ b, 0 ≤ b → b < w 275 10 → e_pk2 v1 (7 * b) (w 286 b)) ∧ 0 ≤ y1 ∧ y1 ≤ 4 → 5 - y1 < n → e_Ok 20 elay ecode eI (d + 1) 303 (6, [(0, (1, 275)), (1, (0, y1))], [], v1) (fun r w' => r = [] ∧ e_fr mK w w' ∧ e_Has mTy w') := by
    intro n
    induction n with
    | zero => intro y1 v1 hj hm; obtain ⟨j8, j9, j10, j11⟩ := hj; exfalso; omega
    | succ n ih7 =>
      intro y1 v1 hj hm
      obtain ⟨j8, j9, j10, j11⟩ := hj
      refine e_Ok.run (t' := (8, [(0, (1, 275)), (1, (0, y1))], [(1, 275), (0, y1)], v1)) 2 rfl ?_
      have h12 := (e_Has.get hT (c := 275) (k := 10) (lo := 0) (hi := 4) (mt_o rfl) (by decide))
      refine e_Ok.getf (z := w 275 10) rfl (el_o rfl) rfl (ef_o rfl) ((j8 275 10 no_54_2).trans rfl) (e_bq h12 (by decide) (by decide)) ?_
      refine e_Ok.if2 rfl (fun h13 => ?_) (fun h13 => ?_)
      · replace h13 : (y1 : Int) ≥ w 275 10 := h13
        refine e_Ok.rets rfl rfl ?_
        exact ⟨rfl, j8, j9⟩
      · replace h13 : (y1 : Int) < w 275 10 := Int.not_le.mp (show ¬ ((y1 : Int) ≥ w 275 10) from h13)
        refine e_Ok.run (t' := (16, [(2, (0, 0)), (0, (1, 275)), (1, (0, y1))], [], v1)) 2 rfl ?_
        have hL14 : ∀ (n : Nat) (y2 : Int) (v2 : eW), e_fr mK w v2 ∧ e_Has mTy v2 ∧ (∀ b, 0 ≤ b → b < w 275 10 → e_pk2 v2 (7 * b) (w 286 b)) ∧ 0 ≤ y2 ∧ y2 ≤ 7 → 8 - y2 < n → e_Ok 20 elay ecode eI (d + 1) 303 (16, [(0, (1, 275)), (1, (0, y1)), (2, (0, y2))], [], v2) (fun r w' => r = [] ∧ e_fr mK w w' ∧ e_Has mTy w') := by
          intro n
          induction n with
          | zero => intro y2 v2 hj hm; obtain ⟨j16, j17, j18, j19⟩ := hj; exfalso; omega
          | succ n ih15 =>
            intro y2 v2 hj hm
            obtain ⟨j16, j17, j18, j19⟩ := hj
            refine e_Ok.run (t' := (18, [(0, (1, 275)), (1, (0, y1)), (2, (0, y2))], [(1, 275), (0, y2)], v2)) 2 rfl ?_
            refine e_Ok.getr (z := 286) rfl (el_o rfl) rfl (ef_o rfl) ((j16 275 15 no_54_2).trans (e_Has.eq hT (mt_o rfl))) ⟨by decide, by decide⟩ ?_
            refine e_Ok.ps1 (x := (0, y1)) (q := 22) 1 rfl ?_
            have h20 := (e_Has.get hT (c := 286) (k := y1) (lo := 0) (hi := 6) (mt_o rfl) (by decide))
            refine e_Ok.ald (z := w 286 y1) rfl (el_o rfl) rfl (by omega) ((j16 286 y1 no_54_3).trans rfl) (e_bq h20 (by decide) (by decide)) ?_
            refine e_Ok.if2 rfl (fun h21 => ?_) (fun h21 => ?_)
            · replace h21 : (y2 : Int) > w 286 y1 := h21
              refine e_Ok.inc (z := y1 + 1) rfl rfl (by first | with_reducible rfl | omega) (by omega) ?_
              show e_Ok 20 elay ecode eI (d + 1) 303 (93, [(1, (0, y1 + 1)), (0, (1, 275)), (2, (0, y2))], [], v2) _
              refine e_Ok.ps0 (q := 6) 1 rfl ?_
              refine e_Ok.sub eAlk (e_sub_of rfl ?_) (ih7 (y1 + 1) v2 ⟨j16, j17, (fun b g1 g2 => ⟨(j18 b g1 g2).1, (j18 b g1 g2).2⟩), by omega⟩ (by omega))
              exact ⟨rfl, rfl, trivial⟩
            · replace h21 : (y2 : Int) ≤ w 286 y1 := Int.not_lt.mp (show ¬ ((y2 : Int) > w 286 y1) from h21)
              refine e_Ok.ps1 (x := (1, 275)) (q := 27) 1 rfl ?_
              refine e_Ok.getr (z := 276) rfl (el_o rfl) rfl (ef_o rfl) ((j16 275 0 no_54_2).trans (e_Has.eq hT (mt_o rfl))) ⟨by decide, by decide⟩ ?_
              refine e_Ok.ps3 (x := (0, y1)) (y := (0, 14)) (z := (0, 20876)) (q := 36) 3 rfl ?_
              refine e_Ok.mul (z := 14 * y1) rfl rfl (by omega) ?_
              refine e_Ok.add (z := 14 * y1 + 20876) rfl (Int.add_comm _ _) (by omega) ?_
              refine e_Ok.ps2 (x := (0, y2)) (y := (0, 2)) (q := 40) 2 rfl ?_
              refine e_Ok.mul (z := 2 * y2) rfl rfl (by omega) ?_
              refine e_Ok.add (z := 14 * y1 + 2 * y2 + 20876) rfl (by omega) (by omega) ?_
              refine e_Ok.ps1 (x := (1, 275)) (q := 43) 1 rfl ?_
              refine e_Ok.getr (z := 321) rfl (el_o rfl) rfl (ef_o rfl) ((j16 275 55 no_54_2).trans (e_Has.eq hT (mt_o rfl))) ⟨by decide, by decide⟩ ?_
              refine e_Ok.ps2 (x := (0, y1)) (y := (0, 7)) (q := 49) 2 rfl ?_
              refine e_Ok.mul (z := 7 * y1) rfl rfl (by omega) ?_
              refine e_Ok.ps1 (x := (0, y2)) (q := 51) 1 rfl ?_
              refine e_Ok.add (z := 7 * y1 + y2) rfl rfl (by omega) ?_
              have h22 := ((j18 y1 (by omega) (by omega)).1 (7 * y1 + y2) (by omega) (by omega))
              refine e_Ok.ald (z := v2 321 (7 * y1 + y2)) rfl (el_o rfl) rfl (by omega) rfl (by omega) ?_
              refine e_Ok.ast rfl (el_o rfl) rfl rfl (by omega) ?_
              generalize hw23 : e_up v2 276 (14 * y1 + 2 * y2 + 20876) (v2 321 (7 * y1 + y2)) = w23
              have hT25 : e_Has mTy w23 := e_Has.upr j17 hw23 (nR_mid (by omega)) (by omega)
              refine e_Ok.ps1 (x := (1, 275)) (q := 55) 1 rfl ?_
              refine e_Ok.getr (z := 276) rfl (el_o rfl) rfl (ef_o rfl) (e_uq hw23 (Or.inl (by decide)) ((j16 275 0 no_54_2).trans (e_Has.eq hT (mt_o rfl)))) ⟨by decide, by decide⟩ ?_
              refine e_Ok.ps3 (x := (0, y1)) (y := (0, 14)) (z := (0, 20876)) (q := 64) 3 rfl ?_
              refine e_Ok.mul (z := 14 * y1) rfl rfl (by omega) ?_
              refine e_Ok.add (z := 14 * y1 + 20876) rfl (Int.add_comm _ _) (by omega) ?_
              refine e_Ok.ps2 (x := (0, y2)) (y := (0, 2)) (q := 68) 2 rfl ?_
              refine e_Ok.mul (z := 2 * y2) rfl rfl (by omega) ?_
              refine e_Ok.add (z := 14 * y1 + 2 * y2 + 20876) rfl (by omega) (by omega) ?_
              refine e_Ok.ps1 (x := (0, 1)) (q := 71) 1 rfl ?_
              refine e_Ok.add (z := 14 * y1 + 2 * y2 + 20877) rfl (e_adl (by decide)) (by omega) ?_
              refine e_Ok.ps1 (x := (1, 275)) (q := 73) 1 rfl ?_
              refine e_Ok.getr (z := 322) rfl (el_o rfl) rfl (ef_o rfl) (e_uq hw23 (Or.inl (by decide)) ((j16 275 56 no_54_2).trans (e_Has.eq hT (mt_o rfl)))) ⟨by decide, by decide⟩ ?_
              refine e_Ok.ps2 (x := (0, y1)) (y := (0, 7)) (q := 79) 2 rfl ?_
              refine e_Ok.mul (z := 7 * y1) rfl rfl (by omega) ?_
              refine e_Ok.ps1 (x := (0, y2)) (q := 81) 1 rfl ?_
              refine e_Ok.add (z := 7 * y1 + y2) rfl rfl (by omega) ?_
              have h26 := ((j18 y1 (by omega) (by omega)).2 (7 * y1 + y2) (by omega) (by omega))
              refine e_Ok.ald (z := v2 322 (7 * y1 + y2)) rfl (el_o rfl) rfl (by omega) (e_uq hw23 (Or.inl (by decide)) rfl) (by omega) ?_
              refine e_Ok.ast rfl (el_o rfl) rfl rfl (by omega) ?_
              generalize hw27 : e_up w23 276 (14 * y1 + 2 * y2 + 20877) (v2 322 (7 * y1 + y2)) = w27
              have hT29 : e_Has mTy w27 := e_Has.upr hT25 hw27 (nR_mid (by omega)) (by omega)
              refine e_Ok.inc (z := y2 + 1) rfl rfl (by first | with_reducible rfl | omega) (by omega) ?_
              show e_Ok 20 elay ecode eI (d + 1) 303 (87, [(2, (0, y2 + 1)), (0, (1, 275)), (1, (0, y1))], [], w27) _
              refine e_Ok.ps0 (q := 16) 1 rfl ?_
              refine e_Ok.sub eAlk (e_sub_of rfl ?_) (ih15 (y2 + 1) w27 ⟨(show e_fr mK w w27 from e_fr.up (show e_fr mK w w23 from e_fr.up j16 hw23 (by unfold mK; omega)) hw27 (by unfold mK; omega)), hT29, (fun b g1 g2 => ⟨(e_kn.oth (e_kn.oth (j18 b g1 g2).1 hw23 (by decide)) hw27 (by decide)), (e_kn.oth (e_kn.oth (j18 b g1 g2).2 hw23 (by decide)) hw27 (by decide))⟩), by omega⟩ (by omega))
              exact ⟨rfl, rfl, rfl, trivial⟩
        refine e_Ok.sub eAlk (e_sub_of rfl ?_) (hL14 (8 + 1 : Int).toNat 0 v1 ⟨j8, j9, (fun b g1 g2 => ⟨(j10 b g1 g2).1, (j10 b g1 g2).2⟩), by omega⟩ (by omega))
        exact ⟨rfl, rfl, rfl, trivial⟩
  refine e_Ok.sub eAlk (e_sub_of rfl ?_) (hL6 (5 + 1 : Int).toNat 0 w2 ⟨(show e_fr mK w w2 from e_fr.trans (e_fr.refl w) (e_fr.mono q4 (fun c k q => su_54_6 q))), (mT_P q4 hT), (fun b g1 g2 => ⟨(q4k b g1 g2).1, (q4k b g1 g2).2⟩), by omega⟩ (by omega))
  exact ⟨rfl, rfl, trivial⟩
end
end
