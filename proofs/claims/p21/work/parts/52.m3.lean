noncomputable section
theorem c_300 {d : Nat} {w : eW} (hT : e_Has mTy w) {a : Int} : e_Ok 20 elay ecode eI d 300 (0, [(0, (1, 275)), (1, (0, a))], [], w) (fun r w' => ∃ z : Int, r = [(0, z)] ∧ w = w' ∧ -2147483648 ≤ z ∧ z ≤ 2147483647) := by
  refine e_Ok.run (t' := (4, [(0, (1, 275)), (1, (0, a))], [(0, 4095), (0, a)], w)) 2 rfl ?_
  refine e_Ok.andm 4095 12 rfl (by decide) (fun z1 hz1 => ?_)
  replace hz1 : 0 ≤ z1 ∧ z1 ≤ 4095 := by omega
  refine e_Ok.run (t' := (10, [(2, (0, z1)), (0, (1, 275)), (1, (0, a))], [(0, 1024), (0, z1)], w)) 3 rfl ?_
  refine e_Ok.if2 rfl (fun h2 => ?_) (fun h2 => ?_)
  · replace h2 : (z1 : Int) > 1024 := h2
    refine e_Ok.run (t' := (26, [(2, (0, z1)), (0, (1, 275)), (1, (0, a))], [(0, 2048), (0, z1)], w)) 2 rfl ?_
    refine e_Ok.if2 rfl (fun h3 => ?_) (fun h3 => ?_)
    · replace h3 : (z1 : Int) > 2048 := h3
      refine e_Ok.run (t' := (46, [(2, (0, z1)), (0, (1, 275)), (1, (0, a))], [(0, 3072), (0, z1)], w)) 2 rfl ?_
      refine e_Ok.if2 rfl (fun h4 => ?_) (fun h4 => ?_)
      · replace h4 : (z1 : Int) > 3072 := h4
        refine e_Ok.run (t' := (64, [(2, (0, z1)), (0, (1, 275)), (1, (0, a))], [(1, 275)], w)) 1 rfl ?_
        refine e_Ok.getr (z := 320) rfl (el_o rfl) rfl rfl (e_Has.eq hT rfl) (by omega) ?_
        refine e_Ok.run (t' := (71, [(2, (0, z1)), (0, (1, 275)), (1, (0, a))], [(0, z1), (0, 4096), (1, 320)], w)) 2 rfl ?_
        refine e_Ok.sub' (z := -z1 + 4096) rfl (by omega) (by omega) ?_
        have h5 := (e_Has.get hT (c := 320) (k := -z1 + 4096) (lo := (-2147483648)) (hi := 2147483647) rfl (by decide))
        refine e_Ok.ald (z := w 320 (-z1 + 4096)) rfl (el_o rfl) rfl (by omega) rfl (by omega) ?_
        refine e_Ok.anyU rfl (fun z6 z6a z6b => ?_)
        refine e_Ok.rets rfl rfl ?_
        exact ⟨_, rfl, rfl, by omega, by omega⟩
      · replace h4 : (z1 : Int) ≤ 3072 := by have q : ¬ ((z1 : Int) > 3072) := h4; omega
        refine e_Ok.run (t' := (50, [(2, (0, z1)), (0, (1, 275)), (1, (0, a))], [(1, 275)], w)) 1 rfl ?_
        refine e_Ok.getr (z := 320) rfl (el_o rfl) rfl rfl (e_Has.eq hT rfl) (by omega) ?_
        refine e_Ok.run (t' := (57, [(2, (0, z1)), (0, (1, 275)), (1, (0, a))], [(0, 2048), (0, z1), (1, 320)], w)) 2 rfl ?_
        refine e_Ok.sub' (z := z1 - 2048) rfl (by omega) (by omega) ?_
        have h7 := (e_Has.get hT (c := 320) (k := z1 - 2048) (lo := (-2147483648)) (hi := 2147483647) rfl (by decide))
        refine e_Ok.ald (z := w 320 (z1 - 2048)) rfl (el_o rfl) rfl (by omega) rfl (by omega) ?_
        refine e_Ok.anyU rfl (fun z8 z8a z8b => ?_)
        refine e_Ok.run (t' := (74, [(2, (0, z1)), (0, (1, 275)), (1, (0, a))], [(0, z8)], w)) 1 rfl ?_
        refine e_Ok.rets rfl rfl ?_
        exact ⟨_, rfl, rfl, by omega, by omega⟩
    · replace h3 : (z1 : Int) ≤ 2048 := by have q : ¬ ((z1 : Int) > 2048) := h3; omega
      refine e_Ok.run (t' := (30, [(2, (0, z1)), (0, (1, 275)), (1, (0, a))], [(1, 275)], w)) 1 rfl ?_
      refine e_Ok.getr (z := 320) rfl (el_o rfl) rfl rfl (e_Has.eq hT rfl) (by omega) ?_
      refine e_Ok.run (t' := (37, [(2, (0, z1)), (0, (1, 275)), (1, (0, a))], [(0, z1), (0, 2048), (1, 320)], w)) 2 rfl ?_
      refine e_Ok.sub' (z := -z1 + 2048) rfl (by omega) (by omega) ?_
      have h9 := (e_Has.get hT (c := 320) (k := -z1 + 2048) (lo := (-2147483648)) (hi := 2147483647) rfl (by decide))
      refine e_Ok.ald (z := w 320 (-z1 + 2048)) rfl (el_o rfl) rfl (by omega) rfl (by omega) ?_
      refine e_Ok.run (t' := (74, [(2, (0, z1)), (0, (1, 275)), (1, (0, a))], [(0, w 320 (-z1 + 2048))], w)) 1 rfl ?_
      refine e_Ok.rets rfl rfl ?_
      exact ⟨_, rfl, rfl, by omega, by omega⟩
  · replace h2 : (z1 : Int) ≤ 1024 := by have q : ¬ ((z1 : Int) > 1024) := h2; omega
    refine e_Ok.run (t' := (14, [(2, (0, z1)), (0, (1, 275)), (1, (0, a))], [(1, 275)], w)) 1 rfl ?_
    refine e_Ok.getr (z := 320) rfl (el_o rfl) rfl rfl (e_Has.eq hT rfl) (by omega) ?_
    refine e_Ok.run (t' := (18, [(2, (0, z1)), (0, (1, 275)), (1, (0, a))], [(0, z1), (1, 320)], w)) 1 rfl ?_
    have h10 := (e_Has.get hT (c := 320) (k := z1) (lo := (-2147483648)) (hi := 2147483647) rfl (by decide))
    refine e_Ok.ald (z := w 320 z1) rfl (el_o rfl) rfl (by omega) rfl (by omega) ?_
    refine e_Ok.run (t' := (74, [(2, (0, z1)), (0, (1, 275)), (1, (0, a))], [(0, w 320 z1)], w)) 1 rfl ?_
    refine e_Ok.rets rfl rfl ?_
    exact ⟨_, rfl, rfl, by omega, by omega⟩
theorem no_52_0 {t : Int} {k : Int} : ¬ mPt t 275 k := by unfold mPt; omega
theorem no_52_1 {t : Int} {k : Int} : ¬ mPt t 286 k := by unfold mPt; omega
theorem no_52_2 {t : Int} {k : Int} : ¬ mPt t 276 k := by unfold mPt; omega
theorem no_52_3 {t : Int} {k : Int} : ¬ mPt t 292 k := by unfold mPt; omega
theorem no_52_4 {t : Int} {k : Int} : ¬ mPt t 287 k := by unfold mPt; omega
theorem c_301_0 {d : Nat} (hd : 21 ≤ d) {w : eW} (hT : e_Has mTy w) {a : Int} (ha : 0 ≤ a ∧ a ≤ 3) : e_Ok 20 elay ecode eI d 301 (0, [(0, (1, 275)), (1, (0, a)), (2, (0, 0))], [], w) (fun r w' => r = [] ∧ e_fr (mPt (7 * a)) w w' ∧ e_pk2 w' (7 * a) (w 286 a)) := by
  obtain ⟨d, rfl⟩ : ∃ e, d = e + 1 := ⟨d - 1, by omega⟩
  have hja := (e_Has.get hT (c := 286) (k := a) (lo := 0) (hi := 6) rfl (by decide))
  refine e_Ok.run (t' := (1, [(0, (1, 275)), (1, (0, a)), (2, (0, 0))], [(0, 0)], w)) 1 rfl ?_
  refine e_Ok.if1 rfl (fun h1 => ?_) (fun h1 => ?_)
  · replace h1 : (0 : Int) = 0 := h1
    refine e_Ok.run (t' := (12, [(0, (1, 275)), (1, (0, a)), (2, (0, 0))], [(0, a), (0, 7)], w)) 2 rfl ?_
    refine e_Ok.mul (z := 7 * a) rfl (by omega) (by omega) ?_
    refine e_Ok.run (t' := (18, [(3, (0, 7 * a)), (0, (1, 275)), (1, (0, a)), (2, (0, 0))], [(1, 275), (4, 1048576)], w)) 3 rfl ?_
    refine e_Ok.getr (z := 282) rfl (el_o rfl) rfl rfl (e_Has.eq hT rfl) (by omega) ?_
    refine e_Ok.run (t' := (22, [(3, (0, 7 * a)), (0, (1, 275)), (1, (0, a)), (2, (0, 0))], [(0, a), (1, 282), (4, 1048576)], w)) 1 rfl ?_
    have h2 := (e_Has.get hT (c := 282) (k := a) (lo := (-8000)) (hi := 8000) rfl (by decide))
    refine e_Ok.ald (z := w 282 a) rfl (el_o rfl) rfl (by omega) rfl (by omega) ?_
    refine e_Ok.run (t' := (24, [(3, (0, 7 * a)), (0, (1, 275)), (1, (0, a)), (2, (0, 0))], [(4, w 282 a), (4, 1048576)], w)) 1 rfl ?_
    refine e_Ok.mulL (z := 1048576 * w 282 a) rfl (by omega) (by omega) ?_
    refine e_Ok.run (t' := (31, [(4, (4, 1048576 * w 282 a)), (3, (0, 7 * a)), (0, (1, 275)), (1, (0, a)), (2, (0, 0))], [(1, 275), (4, 1048576)], w)) 3 rfl ?_
    refine e_Ok.getr (z := 283) rfl (el_o rfl) rfl rfl (e_Has.eq hT rfl) (by omega) ?_
    refine e_Ok.run (t' := (35, [(4, (4, 1048576 * w 282 a)), (3, (0, 7 * a)), (0, (1, 275)), (1, (0, a)), (2, (0, 0))], [(0, a), (1, 283), (4, 1048576)], w)) 1 rfl ?_
    have h4 := (e_Has.get hT (c := 283) (k := a) (lo := (-8000)) (hi := 8000) rfl (by decide))
    refine e_Ok.ald (z := w 283 a) rfl (el_o rfl) rfl (by omega) rfl (by omega) ?_
    refine e_Ok.run (t' := (37, [(4, (4, 1048576 * w 282 a)), (3, (0, 7 * a)), (0, (1, 275)), (1, (0, a)), (2, (0, 0))], [(4, w 283 a), (4, 1048576)], w)) 1 rfl ?_
    refine e_Ok.mulL (z := 1048576 * w 283 a) rfl (by omega) (by omega) ?_
    refine e_Ok.run (t' := (41, [(6, (4, 1048576 * w 283 a)), (4, (4, 1048576 * w 282 a)), (3, (0, 7 * a)), (0, (1, 275)), (1, (0, a)), (2, (0, 0))], [(1, 275)], w)) 2 rfl ?_
    refine e_Ok.getr (z := 284) rfl (el_o rfl) rfl rfl (e_Has.eq hT rfl) (by omega) ?_
    refine e_Ok.run (t' := (45, [(6, (4, 1048576 * w 283 a)), (4, (4, 1048576 * w 282 a)), (3, (0, 7 * a)), (0, (1, 275)), (1, (0, a)), (2, (0, 0))], [(0, a), (1, 284)], w)) 1 rfl ?_
    have h6 := (e_Has.get hT (c := 284) (k := a) (lo := 0) (hi := 4095) rfl (by decide))
    refine e_Ok.ald (z := w 284 a) rfl (el_o rfl) rfl (by omega) rfl (by omega) ?_
    refine e_Ok.run (t' := (49, [(8, (0, w 284 a)), (6, (4, 1048576 * w 283 a)), (4, (4, 1048576 * w 282 a)), (3, (0, 7 * a)), (0, (1, 275)), (1, (0, a)), (2, (0, 0))], [(1, 275)], w)) 2 rfl ?_
    refine e_Ok.getr (z := 321) rfl (el_o rfl) rfl rfl (e_Has.eq hT rfl) (by omega) ?_
    refine e_Ok.run (t' := (54, [(8, (0, w 284 a)), (6, (4, 1048576 * w 283 a)), (4, (4, 1048576 * w 282 a)), (3, (0, 7 * a)), (0, (1, 275)), (1, (0, a)), (2, (0, 0))], [(1, 275), (0, 7 * a), (1, 321)], w)) 2 rfl ?_
    refine e_Ok.getr (z := 282) rfl (el_o rfl) rfl rfl (e_Has.eq hT rfl) (by omega) ?_
    refine e_Ok.run (t' := (58, [(8, (0, w 284 a)), (6, (4, 1048576 * w 283 a)), (4, (4, 1048576 * w 282 a)), (3, (0, 7 * a)), (0, (1, 275)), (1, (0, a)), (2, (0, 0))], [(0, a), (1, 282), (0, 7 * a), (1, 321)], w)) 1 rfl ?_
    refine e_Ok.ald (z := w 282 a) rfl (el_o rfl) rfl (by omega) rfl (by omega) ?_
    refine e_Ok.ast rfl (el_o rfl) rfl rfl (by omega) ?_
    generalize hw7 : e_up w 321 (7 * a) (w 282 a) = w7
    have f8 : e_fr (mPt (7 * a)) w w7 := e_fr.up (e_fr.refl w) hw7 (by unfold mPt; omega)
    refine e_Ok.run (t' := (61, [(8, (0, w 284 a)), (6, (4, 1048576 * w 283 a)), (4, (4, 1048576 * w 282 a)), (3, (0, 7 * a)), (0, (1, 275)), (1, (0, a)), (2, (0, 0))], [(1, 275)], w7)) 1 rfl ?_
    refine e_Ok.getr (z := 322) rfl (el_o rfl) rfl rfl (by rw [← hw7]; exact (e_up_ne _ _ (Or.inl (by omega))).trans (e_Has.eq hT rfl)) (by omega) ?_
    refine e_Ok.run (t' := (66, [(8, (0, w 284 a)), (6, (4, 1048576 * w 283 a)), (4, (4, 1048576 * w 282 a)), (3, (0, 7 * a)), (0, (1, 275)), (1, (0, a)), (2, (0, 0))], [(1, 275), (0, 7 * a), (1, 322)], w7)) 2 rfl ?_
    refine e_Ok.getr (z := 283) rfl (el_o rfl) rfl rfl (by rw [← hw7]; exact (e_up_ne _ _ (Or.inl (by omega))).trans (e_Has.eq hT rfl)) (by omega) ?_
    refine e_Ok.run (t' := (70, [(8, (0, w 284 a)), (6, (4, 1048576 * w 283 a)), (4, (4, 1048576 * w 282 a)), (3, (0, 7 * a)), (0, (1, 275)), (1, (0, a)), (2, (0, 0))], [(0, a), (1, 283), (0, 7 * a), (1, 322)], w7)) 1 rfl ?_
    refine e_Ok.ald (z := w 283 a) rfl (el_o rfl) rfl (by omega) (by rw [← hw7]; exact (e_up_ne _ _ (Or.inl (by omega))).trans rfl) (by omega) ?_
    refine e_Ok.ast rfl (el_o rfl) rfl rfl (by omega) ?_
    generalize hw9 : e_up w7 322 (7 * a) (w 283 a) = w9
    have f10 : e_fr (mPt (7 * a)) w w9 := e_fr.up f8 hw9 (by unfold mPt; omega)
    refine e_Ok.run (t' := (75, [(9, (0, 0)), (8, (0, w 284 a)), (6, (4, 1048576 * w 283 a)), (4, (4, 1048576 * w 282 a)), (3, (0, 7 * a)), (0, (1, 275)), (1, (0, a)), (2, (0, 0))], [], w9)) 2 rfl ?_
    have hL11 : ∀ (n : Nat) (y4 : Int) (y6 : Int) (y8 : Int) (y9 : Int) (v1 : eW), e_fr (mPt (7 * a)) w v1 ∧ e_kn v1 321 (7 * a) (7 * a + y9) ∧ e_kn v1 322 (7 * a) (7 * a + y9) ∧ 0 ≤ y9 ∧ y9 ≤ 6 → 7 - y9 < n → e_Ok 20 elay ecode eI (d + 1) 301 (75, [(0, (1, 275)), (1, (0, a)), (2, (0, 0)), (3, (0, 7 * a)), (4, (4, y4)), (6, (4, y6)), (8, (0, y8)), (9, (0, y9))], [], v1) (fun r w' => r = [] ∧ e_fr (mPt (7 * a)) w w' ∧ e_pk2 w' (7 * a) (w 286 a)) := by
      intro n
      induction n with
      | zero => intro y4 y6 y8 y9 v1 hj hm; obtain ⟨j13, j14, j15, j16⟩ := hj; exfalso; omega
      | succ n ih12 =>
        intro y4 y6 y8 y9 v1 hj hm
        obtain ⟨j13, j14, j15, j16⟩ := hj
        refine e_Ok.run (t' := (78, [(0, (1, 275)), (1, (0, a)), (2, (0, 0)), (3, (0, 7 * a)), (4, (4, y4)), (6, (4, y6)), (8, (0, y8)), (9, (0, y9))], [(1, 275), (0, y9)], v1)) 2 rfl ?_
        refine e_Ok.getr (z := 286) rfl (el_o rfl) rfl rfl ((j13 275 15 (by first | exact no_52_0 | (unfold mPt; omega))).trans (e_Has.eq hT rfl)) (by omega) ?_
        refine e_Ok.run (t' := (82, [(0, (1, 275)), (1, (0, a)), (2, (0, 0)), (3, (0, 7 * a)), (4, (4, y4)), (6, (4, y6)), (8, (0, y8)), (9, (0, y9))], [(0, a), (1, 286), (0, y9)], v1)) 1 rfl ?_
        have h17 := (e_Has.get hT (c := 286) (k := a) (lo := 0) (hi := 6) rfl (by decide))
        refine e_Ok.ald (z := w 286 a) rfl (el_o rfl) rfl (by omega) ((j13 286 a (by first | exact no_52_1 | (unfold mPt; omega))).trans rfl) (by omega) ?_
        refine e_Ok.if2 rfl (fun h18 => ?_) (fun h18 => ?_)
        · replace h18 : (y9 : Int) ≥ w 286 a := h18
          refine e_Ok.rets rfl rfl ?_
          exact ⟨rfl, j13, e_kn_sub j14 (by omega) (by omega), e_kn_sub j15 (by omega) (by omega)⟩
        · replace h18 : (y9 : Int) < w 286 a := by have q : ¬ ((y9 : Int) ≥ w 286 a) := h18; omega
          refine e_Ok.run (t' := (87, [(0, (1, 275)), (1, (0, a)), (2, (0, 0)), (3, (0, 7 * a)), (4, (4, y4)), (6, (4, y6)), (8, (0, y8)), (9, (0, y9))], [(0, 0)], v1)) 1 rfl ?_
          refine e_Ok.if1 rfl (fun h19 => ?_) (fun h19 => ?_)
          · replace h19 : (0 : Int) = 0 := h19
            refine e_Ok.run (t' := (101, [(0, (1, 275)), (1, (0, a)), (2, (0, 0)), (3, (0, 7 * a)), (4, (4, y4)), (6, (4, y6)), (8, (0, y8)), (9, (0, y9))], [(1, 275)], v1)) 1 rfl ?_
            refine e_Ok.getr (z := 276) rfl (el_o rfl) rfl rfl ((j13 275 0 (by first | exact no_52_0 | (unfold mPt; omega))).trans (e_Has.eq hT rfl)) (by omega) ?_
            refine e_Ok.run (t' := (105, [(0, (1, 275)), (1, (0, a)), (2, (0, 0)), (3, (0, 7 * a)), (4, (4, y4)), (6, (4, y6)), (8, (0, y8)), (9, (0, y9))], [(0, a), (1, 276)], v1)) 1 rfl ?_
            refine e_Ok.callS rfl (by omega) rfl rfl (c_268 (by omega)) (fun r20 w21 h22 => ?_)
            obtain ⟨rfl, rfl⟩ := h22
            show e_Ok 20 elay ecode eI (d + 1) 301 (108, [(0, (1, 275)), (1, (0, a)), (2, (0, 0)), (3, (0, 7 * a)), (4, (4, y4)), (6, (4, y6)), (8, (0, y8)), (9, (0, y9))], [(0, 36 * a + 16), (1, 276)], v1) _
            refine e_Ok.run (t' := (110, [(0, (1, 275)), (1, (0, a)), (2, (0, 0)), (3, (0, 7 * a)), (4, (4, y4)), (6, (4, y6)), (8, (0, y8)), (9, (0, y9))], [(0, 16), (0, 36 * a + 16), (1, 276)], v1)) 1 rfl ?_
            refine e_Ok.add (z := 36 * a + 32) rfl (by omega) (by omega) ?_
            refine e_Ok.run (t' := (113, [(0, (1, 275)), (1, (0, a)), (2, (0, 0)), (3, (0, 7 * a)), (4, (4, y4)), (6, (4, y6)), (8, (0, y8)), (9, (0, y9))], [(0, y9), (0, 36 * a + 32), (1, 276)], v1)) 1 rfl ?_
            refine e_Ok.add (z := 36 * a + y9 + 32) rfl (by omega) (by omega) ?_
            have h23 := (e_Has.get hT (c := 276) (k := 36 * a + y9 + 32) (lo := (-100000)) (hi := 100000) (nR_VALUE (a := a) (j := y9) (by omega) (by omega)) (by decide))
            refine e_Ok.ald (z := w 276 (36 * a + y9 + 32)) rfl (el_o rfl) rfl (by omega) ((j13 276 (36 * a + y9 + 32) (by first | exact no_52_2 | (unfold mPt; omega))).trans rfl) (by omega) ?_
            refine e_Ok.run (t' := (118, [(10, (0, w 276 (36 * a + y9 + 32))), (0, (1, 275)), (1, (0, a)), (2, (0, 0)), (3, (0, 7 * a)), (4, (4, y4)), (6, (4, y6)), (8, (0, y8)), (9, (0, y9))], [(1, 275)], v1)) 2 rfl ?_
            refine e_Ok.getr (z := 292) rfl (el_o rfl) rfl rfl ((j13 275 21 (by first | exact no_52_0 | (unfold mPt; omega))).trans (e_Has.eq hT rfl)) (by omega) ?_
            refine e_Ok.run (t' := (124, [(10, (0, w 276 (36 * a + y9 + 32))), (0, (1, 275)), (1, (0, a)), (2, (0, 0)), (3, (0, 7 * a)), (4, (4, y4)), (6, (4, y6)), (8, (0, y8)), (9, (0, y9))], [(0, a), (0, 6), (1, 292)], v1)) 2 rfl ?_
            refine e_Ok.mul (z := 6 * a) rfl (by omega) (by omega) ?_
            refine e_Ok.run (t' := (127, [(10, (0, w 276 (36 * a + y9 + 32))), (0, (1, 275)), (1, (0, a)), (2, (0, 0)), (3, (0, 7 * a)), (4, (4, y4)), (6, (4, y6)), (8, (0, y8)), (9, (0, y9))], [(0, y9), (0, 6 * a), (1, 292)], v1)) 1 rfl ?_
            refine e_Ok.add (z := 6 * a + y9) rfl (by omega) (by omega) ?_
            have h24 := (e_Has.get hT (c := 292) (k := 6 * a + y9) (lo := 0) (hi := 8000) rfl (by decide))
            refine e_Ok.ald (z := w 292 (6 * a + y9)) rfl (el_o rfl) rfl (by omega) ((j13 292 (6 * a + y9) (by first | exact no_52_3 | (unfold mPt; omega))).trans rfl) (by omega) ?_
            refine e_Ok.run (t' := (132, [(11, (0, w 292 (6 * a + y9))), (10, (0, w 276 (36 * a + y9 + 32))), (0, (1, 275)), (1, (0, a)), (2, (0, 0)), (3, (0, 7 * a)), (4, (4, y4)), (6, (4, y6)), (8, (0, y8)), (9, (0, y9))], [(1, 275)], v1)) 2 rfl ?_
            refine e_Ok.getr (z := 287) rfl (el_o rfl) rfl rfl ((j13 275 16 (by first | exact no_52_0 | (unfold mPt; omega))).trans (e_Has.eq hT rfl)) (by omega) ?_
            refine e_Ok.run (t' := (138, [(11, (0, w 292 (6 * a + y9))), (10, (0, w 276 (36 * a + y9 + 32))), (0, (1, 275)), (1, (0, a)), (2, (0, 0)), (3, (0, 7 * a)), (4, (4, y4)), (6, (4, y6)), (8, (0, y8)), (9, (0, y9))], [(0, a), (0, 6), (1, 287)], v1)) 2 rfl ?_
            refine e_Ok.mul (z := 6 * a) rfl (by omega) (by omega) ?_
            refine e_Ok.run (t' := (141, [(11, (0, w 292 (6 * a + y9))), (10, (0, w 276 (36 * a + y9 + 32))), (0, (1, 275)), (1, (0, a)), (2, (0, 0)), (3, (0, 7 * a)), (4, (4, y4)), (6, (4, y6)), (8, (0, y8)), (9, (0, y9))], [(0, y9), (0, 6 * a), (1, 287)], v1)) 1 rfl ?_
            refine e_Ok.add (z := 6 * a + y9) rfl (by omega) (by omega) ?_
            have h25 := (e_Has.get hT (c := 287) (k := 6 * a + y9) (lo := 0) (hi := 1) rfl (by decide))
            refine e_Ok.ald (z := w 287 (6 * a + y9)) rfl (el_o rfl) rfl (by omega) ((j13 287 (6 * a + y9) (by first | exact no_52_4 | (unfold mPt; omega))).trans rfl) (by omega) ?_
            refine e_Ok.run (t' := (144, [(11, (0, w 292 (6 * a + y9))), (10, (0, w 276 (36 * a + y9 + 32))), (0, (1, 275)), (1, (0, a)), (2, (0, 0)), (3, (0, 7 * a)), (4, (4, y4)), (6, (4, y6)), (8, (0, y8)), (9, (0, y9))], [(0, 1), (0, w 287 (6 * a + y9))], v1)) 1 rfl ?_
            refine e_Ok.if2 rfl (fun h26 => ?_) (fun h26 => ?_)
            · replace h26 : (w 287 (6 * a + y9) : Int) ≠ 1 := h26
              refine e_Ok.run (t' := (161, [(11, (0, w 292 (6 * a + y9))), (10, (0, w 276 (36 * a + y9 + 32))), (0, (1, 275)), (1, (0, a)), (2, (0, 0)), (3, (0, 7 * a)), (4, (4, y4)), (6, (4, y6)), (8, (0, y8)), (9, (0, y9))], [(0, w 276 (36 * a + y9 + 32)), (0, w 292 (6 * a + y9))], v1)) 2 rfl ?_
              refine e_Ok.add (z := w 292 (6 * a + y9) + w 276 (36 * a + y9 + 32)) rfl (by omega) (by omega) ?_
              refine e_Ok.run (t' := (175, [(11, (0, w 292 (6 * a + y9) + w 276 (36 * a + y9 + 32))), (10, (0, w 276 (36 * a + y9 + 32))), (0, (1, 275)), (1, (0, a)), (2, (0, 0)), (3, (0, 7 * a)), (4, (4, y4)), (6, (4, y6)), (8, (0, y8)), (9, (0, y9))], [(0, 1024), (0, y8), (1, 275), (4, w 292 (6 * a + y9) + w 276 (36 * a + y9 + 32)), (4, y4)], v1)) 7 rfl ?_
              refine e_Ok.any rfl (eF_add_any _ _) (fun z27 z27a z27b => ?_)
              refine e_Ok.callV rfl (by omega) rfl rfl rfl rfl (c_300 (mT_Pt j13 hT)) (fun r28 w29 h30 => ?_)
              obtain ⟨z31, rfl, rfl, q32a, q32b⟩ := h30
              show e_Ok 20 elay ecode eI (d + 1) 301 (179, [(11, (0, w 292 (6 * a + y9) + w 276 (36 * a + y9 + 32))), (10, (0, w 276 (36 * a + y9 + 32))), (0, (1, 275)), (1, (0, a)), (2, (0, 0)), (3, (0, 7 * a)), (4, (4, y4)), (6, (4, y6)), (8, (0, y8)), (9, (0, y9))], [(0, z31), (4, w 292 (6 * a + y9) + w 276 (36 * a + y9 + 32)), (4, y4)], v1) _
              refine e_Ok.run (t' := (180, [(11, (0, w 292 (6 * a + y9) + w 276 (36 * a + y9 + 32))), (10, (0, w 276 (36 * a + y9 + 32))), (0, (1, 275)), (1, (0, a)), (2, (0, 0)), (3, (0, 7 * a)), (4, (4, y4)), (6, (4, y6)), (8, (0, y8)), (9, (0, y9))], [(4, z31), (4, w 292 (6 * a + y9) + w 276 (36 * a + y9 + 32)), (4, y4)], v1)) 1 rfl ?_
              refine e_Ok.anyL rfl ⟨_, rfl⟩ (fun x33 => ?_)
              refine e_Ok.anyL rfl ⟨_, rfl⟩ (fun x34 => ?_)
              refine e_Ok.run (t' := (192, [(4, (4, x34)), (11, (0, w 292 (6 * a + y9) + w 276 (36 * a + y9 + 32))), (10, (0, w 276 (36 * a + y9 + 32))), (0, (1, 275)), (1, (0, a)), (2, (0, 0)), (3, (0, 7 * a)), (6, (4, y6)), (8, (0, y8)), (9, (0, y9))], [(0, y8), (1, 275), (4, w 292 (6 * a + y9) + w 276 (36 * a + y9 + 32)), (4, y6)], v1)) 6 rfl ?_
              refine e_Ok.callV rfl (by omega) rfl rfl rfl rfl (c_300 (mT_Pt j13 hT)) (fun r35 w36 h37 => ?_)
              obtain ⟨z38, rfl, rfl, q39a, q39b⟩ := h37
              show e_Ok 20 elay ecode eI (d + 1) 301 (195, [(4, (4, x34)), (11, (0, w 292 (6 * a + y9) + w 276 (36 * a + y9 + 32))), (10, (0, w 276 (36 * a + y9 + 32))), (0, (1, 275)), (1, (0, a)), (2, (0, 0)), (3, (0, 7 * a)), (6, (4, y6)), (8, (0, y8)), (9, (0, y9))], [(0, z38), (4, w 292 (6 * a + y9) + w 276 (36 * a + y9 + 32)), (4, y6)], v1) _
              refine e_Ok.run (t' := (196, [(4, (4, x34)), (11, (0, w 292 (6 * a + y9) + w 276 (36 * a + y9 + 32))), (10, (0, w 276 (36 * a + y9 + 32))), (0, (1, 275)), (1, (0, a)), (2, (0, 0)), (3, (0, 7 * a)), (6, (4, y6)), (8, (0, y8)), (9, (0, y9))], [(4, z38), (4, w 292 (6 * a + y9) + w 276 (36 * a + y9 + 32)), (4, y6)], v1)) 1 rfl ?_
              refine e_Ok.anyL rfl ⟨_, rfl⟩ (fun x40 => ?_)
              refine e_Ok.anyL rfl ⟨_, rfl⟩ (fun x41 => ?_)
              refine e_Ok.run (t' := (201, [(6, (4, x41)), (4, (4, x34)), (11, (0, w 292 (6 * a + y9) + w 276 (36 * a + y9 + 32))), (10, (0, w 276 (36 * a + y9 + 32))), (0, (1, 275)), (1, (0, a)), (2, (0, 0)), (3, (0, 7 * a)), (8, (0, y8)), (9, (0, y9))], [(1, 275)], v1)) 2 rfl ?_
              refine e_Ok.getr (z := 321) rfl (el_o rfl) rfl rfl ((j13 275 55 (by first | exact no_52_0 | (unfold mPt; omega))).trans (e_Has.eq hT rfl)) (by omega) ?_
              refine e_Ok.run (t' := (207, [(6, (4, x41)), (4, (4, x34)), (11, (0, w 292 (6 * a + y9) + w 276 (36 * a + y9 + 32))), (10, (0, w 276 (36 * a + y9 + 32))), (0, (1, 275)), (1, (0, a)), (2, (0, 0)), (3, (0, 7 * a)), (8, (0, y8)), (9, (0, y9))], [(0, y9), (0, 7 * a), (1, 321)], v1)) 2 rfl ?_
              refine e_Ok.add (z := 7 * a + y9) rfl (by omega) (by omega) ?_
              refine e_Ok.run (t' := (209, [(6, (4, x41)), (4, (4, x34)), (11, (0, w 292 (6 * a + y9) + w 276 (36 * a + y9 + 32))), (10, (0, w 276 (36 * a + y9 + 32))), (0, (1, 275)), (1, (0, a)), (2, (0, 0)), (3, (0, 7 * a)), (8, (0, y8)), (9, (0, y9))], [(0, 1), (0, 7 * a + y9), (1, 321)], v1)) 1 rfl ?_
              refine e_Ok.add (z := 7 * a + y9 + 1) rfl (by omega) (by omega) ?_
              refine e_Ok.run (t' := (215, [(6, (4, x41)), (4, (4, x34)), (11, (0, w 292 (6 * a + y9) + w 276 (36 * a + y9 + 32))), (10, (0, w 276 (36 * a + y9 + 32))), (0, (1, 275)), (1, (0, a)), (2, (0, 0)), (3, (0, 7 * a)), (8, (0, y8)), (9, (0, y9))], [(4, 524288), (4, x34), (0, 7 * a + y9 + 1), (1, 321)], v1)) 2 rfl ?_
              refine e_Ok.anyL rfl ⟨_, rfl⟩ (fun x42 => ?_)
              refine e_Ok.run (t' := (218, [(6, (4, x41)), (4, (4, x34)), (11, (0, w 292 (6 * a + y9) + w 276 (36 * a + y9 + 32))), (10, (0, w 276 (36 * a + y9 + 32))), (0, (1, 275)), (1, (0, a)), (2, (0, 0)), (3, (0, 7 * a)), (8, (0, y8)), (9, (0, y9))], [(0, 20), (4, x42), (0, 7 * a + y9 + 1), (1, 321)], v1)) 1 rfl ?_
              refine e_Ok.anyS rfl ⟨_, rfl⟩ (fun x43 => ?_)
              refine e_Ok.l2i rfl (fun z44 z44a z44b => ?_)
              refine e_Ok.ast rfl (el_o rfl) rfl rfl (by omega) ?_
              generalize hw45 : e_up v1 321 (7 * a + y9 + 1) z44 = w45
              have f46 : e_fr (mPt (7 * a)) w w45 := e_fr.up j13 hw45 (by unfold mPt; omega)
              refine e_Ok.run (t' := (222, [(6, (4, x41)), (4, (4, x34)), (11, (0, w 292 (6 * a + y9) + w 276 (36 * a + y9 + 32))), (10, (0, w 276 (36 * a + y9 + 32))), (0, (1, 275)), (1, (0, a)), (2, (0, 0)), (3, (0, 7 * a)), (8, (0, y8)), (9, (0, y9))], [(1, 275)], w45)) 1 rfl ?_
              refine e_Ok.getr (z := 322) rfl (el_o rfl) rfl rfl (by rw [← hw45]; exact (e_up_ne _ _ (Or.inl (by omega))).trans ((j13 275 56 (by first | exact no_52_0 | (unfold mPt; omega))).trans (e_Has.eq hT rfl))) (by omega) ?_
              refine e_Ok.run (t' := (228, [(6, (4, x41)), (4, (4, x34)), (11, (0, w 292 (6 * a + y9) + w 276 (36 * a + y9 + 32))), (10, (0, w 276 (36 * a + y9 + 32))), (0, (1, 275)), (1, (0, a)), (2, (0, 0)), (3, (0, 7 * a)), (8, (0, y8)), (9, (0, y9))], [(0, y9), (0, 7 * a), (1, 322)], w45)) 2 rfl ?_
              refine e_Ok.add (z := 7 * a + y9) rfl (by omega) (by omega) ?_
              refine e_Ok.run (t' := (230, [(6, (4, x41)), (4, (4, x34)), (11, (0, w 292 (6 * a + y9) + w 276 (36 * a + y9 + 32))), (10, (0, w 276 (36 * a + y9 + 32))), (0, (1, 275)), (1, (0, a)), (2, (0, 0)), (3, (0, 7 * a)), (8, (0, y8)), (9, (0, y9))], [(0, 1), (0, 7 * a + y9), (1, 322)], w45)) 1 rfl ?_
              refine e_Ok.add (z := 7 * a + y9 + 1) rfl (by omega) (by omega) ?_
              refine e_Ok.run (t' := (236, [(6, (4, x41)), (4, (4, x34)), (11, (0, w 292 (6 * a + y9) + w 276 (36 * a + y9 + 32))), (10, (0, w 276 (36 * a + y9 + 32))), (0, (1, 275)), (1, (0, a)), (2, (0, 0)), (3, (0, 7 * a)), (8, (0, y8)), (9, (0, y9))], [(4, 524288), (4, x41), (0, 7 * a + y9 + 1), (1, 322)], w45)) 2 rfl ?_
              refine e_Ok.anyL rfl ⟨_, rfl⟩ (fun x47 => ?_)
              refine e_Ok.run (t' := (239, [(6, (4, x41)), (4, (4, x34)), (11, (0, w 292 (6 * a + y9) + w 276 (36 * a + y9 + 32))), (10, (0, w 276 (36 * a + y9 + 32))), (0, (1, 275)), (1, (0, a)), (2, (0, 0)), (3, (0, 7 * a)), (8, (0, y8)), (9, (0, y9))], [(0, 20), (4, x47), (0, 7 * a + y9 + 1), (1, 322)], w45)) 1 rfl ?_
              refine e_Ok.anyS rfl ⟨_, rfl⟩ (fun x48 => ?_)
              refine e_Ok.l2i rfl (fun z49 z49a z49b => ?_)
              refine e_Ok.ast rfl (el_o rfl) rfl rfl (by omega) ?_
              generalize hw50 : e_up w45 322 (7 * a + y9 + 1) z49 = w50
              have f51 : e_fr (mPt (7 * a)) w w50 := e_fr.up f46 hw50 (by unfold mPt; omega)
              refine e_Ok.inc (z := y9 + 1) rfl rfl (by omega) (by omega) ?_
              show e_Ok 20 elay ecode eI (d + 1) 301 (245, [(9, (0, y9 + 1)), (6, (4, x41)), (4, (4, x34)), (11, (0, w 292 (6 * a + y9) + w 276 (36 * a + y9 + 32))), (10, (0, w 276 (36 * a + y9 + 32))), (0, (1, 275)), (1, (0, a)), (2, (0, 0)), (3, (0, 7 * a)), (8, (0, y8))], [], w50) _
              refine e_Ok.run (t' := (75, [(9, (0, y9 + 1)), (6, (4, x41)), (4, (4, x34)), (11, (0, w 292 (6 * a + y9) + w 276 (36 * a + y9 + 32))), (10, (0, w 276 (36 * a + y9 + 32))), (0, (1, 275)), (1, (0, a)), (2, (0, 0)), (3, (0, 7 * a)), (8, (0, y8))], [], w50)) 1 rfl ?_
              refine e_Ok.sub eAlk (e_sub_of rfl ?_) (ih12 x34 x41 y8 (y9 + 1) w50 ⟨f51, (e_kn_sub (e_kn.oth (e_kn.ext j14 hw45 (by omega) (by omega)) hw50 (by decide)) (by omega) (by omega)), (e_kn_sub (e_kn.ext (e_kn.oth j15 hw45 (by decide)) hw50 (by omega) (by omega)) (by omega) (by omega)), by omega⟩ (by omega))
              exact ⟨rfl, rfl, rfl, rfl, rfl, rfl, rfl, rfl, trivial⟩
            · replace h26 : (w 287 (6 * a + y9) : Int) = 1 := by have q : ¬ ((w 287 (6 * a + y9) : Int) ≠ 1) := h26; omega
              refine e_Ok.run (t' := (151, [(11, (0, w 292 (6 * a + y9))), (10, (0, w 276 (36 * a + y9 + 32))), (0, (1, 275)), (1, (0, a)), (2, (0, 0)), (3, (0, 7 * a)), (4, (4, y4)), (6, (4, y6)), (8, (0, y8)), (9, (0, y9))], [(0, w 276 (36 * a + y9 + 32)), (0, y8)], v1)) 2 rfl ?_
              refine e_Ok.any rfl (eF_add_any _ _) (fun z52 z52a z52b => ?_)
              refine e_Ok.run (t' := (175, [(8, (0, z52)), (11, (0, w 292 (6 * a + y9))), (10, (0, w 276 (36 * a + y9 + 32))), (0, (1, 275)), (1, (0, a)), (2, (0, 0)), (3, (0, 7 * a)), (4, (4, y4)), (6, (4, y6)), (9, (0, y9))], [(0, 1024), (0, z52), (1, 275), (4, w 292 (6 * a + y9)), (4, y4)], v1)) 8 rfl ?_
              refine e_Ok.any rfl (eF_add_any _ _) (fun z53 z53a z53b => ?_)
              refine e_Ok.callV rfl (by omega) rfl rfl rfl rfl (c_300 (mT_Pt j13 hT)) (fun r54 w55 h56 => ?_)
              obtain ⟨z57, rfl, rfl, q58a, q58b⟩ := h56
              show e_Ok 20 elay ecode eI (d + 1) 301 (179, [(8, (0, z52)), (11, (0, w 292 (6 * a + y9))), (10, (0, w 276 (36 * a + y9 + 32))), (0, (1, 275)), (1, (0, a)), (2, (0, 0)), (3, (0, 7 * a)), (4, (4, y4)), (6, (4, y6)), (9, (0, y9))], [(0, z57), (4, w 292 (6 * a + y9)), (4, y4)], v1) _
              refine e_Ok.run (t' := (180, [(8, (0, z52)), (11, (0, w 292 (6 * a + y9))), (10, (0, w 276 (36 * a + y9 + 32))), (0, (1, 275)), (1, (0, a)), (2, (0, 0)), (3, (0, 7 * a)), (4, (4, y4)), (6, (4, y6)), (9, (0, y9))], [(4, z57), (4, w 292 (6 * a + y9)), (4, y4)], v1)) 1 rfl ?_
              refine e_Ok.anyL rfl ⟨_, rfl⟩ (fun x59 => ?_)
              refine e_Ok.anyL rfl ⟨_, rfl⟩ (fun x60 => ?_)
              refine e_Ok.run (t' := (192, [(4, (4, x60)), (8, (0, z52)), (11, (0, w 292 (6 * a + y9))), (10, (0, w 276 (36 * a + y9 + 32))), (0, (1, 275)), (1, (0, a)), (2, (0, 0)), (3, (0, 7 * a)), (6, (4, y6)), (9, (0, y9))], [(0, z52), (1, 275), (4, w 292 (6 * a + y9)), (4, y6)], v1)) 6 rfl ?_
              refine e_Ok.callV rfl (by omega) rfl rfl rfl rfl (c_300 (mT_Pt j13 hT)) (fun r61 w62 h63 => ?_)
              obtain ⟨z64, rfl, rfl, q65a, q65b⟩ := h63
              show e_Ok 20 elay ecode eI (d + 1) 301 (195, [(4, (4, x60)), (8, (0, z52)), (11, (0, w 292 (6 * a + y9))), (10, (0, w 276 (36 * a + y9 + 32))), (0, (1, 275)), (1, (0, a)), (2, (0, 0)), (3, (0, 7 * a)), (6, (4, y6)), (9, (0, y9))], [(0, z64), (4, w 292 (6 * a + y9)), (4, y6)], v1) _
              refine e_Ok.run (t' := (196, [(4, (4, x60)), (8, (0, z52)), (11, (0, w 292 (6 * a + y9))), (10, (0, w 276 (36 * a + y9 + 32))), (0, (1, 275)), (1, (0, a)), (2, (0, 0)), (3, (0, 7 * a)), (6, (4, y6)), (9, (0, y9))], [(4, z64), (4, w 292 (6 * a + y9)), (4, y6)], v1)) 1 rfl ?_
              refine e_Ok.anyL rfl ⟨_, rfl⟩ (fun x66 => ?_)
              refine e_Ok.anyL rfl ⟨_, rfl⟩ (fun x67 => ?_)
              refine e_Ok.run (t' := (201, [(6, (4, x67)), (4, (4, x60)), (8, (0, z52)), (11, (0, w 292 (6 * a + y9))), (10, (0, w 276 (36 * a + y9 + 32))), (0, (1, 275)), (1, (0, a)), (2, (0, 0)), (3, (0, 7 * a)), (9, (0, y9))], [(1, 275)], v1)) 2 rfl ?_
              refine e_Ok.getr (z := 321) rfl (el_o rfl) rfl rfl ((j13 275 55 (by first | exact no_52_0 | (unfold mPt; omega))).trans (e_Has.eq hT rfl)) (by omega) ?_
              refine e_Ok.run (t' := (207, [(6, (4, x67)), (4, (4, x60)), (8, (0, z52)), (11, (0, w 292 (6 * a + y9))), (10, (0, w 276 (36 * a + y9 + 32))), (0, (1, 275)), (1, (0, a)), (2, (0, 0)), (3, (0, 7 * a)), (9, (0, y9))], [(0, y9), (0, 7 * a), (1, 321)], v1)) 2 rfl ?_
              refine e_Ok.add (z := 7 * a + y9) rfl (by omega) (by omega) ?_
              refine e_Ok.run (t' := (209, [(6, (4, x67)), (4, (4, x60)), (8, (0, z52)), (11, (0, w 292 (6 * a + y9))), (10, (0, w 276 (36 * a + y9 + 32))), (0, (1, 275)), (1, (0, a)), (2, (0, 0)), (3, (0, 7 * a)), (9, (0, y9))], [(0, 1), (0, 7 * a + y9), (1, 321)], v1)) 1 rfl ?_
              refine e_Ok.add (z := 7 * a + y9 + 1) rfl (by omega) (by omega) ?_
              refine e_Ok.run (t' := (215, [(6, (4, x67)), (4, (4, x60)), (8, (0, z52)), (11, (0, w 292 (6 * a + y9))), (10, (0, w 276 (36 * a + y9 + 32))), (0, (1, 275)), (1, (0, a)), (2, (0, 0)), (3, (0, 7 * a)), (9, (0, y9))], [(4, 524288), (4, x60), (0, 7 * a + y9 + 1), (1, 321)], v1)) 2 rfl ?_
              refine e_Ok.anyL rfl ⟨_, rfl⟩ (fun x68 => ?_)
              refine e_Ok.run (t' := (218, [(6, (4, x67)), (4, (4, x60)), (8, (0, z52)), (11, (0, w 292 (6 * a + y9))), (10, (0, w 276 (36 * a + y9 + 32))), (0, (1, 275)), (1, (0, a)), (2, (0, 0)), (3, (0, 7 * a)), (9, (0, y9))], [(0, 20), (4, x68), (0, 7 * a + y9 + 1), (1, 321)], v1)) 1 rfl ?_
              refine e_Ok.anyS rfl ⟨_, rfl⟩ (fun x69 => ?_)
              refine e_Ok.l2i rfl (fun z70 z70a z70b => ?_)
              refine e_Ok.ast rfl (el_o rfl) rfl rfl (by omega) ?_
              generalize hw71 : e_up v1 321 (7 * a + y9 + 1) z70 = w71
              have f72 : e_fr (mPt (7 * a)) w w71 := e_fr.up j13 hw71 (by unfold mPt; omega)
              refine e_Ok.run (t' := (222, [(6, (4, x67)), (4, (4, x60)), (8, (0, z52)), (11, (0, w 292 (6 * a + y9))), (10, (0, w 276 (36 * a + y9 + 32))), (0, (1, 275)), (1, (0, a)), (2, (0, 0)), (3, (0, 7 * a)), (9, (0, y9))], [(1, 275)], w71)) 1 rfl ?_
              refine e_Ok.getr (z := 322) rfl (el_o rfl) rfl rfl (by rw [← hw71]; exact (e_up_ne _ _ (Or.inl (by omega))).trans ((j13 275 56 (by first | exact no_52_0 | (unfold mPt; omega))).trans (e_Has.eq hT rfl))) (by omega) ?_
              refine e_Ok.run (t' := (228, [(6, (4, x67)), (4, (4, x60)), (8, (0, z52)), (11, (0, w 292 (6 * a + y9))), (10, (0, w 276 (36 * a + y9 + 32))), (0, (1, 275)), (1, (0, a)), (2, (0, 0)), (3, (0, 7 * a)), (9, (0, y9))], [(0, y9), (0, 7 * a), (1, 322)], w71)) 2 rfl ?_
              refine e_Ok.add (z := 7 * a + y9) rfl (by omega) (by omega) ?_
              refine e_Ok.run (t' := (230, [(6, (4, x67)), (4, (4, x60)), (8, (0, z52)), (11, (0, w 292 (6 * a + y9))), (10, (0, w 276 (36 * a + y9 + 32))), (0, (1, 275)), (1, (0, a)), (2, (0, 0)), (3, (0, 7 * a)), (9, (0, y9))], [(0, 1), (0, 7 * a + y9), (1, 322)], w71)) 1 rfl ?_
              refine e_Ok.add (z := 7 * a + y9 + 1) rfl (by omega) (by omega) ?_
              refine e_Ok.run (t' := (236, [(6, (4, x67)), (4, (4, x60)), (8, (0, z52)), (11, (0, w 292 (6 * a + y9))), (10, (0, w 276 (36 * a + y9 + 32))), (0, (1, 275)), (1, (0, a)), (2, (0, 0)), (3, (0, 7 * a)), (9, (0, y9))], [(4, 524288), (4, x67), (0, 7 * a + y9 + 1), (1, 322)], w71)) 2 rfl ?_
              refine e_Ok.anyL rfl ⟨_, rfl⟩ (fun x73 => ?_)
              refine e_Ok.run (t' := (239, [(6, (4, x67)), (4, (4, x60)), (8, (0, z52)), (11, (0, w 292 (6 * a + y9))), (10, (0, w 276 (36 * a + y9 + 32))), (0, (1, 275)), (1, (0, a)), (2, (0, 0)), (3, (0, 7 * a)), (9, (0, y9))], [(0, 20), (4, x73), (0, 7 * a + y9 + 1), (1, 322)], w71)) 1 rfl ?_
              refine e_Ok.anyS rfl ⟨_, rfl⟩ (fun x74 => ?_)
              refine e_Ok.l2i rfl (fun z75 z75a z75b => ?_)
              refine e_Ok.ast rfl (el_o rfl) rfl rfl (by omega) ?_
              generalize hw76 : e_up w71 322 (7 * a + y9 + 1) z75 = w76
              have f77 : e_fr (mPt (7 * a)) w w76 := e_fr.up f72 hw76 (by unfold mPt; omega)
              refine e_Ok.inc (z := y9 + 1) rfl rfl (by omega) (by omega) ?_
              show e_Ok 20 elay ecode eI (d + 1) 301 (245, [(9, (0, y9 + 1)), (6, (4, x67)), (4, (4, x60)), (8, (0, z52)), (11, (0, w 292 (6 * a + y9))), (10, (0, w 276 (36 * a + y9 + 32))), (0, (1, 275)), (1, (0, a)), (2, (0, 0)), (3, (0, 7 * a))], [], w76) _
              refine e_Ok.run (t' := (75, [(9, (0, y9 + 1)), (6, (4, x67)), (4, (4, x60)), (8, (0, z52)), (11, (0, w 292 (6 * a + y9))), (10, (0, w 276 (36 * a + y9 + 32))), (0, (1, 275)), (1, (0, a)), (2, (0, 0)), (3, (0, 7 * a))], [], w76)) 1 rfl ?_
              refine e_Ok.sub eAlk (e_sub_of rfl ?_) (ih12 x60 x67 z52 (y9 + 1) w76 ⟨f77, (e_kn_sub (e_kn.oth (e_kn.ext j14 hw71 (by omega) (by omega)) hw76 (by decide)) (by omega) (by omega)), (e_kn_sub (e_kn.ext (e_kn.oth j15 hw71 (by decide)) hw76 (by omega) (by omega)) (by omega) (by omega)), by omega⟩ (by omega))
              exact ⟨rfl, rfl, rfl, rfl, rfl, rfl, rfl, rfl, trivial⟩
          · replace h19 : (0 : Int) ≠ 0 := by have q : ¬ ((0 : Int) = 0) := h19; omega
            exfalso; omega
    refine e_Ok.sub eAlk (e_sub_of rfl ?_) (hL11 (7 + 1 : Int).toNat (1048576 * w 282 a) (1048576 * w 283 a) (w 284 a) 0 w9 ⟨f10, (e_kn_sub (e_kn.oth (e_kn.one hw7 (by omega)) hw9 (by decide)) (by omega) (by omega)), (e_kn_sub (e_kn.one hw9 (by omega)) (by omega) (by omega)), by omega⟩ (by omega))
    exact ⟨rfl, rfl, rfl, rfl, rfl, rfl, rfl, rfl, trivial⟩
  · replace h1 : (0 : Int) ≠ 0 := by have q : ¬ ((0 : Int) = 0) := h1; omega
    exfalso; omega
theorem no_52_5 {t : Int} {k : Int} : ¬ mPt t 323 k := by unfold mPt; omega
theorem c_301_1 {d : Nat} (hd : 21 ≤ d) {w : eW} (hT : e_Has mTy w) {a : Int} (ha : 0 ≤ a ∧ a ≤ 3) (k1 : e_kn w 323 0 (w 286 a - 1)) : e_Ok 20 elay ecode eI d 301 (0, [(0, (1, 275)), (1, (0, a)), (2, (0, 1))], [], w) (fun r w' => r = [] ∧ e_fr (mPt (28)) w w' ∧ e_pk2 w' (28) (w 286 a)) := by
  obtain ⟨d, rfl⟩ : ∃ e, d = e + 1 := ⟨d - 1, by omega⟩
  have hja := (e_Has.get hT (c := 286) (k := a) (lo := 0) (hi := 6) rfl (by decide))
  refine e_Ok.run (t' := (1, [(0, (1, 275)), (1, (0, a)), (2, (0, 1))], [(0, 1)], w)) 1 rfl ?_
  refine e_Ok.if1 rfl (fun h1 => ?_) (fun h1 => ?_)
  · replace h1 : (1 : Int) = 0 := h1
    exfalso; omega
  · replace h1 : (1 : Int) ≠ 0 := by have q : ¬ ((1 : Int) = 0) := h1; omega
    refine e_Ok.run (t' := (18, [(3, (0, 28)), (0, (1, 275)), (1, (0, a)), (2, (0, 1))], [(1, 275), (4, 1048576)], w)) 5 rfl ?_
    refine e_Ok.getr (z := 282) rfl (el_o rfl) rfl rfl (e_Has.eq hT rfl) (by omega) ?_
    refine e_Ok.run (t' := (22, [(3, (0, 28)), (0, (1, 275)), (1, (0, a)), (2, (0, 1))], [(0, a), (1, 282), (4, 1048576)], w)) 1 rfl ?_
    have h2 := (e_Has.get hT (c := 282) (k := a) (lo := (-8000)) (hi := 8000) rfl (by decide))
    refine e_Ok.ald (z := w 282 a) rfl (el_o rfl) rfl (by omega) rfl (by omega) ?_
    refine e_Ok.run (t' := (24, [(3, (0, 28)), (0, (1, 275)), (1, (0, a)), (2, (0, 1))], [(4, w 282 a), (4, 1048576)], w)) 1 rfl ?_
    refine e_Ok.mulL (z := 1048576 * w 282 a) rfl (by omega) (by omega) ?_
    refine e_Ok.run (t' := (31, [(4, (4, 1048576 * w 282 a)), (3, (0, 28)), (0, (1, 275)), (1, (0, a)), (2, (0, 1))], [(1, 275), (4, 1048576)], w)) 3 rfl ?_
    refine e_Ok.getr (z := 283) rfl (el_o rfl) rfl rfl (e_Has.eq hT rfl) (by omega) ?_
    refine e_Ok.run (t' := (35, [(4, (4, 1048576 * w 282 a)), (3, (0, 28)), (0, (1, 275)), (1, (0, a)), (2, (0, 1))], [(0, a), (1, 283), (4, 1048576)], w)) 1 rfl ?_
    have h4 := (e_Has.get hT (c := 283) (k := a) (lo := (-8000)) (hi := 8000) rfl (by decide))
    refine e_Ok.ald (z := w 283 a) rfl (el_o rfl) rfl (by omega) rfl (by omega) ?_
    refine e_Ok.run (t' := (37, [(4, (4, 1048576 * w 282 a)), (3, (0, 28)), (0, (1, 275)), (1, (0, a)), (2, (0, 1))], [(4, w 283 a), (4, 1048576)], w)) 1 rfl ?_
    refine e_Ok.mulL (z := 1048576 * w 283 a) rfl (by omega) (by omega) ?_
    refine e_Ok.run (t' := (41, [(6, (4, 1048576 * w 283 a)), (4, (4, 1048576 * w 282 a)), (3, (0, 28)), (0, (1, 275)), (1, (0, a)), (2, (0, 1))], [(1, 275)], w)) 2 rfl ?_
    refine e_Ok.getr (z := 284) rfl (el_o rfl) rfl rfl (e_Has.eq hT rfl) (by omega) ?_
    refine e_Ok.run (t' := (45, [(6, (4, 1048576 * w 283 a)), (4, (4, 1048576 * w 282 a)), (3, (0, 28)), (0, (1, 275)), (1, (0, a)), (2, (0, 1))], [(0, a), (1, 284)], w)) 1 rfl ?_
    have h6 := (e_Has.get hT (c := 284) (k := a) (lo := 0) (hi := 4095) rfl (by decide))
    refine e_Ok.ald (z := w 284 a) rfl (el_o rfl) rfl (by omega) rfl (by omega) ?_
    refine e_Ok.run (t' := (49, [(8, (0, w 284 a)), (6, (4, 1048576 * w 283 a)), (4, (4, 1048576 * w 282 a)), (3, (0, 28)), (0, (1, 275)), (1, (0, a)), (2, (0, 1))], [(1, 275)], w)) 2 rfl ?_
    refine e_Ok.getr (z := 321) rfl (el_o rfl) rfl rfl (e_Has.eq hT rfl) (by omega) ?_
    refine e_Ok.run (t' := (54, [(8, (0, w 284 a)), (6, (4, 1048576 * w 283 a)), (4, (4, 1048576 * w 282 a)), (3, (0, 28)), (0, (1, 275)), (1, (0, a)), (2, (0, 1))], [(1, 275), (0, 28), (1, 321)], w)) 2 rfl ?_
    refine e_Ok.getr (z := 282) rfl (el_o rfl) rfl rfl (e_Has.eq hT rfl) (by omega) ?_
    refine e_Ok.run (t' := (58, [(8, (0, w 284 a)), (6, (4, 1048576 * w 283 a)), (4, (4, 1048576 * w 282 a)), (3, (0, 28)), (0, (1, 275)), (1, (0, a)), (2, (0, 1))], [(0, a), (1, 282), (0, 28), (1, 321)], w)) 1 rfl ?_
    refine e_Ok.ald (z := w 282 a) rfl (el_o rfl) rfl (by omega) rfl (by omega) ?_
    refine e_Ok.ast rfl (el_o rfl) rfl rfl (by omega) ?_
    generalize hw7 : e_up w 321 28 (w 282 a) = w7
    have f8 : e_fr (mPt (28)) w w7 := e_fr.up (e_fr.refl w) hw7 (by unfold mPt; omega)
    refine e_Ok.run (t' := (61, [(8, (0, w 284 a)), (6, (4, 1048576 * w 283 a)), (4, (4, 1048576 * w 282 a)), (3, (0, 28)), (0, (1, 275)), (1, (0, a)), (2, (0, 1))], [(1, 275)], w7)) 1 rfl ?_
    refine e_Ok.getr (z := 322) rfl (el_o rfl) rfl rfl (by rw [← hw7]; exact (e_up_ne _ _ (Or.inl (by omega))).trans (e_Has.eq hT rfl)) (by omega) ?_
    refine e_Ok.run (t' := (66, [(8, (0, w 284 a)), (6, (4, 1048576 * w 283 a)), (4, (4, 1048576 * w 282 a)), (3, (0, 28)), (0, (1, 275)), (1, (0, a)), (2, (0, 1))], [(1, 275), (0, 28), (1, 322)], w7)) 2 rfl ?_
    refine e_Ok.getr (z := 283) rfl (el_o rfl) rfl rfl (by rw [← hw7]; exact (e_up_ne _ _ (Or.inl (by omega))).trans (e_Has.eq hT rfl)) (by omega) ?_
    refine e_Ok.run (t' := (70, [(8, (0, w 284 a)), (6, (4, 1048576 * w 283 a)), (4, (4, 1048576 * w 282 a)), (3, (0, 28)), (0, (1, 275)), (1, (0, a)), (2, (0, 1))], [(0, a), (1, 283), (0, 28), (1, 322)], w7)) 1 rfl ?_
    refine e_Ok.ald (z := w 283 a) rfl (el_o rfl) rfl (by omega) (by rw [← hw7]; exact (e_up_ne _ _ (Or.inl (by omega))).trans rfl) (by omega) ?_
    refine e_Ok.ast rfl (el_o rfl) rfl rfl (by omega) ?_
    generalize hw9 : e_up w7 322 28 (w 283 a) = w9
    have f10 : e_fr (mPt (28)) w w9 := e_fr.up f8 hw9 (by unfold mPt; omega)
    refine e_Ok.run (t' := (75, [(9, (0, 0)), (8, (0, w 284 a)), (6, (4, 1048576 * w 283 a)), (4, (4, 1048576 * w 282 a)), (3, (0, 28)), (0, (1, 275)), (1, (0, a)), (2, (0, 1))], [], w9)) 2 rfl ?_
    have hL11 : ∀ (n : Nat) (y4 : Int) (y6 : Int) (y8 : Int) (y9 : Int) (v1 : eW), e_fr (mPt (28)) w v1 ∧ e_kn v1 321 (28) (28 + y9) ∧ e_kn v1 322 (28) (28 + y9) ∧ 0 ≤ y9 ∧ y9 ≤ 6 → 7 - y9 < n → e_Ok 20 elay ecode eI (d + 1) 301 (75, [(0, (1, 275)), (1, (0, a)), (2, (0, 1)), (3, (0, 28)), (4, (4, y4)), (6, (4, y6)), (8, (0, y8)), (9, (0, y9))], [], v1) (fun r w' => r = [] ∧ e_fr (mPt (28)) w w' ∧ e_pk2 w' (28) (w 286 a)) := by
      intro n
      induction n with
      | zero => intro y4 y6 y8 y9 v1 hj hm; obtain ⟨j13, j14, j15, j16⟩ := hj; exfalso; omega
      | succ n ih12 =>
        intro y4 y6 y8 y9 v1 hj hm
        obtain ⟨j13, j14, j15, j16⟩ := hj
        refine e_Ok.run (t' := (78, [(0, (1, 275)), (1, (0, a)), (2, (0, 1)), (3, (0, 28)), (4, (4, y4)), (6, (4, y6)), (8, (0, y8)), (9, (0, y9))], [(1, 275), (0, y9)], v1)) 2 rfl ?_
        refine e_Ok.getr (z := 286) rfl (el_o rfl) rfl rfl ((j13 275 15 (by first | exact no_52_0 | (unfold mPt; omega))).trans (e_Has.eq hT rfl)) (by omega) ?_
        refine e_Ok.run (t' := (82, [(0, (1, 275)), (1, (0, a)), (2, (0, 1)), (3, (0, 28)), (4, (4, y4)), (6, (4, y6)), (8, (0, y8)), (9, (0, y9))], [(0, a), (1, 286), (0, y9)], v1)) 1 rfl ?_
        have h17 := (e_Has.get hT (c := 286) (k := a) (lo := 0) (hi := 6) rfl (by decide))
        refine e_Ok.ald (z := w 286 a) rfl (el_o rfl) rfl (by omega) ((j13 286 a (by first | exact no_52_1 | (unfold mPt; omega))).trans rfl) (by omega) ?_
        refine e_Ok.if2 rfl (fun h18 => ?_) (fun h18 => ?_)
        · replace h18 : (y9 : Int) ≥ w 286 a := h18
          refine e_Ok.rets rfl rfl ?_
          exact ⟨rfl, j13, e_kn_sub j14 (by omega) (by omega), e_kn_sub j15 (by omega) (by omega)⟩
        · replace h18 : (y9 : Int) < w 286 a := by have q : ¬ ((y9 : Int) ≥ w 286 a) := h18; omega
          refine e_Ok.run (t' := (87, [(0, (1, 275)), (1, (0, a)), (2, (0, 1)), (3, (0, 28)), (4, (4, y4)), (6, (4, y6)), (8, (0, y8)), (9, (0, y9))], [(0, 1)], v1)) 1 rfl ?_
          refine e_Ok.if1 rfl (fun h19 => ?_) (fun h19 => ?_)
          · replace h19 : (1 : Int) = 0 := h19
            exfalso; omega
          · replace h19 : (1 : Int) ≠ 0 := by have q : ¬ ((1 : Int) = 0) := h19; omega
            refine e_Ok.run (t' := (91, [(0, (1, 275)), (1, (0, a)), (2, (0, 1)), (3, (0, 28)), (4, (4, y4)), (6, (4, y6)), (8, (0, y8)), (9, (0, y9))], [(1, 275)], v1)) 1 rfl ?_
            refine e_Ok.getr (z := 323) rfl (el_o rfl) rfl rfl ((j13 275 57 (by first | exact no_52_0 | (unfold mPt; omega))).trans (e_Has.eq hT rfl)) (by omega) ?_
            refine e_Ok.run (t' := (96, [(0, (1, 275)), (1, (0, a)), (2, (0, 1)), (3, (0, 28)), (4, (4, y4)), (6, (4, y6)), (8, (0, y8)), (9, (0, y9))], [(0, y9), (1, 323)], v1)) 1 rfl ?_
            have h20 := (k1 y9 (by omega) (by omega))
            refine e_Ok.ald (z := w 323 y9) rfl (el_o rfl) rfl (by omega) ((j13 323 y9 (by first | exact no_52_5 | (unfold mPt; omega))).trans rfl) (by omega) ?_
            refine e_Ok.run (t' := (118, [(10, (0, w 323 y9)), (0, (1, 275)), (1, (0, a)), (2, (0, 1)), (3, (0, 28)), (4, (4, y4)), (6, (4, y6)), (8, (0, y8)), (9, (0, y9))], [(1, 275)], v1)) 3 rfl ?_
            refine e_Ok.getr (z := 292) rfl (el_o rfl) rfl rfl ((j13 275 21 (by first | exact no_52_0 | (unfold mPt; omega))).trans (e_Has.eq hT rfl)) (by omega) ?_
            refine e_Ok.run (t' := (124, [(10, (0, w 323 y9)), (0, (1, 275)), (1, (0, a)), (2, (0, 1)), (3, (0, 28)), (4, (4, y4)), (6, (4, y6)), (8, (0, y8)), (9, (0, y9))], [(0, a), (0, 6), (1, 292)], v1)) 2 rfl ?_
            refine e_Ok.mul (z := 6 * a) rfl (by omega) (by omega) ?_
            refine e_Ok.run (t' := (127, [(10, (0, w 323 y9)), (0, (1, 275)), (1, (0, a)), (2, (0, 1)), (3, (0, 28)), (4, (4, y4)), (6, (4, y6)), (8, (0, y8)), (9, (0, y9))], [(0, y9), (0, 6 * a), (1, 292)], v1)) 1 rfl ?_
            refine e_Ok.add (z := 6 * a + y9) rfl (by omega) (by omega) ?_
            have h21 := (e_Has.get hT (c := 292) (k := 6 * a + y9) (lo := 0) (hi := 8000) rfl (by decide))
            refine e_Ok.ald (z := w 292 (6 * a + y9)) rfl (el_o rfl) rfl (by omega) ((j13 292 (6 * a + y9) (by first | exact no_52_3 | (unfold mPt; omega))).trans rfl) (by omega) ?_
            refine e_Ok.run (t' := (132, [(11, (0, w 292 (6 * a + y9))), (10, (0, w 323 y9)), (0, (1, 275)), (1, (0, a)), (2, (0, 1)), (3, (0, 28)), (4, (4, y4)), (6, (4, y6)), (8, (0, y8)), (9, (0, y9))], [(1, 275)], v1)) 2 rfl ?_
            refine e_Ok.getr (z := 287) rfl (el_o rfl) rfl rfl ((j13 275 16 (by first | exact no_52_0 | (unfold mPt; omega))).trans (e_Has.eq hT rfl)) (by omega) ?_
            refine e_Ok.run (t' := (138, [(11, (0, w 292 (6 * a + y9))), (10, (0, w 323 y9)), (0, (1, 275)), (1, (0, a)), (2, (0, 1)), (3, (0, 28)), (4, (4, y4)), (6, (4, y6)), (8, (0, y8)), (9, (0, y9))], [(0, a), (0, 6), (1, 287)], v1)) 2 rfl ?_
            refine e_Ok.mul (z := 6 * a) rfl (by omega) (by omega) ?_
            refine e_Ok.run (t' := (141, [(11, (0, w 292 (6 * a + y9))), (10, (0, w 323 y9)), (0, (1, 275)), (1, (0, a)), (2, (0, 1)), (3, (0, 28)), (4, (4, y4)), (6, (4, y6)), (8, (0, y8)), (9, (0, y9))], [(0, y9), (0, 6 * a), (1, 287)], v1)) 1 rfl ?_
            refine e_Ok.add (z := 6 * a + y9) rfl (by omega) (by omega) ?_
            have h22 := (e_Has.get hT (c := 287) (k := 6 * a + y9) (lo := 0) (hi := 1) rfl (by decide))
            refine e_Ok.ald (z := w 287 (6 * a + y9)) rfl (el_o rfl) rfl (by omega) ((j13 287 (6 * a + y9) (by first | exact no_52_4 | (unfold mPt; omega))).trans rfl) (by omega) ?_
            refine e_Ok.run (t' := (144, [(11, (0, w 292 (6 * a + y9))), (10, (0, w 323 y9)), (0, (1, 275)), (1, (0, a)), (2, (0, 1)), (3, (0, 28)), (4, (4, y4)), (6, (4, y6)), (8, (0, y8)), (9, (0, y9))], [(0, 1), (0, w 287 (6 * a + y9))], v1)) 1 rfl ?_
            refine e_Ok.if2 rfl (fun h23 => ?_) (fun h23 => ?_)
            · replace h23 : (w 287 (6 * a + y9) : Int) ≠ 1 := h23
              refine e_Ok.run (t' := (161, [(11, (0, w 292 (6 * a + y9))), (10, (0, w 323 y9)), (0, (1, 275)), (1, (0, a)), (2, (0, 1)), (3, (0, 28)), (4, (4, y4)), (6, (4, y6)), (8, (0, y8)), (9, (0, y9))], [(0, w 323 y9), (0, w 292 (6 * a + y9))], v1)) 2 rfl ?_
              refine e_Ok.any rfl (eF_add_any _ _) (fun z24 z24a z24b => ?_)
              refine e_Ok.run (t' := (175, [(11, (0, z24)), (10, (0, w 323 y9)), (0, (1, 275)), (1, (0, a)), (2, (0, 1)), (3, (0, 28)), (4, (4, y4)), (6, (4, y6)), (8, (0, y8)), (9, (0, y9))], [(0, 1024), (0, y8), (1, 275), (4, z24), (4, y4)], v1)) 7 rfl ?_
              refine e_Ok.any rfl (eF_add_any _ _) (fun z25 z25a z25b => ?_)
              refine e_Ok.callV rfl (by omega) rfl rfl rfl rfl (c_300 (mT_Pt j13 hT)) (fun r26 w27 h28 => ?_)
              obtain ⟨z29, rfl, rfl, q30a, q30b⟩ := h28
              show e_Ok 20 elay ecode eI (d + 1) 301 (179, [(11, (0, z24)), (10, (0, w 323 y9)), (0, (1, 275)), (1, (0, a)), (2, (0, 1)), (3, (0, 28)), (4, (4, y4)), (6, (4, y6)), (8, (0, y8)), (9, (0, y9))], [(0, z29), (4, z24), (4, y4)], v1) _
              refine e_Ok.run (t' := (180, [(11, (0, z24)), (10, (0, w 323 y9)), (0, (1, 275)), (1, (0, a)), (2, (0, 1)), (3, (0, 28)), (4, (4, y4)), (6, (4, y6)), (8, (0, y8)), (9, (0, y9))], [(4, z29), (4, z24), (4, y4)], v1)) 1 rfl ?_
              refine e_Ok.anyL rfl ⟨_, rfl⟩ (fun x31 => ?_)
              refine e_Ok.anyL rfl ⟨_, rfl⟩ (fun x32 => ?_)
              refine e_Ok.run (t' := (192, [(4, (4, x32)), (11, (0, z24)), (10, (0, w 323 y9)), (0, (1, 275)), (1, (0, a)), (2, (0, 1)), (3, (0, 28)), (6, (4, y6)), (8, (0, y8)), (9, (0, y9))], [(0, y8), (1, 275), (4, z24), (4, y6)], v1)) 6 rfl ?_
              refine e_Ok.callV rfl (by omega) rfl rfl rfl rfl (c_300 (mT_Pt j13 hT)) (fun r33 w34 h35 => ?_)
              obtain ⟨z36, rfl, rfl, q37a, q37b⟩ := h35
              show e_Ok 20 elay ecode eI (d + 1) 301 (195, [(4, (4, x32)), (11, (0, z24)), (10, (0, w 323 y9)), (0, (1, 275)), (1, (0, a)), (2, (0, 1)), (3, (0, 28)), (6, (4, y6)), (8, (0, y8)), (9, (0, y9))], [(0, z36), (4, z24), (4, y6)], v1) _
              refine e_Ok.run (t' := (196, [(4, (4, x32)), (11, (0, z24)), (10, (0, w 323 y9)), (0, (1, 275)), (1, (0, a)), (2, (0, 1)), (3, (0, 28)), (6, (4, y6)), (8, (0, y8)), (9, (0, y9))], [(4, z36), (4, z24), (4, y6)], v1)) 1 rfl ?_
              refine e_Ok.anyL rfl ⟨_, rfl⟩ (fun x38 => ?_)
              refine e_Ok.anyL rfl ⟨_, rfl⟩ (fun x39 => ?_)
              refine e_Ok.run (t' := (201, [(6, (4, x39)), (4, (4, x32)), (11, (0, z24)), (10, (0, w 323 y9)), (0, (1, 275)), (1, (0, a)), (2, (0, 1)), (3, (0, 28)), (8, (0, y8)), (9, (0, y9))], [(1, 275)], v1)) 2 rfl ?_
              refine e_Ok.getr (z := 321) rfl (el_o rfl) rfl rfl ((j13 275 55 (by first | exact no_52_0 | (unfold mPt; omega))).trans (e_Has.eq hT rfl)) (by omega) ?_
              refine e_Ok.run (t' := (207, [(6, (4, x39)), (4, (4, x32)), (11, (0, z24)), (10, (0, w 323 y9)), (0, (1, 275)), (1, (0, a)), (2, (0, 1)), (3, (0, 28)), (8, (0, y8)), (9, (0, y9))], [(0, y9), (0, 28), (1, 321)], v1)) 2 rfl ?_
              refine e_Ok.add (z := y9 + 28) rfl (by omega) (by omega) ?_
              refine e_Ok.run (t' := (209, [(6, (4, x39)), (4, (4, x32)), (11, (0, z24)), (10, (0, w 323 y9)), (0, (1, 275)), (1, (0, a)), (2, (0, 1)), (3, (0, 28)), (8, (0, y8)), (9, (0, y9))], [(0, 1), (0, y9 + 28), (1, 321)], v1)) 1 rfl ?_
              refine e_Ok.add (z := y9 + 29) rfl (by omega) (by omega) ?_
              refine e_Ok.run (t' := (215, [(6, (4, x39)), (4, (4, x32)), (11, (0, z24)), (10, (0, w 323 y9)), (0, (1, 275)), (1, (0, a)), (2, (0, 1)), (3, (0, 28)), (8, (0, y8)), (9, (0, y9))], [(4, 524288), (4, x32), (0, y9 + 29), (1, 321)], v1)) 2 rfl ?_
              refine e_Ok.anyL rfl ⟨_, rfl⟩ (fun x40 => ?_)
              refine e_Ok.run (t' := (218, [(6, (4, x39)), (4, (4, x32)), (11, (0, z24)), (10, (0, w 323 y9)), (0, (1, 275)), (1, (0, a)), (2, (0, 1)), (3, (0, 28)), (8, (0, y8)), (9, (0, y9))], [(0, 20), (4, x40), (0, y9 + 29), (1, 321)], v1)) 1 rfl ?_
              refine e_Ok.anyS rfl ⟨_, rfl⟩ (fun x41 => ?_)
              refine e_Ok.l2i rfl (fun z42 z42a z42b => ?_)
              refine e_Ok.ast rfl (el_o rfl) rfl rfl (by omega) ?_
              generalize hw43 : e_up v1 321 (y9 + 29) z42 = w43
              have f44 : e_fr (mPt (28)) w w43 := e_fr.up j13 hw43 (by unfold mPt; omega)
              refine e_Ok.run (t' := (222, [(6, (4, x39)), (4, (4, x32)), (11, (0, z24)), (10, (0, w 323 y9)), (0, (1, 275)), (1, (0, a)), (2, (0, 1)), (3, (0, 28)), (8, (0, y8)), (9, (0, y9))], [(1, 275)], w43)) 1 rfl ?_
              refine e_Ok.getr (z := 322) rfl (el_o rfl) rfl rfl (by rw [← hw43]; exact (e_up_ne _ _ (Or.inl (by omega))).trans ((j13 275 56 (by first | exact no_52_0 | (unfold mPt; omega))).trans (e_Has.eq hT rfl))) (by omega) ?_
              refine e_Ok.run (t' := (228, [(6, (4, x39)), (4, (4, x32)), (11, (0, z24)), (10, (0, w 323 y9)), (0, (1, 275)), (1, (0, a)), (2, (0, 1)), (3, (0, 28)), (8, (0, y8)), (9, (0, y9))], [(0, y9), (0, 28), (1, 322)], w43)) 2 rfl ?_
              refine e_Ok.add (z := y9 + 28) rfl (by omega) (by omega) ?_
              refine e_Ok.run (t' := (230, [(6, (4, x39)), (4, (4, x32)), (11, (0, z24)), (10, (0, w 323 y9)), (0, (1, 275)), (1, (0, a)), (2, (0, 1)), (3, (0, 28)), (8, (0, y8)), (9, (0, y9))], [(0, 1), (0, y9 + 28), (1, 322)], w43)) 1 rfl ?_
              refine e_Ok.add (z := y9 + 29) rfl (by omega) (by omega) ?_
              refine e_Ok.run (t' := (236, [(6, (4, x39)), (4, (4, x32)), (11, (0, z24)), (10, (0, w 323 y9)), (0, (1, 275)), (1, (0, a)), (2, (0, 1)), (3, (0, 28)), (8, (0, y8)), (9, (0, y9))], [(4, 524288), (4, x39), (0, y9 + 29), (1, 322)], w43)) 2 rfl ?_
              refine e_Ok.anyL rfl ⟨_, rfl⟩ (fun x45 => ?_)
              refine e_Ok.run (t' := (239, [(6, (4, x39)), (4, (4, x32)), (11, (0, z24)), (10, (0, w 323 y9)), (0, (1, 275)), (1, (0, a)), (2, (0, 1)), (3, (0, 28)), (8, (0, y8)), (9, (0, y9))], [(0, 20), (4, x45), (0, y9 + 29), (1, 322)], w43)) 1 rfl ?_
              refine e_Ok.anyS rfl ⟨_, rfl⟩ (fun x46 => ?_)
              refine e_Ok.l2i rfl (fun z47 z47a z47b => ?_)
              refine e_Ok.ast rfl (el_o rfl) rfl rfl (by omega) ?_
              generalize hw48 : e_up w43 322 (y9 + 29) z47 = w48
              have f49 : e_fr (mPt (28)) w w48 := e_fr.up f44 hw48 (by unfold mPt; omega)
              refine e_Ok.inc (z := y9 + 1) rfl rfl (by omega) (by omega) ?_
              show e_Ok 20 elay ecode eI (d + 1) 301 (245, [(9, (0, y9 + 1)), (6, (4, x39)), (4, (4, x32)), (11, (0, z24)), (10, (0, w 323 y9)), (0, (1, 275)), (1, (0, a)), (2, (0, 1)), (3, (0, 28)), (8, (0, y8))], [], w48) _
              refine e_Ok.run (t' := (75, [(9, (0, y9 + 1)), (6, (4, x39)), (4, (4, x32)), (11, (0, z24)), (10, (0, w 323 y9)), (0, (1, 275)), (1, (0, a)), (2, (0, 1)), (3, (0, 28)), (8, (0, y8))], [], w48)) 1 rfl ?_
              refine e_Ok.sub eAlk (e_sub_of rfl ?_) (ih12 x32 x39 y8 (y9 + 1) w48 ⟨f49, (e_kn_sub (e_kn.oth (e_kn.ext j14 hw43 (by omega) (by omega)) hw48 (by decide)) (by omega) (by omega)), (e_kn_sub (e_kn.ext (e_kn.oth j15 hw43 (by decide)) hw48 (by omega) (by omega)) (by omega) (by omega)), by omega⟩ (by omega))
              exact ⟨rfl, rfl, rfl, rfl, rfl, rfl, rfl, rfl, trivial⟩
            · replace h23 : (w 287 (6 * a + y9) : Int) = 1 := by have q : ¬ ((w 287 (6 * a + y9) : Int) ≠ 1) := h23; omega
              refine e_Ok.run (t' := (151, [(11, (0, w 292 (6 * a + y9))), (10, (0, w 323 y9)), (0, (1, 275)), (1, (0, a)), (2, (0, 1)), (3, (0, 28)), (4, (4, y4)), (6, (4, y6)), (8, (0, y8)), (9, (0, y9))], [(0, w 323 y9), (0, y8)], v1)) 2 rfl ?_
              refine e_Ok.any rfl (eF_add_any _ _) (fun z50 z50a z50b => ?_)
              refine e_Ok.run (t' := (175, [(8, (0, z50)), (11, (0, w 292 (6 * a + y9))), (10, (0, w 323 y9)), (0, (1, 275)), (1, (0, a)), (2, (0, 1)), (3, (0, 28)), (4, (4, y4)), (6, (4, y6)), (9, (0, y9))], [(0, 1024), (0, z50), (1, 275), (4, w 292 (6 * a + y9)), (4, y4)], v1)) 8 rfl ?_
              refine e_Ok.any rfl (eF_add_any _ _) (fun z51 z51a z51b => ?_)
              refine e_Ok.callV rfl (by omega) rfl rfl rfl rfl (c_300 (mT_Pt j13 hT)) (fun r52 w53 h54 => ?_)
              obtain ⟨z55, rfl, rfl, q56a, q56b⟩ := h54
              show e_Ok 20 elay ecode eI (d + 1) 301 (179, [(8, (0, z50)), (11, (0, w 292 (6 * a + y9))), (10, (0, w 323 y9)), (0, (1, 275)), (1, (0, a)), (2, (0, 1)), (3, (0, 28)), (4, (4, y4)), (6, (4, y6)), (9, (0, y9))], [(0, z55), (4, w 292 (6 * a + y9)), (4, y4)], v1) _
              refine e_Ok.run (t' := (180, [(8, (0, z50)), (11, (0, w 292 (6 * a + y9))), (10, (0, w 323 y9)), (0, (1, 275)), (1, (0, a)), (2, (0, 1)), (3, (0, 28)), (4, (4, y4)), (6, (4, y6)), (9, (0, y9))], [(4, z55), (4, w 292 (6 * a + y9)), (4, y4)], v1)) 1 rfl ?_
              refine e_Ok.anyL rfl ⟨_, rfl⟩ (fun x57 => ?_)
              refine e_Ok.anyL rfl ⟨_, rfl⟩ (fun x58 => ?_)
              refine e_Ok.run (t' := (192, [(4, (4, x58)), (8, (0, z50)), (11, (0, w 292 (6 * a + y9))), (10, (0, w 323 y9)), (0, (1, 275)), (1, (0, a)), (2, (0, 1)), (3, (0, 28)), (6, (4, y6)), (9, (0, y9))], [(0, z50), (1, 275), (4, w 292 (6 * a + y9)), (4, y6)], v1)) 6 rfl ?_
              refine e_Ok.callV rfl (by omega) rfl rfl rfl rfl (c_300 (mT_Pt j13 hT)) (fun r59 w60 h61 => ?_)
              obtain ⟨z62, rfl, rfl, q63a, q63b⟩ := h61
              show e_Ok 20 elay ecode eI (d + 1) 301 (195, [(4, (4, x58)), (8, (0, z50)), (11, (0, w 292 (6 * a + y9))), (10, (0, w 323 y9)), (0, (1, 275)), (1, (0, a)), (2, (0, 1)), (3, (0, 28)), (6, (4, y6)), (9, (0, y9))], [(0, z62), (4, w 292 (6 * a + y9)), (4, y6)], v1) _
              refine e_Ok.run (t' := (196, [(4, (4, x58)), (8, (0, z50)), (11, (0, w 292 (6 * a + y9))), (10, (0, w 323 y9)), (0, (1, 275)), (1, (0, a)), (2, (0, 1)), (3, (0, 28)), (6, (4, y6)), (9, (0, y9))], [(4, z62), (4, w 292 (6 * a + y9)), (4, y6)], v1)) 1 rfl ?_
              refine e_Ok.anyL rfl ⟨_, rfl⟩ (fun x64 => ?_)
              refine e_Ok.anyL rfl ⟨_, rfl⟩ (fun x65 => ?_)
              refine e_Ok.run (t' := (201, [(6, (4, x65)), (4, (4, x58)), (8, (0, z50)), (11, (0, w 292 (6 * a + y9))), (10, (0, w 323 y9)), (0, (1, 275)), (1, (0, a)), (2, (0, 1)), (3, (0, 28)), (9, (0, y9))], [(1, 275)], v1)) 2 rfl ?_
              refine e_Ok.getr (z := 321) rfl (el_o rfl) rfl rfl ((j13 275 55 (by first | exact no_52_0 | (unfold mPt; omega))).trans (e_Has.eq hT rfl)) (by omega) ?_
              refine e_Ok.run (t' := (207, [(6, (4, x65)), (4, (4, x58)), (8, (0, z50)), (11, (0, w 292 (6 * a + y9))), (10, (0, w 323 y9)), (0, (1, 275)), (1, (0, a)), (2, (0, 1)), (3, (0, 28)), (9, (0, y9))], [(0, y9), (0, 28), (1, 321)], v1)) 2 rfl ?_
              refine e_Ok.add (z := y9 + 28) rfl (by omega) (by omega) ?_
              refine e_Ok.run (t' := (209, [(6, (4, x65)), (4, (4, x58)), (8, (0, z50)), (11, (0, w 292 (6 * a + y9))), (10, (0, w 323 y9)), (0, (1, 275)), (1, (0, a)), (2, (0, 1)), (3, (0, 28)), (9, (0, y9))], [(0, 1), (0, y9 + 28), (1, 321)], v1)) 1 rfl ?_
              refine e_Ok.add (z := y9 + 29) rfl (by omega) (by omega) ?_
              refine e_Ok.run (t' := (215, [(6, (4, x65)), (4, (4, x58)), (8, (0, z50)), (11, (0, w 292 (6 * a + y9))), (10, (0, w 323 y9)), (0, (1, 275)), (1, (0, a)), (2, (0, 1)), (3, (0, 28)), (9, (0, y9))], [(4, 524288), (4, x58), (0, y9 + 29), (1, 321)], v1)) 2 rfl ?_
              refine e_Ok.anyL rfl ⟨_, rfl⟩ (fun x66 => ?_)
              refine e_Ok.run (t' := (218, [(6, (4, x65)), (4, (4, x58)), (8, (0, z50)), (11, (0, w 292 (6 * a + y9))), (10, (0, w 323 y9)), (0, (1, 275)), (1, (0, a)), (2, (0, 1)), (3, (0, 28)), (9, (0, y9))], [(0, 20), (4, x66), (0, y9 + 29), (1, 321)], v1)) 1 rfl ?_
              refine e_Ok.anyS rfl ⟨_, rfl⟩ (fun x67 => ?_)
              refine e_Ok.l2i rfl (fun z68 z68a z68b => ?_)
              refine e_Ok.ast rfl (el_o rfl) rfl rfl (by omega) ?_
              generalize hw69 : e_up v1 321 (y9 + 29) z68 = w69
              have f70 : e_fr (mPt (28)) w w69 := e_fr.up j13 hw69 (by unfold mPt; omega)
              refine e_Ok.run (t' := (222, [(6, (4, x65)), (4, (4, x58)), (8, (0, z50)), (11, (0, w 292 (6 * a + y9))), (10, (0, w 323 y9)), (0, (1, 275)), (1, (0, a)), (2, (0, 1)), (3, (0, 28)), (9, (0, y9))], [(1, 275)], w69)) 1 rfl ?_
              refine e_Ok.getr (z := 322) rfl (el_o rfl) rfl rfl (by rw [← hw69]; exact (e_up_ne _ _ (Or.inl (by omega))).trans ((j13 275 56 (by first | exact no_52_0 | (unfold mPt; omega))).trans (e_Has.eq hT rfl))) (by omega) ?_
              refine e_Ok.run (t' := (228, [(6, (4, x65)), (4, (4, x58)), (8, (0, z50)), (11, (0, w 292 (6 * a + y9))), (10, (0, w 323 y9)), (0, (1, 275)), (1, (0, a)), (2, (0, 1)), (3, (0, 28)), (9, (0, y9))], [(0, y9), (0, 28), (1, 322)], w69)) 2 rfl ?_
              refine e_Ok.add (z := y9 + 28) rfl (by omega) (by omega) ?_
              refine e_Ok.run (t' := (230, [(6, (4, x65)), (4, (4, x58)), (8, (0, z50)), (11, (0, w 292 (6 * a + y9))), (10, (0, w 323 y9)), (0, (1, 275)), (1, (0, a)), (2, (0, 1)), (3, (0, 28)), (9, (0, y9))], [(0, 1), (0, y9 + 28), (1, 322)], w69)) 1 rfl ?_
              refine e_Ok.add (z := y9 + 29) rfl (by omega) (by omega) ?_
              refine e_Ok.run (t' := (236, [(6, (4, x65)), (4, (4, x58)), (8, (0, z50)), (11, (0, w 292 (6 * a + y9))), (10, (0, w 323 y9)), (0, (1, 275)), (1, (0, a)), (2, (0, 1)), (3, (0, 28)), (9, (0, y9))], [(4, 524288), (4, x65), (0, y9 + 29), (1, 322)], w69)) 2 rfl ?_
              refine e_Ok.anyL rfl ⟨_, rfl⟩ (fun x71 => ?_)
              refine e_Ok.run (t' := (239, [(6, (4, x65)), (4, (4, x58)), (8, (0, z50)), (11, (0, w 292 (6 * a + y9))), (10, (0, w 323 y9)), (0, (1, 275)), (1, (0, a)), (2, (0, 1)), (3, (0, 28)), (9, (0, y9))], [(0, 20), (4, x71), (0, y9 + 29), (1, 322)], w69)) 1 rfl ?_
              refine e_Ok.anyS rfl ⟨_, rfl⟩ (fun x72 => ?_)
              refine e_Ok.l2i rfl (fun z73 z73a z73b => ?_)
              refine e_Ok.ast rfl (el_o rfl) rfl rfl (by omega) ?_
              generalize hw74 : e_up w69 322 (y9 + 29) z73 = w74
              have f75 : e_fr (mPt (28)) w w74 := e_fr.up f70 hw74 (by unfold mPt; omega)
              refine e_Ok.inc (z := y9 + 1) rfl rfl (by omega) (by omega) ?_
              show e_Ok 20 elay ecode eI (d + 1) 301 (245, [(9, (0, y9 + 1)), (6, (4, x65)), (4, (4, x58)), (8, (0, z50)), (11, (0, w 292 (6 * a + y9))), (10, (0, w 323 y9)), (0, (1, 275)), (1, (0, a)), (2, (0, 1)), (3, (0, 28))], [], w74) _
              refine e_Ok.run (t' := (75, [(9, (0, y9 + 1)), (6, (4, x65)), (4, (4, x58)), (8, (0, z50)), (11, (0, w 292 (6 * a + y9))), (10, (0, w 323 y9)), (0, (1, 275)), (1, (0, a)), (2, (0, 1)), (3, (0, 28))], [], w74)) 1 rfl ?_
              refine e_Ok.sub eAlk (e_sub_of rfl ?_) (ih12 x58 x65 z50 (y9 + 1) w74 ⟨f75, (e_kn_sub (e_kn.oth (e_kn.ext j14 hw69 (by omega) (by omega)) hw74 (by decide)) (by omega) (by omega)), (e_kn_sub (e_kn.ext (e_kn.oth j15 hw69 (by decide)) hw74 (by omega) (by omega)) (by omega) (by omega)), by omega⟩ (by omega))
              exact ⟨rfl, rfl, rfl, rfl, rfl, rfl, rfl, rfl, trivial⟩
    refine e_Ok.sub eAlk (e_sub_of rfl ?_) (hL11 (7 + 1 : Int).toNat (1048576 * w 282 a) (1048576 * w 283 a) (w 284 a) 0 w9 ⟨f10, (e_kn_sub (e_kn.oth (e_kn.one hw7 (by omega)) hw9 (by decide)) (by omega) (by omega)), (e_kn_sub (e_kn.one hw9 (by omega)) (by omega) (by omega)), by omega⟩ (by omega))
    exact ⟨rfl, rfl, rfl, rfl, rfl, rfl, rfl, rfl, trivial⟩
theorem no_52_6 {k : Int} : ¬ mP 286 k := by unfold mP; omega
theorem no_52_7 {k : Int} : ¬ mP 275 k := by unfold mP; omega
theorem su_52_17 {t : Int} {c k : Int} (q : mPt t c k) : mP c k := by
  unfold mPt at q
  rcases q with ⟨(q | q), ⟨q, q⟩⟩
  · exact Or.inl (by omega)
  · exact Or.inr (by omega)
theorem c_302 {d : Nat} (hd : 22 ≤ d) {w : eW} (hT : e_Has mTy w) : e_Ok 20 elay ecode eI d 302 (0, [(0, (1, 275))], [], w) (fun r w' => r = [] ∧ e_fr mP w w' ∧ ∀ b, 0 ≤ b → b < w 275 10 → e_pk2 w' (7 * b) (w 286 b)) := by
  obtain ⟨d, rfl⟩ : ∃ e, d = e + 1 := ⟨d - 1, by omega⟩
  refine e_Ok.run (t' := (2, [(1, (0, 0)), (0, (1, 275))], [], w)) 2 rfl ?_
  have hL1 : ∀ (n : Nat) (y1 : Int) (v1 : eW), e_fr mP w v1 ∧ (∀ b, 0 ≤ b → b < y1 → e_pk2 v1 (7 * b) (w 286 b)) ∧ 0 ≤ y1 ∧ y1 ≤ 4 → 5 - y1 < n → e_Ok 20 elay ecode eI (d + 1) 302 (2, [(0, (1, 275)), (1, (0, y1))], [], v1) (fun r w' => r = [] ∧ e_fr mP w w' ∧ ∀ b, 0 ≤ b → b < w 275 10 → e_pk2 w' (7 * b) (w 286 b)) := by
    intro n
    induction n with
    | zero => intro y1 v1 hj hm; obtain ⟨j3, j4, j5⟩ := hj; exfalso; omega
    | succ n ih2 =>
      intro y1 v1 hj hm
      obtain ⟨j3, j4, j5⟩ := hj
      have l_y1 : v1 286 y1 = w 286 y1 := j3 286 y1 no_52_6
      refine e_Ok.run (t' := (4, [(0, (1, 275)), (1, (0, y1))], [(1, 275), (0, y1)], v1)) 2 rfl ?_
      have h6 := (e_Has.get hT (c := 275) (k := 10) (lo := 0) (hi := 4) rfl (by decide))
      refine e_Ok.getf (z := w 275 10) rfl (el_o rfl) rfl rfl ((j3 275 10 no_52_7).trans rfl) (by omega) ?_
      refine e_Ok.if2 rfl (fun h7 => ?_) (fun h7 => ?_)
      · replace h7 : (y1 : Int) ≥ w 275 10 := h7
        refine e_Ok.rets rfl rfl ?_
        exact ⟨rfl, j3, fun b g1 g2 => j4 b g1 (by omega)⟩
      · replace h7 : (y1 : Int) < w 275 10 := by have q : ¬ ((y1 : Int) ≥ w 275 10) := h7; omega
        refine e_Ok.run (t' := (13, [(0, (1, 275)), (1, (0, y1))], [(0, 0), (0, y1), (1, 275)], v1)) 3 rfl ?_
        refine e_Ok.callV rfl (by omega) rfl rfl rfl rfl (c_301_0 (by omega) (mT_P j3 hT) (by omega)) (fun r8 w9 h10 => ?_)
        obtain ⟨rfl, q11, q11k⟩ := h10
        have f12 : e_fr mP w w9 := e_fr.trans j3 (e_fr.mono q11 (fun c k q => by first | exact su_52_17 q | (unfold mPt at q; unfold mP; omega)))
        show e_Ok 20 elay ecode eI (d + 1) 302 (16, [(0, (1, 275)), (1, (0, y1))], [], w9) _
        refine e_Ok.inc (z := y1 + 1) rfl rfl (by omega) (by omega) ?_
        show e_Ok 20 elay ecode eI (d + 1) 302 (19, [(1, (0, y1 + 1)), (0, (1, 275))], [], w9) _
        refine e_Ok.run (t' := (2, [(1, (0, y1 + 1)), (0, (1, 275))], [], w9)) 1 rfl ?_
        refine e_Ok.sub eAlk (e_sub_of rfl ?_) (ih2 (y1 + 1) w9 ⟨f12, (fun b g1 g2 => Decidable.byCases (p := b = y1) (fun e => by rw [e, ← l_y1]; exact q11k) (fun e => e_pk2.fr q11 (fun k g3 g4 => by have := e_Has.get hT (c := 286) (k := b) (lo := 0) (hi := 6) rfl (by decide); unfold mPt; omega) (j4 b g1 (by omega)))), by omega⟩ (by omega))
        exact ⟨rfl, rfl, trivial⟩
  refine e_Ok.sub eAlk (e_sub_of rfl ?_) (hL1 (5 + 1 : Int).toNat 0 w ⟨(e_fr.refl w), (fun b g1 g2 => by omega), by omega⟩ (by omega))
  exact ⟨rfl, rfl, trivial⟩
theorem no_52_8 {k : Int} : ¬ mL 286 k := by unfold mL; omega
theorem no_52_9 : ¬ mL 275 10 := by unfold mL; omega
theorem c_317 {d : Nat} (hd : 25 ≤ d) {w : eW} (hT : e_Has mTy w) {a u m : Int} (ha : 0 ≤ a ∧ a ≤ 3) (hu : 0 ≤ u ∧ u ≤ 28) (k1 : e_kn w 321 u (u + w 286 a)) (k2 : e_kn w 322 u (u + w 286 a)) (kall : ∀ b, 0 ≤ b → b < w 275 10 → e_pk2 w (7 * b) (w 286 b)) : e_Ok 20 elay ecode eI d 317 (0, [(0, (1, 275)), (1, (0, a)), (2, (0, u)), (3, (0, m))], [], w) (fun r w' => ∃ z : Int, r = [(0, z)] ∧ e_fr mL w w' ∧ 0 ≤ z ∧ z ≤ 1) := by
  obtain ⟨d, rfl⟩ : ∃ e, d = e + 1 := ⟨d - 1, by omega⟩
  have hja := (e_Has.get hT (c := 286) (k := a) (lo := 0) (hi := 6) rfl (by decide))
  refine e_Ok.run (t' := (4, [(0, (1, 275)), (1, (0, a)), (2, (0, u)), (3, (0, m))], [(0, m), (0, u), (0, a), (1, 275)], w)) 4 rfl ?_
  refine e_Ok.callV rfl (by omega) rfl rfl rfl rfl (c_315 (by omega) hT (by omega) (by omega) (e_kn_sub k1 (by omega) (by omega)) (e_kn_sub k2 (by omega) (by omega))) (fun r1 w2 h3 => ?_)
  obtain ⟨z4, rfl, q5, q5a, q5b⟩ := h3
  have f6 : e_fr mL w w2 := e_fr.trans (e_fr.refl w) (e_fr.mono q5 (fun c k q => by exact q))
  have l7 : w2 286 a = w 286 a := f6 286 a no_52_8
  show e_Ok 20 elay ecode eI (d + 1) 317 (7, [(0, (1, 275)), (1, (0, a)), (2, (0, u)), (3, (0, m))], [(0, z4)], w2) _
  refine e_Ok.run (t' := (12, [(5, (0, 0)), (4, (0, z4)), (0, (1, 275)), (1, (0, a)), (2, (0, u)), (3, (0, m))], [], w2)) 3 rfl ?_
  have hL8 : ∀ (n : Nat) (y4 : Int) (y5 : Int) (v1 : eW), e_fr mL w v1 ∧ 0 ≤ y4 ∧ y4 ≤ 1 ∧ 0 ≤ y5 ∧ y5 ≤ 4 → 5 - y5 < n → e_Ok 20 elay ecode eI (d + 1) 317 (12, [(0, (1, 275)), (1, (0, a)), (2, (0, u)), (3, (0, m)), (4, (0, y4)), (5, (0, y5))], [], v1) (fun r w' => ∃ z : Int, r = [(0, z)] ∧ e_fr mL w w' ∧ 0 ≤ z ∧ z ≤ 1) := by
    intro n
    induction n with
    | zero => intro y4 y5 v1 hj hm; obtain ⟨j10, j11, j12⟩ := hj; exfalso; omega
    | succ n ih9 =>
      intro y4 y5 v1 hj hm
      obtain ⟨j10, j11, j12⟩ := hj
      have l13 : v1 286 a = w 286 a := j10 286 a no_52_8
      have l14 : v1 286 y5 = w 286 y5 := j10 286 y5 no_52_8
      refine e_Ok.run (t' := (15, [(0, (1, 275)), (1, (0, a)), (2, (0, u)), (3, (0, m)), (4, (0, y4)), (5, (0, y5))], [(1, 275), (0, y5)], v1)) 2 rfl ?_
      have h15 := (e_Has.get hT (c := 275) (k := 10) (lo := 0) (hi := 4) rfl (by decide))
      refine e_Ok.getf (z := w 275 10) rfl (el_o rfl) rfl rfl ((j10 275 10 no_52_9).trans rfl) (by omega) ?_
      refine e_Ok.if2 rfl (fun h16 => ?_) (fun h16 => ?_)
      · replace h16 : (y5 : Int) ≥ w 275 10 := h16
        refine e_Ok.run (t' := (59, [(0, (1, 275)), (1, (0, a)), (2, (0, u)), (3, (0, m)), (4, (0, y4)), (5, (0, y5))], [(0, y4)], v1)) 1 rfl ?_
        refine e_Ok.retb rfl (by omega) ?_
        exact ⟨_, rfl, j10, by omega, by omega⟩
      · replace h16 : (y5 : Int) < w 275 10 := by have q : ¬ ((y5 : Int) ≥ w 275 10) := h16; omega
        refine e_Ok.run (t' := (23, [(0, (1, 275)), (1, (0, a)), (2, (0, u)), (3, (0, m)), (4, (0, y4)), (5, (0, y5))], [(0, y4)], v1)) 1 rfl ?_
        refine e_Ok.if1 rfl (fun h17 => ?_) (fun h17 => ?_)
        · replace h17 : (y4 : Int) ≠ 0 := h17
          refine e_Ok.run (t' := (59, [(0, (1, 275)), (1, (0, a)), (2, (0, u)), (3, (0, m)), (4, (0, y4)), (5, (0, y5))], [(0, y4)], v1)) 1 rfl ?_
          refine e_Ok.retb rfl (by omega) ?_
          exact ⟨_, rfl, j10, by omega, by omega⟩
        · replace h17 : (y4 : Int) = 0 := by have q : ¬ ((y4 : Int) ≠ 0) := h17; omega
          refine e_Ok.run (t' := (29, [(0, (1, 275)), (1, (0, a)), (2, (0, u)), (3, (0, m)), (4, (0, y4)), (5, (0, y5))], [(0, a), (0, y5)], v1)) 2 rfl ?_
          refine e_Ok.if2 rfl (fun h18 => ?_) (fun h18 => ?_)
          · replace h18 : (y5 : Int) = a := h18
            refine e_Ok.run (t' := (51, [(4, (0, 0)), (0, (1, 275)), (1, (0, a)), (2, (0, u)), (3, (0, m)), (5, (0, y5))], [], v1)) 2 rfl ?_
            refine e_Ok.inc (z := y5 + 1) rfl rfl (by omega) (by omega) ?_
            show e_Ok 20 elay ecode eI (d + 1) 317 (54, [(5, (0, y5 + 1)), (4, (0, 0)), (0, (1, 275)), (1, (0, a)), (2, (0, u)), (3, (0, m))], [], v1) _
            refine e_Ok.run (t' := (12, [(5, (0, y5 + 1)), (4, (0, 0)), (0, (1, 275)), (1, (0, a)), (2, (0, u)), (3, (0, m))], [], v1)) 1 rfl ?_
            refine e_Ok.sub eAlk (e_sub_of rfl ?_) (ih9 0 (y5 + 1) v1 ⟨j10, by omega, by omega⟩ (by omega))
            exact ⟨rfl, rfl, rfl, rfl, rfl, rfl, trivial⟩
          · replace h18 : (y5 : Int) ≠ a := by have q : ¬ ((y5 : Int) = a) := h18; omega
            refine e_Ok.run (t' := (38, [(0, (1, 275)), (1, (0, a)), (2, (0, u)), (3, (0, m)), (4, (0, y4)), (5, (0, y5))], [(0, m), (0, y5), (0, u), (0, a), (1, 275)], v1)) 5 rfl ?_
            refine e_Ok.callV rfl (by omega) rfl rfl rfl rfl (c_316 (by omega) (mT_L j10 hT) (by omega) (by omega) (by omega) (e_kn_sub (e_kn.fr j10 (fun k q => by unfold mL at q; omega) k1) (by omega) (by omega)) (e_kn_sub (e_kn.fr j10 (fun k q => by unfold mL at q; omega) k2) (by omega) (by omega)) (e_kn_sub (e_kn.fr j10 (fun k q => by unfold mL at q; omega) (kall y5 (by omega) (by omega)).1) (by omega) (by omega)) (e_kn_sub (e_kn.fr j10 (fun k q => by unfold mL at q; omega) (kall y5 (by omega) (by omega)).2) (by omega) (by omega))) (fun r19 w20 h21 => ?_)
            obtain ⟨z22, rfl, q23, q23a, q23b⟩ := h21
            have f24 : e_fr mL w w20 := e_fr.trans j10 (e_fr.mono q23 (fun c k q => by exact q))
            have l25 : w20 286 a = w 286 a := f24 286 a no_52_8
            have l26 : w20 286 y5 = w 286 y5 := f24 286 y5 no_52_8
            show e_Ok 20 elay ecode eI (d + 1) 317 (41, [(0, (1, 275)), (1, (0, a)), (2, (0, u)), (3, (0, m)), (4, (0, y4)), (5, (0, y5))], [(0, z22)], w20) _
            refine e_Ok.if1 rfl (fun h27 => ?_) (fun h27 => ?_)
            · replace h27 : (z22 : Int) = 0 := h27
              refine e_Ok.run (t' := (51, [(4, (0, 0)), (0, (1, 275)), (1, (0, a)), (2, (0, u)), (3, (0, m)), (5, (0, y5))], [], w20)) 2 rfl ?_
              refine e_Ok.inc (z := y5 + 1) rfl rfl (by omega) (by omega) ?_
              show e_Ok 20 elay ecode eI (d + 1) 317 (54, [(5, (0, y5 + 1)), (4, (0, 0)), (0, (1, 275)), (1, (0, a)), (2, (0, u)), (3, (0, m))], [], w20) _
              refine e_Ok.run (t' := (12, [(5, (0, y5 + 1)), (4, (0, 0)), (0, (1, 275)), (1, (0, a)), (2, (0, u)), (3, (0, m))], [], w20)) 1 rfl ?_
              refine e_Ok.sub eAlk (e_sub_of rfl ?_) (ih9 0 (y5 + 1) w20 ⟨f24, by omega, by omega⟩ (by omega))
              exact ⟨rfl, rfl, rfl, rfl, rfl, rfl, trivial⟩
            · replace h27 : (z22 : Int) ≠ 0 := by have q : ¬ ((z22 : Int) = 0) := h27; omega
              refine e_Ok.run (t' := (51, [(4, (0, 1)), (0, (1, 275)), (1, (0, a)), (2, (0, u)), (3, (0, m)), (5, (0, y5))], [], w20)) 3 rfl ?_
              refine e_Ok.inc (z := y5 + 1) rfl rfl (by omega) (by omega) ?_
              show e_Ok 20 elay ecode eI (d + 1) 317 (54, [(5, (0, y5 + 1)), (4, (0, 1)), (0, (1, 275)), (1, (0, a)), (2, (0, u)), (3, (0, m))], [], w20) _
              refine e_Ok.run (t' := (12, [(5, (0, y5 + 1)), (4, (0, 1)), (0, (1, 275)), (1, (0, a)), (2, (0, u)), (3, (0, m))], [], w20)) 1 rfl ?_
              refine e_Ok.sub eAlk (e_sub_of rfl ?_) (ih9 1 (y5 + 1) w20 ⟨f24, by omega, by omega⟩ (by omega))
              exact ⟨rfl, rfl, rfl, rfl, rfl, rfl, trivial⟩
  refine e_Ok.sub eAlk (e_sub_of rfl ?_) (hL8 (5 + 1 : Int).toNat z4 0 w2 ⟨f6, by omega, by omega⟩ (by omega))
  exact ⟨rfl, rfl, rfl, rfl, rfl, rfl, trivial⟩
theorem c_404 {d : Nat} (hd : 25 ≤ d) {w : eW} (hT : e_Has mTy w) (kall : ∀ b, 0 ≤ b → b < w 275 10 → e_pk2 w (7 * b) (w 286 b)) : e_Ok 20 elay ecode eI d 404 (0, [(0, (1, 275))], [], w) (fun r w' => ∃ z : Int, r = [(0, z)] ∧ e_fr mL w w' ∧ -1 ≤ z ∧ z < w 275 10) := by
  obtain ⟨d, rfl⟩ : ∃ e, d = e + 1 := ⟨d - 1, by omega⟩
  have harms := e_Has.get hT (c := 275) (k := 10) (lo := 0) (hi := 4) rfl (by decide)
  refine e_Ok.run (t' := (2, [(1, (0, 0)), (0, (1, 275))], [], w)) 2 rfl ?_
  have hL1 : ∀ (n : Nat) (y1 : Int) (v1 : eW), e_fr mL w v1 ∧ 0 ≤ y1 ∧ y1 ≤ 4 → 5 - y1 < n → e_Ok 20 elay ecode eI (d + 1) 404 (2, [(0, (1, 275)), (1, (0, y1))], [], v1) (fun r w' => ∃ z : Int, r = [(0, z)] ∧ e_fr mL w w' ∧ -1 ≤ z ∧ z < w 275 10) := by
    intro n
    induction n with
    | zero => intro y1 v1 hj hm; obtain ⟨j3, j4⟩ := hj; exfalso; omega
    | succ n ih2 =>
      intro y1 v1 hj hm
      obtain ⟨j3, j4⟩ := hj
      have l5 : v1 286 y1 = w 286 y1 := j3 286 y1 no_52_8
      refine e_Ok.run (t' := (4, [(0, (1, 275)), (1, (0, y1))], [(1, 275), (0, y1)], v1)) 2 rfl ?_
      have h6 := (e_Has.get hT (c := 275) (k := 10) (lo := 0) (hi := 4) rfl (by decide))
      refine e_Ok.getf (z := w 275 10) rfl (el_o rfl) rfl rfl ((j3 275 10 no_52_9).trans rfl) (by omega) ?_
      refine e_Ok.if2 rfl (fun h7 => ?_) (fun h7 => ?_)
      · replace h7 : (y1 : Int) ≥ w 275 10 := h7
        refine e_Ok.run (t' := (68, [(0, (1, 275)), (1, (0, y1))], [(0, (-1))], v1)) 1 rfl ?_
        refine e_Ok.rets rfl rfl ?_
        exact ⟨_, rfl, j3, by omega, by omega⟩
      · replace h7 : (y1 : Int) < w 275 10 := by have q : ¬ ((y1 : Int) ≥ w 275 10) := h7; omega
        refine e_Ok.run (t' := (15, [(0, (1, 275)), (1, (0, y1))], [(0, y1), (0, 7), (0, y1), (1, 275)], v1)) 4 rfl ?_
        refine e_Ok.mul (z := 7 * y1) rfl (by omega) (by omega) ?_
        refine e_Ok.run (t' := (17, [(0, (1, 275)), (1, (0, y1))], [(0, 0), (0, 7 * y1), (0, y1), (1, 275)], v1)) 1 rfl ?_
        refine e_Ok.callV rfl (by omega) rfl rfl rfl rfl (c_315 (by omega) (mT_L j3 hT) (by omega) (by omega) (e_kn_sub (e_kn.fr j3 (fun k q => by unfold mL at q; omega) (kall y1 (by omega) (by omega)).1) (by omega) (by omega)) (e_kn_sub (e_kn.fr j3 (fun k q => by unfold mL at q; omega) (kall y1 (by omega) (by omega)).2) (by omega) (by omega))) (fun r8 w9 h10 => ?_)
        obtain ⟨z11, rfl, q12, q12a, q12b⟩ := h10
        have f13 : e_fr mL w w9 := e_fr.trans j3 (e_fr.mono q12 (fun c k q => by exact q))
        have l14 : w9 286 y1 = w 286 y1 := f13 286 y1 no_52_8
        show e_Ok 20 elay ecode eI (d + 1) 404 (20, [(0, (1, 275)), (1, (0, y1))], [(0, z11)], w9) _
        refine e_Ok.run (t' := (23, [(2, (0, z11)), (0, (1, 275)), (1, (0, y1))], [(0, 1), (0, y1)], w9)) 3 rfl ?_
        refine e_Ok.add (z := y1 + 1) rfl (by omega) (by omega) ?_
        refine e_Ok.run (t' := (25, [(3, (0, y1 + 1)), (2, (0, z11)), (0, (1, 275)), (1, (0, y1))], [], w9)) 1 rfl ?_
        have hL15 : ∀ (n : Nat) (y2 : Int) (y3 : Int) (v2 : eW), e_fr mL w v2 ∧ 0 ≤ y2 ∧ y2 ≤ 1 ∧ 1 ≤ y3 ∧ y3 ≤ 5 → 6 - y3 < n → e_Ok 20 elay ecode eI (d + 1) 404 (25, [(0, (1, 275)), (1, (0, y1)), (2, (0, y2)), (3, (0, y3))], [], v2) (fun r w' => ∃ z : Int, r = [(0, z)] ∧ e_fr mL w w' ∧ -1 ≤ z ∧ z < w 275 10) := by
          intro n
          induction n with
          | zero => intro y2 y3 v2 hj hm; obtain ⟨j17, j18, j19⟩ := hj; exfalso; omega
          | succ n ih16 =>
            intro y2 y3 v2 hj hm
            obtain ⟨j17, j18, j19⟩ := hj
            have l20 : v2 286 y1 = w 286 y1 := j17 286 y1 no_52_8
            have l21 : v2 286 y3 = w 286 y3 := j17 286 y3 no_52_8
            refine e_Ok.run (t' := (27, [(0, (1, 275)), (1, (0, y1)), (2, (0, y2)), (3, (0, y3))], [(1, 275), (0, y3)], v2)) 2 rfl ?_
            refine e_Ok.getf (z := w 275 10) rfl (el_o rfl) rfl rfl ((j17 275 10 no_52_9).trans rfl) (by omega) ?_
            refine e_Ok.if2 rfl (fun h22 => ?_) (fun h22 => ?_)
            · replace h22 : (y3 : Int) ≥ w 275 10 := h22
              refine e_Ok.run (t' := (56, [(0, (1, 275)), (1, (0, y1)), (2, (0, y2)), (3, (0, y3))], [(0, y2)], v2)) 1 rfl ?_
              refine e_Ok.if1 rfl (fun h23 => ?_) (fun h23 => ?_)
              · replace h23 : (y2 : Int) = 0 := h23
                refine e_Ok.inc (z := y1 + 1) rfl rfl (by omega) (by omega) ?_
                show e_Ok 20 elay ecode eI (d + 1) 404 (64, [(1, (0, y1 + 1)), (0, (1, 275)), (2, (0, y2)), (3, (0, y3))], [], v2) _
                refine e_Ok.run (t' := (2, [(1, (0, y1 + 1)), (0, (1, 275)), (2, (0, y2)), (3, (0, y3))], [], v2)) 1 rfl ?_
                refine e_Ok.sub eAlk (e_sub_of rfl ?_) (ih2 (y1 + 1) v2 ⟨j17, by omega⟩ (by omega))
                exact ⟨rfl, rfl, trivial⟩
              · replace h23 : (y2 : Int) ≠ 0 := by have q : ¬ ((y2 : Int) = 0) := h23; omega
                refine e_Ok.run (t' := (60, [(0, (1, 275)), (1, (0, y1)), (2, (0, y2)), (3, (0, y3))], [(0, y1)], v2)) 1 rfl ?_
                refine e_Ok.rets rfl rfl ?_
                exact ⟨_, rfl, j17, by omega, by omega⟩
            · replace h22 : (y3 : Int) < w 275 10 := by have q : ¬ ((y3 : Int) ≥ w 275 10) := h22; omega
              refine e_Ok.run (t' := (34, [(0, (1, 275)), (1, (0, y1)), (2, (0, y2)), (3, (0, y3))], [(0, y2)], v2)) 1 rfl ?_
              refine e_Ok.if1 rfl (fun h24 => ?_) (fun h24 => ?_)
              · replace h24 : (y2 : Int) ≠ 0 := h24
                refine e_Ok.run (t' := (56, [(0, (1, 275)), (1, (0, y1)), (2, (0, y2)), (3, (0, y3))], [(0, y2)], v2)) 1 rfl ?_
                refine e_Ok.if1 rfl (fun h25 => ?_) (fun h25 => ?_)
                · replace h25 : (y2 : Int) = 0 := h25
                  exfalso; omega
                · replace h25 : (y2 : Int) ≠ 0 := by have q : ¬ ((y2 : Int) = 0) := h25; omega
                  refine e_Ok.run (t' := (60, [(0, (1, 275)), (1, (0, y1)), (2, (0, y2)), (3, (0, y3))], [(0, y1)], v2)) 1 rfl ?_
                  refine e_Ok.rets rfl rfl ?_
                  exact ⟨_, rfl, j17, by omega, by omega⟩
              · replace h24 : (y2 : Int) = 0 := by have q : ¬ ((y2 : Int) ≠ 0) := h24; omega
                refine e_Ok.run (t' := (42, [(0, (1, 275)), (1, (0, y1)), (2, (0, y2)), (3, (0, y3))], [(0, y1), (0, 7), (0, y1), (1, 275)], v2)) 4 rfl ?_
                refine e_Ok.mul (z := 7 * y1) rfl (by omega) (by omega) ?_
                refine e_Ok.run (t' := (45, [(0, (1, 275)), (1, (0, y1)), (2, (0, y2)), (3, (0, y3))], [(0, 0), (0, y3), (0, 7 * y1), (0, y1), (1, 275)], v2)) 2 rfl ?_
                refine e_Ok.callV rfl (by omega) rfl rfl rfl rfl (c_316 (by omega) (mT_L j17 hT) (by omega) (by omega) (by omega) (e_kn_sub (e_kn.fr j17 (fun k q => by unfold mL at q; omega) (kall y1 (by omega) (by omega)).1) (by omega) (by omega)) (e_kn_sub (e_kn.fr j17 (fun k q => by unfold mL at q; omega) (kall y1 (by omega) (by omega)).2) (by omega) (by omega)) (e_kn_sub (e_kn.fr j17 (fun k q => by unfold mL at q; omega) (kall y3 (by omega) (by omega)).1) (by omega) (by omega)) (e_kn_sub (e_kn.fr j17 (fun k q => by unfold mL at q; omega) (kall y3 (by omega) (by omega)).2) (by omega) (by omega))) (fun r26 w27 h28 => ?_)
                obtain ⟨z29, rfl, q30, q30a, q30b⟩ := h28
                have f31 : e_fr mL w w27 := e_fr.trans j17 (e_fr.mono q30 (fun c k q => by exact q))
                have l32 : w27 286 y1 = w 286 y1 := f31 286 y1 no_52_8
                have l33 : w27 286 y3 = w 286 y3 := f31 286 y3 no_52_8
                show e_Ok 20 elay ecode eI (d + 1) 404 (48, [(0, (1, 275)), (1, (0, y1)), (2, (0, y2)), (3, (0, y3))], [(0, z29)], w27) _
                refine e_Ok.run (t' := (49, [(2, (0, z29)), (0, (1, 275)), (1, (0, y1)), (3, (0, y3))], [], w27)) 1 rfl ?_
                refine e_Ok.inc (z := y3 + 1) rfl rfl (by omega) (by omega) ?_
                show e_Ok 20 elay ecode eI (d + 1) 404 (52, [(3, (0, y3 + 1)), (2, (0, z29)), (0, (1, 275)), (1, (0, y1))], [], w27) _
                refine e_Ok.run (t' := (25, [(3, (0, y3 + 1)), (2, (0, z29)), (0, (1, 275)), (1, (0, y1))], [], w27)) 1 rfl ?_
                refine e_Ok.sub eAlk (e_sub_of rfl ?_) (ih16 z29 (y3 + 1) w27 ⟨f31, by omega, by omega⟩ (by omega))
                exact ⟨rfl, rfl, rfl, rfl, trivial⟩
        refine e_Ok.sub eAlk (e_sub_of rfl ?_) (hL15 (6 + 1 : Int).toNat z11 (y1 + 1) w9 ⟨f13, by omega, by omega⟩ (by omega))
        exact ⟨rfl, rfl, rfl, rfl, trivial⟩
  refine e_Ok.sub eAlk (e_sub_of rfl ?_) (hL1 (5 + 1 : Int).toNat 0 w ⟨(e_fr.refl w), by omega⟩ (by omega))
  exact ⟨rfl, rfl, trivial⟩
theorem c_319 {d : Nat} {w : eW} (hT : e_Has mTy w) {a b c : Int} (hE : w 276 5 ≤ 2147483646) (ha : -2147483648 ≤ a ∧ a ≤ 2147483647) (hb : -2147483648 ≤ b ∧ b ≤ 2147483647) (hc : -2147483648 ≤ c ∧ c ≤ 2147483647) : e_Ok 20 elay ecode eI d 319 (0, [(0, (1, 275)), (1, (0, a)), (2, (0, b)), (3, (0, c))], [], w) (fun r w' => r = [] ∧ e_fr mE w w' ∧ e_Has mTy w' ∧ w' 276 5 = w 276 5 + 1) := by
  have hev := e_Has.get hT (c := 276) (k := 5) (lo := 0) (hi := 2147483647) rfl (by decide)
  refine e_Ok.run (t' := (1, [(0, (1, 275)), (1, (0, a)), (2, (0, b)), (3, (0, c))], [(1, 275)], w)) 1 rfl ?_
  refine e_Ok.getr (z := 276) rfl (el_o rfl) rfl rfl (e_Has.eq hT rfl) (by omega) ?_
  refine e_Ok.run (t' := (5, [(0, (1, 275)), (1, (0, a)), (2, (0, b)), (3, (0, c))], [(0, 5), (1, 276)], w)) 1 rfl ?_
  refine e_Ok.ald (z := w 276 5) rfl (el_o rfl) rfl (by omega) rfl (by omega) ?_
  refine e_Ok.run (t' := (9, [(0, (1, 275)), (1, (0, a)), (2, (0, b)), (3, (0, c))], [(0, 2000), (0, w 276 5)], w)) 1 rfl ?_
  refine e_Ok.if2 rfl (fun h1 => ?_) (fun h1 => ?_)
  · replace h1 : (w 276 5 : Int) ≥ 2000 := h1
    refine e_Ok.run (t' := (70, [(0, (1, 275)), (1, (0, a)), (2, (0, b)), (3, (0, c))], [(1, 275)], w)) 1 rfl ?_
    refine e_Ok.getr (z := 276) rfl (el_o rfl) rfl rfl (e_Has.eq hT rfl) (by omega) ?_
    refine e_Ok.run (t' := (75, [(0, (1, 275)), (1, (0, a)), (2, (0, b)), (3, (0, c))], [(0, 5), (1, 276), (0, 5), (1, 276)], w)) 2 rfl ?_
    refine e_Ok.ald (z := w 276 5) rfl (el_o rfl) rfl (by omega) rfl (by omega) ?_
    refine e_Ok.run (t' := (77, [(0, (1, 275)), (1, (0, a)), (2, (0, b)), (3, (0, c))], [(0, 1), (0, w 276 5), (0, 5), (1, 276)], w)) 1 rfl ?_
    refine e_Ok.add (z := w 276 5 + 1) rfl (by omega) (by omega) ?_
    refine e_Ok.ast rfl (el_o rfl) rfl rfl (by omega) ?_
    generalize hw2 : e_up w 276 5 (w 276 5 + 1) = w2
    have f3 : e_fr mE w w2 := e_fr.up (e_fr.refl w) hw2 (by unfold mE; omega)
    have hT4 : e_Has mTy w2 := e_Has.upr hT hw2 rfl (by omega)
    refine e_Ok.rets rfl rfl ?_
    exact ⟨rfl, f3, hT4, (by rw [← hw2]; exact e_up_eq _ _ _ _)⟩
  · replace h1 : (w 276 5 : Int) < 2000 := by have q : ¬ ((w 276 5 : Int) ≥ 2000) := h1; omega
    refine e_Ok.run (t' := (17, [(0, (1, 275)), (1, (0, a)), (2, (0, b)), (3, (0, c))], [(1, 275), (0, 4), (0, 25060)], w)) 3 rfl ?_
    refine e_Ok.getr (z := 276) rfl (el_o rfl) rfl rfl (e_Has.eq hT rfl) (by omega) ?_
    refine e_Ok.run (t' := (21, [(0, (1, 275)), (1, (0, a)), (2, (0, b)), (3, (0, c))], [(0, 5), (1, 276), (0, 4), (0, 25060)], w)) 1 rfl ?_
    refine e_Ok.ald (z := w 276 5) rfl (el_o rfl) rfl (by omega) rfl (by omega) ?_
    refine e_Ok.mul (z := 4 * w 276 5) rfl (by omega) (by omega) ?_
    refine e_Ok.add (z := 4 * w 276 5 + 25060) rfl (by omega) (by omega) ?_
    refine e_Ok.run (t' := (27, [(4, (0, 4 * w 276 5 + 25060)), (0, (1, 275)), (1, (0, a)), (2, (0, b)), (3, (0, c))], [(1, 275)], w)) 2 rfl ?_
    refine e_Ok.getr (z := 276) rfl (el_o rfl) rfl rfl (e_Has.eq hT rfl) (by omega) ?_
    refine e_Ok.run (t' := (33, [(4, (0, 4 * w 276 5 + 25060)), (0, (1, 275)), (1, (0, a)), (2, (0, b)), (3, (0, c))], [(1, 275), (0, 4 * w 276 5 + 25060), (1, 276)], w)) 2 rfl ?_
    refine e_Ok.getr (z := 276) rfl (el_o rfl) rfl rfl (e_Has.eq hT rfl) (by omega) ?_
    refine e_Ok.run (t' := (37, [(4, (0, 4 * w 276 5 + 25060)), (0, (1, 275)), (1, (0, a)), (2, (0, b)), (3, (0, c))], [(0, 0), (1, 276), (0, 4 * w 276 5 + 25060), (1, 276)], w)) 1 rfl ?_
    have h5 := (e_Has.get hT (c := 276) (k := 0) (lo := 0) (hi := 6000) rfl (by decide))
    refine e_Ok.ald (z := w 276 0) rfl (el_o rfl) rfl (by omega) rfl (by omega) ?_
    refine e_Ok.ast rfl (el_o rfl) rfl rfl (by omega) ?_
    generalize hw6 : e_up w 276 (4 * w 276 5 + 25060) (w 276 0) = w6
    have f7 : e_fr mE w w6 := e_fr.up (e_fr.refl w) hw6 (by unfold mE; omega)
    have hT8 : e_Has mTy w6 := e_Has.upr hT hw6 (nR_EV (by omega)) (by omega)
    refine e_Ok.run (t' := (40, [(4, (0, 4 * w 276 5 + 25060)), (0, (1, 275)), (1, (0, a)), (2, (0, b)), (3, (0, c))], [(1, 275)], w6)) 1 rfl ?_
    refine e_Ok.getr (z := 276) rfl (el_o rfl) rfl rfl (by rw [← hw6]; exact (e_up_ne _ _ (Or.inl (by omega))).trans (e_Has.eq hT rfl)) (by omega) ?_
    refine e_Ok.run (t' := (46, [(4, (0, 4 * w 276 5 + 25060)), (0, (1, 275)), (1, (0, a)), (2, (0, b)), (3, (0, c))], [(0, 1), (0, 4 * w 276 5 + 25060), (1, 276)], w6)) 2 rfl ?_
    refine e_Ok.add (z := 4 * w 276 5 + 25061) rfl (by omega) (by omega) ?_
    refine e_Ok.run (t' := (48, [(4, (0, 4 * w 276 5 + 25060)), (0, (1, 275)), (1, (0, a)), (2, (0, b)), (3, (0, c))], [(0, a), (0, 4 * w 276 5 + 25061), (1, 276)], w6)) 1 rfl ?_
    refine e_Ok.ast rfl (el_o rfl) rfl rfl (by omega) ?_
    generalize hw9 : e_up w6 276 (4 * w 276 5 + 25061) a = w9
    have f10 : e_fr mE w w9 := e_fr.up f7 hw9 (by unfold mE; omega)
    have hT11 : e_Has mTy w9 := e_Has.upr hT8 hw9 (nR_EV (by omega)) (by omega)
    refine e_Ok.run (t' := (50, [(4, (0, 4 * w 276 5 + 25060)), (0, (1, 275)), (1, (0, a)), (2, (0, b)), (3, (0, c))], [(1, 275)], w9)) 1 rfl ?_
    refine e_Ok.getr (z := 276) rfl (el_o rfl) rfl rfl (by rw [← hw9]; exact (e_up_ne _ _ (Or.inl (by omega))).trans (by rw [← hw6]; exact (e_up_ne _ _ (Or.inl (by omega))).trans (e_Has.eq hT rfl))) (by omega) ?_
    refine e_Ok.run (t' := (56, [(4, (0, 4 * w 276 5 + 25060)), (0, (1, 275)), (1, (0, a)), (2, (0, b)), (3, (0, c))], [(0, 2), (0, 4 * w 276 5 + 25060), (1, 276)], w9)) 2 rfl ?_
    refine e_Ok.add (z := 4 * w 276 5 + 25062) rfl (by omega) (by omega) ?_
    refine e_Ok.run (t' := (58, [(4, (0, 4 * w 276 5 + 25060)), (0, (1, 275)), (1, (0, a)), (2, (0, b)), (3, (0, c))], [(0, b), (0, 4 * w 276 5 + 25062), (1, 276)], w9)) 1 rfl ?_
    refine e_Ok.ast rfl (el_o rfl) rfl rfl (by omega) ?_
    generalize hw12 : e_up w9 276 (4 * w 276 5 + 25062) b = w12
    have f13 : e_fr mE w w12 := e_fr.up f10 hw12 (by unfold mE; omega)
    have hT14 : e_Has mTy w12 := e_Has.upr hT11 hw12 (nR_EV (by omega)) (by omega)
    refine e_Ok.run (t' := (60, [(4, (0, 4 * w 276 5 + 25060)), (0, (1, 275)), (1, (0, a)), (2, (0, b)), (3, (0, c))], [(1, 275)], w12)) 1 rfl ?_
    refine e_Ok.getr (z := 276) rfl (el_o rfl) rfl rfl (by rw [← hw12]; exact (e_up_ne _ _ (Or.inl (by omega))).trans (by rw [← hw9]; exact (e_up_ne _ _ (Or.inl (by omega))).trans (by rw [← hw6]; exact (e_up_ne _ _ (Or.inl (by omega))).trans (e_Has.eq hT rfl)))) (by omega) ?_
    refine e_Ok.run (t' := (66, [(4, (0, 4 * w 276 5 + 25060)), (0, (1, 275)), (1, (0, a)), (2, (0, b)), (3, (0, c))], [(0, 3), (0, 4 * w 276 5 + 25060), (1, 276)], w12)) 2 rfl ?_
    refine e_Ok.add (z := 4 * w 276 5 + 25063) rfl (by omega) (by omega) ?_
    refine e_Ok.run (t' := (68, [(4, (0, 4 * w 276 5 + 25060)), (0, (1, 275)), (1, (0, a)), (2, (0, b)), (3, (0, c))], [(0, c), (0, 4 * w 276 5 + 25063), (1, 276)], w12)) 1 rfl ?_
    refine e_Ok.ast rfl (el_o rfl) rfl rfl (by omega) ?_
    generalize hw15 : e_up w12 276 (4 * w 276 5 + 25063) c = w15
    have f16 : e_fr mE w w15 := e_fr.up f13 hw15 (by unfold mE; omega)
    have hT17 : e_Has mTy w15 := e_Has.upr hT14 hw15 (nR_EV (by omega)) (by omega)
    refine e_Ok.run (t' := (70, [(4, (0, 4 * w 276 5 + 25060)), (0, (1, 275)), (1, (0, a)), (2, (0, b)), (3, (0, c))], [(1, 275)], w15)) 1 rfl ?_
    refine e_Ok.getr (z := 276) rfl (el_o rfl) rfl rfl (by rw [← hw15]; exact (e_up_ne _ _ (Or.inl (by omega))).trans (by rw [← hw12]; exact (e_up_ne _ _ (Or.inl (by omega))).trans (by rw [← hw9]; exact (e_up_ne _ _ (Or.inl (by omega))).trans (by rw [← hw6]; exact (e_up_ne _ _ (Or.inl (by omega))).trans (e_Has.eq hT rfl))))) (by omega) ?_
    refine e_Ok.run (t' := (75, [(4, (0, 4 * w 276 5 + 25060)), (0, (1, 275)), (1, (0, a)), (2, (0, b)), (3, (0, c))], [(0, 5), (1, 276), (0, 5), (1, 276)], w15)) 2 rfl ?_
    refine e_Ok.ald (z := w 276 5) rfl (el_o rfl) rfl (by omega) (by rw [← hw15]; exact (e_up_ne _ _ (Or.inr (by omega))).trans (by rw [← hw12]; exact (e_up_ne _ _ (Or.inr (by omega))).trans (by rw [← hw9]; exact (e_up_ne _ _ (Or.inr (by omega))).trans (by rw [← hw6]; exact (e_up_ne _ _ (Or.inr (by omega))).trans rfl)))) (by omega) ?_
    refine e_Ok.run (t' := (77, [(4, (0, 4 * w 276 5 + 25060)), (0, (1, 275)), (1, (0, a)), (2, (0, b)), (3, (0, c))], [(0, 1), (0, w 276 5), (0, 5), (1, 276)], w15)) 1 rfl ?_
    refine e_Ok.add (z := w 276 5 + 1) rfl (by omega) (by omega) ?_
    refine e_Ok.ast rfl (el_o rfl) rfl rfl (by omega) ?_
    generalize hw18 : e_up w15 276 5 (w 276 5 + 1) = w18
    have f19 : e_fr mE w w18 := e_fr.up f16 hw18 (by unfold mE; omega)
    have hT20 : e_Has mTy w18 := e_Has.upr hT17 hw18 rfl (by omega)
    refine e_Ok.rets rfl rfl ?_
    exact ⟨rfl, f19, hT20, (by rw [← hw18]; exact e_up_eq _ _ _ _)⟩
theorem no_52_10 {k : Int} : ¬ mQ 275 k := by unfold mQ; omega
theorem no_52_11 {k : Int} : ¬ mQ 276 k := by unfold mQ; omega
theorem no_52_12 {k : Int} : ¬ mQ 319 k := by unfold mQ; omega
theorem no_52_13 {k : Int} : ¬ mQ 318 k := by unfold mQ; omega
theorem c_320 {d : Nat} {w : eW} (hT : e_Has mTy w) (hA : mAc w) {p : Int} (hp : 0 ≤ p ∧ p ≤ 63) : e_Ok 20 elay ecode eI d 320 (0, [(0, (1, 275)), (1, (0, p))], [], w) (fun r w' => ∃ z : Int, r = [(0, z)] ∧ e_fr mQ w w' ∧ -2147483648 ≤ z ∧ z ≤ 2147483647) := by
  obtain ⟨rk, hrk⟩ := hA
  have hrp := hrk p (by omega) (by omega)
  refine e_Ok.run (t' := (4, [(3, (0, p)), (2, (0, 0)), (0, (1, 275)), (1, (0, p))], [], w)) 4 rfl ?_
  have hL1 : ∀ (n : Nat) (y2 : Int) (y3 : Int) (v1 : eW), e_fr mQ w v1 ∧ e_kr v1 326 0 (y2 - 1) 0 63 ∧ 0 ≤ y3 ∧ y3 ≤ 63 ∧ 0 ≤ y2 ∧ y2 + rk y3 ≤ 63 ∧ 0 ≤ rk y3 → rk y3 < n → e_Ok 20 elay ecode eI d 320 (4, [(0, (1, 275)), (2, (0, y2)), (3, (0, y3))], [], v1) (fun r w' => ∃ z : Int, r = [(0, z)] ∧ e_fr mQ w w' ∧ -2147483648 ≤ z ∧ z ≤ 2147483647) := by
    intro n
    induction n with
    | zero => intro y2 y3 v1 hj hm; obtain ⟨j3, j4, j5, j6⟩ := hj; exfalso; omega
    | succ n ih2 =>
      intro y2 y3 v1 hj hm
      obtain ⟨j3, j4, j5, j6⟩ := hj
      refine e_Ok.run (t' := (5, [(0, (1, 275)), (2, (0, y2)), (3, (0, y3))], [(1, 275)], v1)) 1 rfl ?_
      refine e_Ok.getr (z := 276) rfl (el_o rfl) rfl rfl ((j3 275 0 no_52_10).trans (e_Has.eq hT rfl)) (by omega) ?_
      refine e_Ok.run (t' := (12, [(0, (1, 275)), (2, (0, y2)), (3, (0, y3))], [(0, y3), (0, 224), (1, 276)], v1)) 2 rfl ?_
      refine e_Ok.add (z := y3 + 224) rfl (by omega) (by omega) ?_
      have h7 := (e_Has.get hT (c := 276) (k := y3 + 224) (lo := 0) (hi := 1) (nR_FORCED (p := y3) (by omega)) (by decide))
      refine e_Ok.ald (z := w 276 (y3 + 224)) rfl (el_o rfl) rfl (by omega) ((j3 276 (y3 + 224) no_52_11).trans rfl) (by omega) ?_
      refine e_Ok.if1 rfl (fun h8 => ?_) (fun h8 => ?_)
      · replace h8 : (w 276 (y3 + 224) : Int) ≠ 0 := h8
        refine e_Ok.run (t' := (47, [(0, (1, 275)), (2, (0, y2)), (3, (0, y3))], [(1, 275)], v1)) 1 rfl ?_
        refine e_Ok.getr (z := 276) rfl (el_o rfl) rfl rfl ((j3 275 0 no_52_10).trans (e_Has.eq hT rfl)) (by omega) ?_
        refine e_Ok.run (t' := (54, [(0, (1, 275)), (2, (0, y2)), (3, (0, y3))], [(0, y3), (0, 224), (1, 276)], v1)) 2 rfl ?_
        refine e_Ok.add (z := y3 + 224) rfl (by omega) (by omega) ?_
        refine e_Ok.ald (z := w 276 (y3 + 224)) rfl (el_o rfl) rfl (by omega) ((j3 276 (y3 + 224) no_52_11).trans rfl) (by omega) ?_
        refine e_Ok.run (t' := (57, [(0, (1, 275)), (2, (0, y2)), (3, (0, y3))], [(0, 1), (0, w 276 (y3 + 224))], v1)) 1 rfl ?_
        refine e_Ok.if2 rfl (fun h9 => ?_) (fun h9 => ?_)
        · replace h9 : (w 276 (y3 + 224) : Int) ≠ 1 := h9
          exfalso; omega
        · replace h9 : (w 276 (y3 + 224) : Int) = 1 := by have q : ¬ ((w 276 (y3 + 224) : Int) ≠ 1) := h9; omega
          refine e_Ok.run (t' := (61, [(0, (1, 275)), (2, (0, y2)), (3, (0, y3))], [(1, 275)], v1)) 1 rfl ?_
          refine e_Ok.getr (z := 276) rfl (el_o rfl) rfl rfl ((j3 275 0 no_52_10).trans (e_Has.eq hT rfl)) (by omega) ?_
          refine e_Ok.run (t' := (68, [(0, (1, 275)), (2, (0, y2)), (3, (0, y3))], [(0, y3), (0, 288), (1, 276)], v1)) 2 rfl ?_
          refine e_Ok.add (z := y3 + 288) rfl (by omega) (by omega) ?_
          have h10 := (e_Has.get hT (c := 276) (k := y3 + 288) (lo := (-2147483648)) (hi := 2147483647) (nR_FORCE (p := y3) (by omega)) (by decide))
          refine e_Ok.ald (z := w 276 (y3 + 288)) rfl (el_o rfl) rfl (by omega) ((j3 276 (y3 + 288) no_52_11).trans rfl) (by omega) ?_
          refine e_Ok.run (t' := (87, [(4, (0, w 276 (y3 + 288))), (0, (1, 275)), (2, (0, y2)), (3, (0, y3))], [(0, 1), (0, y2)], v1)) 4 rfl ?_
          refine e_Ok.sub' (z := y2 - 1) rfl (by omega) (by omega) ?_
          refine e_Ok.run (t' := (90, [(5, (0, y2 - 1)), (4, (0, w 276 (y3 + 288))), (0, (1, 275)), (2, (0, y2)), (3, (0, y3))], [], v1)) 1 rfl ?_
          have hL11 : ∀ (n : Nat) (y4 : Int) (y5 : Int), -2147483648 ≤ y4 ∧ y4 ≤ 2147483647 ∧ -1 ≤ y5 ∧ y5 ≤ y2 - 1 → y5 + 1 < n → e_Ok 20 elay ecode eI d 320 (90, [(0, (1, 275)), (4, (0, y4)), (5, (0, y5))], [], v1) (fun r w' => ∃ z : Int, r = [(0, z)] ∧ e_fr mQ w w' ∧ -2147483648 ≤ z ∧ z ≤ 2147483647) := by
            intro n
            induction n with
            | zero => intro y4 y5 hj hm; obtain ⟨j13, j14⟩ := hj; exfalso; omega
            | succ n ih12 =>
              intro y4 y5 hj hm
              obtain ⟨j13, j14⟩ := hj
              refine e_Ok.run (t' := (92, [(0, (1, 275)), (4, (0, y4)), (5, (0, y5))], [(0, y5)], v1)) 1 rfl ?_
              refine e_Ok.if1 rfl (fun h15 => ?_) (fun h15 => ?_)
              · replace h15 : (y5 : Int) < 0 := h15
                refine e_Ok.run (t' := (135, [(0, (1, 275)), (4, (0, y4)), (5, (0, y5))], [(0, y4)], v1)) 1 rfl ?_
                refine e_Ok.rets rfl rfl ?_
                exact ⟨_, rfl, j3, by omega, by omega⟩
              · replace h15 : (y5 : Int) ≥ 0 := by have q : ¬ ((y5 : Int) < 0) := h15; omega
                refine e_Ok.run (t' := (96, [(0, (1, 275)), (4, (0, y4)), (5, (0, y5))], [(1, 275)], v1)) 1 rfl ?_
                refine e_Ok.getr (z := 319) rfl (el_o rfl) rfl rfl ((j3 275 53 no_52_10).trans (e_Has.eq hT rfl)) (by omega) ?_
                refine e_Ok.run (t' := (100, [(0, (1, 275)), (4, (0, y4)), (5, (0, y5))], [(1, 275), (1, 319)], v1)) 1 rfl ?_
                refine e_Ok.getr (z := 326) rfl (el_o rfl) rfl rfl ((j3 275 63 no_52_10).trans (e_Has.eq hT rfl)) (by omega) ?_
                refine e_Ok.run (t' := (105, [(0, (1, 275)), (4, (0, y4)), (5, (0, y5))], [(0, y5), (1, 326), (1, 319)], v1)) 1 rfl ?_
                have h16 := (j4 y5 (by omega) (by omega))
                refine e_Ok.ald (z := v1 326 y5) rfl (el_o rfl) rfl (by omega) rfl (by omega) ?_
                have h17 := (e_Has.get hT (c := 319) (k := v1 326 y5) (lo := 0) (hi := 1) rfl (by decide))
                refine e_Ok.ald (z := w 319 (v1 326 y5)) rfl (el_o rfl) rfl (by omega) ((j3 319 (v1 326 y5) no_52_12).trans rfl) (by omega) ?_
                refine e_Ok.if1 rfl (fun h18 => ?_) (fun h18 => ?_)
                · replace h18 : (w 319 (v1 326 y5) : Int) ≠ 0 := h18
                  refine e_Ok.run (t' := (117, [(0, (1, 275)), (4, (0, y4)), (5, (0, y5))], [(0, y4)], v1)) 1 rfl ?_
                  refine e_Ok.if1 rfl (fun h19 => ?_) (fun h19 => ?_)
                  · replace h19 : (y4 : Int) ≠ 0 := h19
                    refine e_Ok.run (t' := (127, [(4, (0, 0)), (0, (1, 275)), (5, (0, y5))], [], v1)) 2 rfl ?_
                    refine e_Ok.inc (z := y5 - 1) rfl rfl (by omega) (by omega) ?_
                    show e_Ok 20 elay ecode eI d 320 (130, [(5, (0, y5 - 1)), (4, (0, 0)), (0, (1, 275))], [], v1) _
                    refine e_Ok.run (t' := (90, [(5, (0, y5 - 1)), (4, (0, 0)), (0, (1, 275))], [], v1)) 1 rfl ?_
                    refine e_Ok.sub eAlk (e_sub_of rfl ?_) (ih12 0 (y5 - 1) ⟨by omega, by omega⟩ (by omega))
                    exact ⟨rfl, rfl, rfl, trivial⟩
                  · replace h19 : (y4 : Int) = 0 := by have q : ¬ ((y4 : Int) ≠ 0) := h19; omega
                    refine e_Ok.run (t' := (127, [(4, (0, 1)), (0, (1, 275)), (5, (0, y5))], [], v1)) 3 rfl ?_
                    refine e_Ok.inc (z := y5 - 1) rfl rfl (by omega) (by omega) ?_
                    show e_Ok 20 elay ecode eI d 320 (130, [(5, (0, y5 - 1)), (4, (0, 1)), (0, (1, 275))], [], v1) _
                    refine e_Ok.run (t' := (90, [(5, (0, y5 - 1)), (4, (0, 1)), (0, (1, 275))], [], v1)) 1 rfl ?_
                    refine e_Ok.sub eAlk (e_sub_of rfl ?_) (ih12 1 (y5 - 1) ⟨by omega, by omega⟩ (by omega))
                    exact ⟨rfl, rfl, rfl, trivial⟩
                · replace h18 : (w 319 (v1 326 y5) : Int) = 0 := by have q : ¬ ((w 319 (v1 326 y5) : Int) ≠ 0) := h18; omega
                  refine e_Ok.run (t' := (127, [(4, (0, y4)), (0, (1, 275)), (5, (0, y5))], [], v1)) 3 rfl ?_
                  refine e_Ok.inc (z := y5 - 1) rfl rfl (by omega) (by omega) ?_
                  show e_Ok 20 elay ecode eI d 320 (130, [(5, (0, y5 - 1)), (4, (0, y4)), (0, (1, 275))], [], v1) _
                  refine e_Ok.run (t' := (90, [(5, (0, y5 - 1)), (4, (0, y4)), (0, (1, 275))], [], v1)) 1 rfl ?_
                  refine e_Ok.sub eAlk (e_sub_of rfl ?_) (ih12 y4 (y5 - 1) ⟨by omega, by omega⟩ (by omega))
                  exact ⟨rfl, rfl, rfl, trivial⟩
          refine e_Ok.sub eAlk (e_sub_of rfl ?_) (hL11 (63 + 1 : Int).toNat (w 276 (y3 + 288)) (y2 - 1) ⟨by omega, by omega⟩ (by omega))
          exact ⟨rfl, rfl, rfl, trivial⟩
      · replace h8 : (w 276 (y3 + 224) : Int) = 0 := by have q : ¬ ((w 276 (y3 + 224) : Int) ≠ 0) := h8; omega
        refine e_Ok.run (t' := (18, [(0, (1, 275)), (2, (0, y2)), (3, (0, y3))], [(1, 275)], v1)) 1 rfl ?_
        refine e_Ok.getr (z := 318) rfl (el_o rfl) rfl rfl ((j3 275 52 no_52_10).trans (e_Has.eq hT rfl)) (by omega) ?_
        refine e_Ok.run (t' := (22, [(0, (1, 275)), (2, (0, y2)), (3, (0, y3))], [(0, y3), (1, 318)], v1)) 1 rfl ?_
        have h20 := (e_Has.get hT (c := 318) (k := y3) (lo := (-1)) (hi := 63) rfl (by decide))
        refine e_Ok.ald (z := w 318 y3) rfl (el_o rfl) rfl (by omega) ((j3 318 y3 no_52_13).trans rfl) (by omega) ?_
        refine e_Ok.if1 rfl (fun h21 => ?_) (fun h21 => ?_)
        · replace h21 : (w 318 y3 : Int) < 0 := h21
          refine e_Ok.run (t' := (47, [(0, (1, 275)), (2, (0, y2)), (3, (0, y3))], [(1, 275)], v1)) 1 rfl ?_
          refine e_Ok.getr (z := 276) rfl (el_o rfl) rfl rfl ((j3 275 0 no_52_10).trans (e_Has.eq hT rfl)) (by omega) ?_
          refine e_Ok.run (t' := (54, [(0, (1, 275)), (2, (0, y2)), (3, (0, y3))], [(0, y3), (0, 224), (1, 276)], v1)) 2 rfl ?_
          refine e_Ok.add (z := y3 + 224) rfl (by omega) (by omega) ?_
          refine e_Ok.ald (z := w 276 (y3 + 224)) rfl (el_o rfl) rfl (by omega) ((j3 276 (y3 + 224) no_52_11).trans rfl) (by omega) ?_
          refine e_Ok.run (t' := (57, [(0, (1, 275)), (2, (0, y2)), (3, (0, y3))], [(0, 1), (0, w 276 (y3 + 224))], v1)) 1 rfl ?_
          refine e_Ok.if2 rfl (fun h22 => ?_) (fun h22 => ?_)
          · replace h22 : (w 276 (y3 + 224) : Int) ≠ 1 := h22
            refine e_Ok.run (t' := (74, [(0, (1, 275)), (2, (0, y2)), (3, (0, y3))], [(1, 275)], v1)) 1 rfl ?_
            refine e_Ok.getr (z := 276) rfl (el_o rfl) rfl rfl ((j3 275 0 no_52_10).trans (e_Has.eq hT rfl)) (by omega) ?_
            refine e_Ok.run (t' := (81, [(0, (1, 275)), (2, (0, y2)), (3, (0, y3))], [(0, y3), (0, 160), (1, 276)], v1)) 2 rfl ?_
            refine e_Ok.add (z := y3 + 160) rfl (by omega) (by omega) ?_
            have h23 := (e_Has.get hT (c := 276) (k := y3 + 160) (lo := (-2147483648)) (hi := 2147483647) (nR_OWN (p := y3) (by omega)) (by decide))
            refine e_Ok.ald (z := w 276 (y3 + 160)) rfl (el_o rfl) rfl (by omega) ((j3 276 (y3 + 160) no_52_11).trans rfl) (by omega) ?_
            refine e_Ok.run (t' := (87, [(4, (0, w 276 (y3 + 160))), (0, (1, 275)), (2, (0, y2)), (3, (0, y3))], [(0, 1), (0, y2)], v1)) 3 rfl ?_
            refine e_Ok.sub' (z := y2 - 1) rfl (by omega) (by omega) ?_
            refine e_Ok.run (t' := (90, [(5, (0, y2 - 1)), (4, (0, w 276 (y3 + 160))), (0, (1, 275)), (2, (0, y2)), (3, (0, y3))], [], v1)) 1 rfl ?_
            have hL24 : ∀ (n : Nat) (y4 : Int) (y5 : Int), -2147483648 ≤ y4 ∧ y4 ≤ 2147483647 ∧ -1 ≤ y5 ∧ y5 ≤ y2 - 1 → y5 + 1 < n → e_Ok 20 elay ecode eI d 320 (90, [(0, (1, 275)), (4, (0, y4)), (5, (0, y5))], [], v1) (fun r w' => ∃ z : Int, r = [(0, z)] ∧ e_fr mQ w w' ∧ -2147483648 ≤ z ∧ z ≤ 2147483647) := by
              intro n
              induction n with
              | zero => intro y4 y5 hj hm; obtain ⟨j26, j27⟩ := hj; exfalso; omega
              | succ n ih25 =>
                intro y4 y5 hj hm
                obtain ⟨j26, j27⟩ := hj
                refine e_Ok.run (t' := (92, [(0, (1, 275)), (4, (0, y4)), (5, (0, y5))], [(0, y5)], v1)) 1 rfl ?_
                refine e_Ok.if1 rfl (fun h28 => ?_) (fun h28 => ?_)
                · replace h28 : (y5 : Int) < 0 := h28
                  refine e_Ok.run (t' := (135, [(0, (1, 275)), (4, (0, y4)), (5, (0, y5))], [(0, y4)], v1)) 1 rfl ?_
                  refine e_Ok.rets rfl rfl ?_
                  exact ⟨_, rfl, j3, by omega, by omega⟩
                · replace h28 : (y5 : Int) ≥ 0 := by have q : ¬ ((y5 : Int) < 0) := h28; omega
                  refine e_Ok.run (t' := (96, [(0, (1, 275)), (4, (0, y4)), (5, (0, y5))], [(1, 275)], v1)) 1 rfl ?_
                  refine e_Ok.getr (z := 319) rfl (el_o rfl) rfl rfl ((j3 275 53 no_52_10).trans (e_Has.eq hT rfl)) (by omega) ?_
                  refine e_Ok.run (t' := (100, [(0, (1, 275)), (4, (0, y4)), (5, (0, y5))], [(1, 275), (1, 319)], v1)) 1 rfl ?_
                  refine e_Ok.getr (z := 326) rfl (el_o rfl) rfl rfl ((j3 275 63 no_52_10).trans (e_Has.eq hT rfl)) (by omega) ?_
                  refine e_Ok.run (t' := (105, [(0, (1, 275)), (4, (0, y4)), (5, (0, y5))], [(0, y5), (1, 326), (1, 319)], v1)) 1 rfl ?_
                  have h29 := (j4 y5 (by omega) (by omega))
                  refine e_Ok.ald (z := v1 326 y5) rfl (el_o rfl) rfl (by omega) rfl (by omega) ?_
                  have h30 := (e_Has.get hT (c := 319) (k := v1 326 y5) (lo := 0) (hi := 1) rfl (by decide))
                  refine e_Ok.ald (z := w 319 (v1 326 y5)) rfl (el_o rfl) rfl (by omega) ((j3 319 (v1 326 y5) no_52_12).trans rfl) (by omega) ?_
                  refine e_Ok.if1 rfl (fun h31 => ?_) (fun h31 => ?_)
                  · replace h31 : (w 319 (v1 326 y5) : Int) ≠ 0 := h31
                    refine e_Ok.run (t' := (117, [(0, (1, 275)), (4, (0, y4)), (5, (0, y5))], [(0, y4)], v1)) 1 rfl ?_
                    refine e_Ok.if1 rfl (fun h32 => ?_) (fun h32 => ?_)
                    · replace h32 : (y4 : Int) ≠ 0 := h32
                      refine e_Ok.run (t' := (127, [(4, (0, 0)), (0, (1, 275)), (5, (0, y5))], [], v1)) 2 rfl ?_
                      refine e_Ok.inc (z := y5 - 1) rfl rfl (by omega) (by omega) ?_
                      show e_Ok 20 elay ecode eI d 320 (130, [(5, (0, y5 - 1)), (4, (0, 0)), (0, (1, 275))], [], v1) _
                      refine e_Ok.run (t' := (90, [(5, (0, y5 - 1)), (4, (0, 0)), (0, (1, 275))], [], v1)) 1 rfl ?_
                      refine e_Ok.sub eAlk (e_sub_of rfl ?_) (ih25 0 (y5 - 1) ⟨by omega, by omega⟩ (by omega))
                      exact ⟨rfl, rfl, rfl, trivial⟩
                    · replace h32 : (y4 : Int) = 0 := by have q : ¬ ((y4 : Int) ≠ 0) := h32; omega
                      refine e_Ok.run (t' := (127, [(4, (0, 1)), (0, (1, 275)), (5, (0, y5))], [], v1)) 3 rfl ?_
                      refine e_Ok.inc (z := y5 - 1) rfl rfl (by omega) (by omega) ?_
                      show e_Ok 20 elay ecode eI d 320 (130, [(5, (0, y5 - 1)), (4, (0, 1)), (0, (1, 275))], [], v1) _
                      refine e_Ok.run (t' := (90, [(5, (0, y5 - 1)), (4, (0, 1)), (0, (1, 275))], [], v1)) 1 rfl ?_
                      refine e_Ok.sub eAlk (e_sub_of rfl ?_) (ih25 1 (y5 - 1) ⟨by omega, by omega⟩ (by omega))
                      exact ⟨rfl, rfl, rfl, trivial⟩
                  · replace h31 : (w 319 (v1 326 y5) : Int) = 0 := by have q : ¬ ((w 319 (v1 326 y5) : Int) ≠ 0) := h31; omega
                    refine e_Ok.run (t' := (127, [(4, (0, y4)), (0, (1, 275)), (5, (0, y5))], [], v1)) 3 rfl ?_
                    refine e_Ok.inc (z := y5 - 1) rfl rfl (by omega) (by omega) ?_
                    show e_Ok 20 elay ecode eI d 320 (130, [(5, (0, y5 - 1)), (4, (0, y4)), (0, (1, 275))], [], v1) _
                    refine e_Ok.run (t' := (90, [(5, (0, y5 - 1)), (4, (0, y4)), (0, (1, 275))], [], v1)) 1 rfl ?_
                    refine e_Ok.sub eAlk (e_sub_of rfl ?_) (ih25 y4 (y5 - 1) ⟨by omega, by omega⟩ (by omega))
                    exact ⟨rfl, rfl, rfl, trivial⟩
            refine e_Ok.sub eAlk (e_sub_of rfl ?_) (hL24 (63 + 1 : Int).toNat (w 276 (y3 + 160)) (y2 - 1) ⟨by omega, by omega⟩ (by omega))
            exact ⟨rfl, rfl, rfl, trivial⟩
          · replace h22 : (w 276 (y3 + 224) : Int) = 1 := by have q : ¬ ((w 276 (y3 + 224) : Int) ≠ 1) := h22; omega
            exfalso; omega
        · replace h21 : (w 318 y3 : Int) ≥ 0 := by have q : ¬ ((w 318 y3 : Int) < 0) := h21; omega
          refine e_Ok.run (t' := (27, [(0, (1, 275)), (2, (0, y2)), (3, (0, y3))], [(1, 275)], v1)) 1 rfl ?_
          refine e_Ok.getr (z := 326) rfl (el_o rfl) rfl rfl ((j3 275 63 no_52_10).trans (e_Has.eq hT rfl)) (by omega) ?_
          refine e_Ok.run (t' := (32, [(0, (1, 275)), (2, (0, y2)), (3, (0, y3))], [(0, y3), (0, y2), (1, 326)], v1)) 2 rfl ?_
          refine e_Ok.ast rfl (el_o rfl) rfl rfl (by omega) ?_
          generalize hw33 : e_up v1 326 y2 y3 = w33
          have f34 : e_fr mQ w w33 := e_fr.up j3 hw33 (by unfold mQ; omega)
          refine e_Ok.inc (z := y2 + 1) rfl rfl (by omega) (by omega) ?_
          show e_Ok 20 elay ecode eI d 320 (36, [(2, (0, y2 + 1)), (0, (1, 275)), (3, (0, y3))], [], w33) _
          refine e_Ok.run (t' := (37, [(2, (0, y2 + 1)), (0, (1, 275)), (3, (0, y3))], [(1, 275)], w33)) 1 rfl ?_
          refine e_Ok.getr (z := 318) rfl (el_o rfl) rfl rfl (by rw [← hw33]; exact (e_up_ne _ _ (Or.inl (by omega))).trans ((j3 275 52 no_52_10).trans (e_Has.eq hT rfl))) (by omega) ?_
          refine e_Ok.run (t' := (41, [(2, (0, y2 + 1)), (0, (1, 275)), (3, (0, y3))], [(0, y3), (1, 318)], w33)) 1 rfl ?_
          refine e_Ok.ald (z := w 318 y3) rfl (el_o rfl) rfl (by omega) (by rw [← hw33]; exact (e_up_ne _ _ (Or.inl (by omega))).trans ((j3 318 y3 no_52_13).trans rfl)) (by omega) ?_
          refine e_Ok.run (t' := (4, [(3, (0, w 318 y3)), (2, (0, y2 + 1)), (0, (1, 275))], [], w33)) 2 rfl ?_
          refine e_Ok.sub eAlk (e_sub_of rfl ?_) (ih2 (y2 + 1) (w 318 y3) w33 ⟨f34, (fun i g1 g2 => (e_kr.ext j4 hw33 (by omega) (by omega)) i g1 (by omega)), by have g := hrk y3 (by omega) (by omega); have g2 := g.2 (by omega); have g3 := hrk (w 318 y3) (by omega) (by omega); omega, by have g := hrk y3 (by omega) (by omega); have g2 := g.2 (by omega); have g3 := hrk (w 318 y3) (by omega) (by omega); omega⟩ (by have g := hrk y3 (by omega) (by omega); have g2 := g.2 (by omega); have g3 := hrk (w 318 y3) (by omega) (by omega); omega))
          exact ⟨rfl, rfl, rfl, trivial⟩
  refine e_Ok.sub eAlk (e_sub_of rfl ?_) (hL1 (rk p + 1 : Int).toNat 0 p w ⟨(e_fr.refl w), (e_kr.nil (by omega)), by omega, by omega⟩ (by omega))
  exact ⟨rfl, rfl, rfl, trivial⟩
theorem no_52_14 {k : Int} : ¬ mW 275 k := by unfold mW; omega
theorem su_52_18 {c k : Int} (q : mQ c k) : mW c k := by
  unfold mQ at q
  rcases q with q
  · exact Or.inl (by omega)
theorem c_321 {d : Nat} (hd : 21 ≤ d) {w : eW} (hT : e_Has mTy w) (hA : mAc w) : e_Ok 20 elay ecode eI d 321 (0, [(0, (1, 275))], [], w) (fun r w' => r = [] ∧ e_fr mW w w' ∧ e_kr w' 327 0 63 0 1) := by
  obtain ⟨d, rfl⟩ : ∃ e, d = e + 1 := ⟨d - 1, by omega⟩
  refine e_Ok.run (t' := (2, [(1, (0, 0)), (0, (1, 275))], [], w)) 2 rfl ?_
  have hL1 : ∀ (n : Nat) (y1 : Int) (v1 : eW), e_fr mW w v1 ∧ e_kr v1 327 0 (y1 - 1) 0 1 ∧ 0 ≤ y1 ∧ y1 ≤ 64 → 65 - y1 < n → e_Ok 20 elay ecode eI (d + 1) 321 (2, [(0, (1, 275)), (1, (0, y1))], [], v1) (fun r w' => r = [] ∧ e_fr mW w w' ∧ e_kr w' 327 0 63 0 1) := by
    intro n
    induction n with
    | zero => intro y1 v1 hj hm; obtain ⟨j3, j4, j5⟩ := hj; exfalso; omega
    | succ n ih2 =>
      intro y1 v1 hj hm
      obtain ⟨j3, j4, j5⟩ := hj
      refine e_Ok.run (t' := (5, [(0, (1, 275)), (1, (0, y1))], [(0, 64), (0, y1)], v1)) 2 rfl ?_
      refine e_Ok.if2 rfl (fun h6 => ?_) (fun h6 => ?_)
      · replace h6 : (y1 : Int) ≥ 64 := h6
        refine e_Ok.rets rfl rfl ?_
        exact ⟨rfl, j3, fun i g1 g2 => j4 i g1 (by omega)⟩
      · replace h6 : (y1 : Int) < 64 := by have q : ¬ ((y1 : Int) ≥ 64) := h6; omega
        refine e_Ok.run (t' := (9, [(0, (1, 275)), (1, (0, y1))], [(1, 275)], v1)) 1 rfl ?_
        refine e_Ok.getr (z := 327) rfl (el_o rfl) rfl rfl ((j3 275 64 no_52_14).trans (e_Has.eq hT rfl)) (by omega) ?_
        refine e_Ok.run (t' := (15, [(0, (1, 275)), (1, (0, y1))], [(0, y1), (1, 275), (0, y1), (1, 327)], v1)) 3 rfl ?_
        refine e_Ok.callV rfl (by omega) rfl rfl rfl rfl (c_320 (mT_W j3 hT) (mAc.fr' (fun k q => by unfold mW at q; omega) j3 hA) (by omega)) (fun r7 w8 h9 => ?_)
        obtain ⟨z10, rfl, q11, q11a, q11b⟩ := h9
        have f12 : e_fr mW w w8 := e_fr.trans j3 (e_fr.mono q11 (fun c k q => su_52_18 q))
        show e_Ok 20 elay ecode eI (d + 1) 321 (18, [(0, (1, 275)), (1, (0, y1))], [(0, z10), (0, y1), (1, 327)], w8) _
        have hJ15 : ∀ m14 : Int, 0 ≤ m14 ∧ m14 ≤ 1 → e_Ok 20 elay ecode eI (d + 1) 321 (26, [(0, (1, 275)), (1, (0, y1))], [(0, m14), (0, y1), (1, 327)], w8) (fun r w' => r = [] ∧ e_fr mW w w' ∧ e_kr w' 327 0 63 0 1) := by
          intro m14 m14r
          refine e_Ok.ast rfl (el_o rfl) rfl (e_nar_b (by omega)) (by omega) ?_
          generalize hw16 : e_up w8 327 y1 m14 = w16
          have f17 : e_fr mW w w16 := e_fr.up f12 hw16 (by unfold mW; omega)
          refine e_Ok.inc (z := y1 + 1) rfl rfl (by omega) (by omega) ?_
          show e_Ok 20 elay ecode eI (d + 1) 321 (30, [(1, (0, y1 + 1)), (0, (1, 275))], [], w16) _
          refine e_Ok.run (t' := (2, [(1, (0, y1 + 1)), (0, (1, 275))], [], w16)) 1 rfl ?_
          refine e_Ok.sub eAlk (e_sub_of rfl ?_) (ih2 (y1 + 1) w16 ⟨f17, (fun i g1 g2 => (e_kr.ext (e_kr.fr q11 (fun k q => by unfold mQ at q; omega) j4) hw16 (by omega) (by omega)) i g1 (by omega)), by omega⟩ (by omega))
          exact ⟨rfl, rfl, trivial⟩
        refine e_Ok.if1 rfl (fun h13 => ?_) (fun h13 => ?_)
        · exact e_Ok.run 1 rfl (hJ15 0 (by omega))
        · exact e_Ok.run 2 rfl (hJ15 1 (by omega))
  refine e_Ok.sub eAlk (e_sub_of rfl ?_) (hL1 (65 + 1 : Int).toNat 0 w ⟨(e_fr.refl w), (e_kr.nil (by omega)), by omega⟩ (by omega))
  exact ⟨rfl, rfl, trivial⟩
theorem no_52_15 {k : Int} : ¬ mR 275 k := by unfold mR; omega
theorem no_52_16 {k : Int} : ¬ mR 327 k := by unfold mR; omega
theorem su_52_19 {c k : Int} (q : mQ c k) : mR c k := by
  unfold mQ at q
  rcases q with q
  · exact Or.inr (by omega)
theorem c_322 {d : Nat} (hd : 21 ≤ d) {w : eW} (hT : e_Has mTy w) (hA : mAc w) (hk : e_kr w 327 0 63 0 1) : e_Ok 20 elay ecode eI d 322 (0, [(0, (1, 275))], [], w) (fun r w' => r = [] ∧ e_fr mR w w' ∧ e_Has mTy w') := by
  obtain ⟨d, rfl⟩ : ∃ e, d = e + 1 := ⟨d - 1, by omega⟩
  refine e_Ok.run (t' := (2, [(1, (0, 0)), (0, (1, 275))], [], w)) 2 rfl ?_
  have hL1 : ∀ (n : Nat) (y1 : Int) (v1 : eW), e_fr mR w v1 ∧ e_Has mTy v1 ∧ 0 ≤ y1 ∧ y1 ≤ 64 → 65 - y1 < n → e_Ok 20 elay ecode eI (d + 1) 322 (2, [(0, (1, 275)), (1, (0, y1))], [], v1) (fun r w' => r = [] ∧ e_fr mR w w' ∧ e_Has mTy w') := by
    intro n
    induction n with
    | zero => intro y1 v1 hj hm; obtain ⟨j3, j4, j5⟩ := hj; exfalso; omega
    | succ n ih2 =>
      intro y1 v1 hj hm
      obtain ⟨j3, j4, j5⟩ := hj
      refine e_Ok.run (t' := (5, [(0, (1, 275)), (1, (0, y1))], [(0, 64), (0, y1)], v1)) 2 rfl ?_
      refine e_Ok.if2 rfl (fun h6 => ?_) (fun h6 => ?_)
      · replace h6 : (y1 : Int) ≥ 64 := h6
        refine e_Ok.rets rfl rfl ?_
        exact ⟨rfl, j3, j4⟩
      · replace h6 : (y1 : Int) < 64 := by have q : ¬ ((y1 : Int) ≥ 64) := h6; omega
        refine e_Ok.run (t' := (9, [(0, (1, 275)), (1, (0, y1))], [(1, 275)], v1)) 1 rfl ?_
        refine e_Ok.getr (z := 276) rfl (el_o rfl) rfl rfl ((j3 275 0 no_52_15).trans (e_Has.eq hT rfl)) (by omega) ?_
        refine e_Ok.run (t' := (16, [(0, (1, 275)), (1, (0, y1))], [(0, y1), (0, 352), (1, 276)], v1)) 2 rfl ?_
        refine e_Ok.add (z := y1 + 352) rfl (by omega) (by omega) ?_
        refine e_Ok.run (t' := (18, [(0, (1, 275)), (1, (0, y1))], [(0, y1 + 352), (1, 276), (0, y1 + 352), (1, 276)], v1)) 1 rfl ?_
        have h7 := (e_Has.get j4 (c := 276) (k := y1 + 352) (lo := (-2147483648)) (hi := 2147483647) (nR_RISES (p := y1) (by omega)) (by decide))
        refine e_Ok.ald (z := v1 276 (y1 + 352)) rfl (el_o rfl) rfl (by omega) rfl (by omega) ?_
        refine e_Ok.run (t' := (20, [(0, (1, 275)), (1, (0, y1))], [(1, 275), (0, v1 276 (y1 + 352)), (0, y1 + 352), (1, 276)], v1)) 1 rfl ?_
        refine e_Ok.getr (z := 327) rfl (el_o rfl) rfl rfl ((j3 275 64 no_52_15).trans (e_Has.eq hT rfl)) (by omega) ?_
        refine e_Ok.run (t' := (24, [(0, (1, 275)), (1, (0, y1))], [(0, y1), (1, 327), (0, v1 276 (y1 + 352)), (0, y1 + 352), (1, 276)], v1)) 1 rfl ?_
        have h8 := (hk y1 (by omega) (by omega))
        refine e_Ok.ald (z := w 327 y1) rfl (el_o rfl) rfl (by omega) ((j3 327 y1 no_52_16).trans rfl) (by omega) ?_
        refine e_Ok.if1 rfl (fun h9 => ?_) (fun h9 => ?_)
        · replace h9 : (w 327 y1 : Int) = 0 := h9
          refine e_Ok.run (t' := (41, [(0, (1, 275)), (1, (0, y1))], [(0, 0), (0, v1 276 (y1 + 352)), (0, y1 + 352), (1, 276)], v1)) 1 rfl ?_
          refine e_Ok.add (z := v1 276 (y1 + 352)) rfl (by omega) (by omega) ?_
          refine e_Ok.ast rfl (el_o rfl) rfl rfl (by omega) ?_
          generalize hw10 : e_up v1 276 (y1 + 352) (v1 276 (y1 + 352)) = w10
          have f11 : e_fr mR w w10 := e_fr.up j3 hw10 (by unfold mR; omega)
          have hT12 : e_Has mTy w10 := e_Has.upr j4 hw10 (nR_RISES (p := y1) (by omega)) (by omega)
          refine e_Ok.inc (z := y1 + 1) rfl rfl (by omega) (by omega) ?_
          show e_Ok 20 elay ecode eI (d + 1) 322 (46, [(1, (0, y1 + 1)), (0, (1, 275))], [], w10) _
          refine e_Ok.run (t' := (2, [(1, (0, y1 + 1)), (0, (1, 275))], [], w10)) 1 rfl ?_
          refine e_Ok.sub eAlk (e_sub_of rfl ?_) (ih2 (y1 + 1) w10 ⟨f11, hT12, by omega⟩ (by omega))
          exact ⟨rfl, rfl, trivial⟩
        · replace h9 : (w 327 y1 : Int) ≠ 0 := by have q : ¬ ((w 327 y1 : Int) = 0) := h9; omega
          refine e_Ok.run (t' := (30, [(0, (1, 275)), (1, (0, y1))], [(0, y1), (1, 275), (0, v1 276 (y1 + 352)), (0, y1 + 352), (1, 276)], v1)) 2 rfl ?_
          refine e_Ok.callV rfl (by omega) rfl rfl rfl rfl (c_320 j4 (mAc.fr' (fun k q => by unfold mR at q; omega) j3 hA) (by omega)) (fun r13 w14 h15 => ?_)
          obtain ⟨z16, rfl, q17, q17a, q17b⟩ := h15
          have f18 : e_fr mR w w14 := e_fr.trans j3 (e_fr.mono q17 (fun c k q => su_52_19 q))
          show e_Ok 20 elay ecode eI (d + 1) 322 (33, [(0, (1, 275)), (1, (0, y1))], [(0, z16), (0, v1 276 (y1 + 352)), (0, y1 + 352), (1, 276)], w14) _
          have hJ21 : ∀ m20 : Int, 0 ≤ m20 ∧ m20 ≤ 1 → e_Ok 20 elay ecode eI (d + 1) 322 (41, [(0, (1, 275)), (1, (0, y1))], [(0, m20), (0, v1 276 (y1 + 352)), (0, y1 + 352), (1, 276)], w14) (fun r w' => r = [] ∧ e_fr mR w w' ∧ e_Has mTy w') := by
            intro m20 m20r
            refine e_Ok.any rfl (eF_add_any _ _) (fun z22 z22a z22b => ?_)
            refine e_Ok.ast rfl (el_o rfl) rfl rfl (by omega) ?_
            generalize hw23 : e_up w14 276 (y1 + 352) z22 = w23
            have f24 : e_fr mR w w23 := e_fr.up f18 hw23 (by unfold mR; omega)
            have hT25 : e_Has mTy w23 := e_Has.upr (mT_Q q17 j4) hw23 (nR_RISES (p := y1) (by omega)) (by omega)
            refine e_Ok.inc (z := y1 + 1) rfl rfl (by omega) (by omega) ?_
            show e_Ok 20 elay ecode eI (d + 1) 322 (46, [(1, (0, y1 + 1)), (0, (1, 275))], [], w23) _
            refine e_Ok.run (t' := (2, [(1, (0, y1 + 1)), (0, (1, 275))], [], w23)) 1 rfl ?_
            refine e_Ok.sub eAlk (e_sub_of rfl ?_) (ih2 (y1 + 1) w23 ⟨f24, hT25, by omega⟩ (by omega))
            exact ⟨rfl, rfl, trivial⟩
          refine e_Ok.if1 rfl (fun h19 => ?_) (fun h19 => ?_)
          · exact e_Ok.run 1 rfl (hJ21 0 (by omega))
          · exact e_Ok.run 2 rfl (hJ21 1 (by omega))
  refine e_Ok.sub eAlk (e_sub_of rfl ?_) (hL1 (65 + 1 : Int).toNat 0 w ⟨(e_fr.refl w), hT, by omega⟩ (by omega))
  exact ⟨rfl, rfl, trivial⟩
end
