noncomputable section
def mGr (c k : Int) : Prop := c = 321 ∨ c = 322 ∨ (c = 276 ∧ ((20576 ≤ k ∧ k < 20836) ∨ k = 5 ∨ 25060 ≤ k ∨ (16 ≤ k ∧ k < 160 ∧ ((k - 16) % 36 = 1 ∨ (k - 16) % 36 = 4 ∨ (k - 16) % 36 = 5))))
def mOo (b c k : Int) : Prop := c = 321 ∨ c = 322 ∨ (c = 276 ∧ 33 * b + 20705 ≤ k ∧ k ≤ 33 * b + 20736)
def mDp (a c k : Int) : Prop := c = 321 ∨ c = 322 ∨ (c = 276 ∧ ((20576 ≤ k ∧ k < 20836) ∨ k = 36 * a + 17))
set_option maxHeartbeats 4000000 in
theorem c_396 {d : Nat} (hd : 27 ≤ d) {w : eW} (hT : e_Has mTy w) {a : Int} (ha : 0 ≤ a ∧ a ≤ 3) (hOr : mOr w (w 275 40)) (hE : w 276 5 ≤ 2147483600) : e_Ok 20 elay ecode eI d 396 (0, [(0, (1, 275)), (1, (0, a))], [], w) (fun r w' => ∃ z : Int, r = [(0, z)] ∧ (0 ≤ z ∧ z ≤ 1) ∧ e_fr mGr w w' ∧ e_Has mTy w' ∧ (w 276 5 ≤ w' 276 5 ∧ w' 276 5 ≤ w 276 5 + 1) ∧ mOr w' (w 275 40) ∧ (∀ b, 0 ≤ b → b ≤ 3 → w' 276 (36 * b + 20) = 0 ∨ w' 276 (36 * b + 20) = w 276 (36 * b + 20))) := by
  obtain ⟨d, rfl⟩ : ∃ e, d = e + 1 := ⟨d - 1, by omega⟩
  have hja := (e_Has.get hT (c := 286) (k := a) (lo := 0) (hi := 6) rfl (by decide))
  have hpp := e_Has.get hT (c := 275) (k := 40) (lo := 0) (hi := 32) rfl (by decide)
  refine e_Ok.run (t' := (1, [(0, (1, 275)), (1, (0, a))], [(1, 275)], w)) 1 rfl ?_
  refine e_Ok.getr (z := 276) rfl rfl rfl rfl (e_Has.eq hT rfl) (by omega) ?_
  refine e_Ok.run (t' := (5, [(0, (1, 275)), (1, (0, a))], [(0, a), (1, 276)], w)) 1 rfl ?_
  refine e_Ok.callS rfl (by omega) rfl rfl (c_268 (by omega)) (fun r1 w2 h3 => ?_)
  obtain ⟨rfl, rfl⟩ := h3
  show e_Ok 20 elay ecode eI (d + 1) 396 (8, [(0, (1, 275)), (1, (0, a))], [(0, 36 * a + 16), (1, 276)], w) _
  refine e_Ok.run (t' := (9, [(0, (1, 275)), (1, (0, a))], [(0, 1), (0, 36 * a + 16), (1, 276)], w)) 1 rfl ?_
  refine e_Ok.add (z := 36 * a + 17) rfl (by omega) (by omega) ?_
  have h4 := (e_Has.get hT (c := 276) (k := 36 * a + 17) (lo := (-1)) (hi := 31) (nR_HOLDS (a := a) (by omega)) (by decide))
  refine e_Ok.ald (z := w 276 (36 * a + 17)) rfl rfl rfl (by omega) rfl (by omega) ?_
  refine e_Ok.if1 rfl (fun h5 => ?_) (fun h5 => ?_)
  · replace h5 : (w 276 (36 * a + 17) : Int) < 0 := h5
    refine e_Ok.run (t' := (19, [(0, (1, 275)), (1, (0, a))], [(0, 0), (0, a), (1, 275)], w)) 3 rfl ?_
    refine e_Ok.callV rfl (by omega) rfl rfl rfl rfl (c_301_0 (by omega) hT (by omega)) (fun r6 w7 h8 => ?_)
    obtain ⟨rfl, q9, q9k⟩ := h8
    have f10 : e_fr mGr w w7 := e_fr.trans (e_fr.refl w) (e_fr.mono q9 (fun c k q => by unfold mPt at q; unfold mGr; omega))
    have q9T : e_Has mTy w7 := mT_Pt q9 hT
    show e_Ok 20 elay ecode eI (d + 1) 396 (22, [(0, (1, 275)), (1, (0, a))], [], w7) _
    refine e_Ok.run (t' := (23, [(0, (1, 275)), (1, (0, a))], [(1, 275)], w7)) 1 rfl ?_
    refine e_Ok.getr (z := 321) rfl rfl rfl rfl ((q9 275 55 (by unfold mPt; omega)).trans (e_Has.eq hT rfl)) (by omega) ?_
    refine e_Ok.run (t' := (29, [(0, (1, 275)), (1, (0, a))], [(0, a), (0, 7), (1, 321)], w7)) 2 rfl ?_
    refine e_Ok.mul (z := 7 * a) rfl (by omega) (by omega) ?_
    refine e_Ok.run (t' := (31, [(0, (1, 275)), (1, (0, a))], [(1, 275), (0, 7 * a), (1, 321)], w7)) 1 rfl ?_
    refine e_Ok.getr (z := 286) rfl rfl rfl rfl ((q9 275 15 (by unfold mPt; omega)).trans (e_Has.eq hT rfl)) (by omega) ?_
    refine e_Ok.run (t' := (35, [(0, (1, 275)), (1, (0, a))], [(0, a), (1, 286), (0, 7 * a), (1, 321)], w7)) 1 rfl ?_
    have h11 := (e_Has.get hT (c := 286) (k := a) (lo := 0) (hi := 6) rfl (by decide))
    refine e_Ok.ald (z := w 286 a) rfl rfl rfl (by omega) ((q9 286 a (by unfold mPt; omega)).trans rfl) (by omega) ?_
    refine e_Ok.add (z := 7 * a + w 286 a) rfl (by omega) (by omega) ?_
    have h12 := (q9k.1 (7 * a + w 286 a) (by omega) (by omega))
    refine e_Ok.ald (z := w7 321 (7 * a + w 286 a)) rfl rfl rfl (by omega) rfl (by omega) ?_
    refine e_Ok.run (t' := (41, [(2, (4, w7 321 (7 * a + w 286 a))), (0, (1, 275)), (1, (0, a))], [(1, 275)], w7)) 3 rfl ?_
    refine e_Ok.getr (z := 322) rfl rfl rfl rfl ((q9 275 56 (by unfold mPt; omega)).trans (e_Has.eq hT rfl)) (by omega) ?_
    refine e_Ok.run (t' := (47, [(2, (4, w7 321 (7 * a + w 286 a))), (0, (1, 275)), (1, (0, a))], [(0, a), (0, 7), (1, 322)], w7)) 2 rfl ?_
    refine e_Ok.mul (z := 7 * a) rfl (by omega) (by omega) ?_
    refine e_Ok.run (t' := (49, [(2, (4, w7 321 (7 * a + w 286 a))), (0, (1, 275)), (1, (0, a))], [(1, 275), (0, 7 * a), (1, 322)], w7)) 1 rfl ?_
    refine e_Ok.getr (z := 286) rfl rfl rfl rfl ((q9 275 15 (by unfold mPt; omega)).trans (e_Has.eq hT rfl)) (by omega) ?_
    refine e_Ok.run (t' := (53, [(2, (4, w7 321 (7 * a + w 286 a))), (0, (1, 275)), (1, (0, a))], [(0, a), (1, 286), (0, 7 * a), (1, 322)], w7)) 1 rfl ?_
    refine e_Ok.ald (z := w 286 a) rfl rfl rfl (by omega) ((q9 286 a (by unfold mPt; omega)).trans rfl) (by omega) ?_
    refine e_Ok.add (z := 7 * a + w 286 a) rfl (by omega) (by omega) ?_
    have h13 := (q9k.2 (7 * a + w 286 a) (by omega) (by omega))
    refine e_Ok.ald (z := w7 322 (7 * a + w 286 a)) rfl rfl rfl (by omega) rfl (by omega) ?_
    refine e_Ok.run (t' := (63, [(6, (0, (-1))), (4, (4, w7 322 (7 * a + w 286 a))), (2, (4, w7 321 (7 * a + w 286 a))), (0, (1, 275)), (1, (0, a))], [(1, 275)], w7)) 5 rfl ?_
    refine e_Ok.getr (z := 285) rfl rfl rfl rfl ((q9 275 14 (by unfold mPt; omega)).trans (e_Has.eq hT rfl)) (by omega) ?_
    refine e_Ok.run (t' := (67, [(6, (0, (-1))), (4, (4, w7 322 (7 * a + w 286 a))), (2, (4, w7 321 (7 * a + w 286 a))), (0, (1, 275)), (1, (0, a))], [(0, a), (1, 285)], w7)) 1 rfl ?_
    have h14 := (e_Has.get hT (c := 285) (k := a) (lo := 0) (hi := 800) rfl (by decide))
    refine e_Ok.ald (z := w 285 a) rfl rfl rfl (by omega) ((q9 285 a (by unfold mPt; omega)).trans rfl) (by omega) ?_
    refine e_Ok.run (t' := (70, [(6, (0, (-1))), (4, (4, w7 322 (7 * a + w 286 a))), (2, (4, w7 321 (7 * a + w 286 a))), (0, (1, 275)), (1, (0, a))], [(1, 275), (4, w 285 a)], w7)) 2 rfl ?_
    refine e_Ok.getr (z := 285) rfl rfl rfl rfl ((q9 275 14 (by unfold mPt; omega)).trans (e_Has.eq hT rfl)) (by omega) ?_
    refine e_Ok.run (t' := (74, [(6, (0, (-1))), (4, (4, w7 322 (7 * a + w 286 a))), (2, (4, w7 321 (7 * a + w 286 a))), (0, (1, 275)), (1, (0, a))], [(0, a), (1, 285), (4, w 285 a)], w7)) 1 rfl ?_
    refine e_Ok.ald (z := w 285 a) rfl rfl rfl (by omega) ((q9 285 a (by unfold mPt; omega)).trans rfl) (by omega) ?_
    refine e_Ok.run (t' := (76, [(6, (0, (-1))), (4, (4, w7 322 (7 * a + w 286 a))), (2, (4, w7 321 (7 * a + w 286 a))), (0, (1, 275)), (1, (0, a))], [(4, w 285 a), (4, w 285 a)], w7)) 1 rfl ?_
    refine e_Ok.anyL rfl ⟨_, rfl⟩ (fun x15 => ?_)
    refine e_Ok.run (t' := (78, [(6, (0, (-1))), (4, (4, w7 322 (7 * a + w 286 a))), (2, (4, w7 321 (7 * a + w 286 a))), (0, (1, 275)), (1, (0, a))], [(4, 1), (4, x15)], w7)) 1 rfl ?_
    refine e_Ok.anyL rfl ⟨_, rfl⟩ (fun x16 => ?_)
    refine e_Ok.run (t' := (84, [(9, (0, 0)), (7, (4, x16)), (6, (0, (-1))), (4, (4, w7 322 (7 * a + w 286 a))), (2, (4, w7 321 (7 * a + w 286 a))), (0, (1, 275)), (1, (0, a))], [], w7)) 3 rfl ?_
    have hL17 : ∀ (nn : Nat) (y6 : Int) (y7 : Int) (y9 : Int) (v1 : eW), e_fr mGr w v1 ∧ e_Has mTy v1 ∧ (-1 ≤ y6 ∧ y6 ≤ 31) ∧ (0 ≤ y9 ∧ y9 ≤ 32) ∧ ((0 ≤ y6 → y6 < w 275 40 ∧ (w 276 (4 * y6 + 20576) < 4 ∨ w 276 (4 * y6 + 20576) = 8))) ∧ e_fr mP w v1 → 33 - y9 < nn → e_Ok 20 elay ecode eI (d + 1) 396 (84, [(0, (1, 275)), (1, (0, a)), (2, (4, w7 321 (7 * a + w 286 a))), (4, (4, w7 322 (7 * a + w 286 a))), (6, (0, y6)), (7, (4, y7)), (9, (0, y9))], [], v1) (fun r w' => ∃ z : Int, r = [(0, z)] ∧ (0 ≤ z ∧ z ≤ 1) ∧ e_fr mGr w w' ∧ e_Has mTy w' ∧ (w 276 5 ≤ w' 276 5 ∧ w' 276 5 ≤ w 276 5 + 1) ∧ mOr w' (w 275 40) ∧ (∀ b, 0 ≤ b → b ≤ 3 → w' 276 (36 * b + 20) = 0 ∨ w' 276 (36 * b + 20) = w 276 (36 * b + 20))) := by
      intro nn
      induction nn with
      | zero => intro y6 y7 y9 v1 hj hm; obtain ⟨j19, j20, j21, j22, j23, j24⟩ := hj; exfalso; omega
      | succ nn ih18 =>
        intro y6 y7 y9 v1 hj hm
        obtain ⟨j19, j20, j21, j22, j23, j24⟩ := hj
        refine e_Ok.run (t' := (87, [(0, (1, 275)), (1, (0, a)), (2, (4, w7 321 (7 * a + w 286 a))), (4, (4, w7 322 (7 * a + w 286 a))), (6, (0, y6)), (7, (4, y7)), (9, (0, y9))], [(1, 275), (0, y9)], v1)) 2 rfl ?_
        refine e_Ok.getf (z := w 275 40) rfl rfl rfl rfl ((j24 275 40 (by unfold mP; omega)).trans rfl) (by omega) ?_
        refine e_Ok.if2 rfl (fun h25 => ?_) (fun h25 => ?_)
        · replace h25 : (y9 : Int) ≥ w 275 40 := h25
          refine e_Ok.run (t' := (185, [(0, (1, 275)), (1, (0, a)), (2, (4, w7 321 (7 * a + w 286 a))), (4, (4, w7 322 (7 * a + w 286 a))), (6, (0, y6)), (7, (4, y7)), (9, (0, y9))], [(0, y6)], v1)) 1 rfl ?_
          refine e_Ok.if1 rfl (fun h26 => ?_) (fun h26 => ?_)
          · replace h26 : (y6 : Int) ≥ 0 := h26
            have hy6 := j23 (by omega)
            have hpw := e_Has.get hT (nR_WHERE (p := y6) (by omega)) (by decide)
            refine e_Ok.run (t' := (191, [(0, (1, 275)), (1, (0, a)), (2, (4, w7 321 (7 * a + w 286 a))), (4, (4, w7 322 (7 * a + w 286 a))), (6, (0, y6)), (7, (4, y7)), (9, (0, y9))], [(1, 275)], v1)) 1 rfl ?_
            refine e_Ok.getr (z := 276) rfl rfl rfl rfl ((j24 275 0 (by unfold mP; omega)).trans (e_Has.eq hT rfl)) (by omega) ?_
            refine e_Ok.run (t' := (196, [(0, (1, 275)), (1, (0, a)), (2, (4, w7 321 (7 * a + w 286 a))), (4, (4, w7 322 (7 * a + w 286 a))), (6, (0, y6)), (7, (4, y7)), (9, (0, y9))], [(0, y6), (1, 276)], v1)) 1 rfl ?_
            refine e_Ok.callS rfl (by omega) rfl rfl (c_392 (by omega)) (fun r27 w28 h29 => ?_)
            obtain ⟨rfl, rfl⟩ := h29
            show e_Ok 20 elay ecode eI (d + 1) 396 (199, [(0, (1, 275)), (1, (0, a)), (2, (4, w7 321 (7 * a + w 286 a))), (4, (4, w7 322 (7 * a + w 286 a))), (6, (0, y6)), (7, (4, y7)), (9, (0, y9))], [(0, 4 * y6 + 20576), (1, 276)], v1) _
            refine e_Ok.ald (z := w 276 (4 * y6 + 20576)) rfl rfl rfl (by omega) ((j24 276 (4 * y6 + 20576) (by unfold mP; omega)).trans rfl) (by omega) ?_
            refine e_Ok.run (t' := (205, [(9, (0, w 276 (4 * y6 + 20576))), (0, (1, 275)), (1, (0, a)), (2, (4, w7 321 (7 * a + w 286 a))), (4, (4, w7 322 (7 * a + w 286 a))), (6, (0, y6)), (7, (4, y7))], [(0, 4), (0, w 276 (4 * y6 + 20576))], v1)) 3 rfl ?_
            refine e_Ok.if2 rfl (fun h30 => ?_) (fun h30 => ?_)
            · replace h30 : (w 276 (4 * y6 + 20576) : Int) ≥ 4 := h30
              refine e_Ok.run (t' := (299, [(9, (0, w 276 (4 * y6 + 20576))), (0, (1, 275)), (1, (0, a)), (2, (4, w7 321 (7 * a + w 286 a))), (4, (4, w7 322 (7 * a + w 286 a))), (6, (0, y6)), (7, (4, y7))], [(1, 275)], v1)) 1 rfl ?_
              refine e_Ok.getr (z := 276) rfl rfl rfl rfl ((j24 275 0 (by unfold mP; omega)).trans (e_Has.eq hT rfl)) (by omega) ?_
              refine e_Ok.run (t' := (304, [(9, (0, w 276 (4 * y6 + 20576))), (0, (1, 275)), (1, (0, a)), (2, (4, w7 321 (7 * a + w 286 a))), (4, (4, w7 322 (7 * a + w 286 a))), (6, (0, y6)), (7, (4, y7))], [(0, y6), (1, 276)], v1)) 1 rfl ?_
              refine e_Ok.callS rfl (by omega) rfl rfl (c_392 (by omega)) (fun r31 w32 h33 => ?_)
              obtain ⟨rfl, rfl⟩ := h33
              show e_Ok 20 elay ecode eI (d + 1) 396 (307, [(9, (0, w 276 (4 * y6 + 20576))), (0, (1, 275)), (1, (0, a)), (2, (4, w7 321 (7 * a + w 286 a))), (4, (4, w7 322 (7 * a + w 286 a))), (6, (0, y6)), (7, (4, y7))], [(0, 4 * y6 + 20576), (1, 276)], v1) _
              refine e_Ok.run (t' := (309, [(9, (0, w 276 (4 * y6 + 20576))), (0, (1, 275)), (1, (0, a)), (2, (4, w7 321 (7 * a + w 286 a))), (4, (4, w7 322 (7 * a + w 286 a))), (6, (0, y6)), (7, (4, y7))], [(0, a), (0, 4), (0, 4 * y6 + 20576), (1, 276)], v1)) 2 rfl ?_
              refine e_Ok.add (z := a + 4) rfl (by omega) (by omega) ?_
              refine e_Ok.ast rfl rfl rfl rfl (by omega) ?_
              generalize hw34 : e_up v1 276 (4 * y6 + 20576) (a + 4) = w34
              have f35 : e_fr mGr w w34 := e_fr.up j19 hw34 (by unfold mGr; omega)
              have hT36 : e_Has mTy w34 := e_Has.upr j20 hw34 (nR_WHERE (p := y6) (by omega)) (by omega)
              refine e_Ok.run (t' := (312, [(9, (0, w 276 (4 * y6 + 20576))), (0, (1, 275)), (1, (0, a)), (2, (4, w7 321 (7 * a + w 286 a))), (4, (4, w7 322 (7 * a + w 286 a))), (6, (0, y6)), (7, (4, y7))], [(1, 275)], w34)) 1 rfl ?_
              refine e_Ok.getr (z := 276) rfl rfl rfl rfl (by rw [← hw34]; exact (e_up_ne _ _ (Or.inl (by omega))).trans ((j24 275 0 (by unfold mP; omega)).trans (e_Has.eq hT rfl))) (by omega) ?_
              refine e_Ok.run (t' := (317, [(9, (0, w 276 (4 * y6 + 20576))), (0, (1, 275)), (1, (0, a)), (2, (4, w7 321 (7 * a + w 286 a))), (4, (4, w7 322 (7 * a + w 286 a))), (6, (0, y6)), (7, (4, y7))], [(0, y6), (1, 276)], w34)) 1 rfl ?_
              refine e_Ok.callS rfl (by omega) rfl rfl (c_392 (by omega)) (fun r37 w38 h39 => ?_)
              obtain ⟨rfl, rfl⟩ := h39
              show e_Ok 20 elay ecode eI (d + 1) 396 (320, [(9, (0, w 276 (4 * y6 + 20576))), (0, (1, 275)), (1, (0, a)), (2, (4, w7 321 (7 * a + w 286 a))), (4, (4, w7 322 (7 * a + w 286 a))), (6, (0, y6)), (7, (4, y7))], [(0, 4 * y6 + 20576), (1, 276)], w34) _
              refine e_Ok.run (t' := (321, [(9, (0, w 276 (4 * y6 + 20576))), (0, (1, 275)), (1, (0, a)), (2, (4, w7 321 (7 * a + w 286 a))), (4, (4, w7 322 (7 * a + w 286 a))), (6, (0, y6)), (7, (4, y7))], [(0, 3), (0, 4 * y6 + 20576), (1, 276)], w34)) 1 rfl ?_
              refine e_Ok.add (z := 4 * y6 + 20579) rfl (by omega) (by omega) ?_
              refine e_Ok.run (t' := (323, [(9, (0, w 276 (4 * y6 + 20576))), (0, (1, 275)), (1, (0, a)), (2, (4, w7 321 (7 * a + w 286 a))), (4, (4, w7 322 (7 * a + w 286 a))), (6, (0, y6)), (7, (4, y7))], [(0, 0), (0, 4 * y6 + 20579), (1, 276)], w34)) 1 rfl ?_
              refine e_Ok.ast rfl rfl rfl rfl (by omega) ?_
              generalize hw40 : e_up w34 276 (4 * y6 + 20579) 0 = w40
              have f41 : e_fr mGr w w40 := e_fr.up f35 hw40 (by unfold mGr; omega)
              have hT42 : e_Has mTy w40 := e_Has.upr hT36 hw40 (nR_PART3 (p := y6) (by omega)) (by omega)
              refine e_Ok.run (t' := (325, [(9, (0, w 276 (4 * y6 + 20576))), (0, (1, 275)), (1, (0, a)), (2, (4, w7 321 (7 * a + w 286 a))), (4, (4, w7 322 (7 * a + w 286 a))), (6, (0, y6)), (7, (4, y7))], [(1, 275)], w40)) 1 rfl ?_
              refine e_Ok.getr (z := 276) rfl rfl rfl rfl (by rw [← hw40]; exact (e_up_ne _ _ (Or.inl (by omega))).trans (by rw [← hw34]; exact (e_up_ne _ _ (Or.inl (by omega))).trans ((j24 275 0 (by unfold mP; omega)).trans (e_Has.eq hT rfl)))) (by omega) ?_
              refine e_Ok.run (t' := (329, [(9, (0, w 276 (4 * y6 + 20576))), (0, (1, 275)), (1, (0, a)), (2, (4, w7 321 (7 * a + w 286 a))), (4, (4, w7 322 (7 * a + w 286 a))), (6, (0, y6)), (7, (4, y7))], [(0, a), (1, 276)], w40)) 1 rfl ?_
              refine e_Ok.callS rfl (by omega) rfl rfl (c_268 (by omega)) (fun r43 w44 h45 => ?_)
              obtain ⟨rfl, rfl⟩ := h45
              show e_Ok 20 elay ecode eI (d + 1) 396 (332, [(9, (0, w 276 (4 * y6 + 20576))), (0, (1, 275)), (1, (0, a)), (2, (4, w7 321 (7 * a + w 286 a))), (4, (4, w7 322 (7 * a + w 286 a))), (6, (0, y6)), (7, (4, y7))], [(0, 36 * a + 16), (1, 276)], w40) _
              refine e_Ok.run (t' := (333, [(9, (0, w 276 (4 * y6 + 20576))), (0, (1, 275)), (1, (0, a)), (2, (4, w7 321 (7 * a + w 286 a))), (4, (4, w7 322 (7 * a + w 286 a))), (6, (0, y6)), (7, (4, y7))], [(0, 1), (0, 36 * a + 16), (1, 276)], w40)) 1 rfl ?_
              refine e_Ok.add (z := 36 * a + 17) rfl (by omega) (by omega) ?_
              refine e_Ok.run (t' := (336, [(9, (0, w 276 (4 * y6 + 20576))), (0, (1, 275)), (1, (0, a)), (2, (4, w7 321 (7 * a + w 286 a))), (4, (4, w7 322 (7 * a + w 286 a))), (6, (0, y6)), (7, (4, y7))], [(0, y6), (0, 36 * a + 17), (1, 276)], w40)) 1 rfl ?_
              refine e_Ok.ast rfl rfl rfl rfl (by omega) ?_
              generalize hw46 : e_up w40 276 (36 * a + 17) y6 = w46
              have f47 : e_fr mGr w w46 := e_fr.up f41 hw46 (by unfold mGr; omega)
              have hT48 : e_Has mTy w46 := e_Has.upr hT42 hw46 (nR_HOLDS (a := a) (by omega)) (by omega)
              refine e_Ok.run (t' := (339, [(9, (0, w 276 (4 * y6 + 20576))), (0, (1, 275)), (1, (0, a)), (2, (4, w7 321 (7 * a + w 286 a))), (4, (4, w7 322 (7 * a + w 286 a))), (6, (0, y6)), (7, (4, y7))], [(0, (-1)), (1, 275)], w46)) 2 rfl ?_
              refine e_Ok.callV rfl (by omega) rfl rfl rfl rfl (c_390 (by omega) hT48) (fun r49 w50 h51 => ?_)
              obtain ⟨rfl, q52, q52T, q52a, q52b⟩ := h51
              have f53 : e_fr mGr w w50 := e_fr.trans f47 (e_fr.mono q52 (fun c k q => by unfold mSt at q; unfold mGr; omega))
              show e_Ok 20 elay ecode eI (d + 1) 396 (342, [(9, (0, w 276 (4 * y6 + 20576))), (0, (1, 275)), (1, (0, a)), (2, (4, w7 321 (7 * a + w 286 a))), (4, (4, w7 322 (7 * a + w 286 a))), (6, (0, y6)), (7, (4, y7))], [], w50) _
              refine e_Ok.run (t' := (348, [(9, (0, w 276 (4 * y6 + 20576))), (0, (1, 275)), (1, (0, a)), (2, (4, w7 321 (7 * a + w 286 a))), (4, (4, w7 322 (7 * a + w 286 a))), (6, (0, y6)), (7, (4, y7))], [(0, y6), (0, a), (0, 6), (1, 275)], w50)) 4 rfl ?_
              have e57 : w50 276 5 = w 276 5 := ((q52 276 5 (by unfold mSt; omega)).trans (by rw [← hw46]; exact (e_up_ne _ _ (Or.inr (by omega))).trans (by rw [← hw40]; exact (e_up_ne _ _ (Or.inr (by omega))).trans (by rw [← hw34]; exact (e_up_ne _ _ (Or.inr (by omega))).trans ((j24 276 5 (by unfold mP; omega)).trans rfl)))))
              refine e_Ok.callV rfl (by omega) rfl rfl rfl rfl (c_319 q52T (by omega) (by omega) (by omega) (by omega)) (fun r54 w55 h56 => ?_)
              obtain ⟨rfl, q58, q58T, q58n⟩ := h56
              have f59 : e_fr mGr w w55 := e_fr.trans f53 (e_fr.mono q58 (fun c k q => by unfold mE at q; unfold mGr; omega))
              show e_Ok 20 elay ecode eI (d + 1) 396 (351, [(9, (0, w 276 (4 * y6 + 20576))), (0, (1, 275)), (1, (0, a)), (2, (4, w7 321 (7 * a + w 286 a))), (4, (4, w7 322 (7 * a + w 286 a))), (6, (0, y6)), (7, (4, y7))], [], w55) _
              refine e_Ok.run (t' := (352, [(9, (0, w 276 (4 * y6 + 20576))), (0, (1, 275)), (1, (0, a)), (2, (4, w7 321 (7 * a + w 286 a))), (4, (4, w7 322 (7 * a + w 286 a))), (6, (0, y6)), (7, (4, y7))], [(0, 1)], w55)) 1 rfl ?_
              refine e_Ok.rets rfl rfl ?_
              have e60 : w55 276 5 = w55 276 5 := rfl
              exact ⟨_, rfl, by omega, f59, q58T, by omega, mOr.up hOr (by omega) (e_Has.orn hT) (e_Has.orw hT (by omega)) (by omega) ha (by omega) (Eq.trans ((q58 276 (4 * y6 + 20576) (by unfold mE; omega)).trans ((q52 276 (4 * y6 + 20576) (by unfold mSt; omega)).trans (by rw [← hw46]; exact (e_up_ne _ _ (Or.inr (by omega))).trans (by rw [← hw40]; exact (e_up_ne _ _ (Or.inr (by omega))).trans (by rw [← hw34]; exact e_up_eq _ _ _ _))))) (by omega)) ((q58 276 (36 * a + 17) (by unfold mE; omega)).trans ((q52 276 (36 * a + 17) (by unfold mSt; omega)).trans (by rw [← hw46]; exact e_up_eq _ _ _ _))) (fun k q1 q2 q3 => by unfold orK at q1; exact ((q58 276 k (by unfold mE; omega)).trans ((q52 276 k (by unfold mSt; omega)).trans (by rw [← hw46]; exact (e_up_ne _ _ (Or.inr (by omega))).trans (by rw [← hw40]; exact (e_up_ne _ _ (Or.inr (by omega))).trans (by rw [← hw34]; exact (e_up_ne _ _ (Or.inr (by omega))).trans ((j24 276 k (by unfold mP; omega)).trans rfl))))))), (fun b g1 g2 => by have e := q52b b g1 g2; rw [show w46 276 (36 * b + 20) = w 276 (36 * b + 20) from (by rw [← hw46]; exact (e_up_ne _ _ (Or.inr (by omega))).trans (by rw [← hw40]; exact (e_up_ne _ _ (Or.inr (by omega))).trans (by rw [← hw34]; exact (e_up_ne _ _ (Or.inr (by omega))).trans ((j24 276 (36 * b + 20) (by unfold mP; omega)).trans rfl))))] at e; rw [show w55 276 (36 * b + 20) = w50 276 (36 * b + 20) from ((q58 276 (36 * b + 20) (by unfold mE; omega)).trans rfl)]; exact e)⟩
            · replace h30 : (w 276 (4 * y6 + 20576) : Int) < 4 := by have q : ¬ ((w 276 (4 * y6 + 20576) : Int) ≥ 4) := h30; omega
              obtain ⟨i0, hi1, hi2, hi3⟩ := hOr.2.2.1 y6 (by omega) (by omega) (by omega)
              have hnb := e_Has.get hT (nR_ORDER (b := w 276 (4 * y6 + 20576)) (by omega)) (by decide)
              refine e_Ok.run (t' := (215, [(9, (0, w 276 (4 * y6 + 20576))), (0, (1, 275)), (1, (0, a)), (2, (4, w7 321 (7 * a + w 286 a))), (4, (4, w7 322 (7 * a + w 286 a))), (6, (0, y6)), (7, (4, y7))], [(0, w 276 (4 * y6 + 20576)), (0, 33), (0, 20704)], v1)) 3 rfl ?_
              refine e_Ok.mul (z := 33 * w 276 (4 * y6 + 20576)) rfl (by omega) (by omega) ?_
              refine e_Ok.add (z := 33 * w 276 (4 * y6 + 20576) + 20704) rfl (by omega) (by omega) ?_
              refine e_Ok.run (t' := (222, [(11, (0, 1)), (10, (0, 33 * w 276 (4 * y6 + 20576) + 20704)), (9, (0, w 276 (4 * y6 + 20576))), (0, (1, 275)), (1, (0, a)), (2, (4, w7 321 (7 * a + w 286 a))), (4, (4, w7 322 (7 * a + w 286 a))), (6, (0, y6)), (7, (4, y7))], [], v1)) 3 rfl ?_
              have hL61 : ∀ (nn : Nat) (y11 : Int), 1 ≤ y11 ∧ y11 ≤ i0 → 33 - y11 < nn → e_Ok 20 elay ecode eI (d + 1) 396 (222, [(0, (1, 275)), (1, (0, a)), (6, (0, y6)), (9, (0, w 276 (4 * y6 + 20576))), (10, (0, 33 * w 276 (4 * y6 + 20576) + 20704)), (11, (0, y11))], [], v1) (fun r w' => ∃ z : Int, r = [(0, z)] ∧ (0 ≤ z ∧ z ≤ 1) ∧ e_fr mGr w w' ∧ e_Has mTy w' ∧ (w 276 5 ≤ w' 276 5 ∧ w' 276 5 ≤ w 276 5 + 1) ∧ mOr w' (w 275 40) ∧ (∀ b, 0 ≤ b → b ≤ 3 → w' 276 (36 * b + 20) = 0 ∨ w' 276 (36 * b + 20) = w 276 (36 * b + 20))) := by
                intro nn
                induction nn with
                | zero => intro y11 hj hm; obtain j63 := hj; exfalso; omega
                | succ nn ih62 =>
                  intro y11 hj hm
                  obtain j63 := hj
                  refine e_Ok.run (t' := (223, [(0, (1, 275)), (1, (0, a)), (6, (0, y6)), (9, (0, w 276 (4 * y6 + 20576))), (10, (0, 33 * w 276 (4 * y6 + 20576) + 20704)), (11, (0, y11))], [(1, 275)], v1)) 1 rfl ?_
                  refine e_Ok.getr (z := 276) rfl rfl rfl rfl ((j24 275 0 (by unfold mP; omega)).trans (e_Has.eq hT rfl)) (by omega) ?_
                  refine e_Ok.run (t' := (230, [(0, (1, 275)), (1, (0, a)), (6, (0, y6)), (9, (0, w 276 (4 * y6 + 20576))), (10, (0, 33 * w 276 (4 * y6 + 20576) + 20704)), (11, (0, y11))], [(0, y11), (0, 33 * w 276 (4 * y6 + 20576) + 20704), (1, 276)], v1)) 2 rfl ?_
                  refine e_Ok.add (z := 33 * w 276 (4 * y6 + 20576) + y11 + 20704) rfl (by omega) (by omega) ?_
                  have h64 := (e_Has.get hT (c := 276) (k := 33 * w 276 (4 * y6 + 20576) + y11 + 20704) (lo := 0) (hi := 31) (nR_ORD (w 276 (4 * y6 + 20576)) (by omega) (by omega)) (by decide))
                  refine e_Ok.ald (z := w 276 (33 * w 276 (4 * y6 + 20576) + y11 + 20704)) rfl rfl rfl (by omega) ((j24 276 (33 * w 276 (4 * y6 + 20576) + y11 + 20704) (by unfold mP; omega)).trans rfl) (by omega) ?_
                  refine e_Ok.run (t' := (234, [(0, (1, 275)), (1, (0, a)), (6, (0, y6)), (9, (0, w 276 (4 * y6 + 20576))), (10, (0, 33 * w 276 (4 * y6 + 20576) + 20704)), (11, (0, y11))], [(0, y6), (0, w 276 (33 * w 276 (4 * y6 + 20576) + y11 + 20704))], v1)) 1 rfl ?_
                  refine e_Ok.if2 rfl (fun h65 => ?_) (fun h65 => ?_)
                  · replace h65 : (w 276 (33 * w 276 (4 * y6 + 20576) + y11 + 20704) : Int) = y6 := h65
                    have hk : w 276 (33 * w 276 (4 * y6 + 20576) + y11 + 20704) = y6 := by omega
                    refine e_Ok.run (t' := (247, [(12, (0, y11)), (0, (1, 275)), (1, (0, a)), (6, (0, y6)), (9, (0, w 276 (4 * y6 + 20576))), (10, (0, 33 * w 276 (4 * y6 + 20576) + 20704)), (11, (0, y11))], [], v1)) 2 rfl ?_
                    have hL66 : ∀ (nn : Nat) (y12 : Int) (v2 : eW), e_fr mGr w v2 ∧ e_Has mTy v2 ∧ (y11 ≤ y12 ∧ y12 ≤ w 276 (33 * w 276 (4 * y6 + 20576) + 20704)) ∧ (∀ i, y11 ≤ i → i < y12 → v2 276 (33 * w 276 (4 * y6 + 20576) + i + 20704) = w 276 (33 * w 276 (4 * y6 + 20576) + i + 20705)) ∧ (∀ i, 1 ≤ i → i ≤ 32 → (i < y11 ∨ y12 ≤ i) → v2 276 (33 * w 276 (4 * y6 + 20576) + i + 20704) = w 276 (33 * w 276 (4 * y6 + 20576) + i + 20704)) ∧ e_fr (mOo (w 276 (4 * y6 + 20576))) w v2 → 33 - y12 < nn → e_Ok 20 elay ecode eI (d + 1) 396 (247, [(0, (1, 275)), (1, (0, a)), (6, (0, y6)), (9, (0, w 276 (4 * y6 + 20576))), (10, (0, 33 * w 276 (4 * y6 + 20576) + 20704)), (11, (0, y11)), (12, (0, y12))], [], v2) (fun r w' => ∃ z : Int, r = [(0, z)] ∧ (0 ≤ z ∧ z ≤ 1) ∧ e_fr mGr w w' ∧ e_Has mTy w' ∧ (w 276 5 ≤ w' 276 5 ∧ w' 276 5 ≤ w 276 5 + 1) ∧ mOr w' (w 275 40) ∧ (∀ b, 0 ≤ b → b ≤ 3 → w' 276 (36 * b + 20) = 0 ∨ w' 276 (36 * b + 20) = w 276 (36 * b + 20))) := by
                      intro nn
                      induction nn with
                      | zero => intro y12 v2 hj hm; obtain ⟨j68, j69, j70, j71, j72, j73⟩ := hj; exfalso; omega
                      | succ nn ih67 =>
                        intro y12 v2 hj hm
                        obtain ⟨j68, j69, j70, j71, j72, j73⟩ := hj
                        refine e_Ok.run (t' := (250, [(0, (1, 275)), (1, (0, a)), (6, (0, y6)), (9, (0, w 276 (4 * y6 + 20576))), (10, (0, 33 * w 276 (4 * y6 + 20576) + 20704)), (11, (0, y11)), (12, (0, y12))], [(1, 275), (0, y12)], v2)) 2 rfl ?_
                        refine e_Ok.getr (z := 276) rfl rfl rfl rfl ((j73 275 0 (by unfold mOo; omega)).trans (e_Has.eq hT rfl)) (by omega) ?_
                        refine e_Ok.run (t' := (255, [(0, (1, 275)), (1, (0, a)), (6, (0, y6)), (9, (0, w 276 (4 * y6 + 20576))), (10, (0, 33 * w 276 (4 * y6 + 20576) + 20704)), (11, (0, y11)), (12, (0, y12))], [(0, 33 * w 276 (4 * y6 + 20576) + 20704), (1, 276), (0, y12)], v2)) 1 rfl ?_
                        refine e_Ok.ald (z := w 276 (33 * w 276 (4 * y6 + 20576) + 20704)) rfl rfl rfl (by omega) ((j73 276 (33 * w 276 (4 * y6 + 20576) + 20704) (by unfold mOo; omega)).trans rfl) (by omega) ?_
                        refine e_Ok.if2 rfl (fun h74 => ?_) (fun h74 => ?_)
                        · replace h74 : (y12 : Int) ≥ w 276 (33 * w 276 (4 * y6 + 20576) + 20704) := h74
                          refine e_Ok.run (t' := (288, [(0, (1, 275)), (1, (0, a)), (6, (0, y6)), (9, (0, w 276 (4 * y6 + 20576))), (10, (0, 33 * w 276 (4 * y6 + 20576) + 20704)), (11, (0, y11)), (12, (0, y12))], [(1, 275)], v2)) 1 rfl ?_
                          refine e_Ok.getr (z := 276) rfl rfl rfl rfl ((j73 275 0 (by unfold mOo; omega)).trans (e_Has.eq hT rfl)) (by omega) ?_
                          refine e_Ok.run (t' := (294, [(0, (1, 275)), (1, (0, a)), (6, (0, y6)), (9, (0, w 276 (4 * y6 + 20576))), (10, (0, 33 * w 276 (4 * y6 + 20576) + 20704)), (11, (0, y11)), (12, (0, y12))], [(0, 33 * w 276 (4 * y6 + 20576) + 20704), (1, 276), (0, 33 * w 276 (4 * y6 + 20576) + 20704), (1, 276)], v2)) 2 rfl ?_
                          refine e_Ok.ald (z := w 276 (33 * w 276 (4 * y6 + 20576) + 20704)) rfl rfl rfl (by omega) ((j73 276 (33 * w 276 (4 * y6 + 20576) + 20704) (by unfold mOo; omega)).trans rfl) (by omega) ?_
                          refine e_Ok.run (t' := (296, [(0, (1, 275)), (1, (0, a)), (6, (0, y6)), (9, (0, w 276 (4 * y6 + 20576))), (10, (0, 33 * w 276 (4 * y6 + 20576) + 20704)), (11, (0, y11)), (12, (0, y12))], [(0, 1), (0, w 276 (33 * w 276 (4 * y6 + 20576) + 20704)), (0, 33 * w 276 (4 * y6 + 20576) + 20704), (1, 276)], v2)) 1 rfl ?_
                          refine e_Ok.sub' (z := w 276 (33 * w 276 (4 * y6 + 20576) + 20704) - 1) rfl (by omega) (by omega) ?_
                          refine e_Ok.ast rfl rfl rfl rfl (by omega) ?_
                          generalize hw75 : e_up v2 276 (33 * w 276 (4 * y6 + 20576) + 20704) (w 276 (33 * w 276 (4 * y6 + 20576) + 20704) - 1) = w75
                          have f76 : e_fr mGr w w75 := e_fr.up j68 hw75 (by unfold mGr; omega)
                          have hT77 : e_Has mTy w75 := e_Has.upr j69 hw75 (nR_ORDER (b := w 276 (4 * y6 + 20576)) (by omega)) (by omega)
                          refine e_Ok.run (t' := (299, [(0, (1, 275)), (1, (0, a)), (6, (0, y6)), (9, (0, w 276 (4 * y6 + 20576))), (10, (0, 33 * w 276 (4 * y6 + 20576) + 20704)), (11, (0, y11)), (12, (0, y12))], [(1, 275)], w75)) 1 rfl ?_
                          refine e_Ok.getr (z := 276) rfl rfl rfl rfl (by rw [← hw75]; exact (e_up_ne _ _ (Or.inl (by omega))).trans ((j73 275 0 (by unfold mOo; omega)).trans (e_Has.eq hT rfl))) (by omega) ?_
                          refine e_Ok.run (t' := (304, [(0, (1, 275)), (1, (0, a)), (6, (0, y6)), (9, (0, w 276 (4 * y6 + 20576))), (10, (0, 33 * w 276 (4 * y6 + 20576) + 20704)), (11, (0, y11)), (12, (0, y12))], [(0, y6), (1, 276)], w75)) 1 rfl ?_
                          refine e_Ok.callS rfl (by omega) rfl rfl (c_392 (by omega)) (fun r78 w79 h80 => ?_)
                          obtain ⟨rfl, rfl⟩ := h80
                          show e_Ok 20 elay ecode eI (d + 1) 396 (307, [(0, (1, 275)), (1, (0, a)), (6, (0, y6)), (9, (0, w 276 (4 * y6 + 20576))), (10, (0, 33 * w 276 (4 * y6 + 20576) + 20704)), (11, (0, y11)), (12, (0, y12))], [(0, 4 * y6 + 20576), (1, 276)], w75) _
                          refine e_Ok.run (t' := (309, [(0, (1, 275)), (1, (0, a)), (6, (0, y6)), (9, (0, w 276 (4 * y6 + 20576))), (10, (0, 33 * w 276 (4 * y6 + 20576) + 20704)), (11, (0, y11)), (12, (0, y12))], [(0, a), (0, 4), (0, 4 * y6 + 20576), (1, 276)], w75)) 2 rfl ?_
                          refine e_Ok.add (z := a + 4) rfl (by omega) (by omega) ?_
                          refine e_Ok.ast rfl rfl rfl rfl (by omega) ?_
                          generalize hw81 : e_up w75 276 (4 * y6 + 20576) (a + 4) = w81
                          have f82 : e_fr mGr w w81 := e_fr.up f76 hw81 (by unfold mGr; omega)
                          have hT83 : e_Has mTy w81 := e_Has.upr hT77 hw81 (nR_WHERE (p := y6) (by omega)) (by omega)
                          refine e_Ok.run (t' := (312, [(0, (1, 275)), (1, (0, a)), (6, (0, y6)), (9, (0, w 276 (4 * y6 + 20576))), (10, (0, 33 * w 276 (4 * y6 + 20576) + 20704)), (11, (0, y11)), (12, (0, y12))], [(1, 275)], w81)) 1 rfl ?_
                          refine e_Ok.getr (z := 276) rfl rfl rfl rfl (by rw [← hw81]; exact (e_up_ne _ _ (Or.inl (by omega))).trans (by rw [← hw75]; exact (e_up_ne _ _ (Or.inl (by omega))).trans ((j73 275 0 (by unfold mOo; omega)).trans (e_Has.eq hT rfl)))) (by omega) ?_
                          refine e_Ok.run (t' := (317, [(0, (1, 275)), (1, (0, a)), (6, (0, y6)), (9, (0, w 276 (4 * y6 + 20576))), (10, (0, 33 * w 276 (4 * y6 + 20576) + 20704)), (11, (0, y11)), (12, (0, y12))], [(0, y6), (1, 276)], w81)) 1 rfl ?_
                          refine e_Ok.callS rfl (by omega) rfl rfl (c_392 (by omega)) (fun r84 w85 h86 => ?_)
                          obtain ⟨rfl, rfl⟩ := h86
                          show e_Ok 20 elay ecode eI (d + 1) 396 (320, [(0, (1, 275)), (1, (0, a)), (6, (0, y6)), (9, (0, w 276 (4 * y6 + 20576))), (10, (0, 33 * w 276 (4 * y6 + 20576) + 20704)), (11, (0, y11)), (12, (0, y12))], [(0, 4 * y6 + 20576), (1, 276)], w81) _
                          refine e_Ok.run (t' := (321, [(0, (1, 275)), (1, (0, a)), (6, (0, y6)), (9, (0, w 276 (4 * y6 + 20576))), (10, (0, 33 * w 276 (4 * y6 + 20576) + 20704)), (11, (0, y11)), (12, (0, y12))], [(0, 3), (0, 4 * y6 + 20576), (1, 276)], w81)) 1 rfl ?_
                          refine e_Ok.add (z := 4 * y6 + 20579) rfl (by omega) (by omega) ?_
                          refine e_Ok.run (t' := (323, [(0, (1, 275)), (1, (0, a)), (6, (0, y6)), (9, (0, w 276 (4 * y6 + 20576))), (10, (0, 33 * w 276 (4 * y6 + 20576) + 20704)), (11, (0, y11)), (12, (0, y12))], [(0, 0), (0, 4 * y6 + 20579), (1, 276)], w81)) 1 rfl ?_
                          refine e_Ok.ast rfl rfl rfl rfl (by omega) ?_
                          generalize hw87 : e_up w81 276 (4 * y6 + 20579) 0 = w87
                          have f88 : e_fr mGr w w87 := e_fr.up f82 hw87 (by unfold mGr; omega)
                          have hT89 : e_Has mTy w87 := e_Has.upr hT83 hw87 (nR_PART3 (p := y6) (by omega)) (by omega)
                          refine e_Ok.run (t' := (325, [(0, (1, 275)), (1, (0, a)), (6, (0, y6)), (9, (0, w 276 (4 * y6 + 20576))), (10, (0, 33 * w 276 (4 * y6 + 20576) + 20704)), (11, (0, y11)), (12, (0, y12))], [(1, 275)], w87)) 1 rfl ?_
                          refine e_Ok.getr (z := 276) rfl rfl rfl rfl (by rw [← hw87]; exact (e_up_ne _ _ (Or.inl (by omega))).trans (by rw [← hw81]; exact (e_up_ne _ _ (Or.inl (by omega))).trans (by rw [← hw75]; exact (e_up_ne _ _ (Or.inl (by omega))).trans ((j73 275 0 (by unfold mOo; omega)).trans (e_Has.eq hT rfl))))) (by omega) ?_
                          refine e_Ok.run (t' := (329, [(0, (1, 275)), (1, (0, a)), (6, (0, y6)), (9, (0, w 276 (4 * y6 + 20576))), (10, (0, 33 * w 276 (4 * y6 + 20576) + 20704)), (11, (0, y11)), (12, (0, y12))], [(0, a), (1, 276)], w87)) 1 rfl ?_
                          refine e_Ok.callS rfl (by omega) rfl rfl (c_268 (by omega)) (fun r90 w91 h92 => ?_)
                          obtain ⟨rfl, rfl⟩ := h92
                          show e_Ok 20 elay ecode eI (d + 1) 396 (332, [(0, (1, 275)), (1, (0, a)), (6, (0, y6)), (9, (0, w 276 (4 * y6 + 20576))), (10, (0, 33 * w 276 (4 * y6 + 20576) + 20704)), (11, (0, y11)), (12, (0, y12))], [(0, 36 * a + 16), (1, 276)], w87) _
                          refine e_Ok.run (t' := (333, [(0, (1, 275)), (1, (0, a)), (6, (0, y6)), (9, (0, w 276 (4 * y6 + 20576))), (10, (0, 33 * w 276 (4 * y6 + 20576) + 20704)), (11, (0, y11)), (12, (0, y12))], [(0, 1), (0, 36 * a + 16), (1, 276)], w87)) 1 rfl ?_
                          refine e_Ok.add (z := 36 * a + 17) rfl (by omega) (by omega) ?_
                          refine e_Ok.run (t' := (336, [(0, (1, 275)), (1, (0, a)), (6, (0, y6)), (9, (0, w 276 (4 * y6 + 20576))), (10, (0, 33 * w 276 (4 * y6 + 20576) + 20704)), (11, (0, y11)), (12, (0, y12))], [(0, y6), (0, 36 * a + 17), (1, 276)], w87)) 1 rfl ?_
                          refine e_Ok.ast rfl rfl rfl rfl (by omega) ?_
                          generalize hw93 : e_up w87 276 (36 * a + 17) y6 = w93
                          have f94 : e_fr mGr w w93 := e_fr.up f88 hw93 (by unfold mGr; omega)
                          have hT95 : e_Has mTy w93 := e_Has.upr hT89 hw93 (nR_HOLDS (a := a) (by omega)) (by omega)
                          refine e_Ok.run (t' := (339, [(0, (1, 275)), (1, (0, a)), (6, (0, y6)), (9, (0, w 276 (4 * y6 + 20576))), (10, (0, 33 * w 276 (4 * y6 + 20576) + 20704)), (11, (0, y11)), (12, (0, y12))], [(0, (-1)), (1, 275)], w93)) 2 rfl ?_
                          refine e_Ok.callV rfl (by omega) rfl rfl rfl rfl (c_390 (by omega) hT95) (fun r96 w97 h98 => ?_)
                          obtain ⟨rfl, q99, q99T, q99a, q99b⟩ := h98
                          have f100 : e_fr mGr w w97 := e_fr.trans f94 (e_fr.mono q99 (fun c k q => by unfold mSt at q; unfold mGr; omega))
                          show e_Ok 20 elay ecode eI (d + 1) 396 (342, [(0, (1, 275)), (1, (0, a)), (6, (0, y6)), (9, (0, w 276 (4 * y6 + 20576))), (10, (0, 33 * w 276 (4 * y6 + 20576) + 20704)), (11, (0, y11)), (12, (0, y12))], [], w97) _
                          refine e_Ok.run (t' := (348, [(0, (1, 275)), (1, (0, a)), (6, (0, y6)), (9, (0, w 276 (4 * y6 + 20576))), (10, (0, 33 * w 276 (4 * y6 + 20576) + 20704)), (11, (0, y11)), (12, (0, y12))], [(0, y6), (0, a), (0, 6), (1, 275)], w97)) 4 rfl ?_
                          have e104 : w97 276 5 = w 276 5 := ((q99 276 5 (by unfold mSt; omega)).trans (by rw [← hw93]; exact (e_up_ne _ _ (Or.inr (by omega))).trans (by rw [← hw87]; exact (e_up_ne _ _ (Or.inr (by omega))).trans (by rw [← hw81]; exact (e_up_ne _ _ (Or.inr (by omega))).trans (by rw [← hw75]; exact (e_up_ne _ _ (Or.inr (by omega))).trans ((j73 276 5 (by unfold mOo; omega)).trans rfl))))))
                          refine e_Ok.callV rfl (by omega) rfl rfl rfl rfl (c_319 q99T (by omega) (by omega) (by omega) (by omega)) (fun r101 w102 h103 => ?_)
                          obtain ⟨rfl, q105, q105T, q105n⟩ := h103
                          have f106 : e_fr mGr w w102 := e_fr.trans f100 (e_fr.mono q105 (fun c k q => by unfold mE at q; unfold mGr; omega))
                          show e_Ok 20 elay ecode eI (d + 1) 396 (351, [(0, (1, 275)), (1, (0, a)), (6, (0, y6)), (9, (0, w 276 (4 * y6 + 20576))), (10, (0, 33 * w 276 (4 * y6 + 20576) + 20704)), (11, (0, y11)), (12, (0, y12))], [], w102) _
                          refine e_Ok.run (t' := (352, [(0, (1, 275)), (1, (0, a)), (6, (0, y6)), (9, (0, w 276 (4 * y6 + 20576))), (10, (0, 33 * w 276 (4 * y6 + 20576) + 20704)), (11, (0, y11)), (12, (0, y12))], [(0, 1)], w102)) 1 rfl ?_
                          refine e_Ok.rets rfl rfl ?_
                          have e107 : w102 276 5 = w102 276 5 := rfl
                          exact ⟨_, rfl, by omega, f106, q105T, by omega, mOr.grip (b := w 276 (4 * y6 + 20576)) (k := y11) hOr (by omega) (e_Has.orn hT) (e_Has.orw hT (by omega)) (by omega) ha (by omega) (by omega) hk (fun i g1 g2 => Eq.trans ((q105 276 (33 * w 276 (4 * y6 + 20576) + i + 20704) (by unfold mE; omega)).trans ((q99 276 (33 * w 276 (4 * y6 + 20576) + i + 20704) (by unfold mSt; omega)).trans (by rw [← hw93]; exact (e_up_ne _ _ (Or.inr (by omega))).trans (by rw [← hw87]; exact (e_up_ne _ _ (Or.inr (by omega))).trans (by rw [← hw81]; exact (e_up_ne _ _ (Or.inr (by omega))).trans (by rw [← hw75]; exact (e_up_ne _ _ (Or.inr (by omega))).trans rfl)))))) (j72 i (by omega) (by omega) (by omega))) (fun i g1 g2 => Eq.trans ((q105 276 (33 * w 276 (4 * y6 + 20576) + i + 20704) (by unfold mE; omega)).trans ((q99 276 (33 * w 276 (4 * y6 + 20576) + i + 20704) (by unfold mSt; omega)).trans (by rw [← hw93]; exact (e_up_ne _ _ (Or.inr (by omega))).trans (by rw [← hw87]; exact (e_up_ne _ _ (Or.inr (by omega))).trans (by rw [← hw81]; exact (e_up_ne _ _ (Or.inr (by omega))).trans (by rw [← hw75]; exact (e_up_ne _ _ (Or.inr (by omega))).trans rfl)))))) (j71 i g1 (by omega))) ((q105 276 (33 * w 276 (4 * y6 + 20576) + 20704) (by unfold mE; omega)).trans ((q99 276 (33 * w 276 (4 * y6 + 20576) + 20704) (by unfold mSt; omega)).trans (by rw [← hw93]; exact (e_up_ne _ _ (Or.inr (by omega))).trans (by rw [← hw87]; exact (e_up_ne _ _ (Or.inr (by omega))).trans (by rw [← hw81]; exact (e_up_ne _ _ (Or.inr (by omega))).trans (by rw [← hw75]; exact e_up_eq _ _ _ _)))))) (Eq.trans ((q105 276 (4 * y6 + 20576) (by unfold mE; omega)).trans ((q99 276 (4 * y6 + 20576) (by unfold mSt; omega)).trans (by rw [← hw93]; exact (e_up_ne _ _ (Or.inr (by omega))).trans (by rw [← hw87]; exact (e_up_ne _ _ (Or.inr (by omega))).trans (by rw [← hw81]; exact e_up_eq _ _ _ _))))) (by omega)) ((q105 276 (36 * a + 17) (by unfold mE; omega)).trans ((q99 276 (36 * a + 17) (by unfold mSt; omega)).trans (by rw [← hw93]; exact e_up_eq _ _ _ _))) (fun k q1 q2 q3 q4 => by unfold orK at q1; exact ((q105 276 k (by unfold mE; omega)).trans ((q99 276 k (by unfold mSt; omega)).trans (by rw [← hw93]; exact (e_up_ne _ _ (Or.inr (by omega))).trans (by rw [← hw87]; exact (e_up_ne _ _ (Or.inr (by omega))).trans (by rw [← hw81]; exact (e_up_ne _ _ (Or.inr (by omega))).trans (by rw [← hw75]; exact (e_up_ne _ _ (Or.inr (by omega))).trans ((j73 276 k (by unfold mOo; omega)).trans rfl)))))))), (fun b g1 g2 => by have e := q99b b g1 g2; rw [show w93 276 (36 * b + 20) = w 276 (36 * b + 20) from (by rw [← hw93]; exact (e_up_ne _ _ (Or.inr (by omega))).trans (by rw [← hw87]; exact (e_up_ne _ _ (Or.inr (by omega))).trans (by rw [← hw81]; exact (e_up_ne _ _ (Or.inr (by omega))).trans (by rw [← hw75]; exact (e_up_ne _ _ (Or.inr (by omega))).trans ((j73 276 (36 * b + 20) (by unfold mOo; omega)).trans rfl)))))] at e; rw [show w102 276 (36 * b + 20) = w97 276 (36 * b + 20) from ((q105 276 (36 * b + 20) (by unfold mE; omega)).trans rfl)]; exact e)⟩
                        · replace h74 : (y12 : Int) < w 276 (33 * w 276 (4 * y6 + 20576) + 20704) := by have q : ¬ ((y12 : Int) ≥ w 276 (33 * w 276 (4 * y6 + 20576) + 20704)) := h74; omega
                          refine e_Ok.run (t' := (260, [(0, (1, 275)), (1, (0, a)), (6, (0, y6)), (9, (0, w 276 (4 * y6 + 20576))), (10, (0, 33 * w 276 (4 * y6 + 20576) + 20704)), (11, (0, y11)), (12, (0, y12))], [(1, 275)], v2)) 1 rfl ?_
                          refine e_Ok.getr (z := 276) rfl rfl rfl rfl ((j73 275 0 (by unfold mOo; omega)).trans (e_Has.eq hT rfl)) (by omega) ?_
                          refine e_Ok.run (t' := (267, [(0, (1, 275)), (1, (0, a)), (6, (0, y6)), (9, (0, w 276 (4 * y6 + 20576))), (10, (0, 33 * w 276 (4 * y6 + 20576) + 20704)), (11, (0, y11)), (12, (0, y12))], [(0, y12), (0, 33 * w 276 (4 * y6 + 20576) + 20704), (1, 276)], v2)) 2 rfl ?_
                          refine e_Ok.add (z := 33 * w 276 (4 * y6 + 20576) + y12 + 20704) rfl (by omega) (by omega) ?_
                          refine e_Ok.run (t' := (269, [(0, (1, 275)), (1, (0, a)), (6, (0, y6)), (9, (0, w 276 (4 * y6 + 20576))), (10, (0, 33 * w 276 (4 * y6 + 20576) + 20704)), (11, (0, y11)), (12, (0, y12))], [(1, 275), (0, 33 * w 276 (4 * y6 + 20576) + y12 + 20704), (1, 276)], v2)) 1 rfl ?_
                          refine e_Ok.getr (z := 276) rfl rfl rfl rfl ((j73 275 0 (by unfold mOo; omega)).trans (e_Has.eq hT rfl)) (by omega) ?_
                          refine e_Ok.run (t' := (276, [(0, (1, 275)), (1, (0, a)), (6, (0, y6)), (9, (0, w 276 (4 * y6 + 20576))), (10, (0, 33 * w 276 (4 * y6 + 20576) + 20704)), (11, (0, y11)), (12, (0, y12))], [(0, y12), (0, 33 * w 276 (4 * y6 + 20576) + 20704), (1, 276), (0, 33 * w 276 (4 * y6 + 20576) + y12 + 20704), (1, 276)], v2)) 2 rfl ?_
                          refine e_Ok.add (z := 33 * w 276 (4 * y6 + 20576) + y12 + 20704) rfl (by omega) (by omega) ?_
                          refine e_Ok.run (t' := (278, [(0, (1, 275)), (1, (0, a)), (6, (0, y6)), (9, (0, w 276 (4 * y6 + 20576))), (10, (0, 33 * w 276 (4 * y6 + 20576) + 20704)), (11, (0, y11)), (12, (0, y12))], [(0, 1), (0, 33 * w 276 (4 * y6 + 20576) + y12 + 20704), (1, 276), (0, 33 * w 276 (4 * y6 + 20576) + y12 + 20704), (1, 276)], v2)) 1 rfl ?_
                          refine e_Ok.add (z := 33 * w 276 (4 * y6 + 20576) + y12 + 20705) rfl (by omega) (by omega) ?_
                          have h108 := (e_Has.get j69 (c := 276) (k := 33 * w 276 (4 * y6 + 20576) + y12 + 20705) (lo := 0) (hi := 31) (nR_ORD (w 276 (4 * y6 + 20576)) (by omega) (by omega)) (by decide))
                          refine e_Ok.ald (z := v2 276 (33 * w 276 (4 * y6 + 20576) + y12 + 20705)) rfl rfl rfl (by omega) rfl (by omega) ?_
                          refine e_Ok.ast rfl rfl rfl rfl (by omega) ?_
                          generalize hw109 : e_up v2 276 (33 * w 276 (4 * y6 + 20576) + y12 + 20704) (v2 276 (33 * w 276 (4 * y6 + 20576) + y12 + 20705)) = w109
                          have f110 : e_fr mGr w w109 := e_fr.up j68 hw109 (by unfold mGr; omega)
                          have hT111 : e_Has mTy w109 := e_Has.upr j69 hw109 (nR_ORD (w 276 (4 * y6 + 20576)) (by omega) (by omega)) (by omega)
                          refine e_Ok.inc (z := y12 + 1) rfl rfl (by omega) (by omega) ?_
                          show e_Ok 20 elay ecode eI (d + 1) 396 (284, [(12, (0, y12 + 1)), (0, (1, 275)), (1, (0, a)), (6, (0, y6)), (9, (0, w 276 (4 * y6 + 20576))), (10, (0, 33 * w 276 (4 * y6 + 20576) + 20704)), (11, (0, y11))], [], w109) _
                          refine e_Ok.run (t' := (247, [(12, (0, y12 + 1)), (0, (1, 275)), (1, (0, a)), (6, (0, y6)), (9, (0, w 276 (4 * y6 + 20576))), (10, (0, 33 * w 276 (4 * y6 + 20576) + 20704)), (11, (0, y11))], [], w109)) 1 rfl ?_
                          refine e_Ok.sub eAlk (e_sub_of rfl ?_) (ih67 (y12 + 1) w109 ⟨f110, hT111, by omega, (fun i g1 g2 => Decidable.byCases (p := i = y12) (fun e => by rw [e, ← hw109, e_up_eq]; have q := j72 (y12 + 1) (by omega) (by omega) (by omega); rw [show 33 * w 276 (4 * y6 + 20576) + (y12 + 1) + 20704 = 33 * w 276 (4 * y6 + 20576) + y12 + 20705 by omega] at q; exact q) (fun e => Eq.trans (by rw [← hw109]; exact (e_up_ne _ _ (Or.inr (by omega))).trans rfl) (j71 i g1 (by omega)))), (fun i g1 g2 g3 => Eq.trans (by rw [← hw109]; exact (e_up_ne _ _ (Or.inr (by omega))).trans rfl) (j72 i g1 g2 (by omega))), (e_fr.up j73 hw109 (by unfold mOo; omega))⟩ (by omega))
                          exact ⟨rfl, rfl, rfl, rfl, rfl, rfl, rfl, trivial⟩
                    refine e_Ok.sub eAlk (e_sub_of rfl ?_) (hL66 (33 + 1 : Int).toNat y11 v1 ⟨j19, j20, by omega, (fun i g1 g2 => by omega), (fun i g1 g2 g3 => ((j24 276 (33 * w 276 (4 * y6 + 20576) + i + 20704) (by unfold mP; omega)).trans rfl)), (e_fr.mono j24 (fun c k q => by unfold mP at q; unfold mOo; omega))⟩ (by omega))
                    exact ⟨rfl, rfl, rfl, rfl, rfl, rfl, rfl, trivial⟩
                  · replace h65 : (w 276 (33 * w 276 (4 * y6 + 20576) + y11 + 20704) : Int) ≠ y6 := by have q : ¬ ((w 276 (33 * w 276 (4 * y6 + 20576) + y11 + 20704) : Int) = y6) := h65; omega
                    refine e_Ok.inc (z := y11 + 1) rfl rfl (by omega) (by omega) ?_
                    show e_Ok 20 elay ecode eI (d + 1) 396 (240, [(11, (0, y11 + 1)), (0, (1, 275)), (1, (0, a)), (6, (0, y6)), (9, (0, w 276 (4 * y6 + 20576))), (10, (0, 33 * w 276 (4 * y6 + 20576) + 20704))], [], v1) _
                    refine e_Ok.run (t' := (222, [(11, (0, y11 + 1)), (0, (1, 275)), (1, (0, a)), (6, (0, y6)), (9, (0, w 276 (4 * y6 + 20576))), (10, (0, 33 * w 276 (4 * y6 + 20576) + 20704))], [], v1)) 1 rfl ?_
                    refine e_Ok.sub eAlk (e_sub_of rfl ?_) (ih62 (y11 + 1) (by have e : y11 ≠ i0 := (fun e => by subst e; omega); omega) (by omega))
                    exact ⟨rfl, rfl, rfl, rfl, rfl, rfl, trivial⟩
              refine e_Ok.sub eAlk (e_sub_of rfl ?_) (hL61 (33 + 1 : Int).toNat 1 (by omega) (by omega))
              exact ⟨rfl, rfl, rfl, rfl, rfl, rfl, trivial⟩
          · replace h26 : (y6 : Int) < 0 := by have q : ¬ ((y6 : Int) ≥ 0) := h26; omega
            refine e_Ok.run (t' := (189, [(0, (1, 275)), (1, (0, a)), (2, (4, w7 321 (7 * a + w 286 a))), (4, (4, w7 322 (7 * a + w 286 a))), (6, (0, y6)), (7, (4, y7)), (9, (0, y9))], [(0, 0)], v1)) 1 rfl ?_
            refine e_Ok.rets rfl rfl ?_
            have e112 : v1 276 5 = w 276 5 := ((j24 276 5 (by unfold mP; omega)).trans rfl)
            exact ⟨_, rfl, by omega, j19, j20, by omega, mOr.fr hOr (by omega) (e_Has.orn hT) (e_Has.orw hT (by omega)) (fun k q => by unfold orK at q; exact ((j24 276 k (by unfold mP; omega)).trans rfl)), (fun b g1 g2 => Or.inr ((j24 276 (36 * b + 20) (by unfold mP; omega)).trans rfl))⟩
        · replace h25 : (y9 : Int) < w 275 40 := by have q : ¬ ((y9 : Int) ≥ w 275 40) := h25; omega
          refine e_Ok.run (t' := (94, [(0, (1, 275)), (1, (0, a)), (2, (4, w7 321 (7 * a + w 286 a))), (4, (4, w7 322 (7 * a + w 286 a))), (6, (0, y6)), (7, (4, y7)), (9, (0, y9))], [(1, 275)], v1)) 1 rfl ?_
          refine e_Ok.getr (z := 276) rfl rfl rfl rfl ((j24 275 0 (by unfold mP; omega)).trans (e_Has.eq hT rfl)) (by omega) ?_
          refine e_Ok.run (t' := (99, [(0, (1, 275)), (1, (0, a)), (2, (4, w7 321 (7 * a + w 286 a))), (4, (4, w7 322 (7 * a + w 286 a))), (6, (0, y6)), (7, (4, y7)), (9, (0, y9))], [(0, y9), (1, 276)], v1)) 1 rfl ?_
          refine e_Ok.callS rfl (by omega) rfl rfl (c_392 (by omega)) (fun r113 w114 h115 => ?_)
          obtain ⟨rfl, rfl⟩ := h115
          show e_Ok 20 elay ecode eI (d + 1) 396 (102, [(0, (1, 275)), (1, (0, a)), (2, (4, w7 321 (7 * a + w 286 a))), (4, (4, w7 322 (7 * a + w 286 a))), (6, (0, y6)), (7, (4, y7)), (9, (0, y9))], [(0, 4 * y9 + 20576), (1, 276)], v1) _
          have h116 := (e_Has.get hT (c := 276) (k := 4 * y9 + 20576) (lo := 0) (hi := 8) (nR_WHERE (p := y9) (by omega)) (by decide))
          refine e_Ok.ald (z := w 276 (4 * y9 + 20576)) rfl rfl rfl (by omega) ((j24 276 (4 * y9 + 20576) (by unfold mP; omega)).trans rfl) (by omega) ?_
          refine e_Ok.run (t' := (108, [(10, (0, w 276 (4 * y9 + 20576))), (0, (1, 275)), (1, (0, a)), (2, (4, w7 321 (7 * a + w 286 a))), (4, (4, w7 322 (7 * a + w 286 a))), (6, (0, y6)), (7, (4, y7)), (9, (0, y9))], [(0, 4), (0, w 276 (4 * y9 + 20576))], v1)) 3 rfl ?_
          refine e_Ok.if2 rfl (fun h117 => ?_) (fun h117 => ?_)
          · replace h117 : (w 276 (4 * y9 + 20576) : Int) < 4 := h117
            refine e_Ok.run (t' := (122, [(10, (0, w 276 (4 * y9 + 20576))), (0, (1, 275)), (1, (0, a)), (2, (4, w7 321 (7 * a + w 286 a))), (4, (4, w7 322 (7 * a + w 286 a))), (6, (0, y6)), (7, (4, y7)), (9, (0, y9))], [(0, 0), (0, y9), (1, 275)], v1)) 3 rfl ?_
            refine e_Ok.callV rfl (by omega) rfl rfl rfl rfl (c_395 (by omega) j20 (by omega) (by omega)) (fun r118 w119 h120 => ?_)
            obtain ⟨z122, rfl, q121, q121a, q121b⟩ := h120
            have f123 : e_fr mGr w w119 := e_fr.trans j19 (e_fr.mono q121 (fun c k q => by unfold mP at q; unfold mGr; omega))
            have q121T : e_Has mTy w119 := mT_P q121 j20
            show e_Ok 20 elay ecode eI (d + 1) 396 (125, [(10, (0, w 276 (4 * y9 + 20576))), (0, (1, 275)), (1, (0, a)), (2, (4, w7 321 (7 * a + w 286 a))), (4, (4, w7 322 (7 * a + w 286 a))), (6, (0, y6)), (7, (4, y7)), (9, (0, y9))], [(0, z122)], w119) _
            refine e_Ok.run (t' := (127, [(10, (0, w 276 (4 * y9 + 20576))), (0, (1, 275)), (1, (0, a)), (2, (4, w7 321 (7 * a + w 286 a))), (4, (4, w7 322 (7 * a + w 286 a))), (6, (0, y6)), (7, (4, y7)), (9, (0, y9))], [(4, w7 321 (7 * a + w 286 a)), (4, z122)], w119)) 2 rfl ?_
            refine e_Ok.subL (z := z122 - w7 321 (7 * a + w 286 a)) rfl (by omega) (by omega) ?_
            refine e_Ok.run (t' := (134, [(11, (4, z122 - w7 321 (7 * a + w 286 a))), (10, (0, w 276 (4 * y9 + 20576))), (0, (1, 275)), (1, (0, a)), (2, (4, w7 321 (7 * a + w 286 a))), (4, (4, w7 322 (7 * a + w 286 a))), (6, (0, y6)), (7, (4, y7)), (9, (0, y9))], [(0, 1), (0, y9), (1, 275)], w119)) 4 rfl ?_
            refine e_Ok.callV rfl (by omega) rfl rfl rfl rfl (c_395 (by omega) q121T (by omega) (by omega)) (fun r125 w126 h127 => ?_)
            obtain ⟨z129, rfl, q128, q128a, q128b⟩ := h127
            have f130 : e_fr mGr w w126 := e_fr.trans f123 (e_fr.mono q128 (fun c k q => by unfold mP at q; unfold mGr; omega))
            have q128T : e_Has mTy w126 := mT_P q128 q121T
            show e_Ok 20 elay ecode eI (d + 1) 396 (137, [(11, (4, z122 - w7 321 (7 * a + w 286 a))), (10, (0, w 276 (4 * y9 + 20576))), (0, (1, 275)), (1, (0, a)), (2, (4, w7 321 (7 * a + w 286 a))), (4, (4, w7 322 (7 * a + w 286 a))), (6, (0, y6)), (7, (4, y7)), (9, (0, y9))], [(0, z129)], w126) _
            refine e_Ok.run (t' := (140, [(11, (4, z122 - w7 321 (7 * a + w 286 a))), (10, (0, w 276 (4 * y9 + 20576))), (0, (1, 275)), (1, (0, a)), (2, (4, w7 321 (7 * a + w 286 a))), (4, (4, w7 322 (7 * a + w 286 a))), (6, (0, y6)), (7, (4, y7)), (9, (0, y9))], [(4, w7 322 (7 * a + w 286 a)), (4, z129)], w126)) 2 rfl ?_
            refine e_Ok.subL (z := z129 - w7 322 (7 * a + w 286 a)) rfl (by omega) (by omega) ?_
            refine e_Ok.run (t' := (147, [(13, (4, z129 - w7 322 (7 * a + w 286 a))), (11, (4, z122 - w7 321 (7 * a + w 286 a))), (10, (0, w 276 (4 * y9 + 20576))), (0, (1, 275)), (1, (0, a)), (2, (4, w7 321 (7 * a + w 286 a))), (4, (4, w7 322 (7 * a + w 286 a))), (6, (0, y6)), (7, (4, y7)), (9, (0, y9))], [(4, z122 - w7 321 (7 * a + w 286 a)), (4, z122 - w7 321 (7 * a + w 286 a))], w126)) 3 rfl ?_
            refine e_Ok.anyL rfl ⟨_, rfl⟩ (fun x132 => ?_)
            refine e_Ok.run (t' := (152, [(13, (4, z129 - w7 322 (7 * a + w 286 a))), (11, (4, z122 - w7 321 (7 * a + w 286 a))), (10, (0, w 276 (4 * y9 + 20576))), (0, (1, 275)), (1, (0, a)), (2, (4, w7 321 (7 * a + w 286 a))), (4, (4, w7 322 (7 * a + w 286 a))), (6, (0, y6)), (7, (4, y7)), (9, (0, y9))], [(4, z129 - w7 322 (7 * a + w 286 a)), (4, z129 - w7 322 (7 * a + w 286 a)), (4, x132)], w126)) 2 rfl ?_
            refine e_Ok.anyL rfl ⟨_, rfl⟩ (fun x133 => ?_)
            refine e_Ok.anyL rfl ⟨_, rfl⟩ (fun x134 => ?_)
            refine e_Ok.run (t' := (156, [(13, (4, z129 - w7 322 (7 * a + w 286 a))), (11, (4, z122 - w7 321 (7 * a + w 286 a))), (10, (0, w 276 (4 * y9 + 20576))), (0, (1, 275)), (1, (0, a)), (2, (4, w7 321 (7 * a + w 286 a))), (4, (4, w7 322 (7 * a + w 286 a))), (6, (0, y6)), (7, (4, y7)), (9, (0, y9))], [(4, y7), (4, x134)], w126)) 1 rfl ?_
            refine e_Ok.lcmp rfl (fun z135 z135a z135b z135c => ?_)
            refine e_Ok.if1 rfl (fun h136 => ?_) (fun h136 => ?_)
            · replace h136 : (z135 : Int) ≥ 0 := h136
              refine e_Ok.inc (z := y9 + 1) rfl rfl (by omega) (by omega) ?_
              show e_Ok 20 elay ecode eI (d + 1) 396 (180, [(9, (0, y9 + 1)), (13, (4, z129 - w7 322 (7 * a + w 286 a))), (11, (4, z122 - w7 321 (7 * a + w 286 a))), (10, (0, w 276 (4 * y9 + 20576))), (0, (1, 275)), (1, (0, a)), (2, (4, w7 321 (7 * a + w 286 a))), (4, (4, w7 322 (7 * a + w 286 a))), (6, (0, y6)), (7, (4, y7))], [], w126) _
              refine e_Ok.run (t' := (84, [(9, (0, y9 + 1)), (13, (4, z129 - w7 322 (7 * a + w 286 a))), (11, (4, z122 - w7 321 (7 * a + w 286 a))), (10, (0, w 276 (4 * y9 + 20576))), (0, (1, 275)), (1, (0, a)), (2, (4, w7 321 (7 * a + w 286 a))), (4, (4, w7 322 (7 * a + w 286 a))), (6, (0, y6)), (7, (4, y7))], [], w126)) 1 rfl ?_
              refine e_Ok.sub eAlk (e_sub_of rfl ?_) (ih18 y6 y7 (y9 + 1) w126 ⟨f130, q128T, by omega, by omega, (fun e => j23 e), (e_fr.trans (e_fr.trans j24 q121) q128)⟩ (by omega))
              exact ⟨rfl, rfl, rfl, rfl, rfl, rfl, rfl, trivial⟩
            · replace h136 : (z135 : Int) < 0 := by have q : ¬ ((z135 : Int) ≥ 0) := h136; omega
              refine e_Ok.run (t' := (164, [(13, (4, z129 - w7 322 (7 * a + w 286 a))), (11, (4, z122 - w7 321 (7 * a + w 286 a))), (10, (0, w 276 (4 * y9 + 20576))), (0, (1, 275)), (1, (0, a)), (2, (4, w7 321 (7 * a + w 286 a))), (4, (4, w7 322 (7 * a + w 286 a))), (6, (0, y6)), (7, (4, y7)), (9, (0, y9))], [(4, z122 - w7 321 (7 * a + w 286 a)), (4, z122 - w7 321 (7 * a + w 286 a))], w126)) 2 rfl ?_
              refine e_Ok.anyL rfl ⟨_, rfl⟩ (fun x137 => ?_)
              refine e_Ok.run (t' := (169, [(13, (4, z129 - w7 322 (7 * a + w 286 a))), (11, (4, z122 - w7 321 (7 * a + w 286 a))), (10, (0, w 276 (4 * y9 + 20576))), (0, (1, 275)), (1, (0, a)), (2, (4, w7 321 (7 * a + w 286 a))), (4, (4, w7 322 (7 * a + w 286 a))), (6, (0, y6)), (7, (4, y7)), (9, (0, y9))], [(4, z129 - w7 322 (7 * a + w 286 a)), (4, z129 - w7 322 (7 * a + w 286 a)), (4, x137)], w126)) 2 rfl ?_
              refine e_Ok.anyL rfl ⟨_, rfl⟩ (fun x138 => ?_)
              refine e_Ok.anyL rfl ⟨_, rfl⟩ (fun x139 => ?_)
              refine e_Ok.run (t' := (177, [(6, (0, y9)), (7, (4, x139)), (13, (4, z129 - w7 322 (7 * a + w 286 a))), (11, (4, z122 - w7 321 (7 * a + w 286 a))), (10, (0, w 276 (4 * y9 + 20576))), (0, (1, 275)), (1, (0, a)), (2, (4, w7 321 (7 * a + w 286 a))), (4, (4, w7 322 (7 * a + w 286 a))), (9, (0, y9))], [], w126)) 3 rfl ?_
              refine e_Ok.inc (z := y9 + 1) rfl rfl (by omega) (by omega) ?_
              show e_Ok 20 elay ecode eI (d + 1) 396 (180, [(9, (0, y9 + 1)), (6, (0, y9)), (7, (4, x139)), (13, (4, z129 - w7 322 (7 * a + w 286 a))), (11, (4, z122 - w7 321 (7 * a + w 286 a))), (10, (0, w 276 (4 * y9 + 20576))), (0, (1, 275)), (1, (0, a)), (2, (4, w7 321 (7 * a + w 286 a))), (4, (4, w7 322 (7 * a + w 286 a)))], [], w126) _
              refine e_Ok.run (t' := (84, [(9, (0, y9 + 1)), (6, (0, y9)), (7, (4, x139)), (13, (4, z129 - w7 322 (7 * a + w 286 a))), (11, (4, z122 - w7 321 (7 * a + w 286 a))), (10, (0, w 276 (4 * y9 + 20576))), (0, (1, 275)), (1, (0, a)), (2, (4, w7 321 (7 * a + w 286 a))), (4, (4, w7 322 (7 * a + w 286 a)))], [], w126)) 1 rfl ?_
              refine e_Ok.sub eAlk (e_sub_of rfl ?_) (ih18 y9 x139 (y9 + 1) w126 ⟨f130, q128T, by omega, by omega, (fun e => by omega), (e_fr.trans (e_fr.trans j24 q121) q128)⟩ (by omega))
              exact ⟨rfl, rfl, rfl, rfl, rfl, rfl, rfl, trivial⟩
          · replace h117 : (w 276 (4 * y9 + 20576) : Int) ≥ 4 := by have q : ¬ ((w 276 (4 * y9 + 20576) : Int) < 4) := h117; omega
            refine e_Ok.run (t' := (115, [(10, (0, w 276 (4 * y9 + 20576))), (0, (1, 275)), (1, (0, a)), (2, (4, w7 321 (7 * a + w 286 a))), (4, (4, w7 322 (7 * a + w 286 a))), (6, (0, y6)), (7, (4, y7)), (9, (0, y9))], [(0, 8), (0, w 276 (4 * y9 + 20576))], v1)) 2 rfl ?_
            refine e_Ok.if2 rfl (fun h140 => ?_) (fun h140 => ?_)
            · replace h140 : (w 276 (4 * y9 + 20576) : Int) ≠ 8 := h140
              refine e_Ok.inc (z := y9 + 1) rfl rfl (by omega) (by omega) ?_
              show e_Ok 20 elay ecode eI (d + 1) 396 (180, [(9, (0, y9 + 1)), (10, (0, w 276 (4 * y9 + 20576))), (0, (1, 275)), (1, (0, a)), (2, (4, w7 321 (7 * a + w 286 a))), (4, (4, w7 322 (7 * a + w 286 a))), (6, (0, y6)), (7, (4, y7))], [], v1) _
              refine e_Ok.run (t' := (84, [(9, (0, y9 + 1)), (10, (0, w 276 (4 * y9 + 20576))), (0, (1, 275)), (1, (0, a)), (2, (4, w7 321 (7 * a + w 286 a))), (4, (4, w7 322 (7 * a + w 286 a))), (6, (0, y6)), (7, (4, y7))], [], v1)) 1 rfl ?_
              refine e_Ok.sub eAlk (e_sub_of rfl ?_) (ih18 y6 y7 (y9 + 1) v1 ⟨j19, j20, by omega, by omega, (fun e => j23 e), j24⟩ (by omega))
              exact ⟨rfl, rfl, rfl, rfl, rfl, rfl, rfl, trivial⟩
            · replace h140 : (w 276 (4 * y9 + 20576) : Int) = 8 := by have q : ¬ ((w 276 (4 * y9 + 20576) : Int) ≠ 8) := h140; omega
              refine e_Ok.run (t' := (122, [(10, (0, w 276 (4 * y9 + 20576))), (0, (1, 275)), (1, (0, a)), (2, (4, w7 321 (7 * a + w 286 a))), (4, (4, w7 322 (7 * a + w 286 a))), (6, (0, y6)), (7, (4, y7)), (9, (0, y9))], [(0, 0), (0, y9), (1, 275)], v1)) 3 rfl ?_
              refine e_Ok.callV rfl (by omega) rfl rfl rfl rfl (c_395 (by omega) j20 (by omega) (by omega)) (fun r141 w142 h143 => ?_)
              obtain ⟨z145, rfl, q144, q144a, q144b⟩ := h143
              have f146 : e_fr mGr w w142 := e_fr.trans j19 (e_fr.mono q144 (fun c k q => by unfold mP at q; unfold mGr; omega))
              have q144T : e_Has mTy w142 := mT_P q144 j20
              show e_Ok 20 elay ecode eI (d + 1) 396 (125, [(10, (0, w 276 (4 * y9 + 20576))), (0, (1, 275)), (1, (0, a)), (2, (4, w7 321 (7 * a + w 286 a))), (4, (4, w7 322 (7 * a + w 286 a))), (6, (0, y6)), (7, (4, y7)), (9, (0, y9))], [(0, z145)], w142) _
              refine e_Ok.run (t' := (127, [(10, (0, w 276 (4 * y9 + 20576))), (0, (1, 275)), (1, (0, a)), (2, (4, w7 321 (7 * a + w 286 a))), (4, (4, w7 322 (7 * a + w 286 a))), (6, (0, y6)), (7, (4, y7)), (9, (0, y9))], [(4, w7 321 (7 * a + w 286 a)), (4, z145)], w142)) 2 rfl ?_
              refine e_Ok.subL (z := z145 - w7 321 (7 * a + w 286 a)) rfl (by omega) (by omega) ?_
              refine e_Ok.run (t' := (134, [(11, (4, z145 - w7 321 (7 * a + w 286 a))), (10, (0, w 276 (4 * y9 + 20576))), (0, (1, 275)), (1, (0, a)), (2, (4, w7 321 (7 * a + w 286 a))), (4, (4, w7 322 (7 * a + w 286 a))), (6, (0, y6)), (7, (4, y7)), (9, (0, y9))], [(0, 1), (0, y9), (1, 275)], w142)) 4 rfl ?_
              refine e_Ok.callV rfl (by omega) rfl rfl rfl rfl (c_395 (by omega) q144T (by omega) (by omega)) (fun r148 w149 h150 => ?_)
              obtain ⟨z152, rfl, q151, q151a, q151b⟩ := h150
              have f153 : e_fr mGr w w149 := e_fr.trans f146 (e_fr.mono q151 (fun c k q => by unfold mP at q; unfold mGr; omega))
              have q151T : e_Has mTy w149 := mT_P q151 q144T
              show e_Ok 20 elay ecode eI (d + 1) 396 (137, [(11, (4, z145 - w7 321 (7 * a + w 286 a))), (10, (0, w 276 (4 * y9 + 20576))), (0, (1, 275)), (1, (0, a)), (2, (4, w7 321 (7 * a + w 286 a))), (4, (4, w7 322 (7 * a + w 286 a))), (6, (0, y6)), (7, (4, y7)), (9, (0, y9))], [(0, z152)], w149) _
              refine e_Ok.run (t' := (140, [(11, (4, z145 - w7 321 (7 * a + w 286 a))), (10, (0, w 276 (4 * y9 + 20576))), (0, (1, 275)), (1, (0, a)), (2, (4, w7 321 (7 * a + w 286 a))), (4, (4, w7 322 (7 * a + w 286 a))), (6, (0, y6)), (7, (4, y7)), (9, (0, y9))], [(4, w7 322 (7 * a + w 286 a)), (4, z152)], w149)) 2 rfl ?_
              refine e_Ok.subL (z := z152 - w7 322 (7 * a + w 286 a)) rfl (by omega) (by omega) ?_
              refine e_Ok.run (t' := (147, [(13, (4, z152 - w7 322 (7 * a + w 286 a))), (11, (4, z145 - w7 321 (7 * a + w 286 a))), (10, (0, w 276 (4 * y9 + 20576))), (0, (1, 275)), (1, (0, a)), (2, (4, w7 321 (7 * a + w 286 a))), (4, (4, w7 322 (7 * a + w 286 a))), (6, (0, y6)), (7, (4, y7)), (9, (0, y9))], [(4, z145 - w7 321 (7 * a + w 286 a)), (4, z145 - w7 321 (7 * a + w 286 a))], w149)) 3 rfl ?_
              refine e_Ok.anyL rfl ⟨_, rfl⟩ (fun x155 => ?_)
              refine e_Ok.run (t' := (152, [(13, (4, z152 - w7 322 (7 * a + w 286 a))), (11, (4, z145 - w7 321 (7 * a + w 286 a))), (10, (0, w 276 (4 * y9 + 20576))), (0, (1, 275)), (1, (0, a)), (2, (4, w7 321 (7 * a + w 286 a))), (4, (4, w7 322 (7 * a + w 286 a))), (6, (0, y6)), (7, (4, y7)), (9, (0, y9))], [(4, z152 - w7 322 (7 * a + w 286 a)), (4, z152 - w7 322 (7 * a + w 286 a)), (4, x155)], w149)) 2 rfl ?_
              refine e_Ok.anyL rfl ⟨_, rfl⟩ (fun x156 => ?_)
              refine e_Ok.anyL rfl ⟨_, rfl⟩ (fun x157 => ?_)
              refine e_Ok.run (t' := (156, [(13, (4, z152 - w7 322 (7 * a + w 286 a))), (11, (4, z145 - w7 321 (7 * a + w 286 a))), (10, (0, w 276 (4 * y9 + 20576))), (0, (1, 275)), (1, (0, a)), (2, (4, w7 321 (7 * a + w 286 a))), (4, (4, w7 322 (7 * a + w 286 a))), (6, (0, y6)), (7, (4, y7)), (9, (0, y9))], [(4, y7), (4, x157)], w149)) 1 rfl ?_
              refine e_Ok.lcmp rfl (fun z158 z158a z158b z158c => ?_)
              refine e_Ok.if1 rfl (fun h159 => ?_) (fun h159 => ?_)
              · replace h159 : (z158 : Int) ≥ 0 := h159
                refine e_Ok.inc (z := y9 + 1) rfl rfl (by omega) (by omega) ?_
                show e_Ok 20 elay ecode eI (d + 1) 396 (180, [(9, (0, y9 + 1)), (13, (4, z152 - w7 322 (7 * a + w 286 a))), (11, (4, z145 - w7 321 (7 * a + w 286 a))), (10, (0, w 276 (4 * y9 + 20576))), (0, (1, 275)), (1, (0, a)), (2, (4, w7 321 (7 * a + w 286 a))), (4, (4, w7 322 (7 * a + w 286 a))), (6, (0, y6)), (7, (4, y7))], [], w149) _
                refine e_Ok.run (t' := (84, [(9, (0, y9 + 1)), (13, (4, z152 - w7 322 (7 * a + w 286 a))), (11, (4, z145 - w7 321 (7 * a + w 286 a))), (10, (0, w 276 (4 * y9 + 20576))), (0, (1, 275)), (1, (0, a)), (2, (4, w7 321 (7 * a + w 286 a))), (4, (4, w7 322 (7 * a + w 286 a))), (6, (0, y6)), (7, (4, y7))], [], w149)) 1 rfl ?_
                refine e_Ok.sub eAlk (e_sub_of rfl ?_) (ih18 y6 y7 (y9 + 1) w149 ⟨f153, q151T, by omega, by omega, (fun e => j23 e), (e_fr.trans (e_fr.trans j24 q144) q151)⟩ (by omega))
                exact ⟨rfl, rfl, rfl, rfl, rfl, rfl, rfl, trivial⟩
              · replace h159 : (z158 : Int) < 0 := by have q : ¬ ((z158 : Int) ≥ 0) := h159; omega
                refine e_Ok.run (t' := (164, [(13, (4, z152 - w7 322 (7 * a + w 286 a))), (11, (4, z145 - w7 321 (7 * a + w 286 a))), (10, (0, w 276 (4 * y9 + 20576))), (0, (1, 275)), (1, (0, a)), (2, (4, w7 321 (7 * a + w 286 a))), (4, (4, w7 322 (7 * a + w 286 a))), (6, (0, y6)), (7, (4, y7)), (9, (0, y9))], [(4, z145 - w7 321 (7 * a + w 286 a)), (4, z145 - w7 321 (7 * a + w 286 a))], w149)) 2 rfl ?_
                refine e_Ok.anyL rfl ⟨_, rfl⟩ (fun x160 => ?_)
                refine e_Ok.run (t' := (169, [(13, (4, z152 - w7 322 (7 * a + w 286 a))), (11, (4, z145 - w7 321 (7 * a + w 286 a))), (10, (0, w 276 (4 * y9 + 20576))), (0, (1, 275)), (1, (0, a)), (2, (4, w7 321 (7 * a + w 286 a))), (4, (4, w7 322 (7 * a + w 286 a))), (6, (0, y6)), (7, (4, y7)), (9, (0, y9))], [(4, z152 - w7 322 (7 * a + w 286 a)), (4, z152 - w7 322 (7 * a + w 286 a)), (4, x160)], w149)) 2 rfl ?_
                refine e_Ok.anyL rfl ⟨_, rfl⟩ (fun x161 => ?_)
                refine e_Ok.anyL rfl ⟨_, rfl⟩ (fun x162 => ?_)
                refine e_Ok.run (t' := (177, [(6, (0, y9)), (7, (4, x162)), (13, (4, z152 - w7 322 (7 * a + w 286 a))), (11, (4, z145 - w7 321 (7 * a + w 286 a))), (10, (0, w 276 (4 * y9 + 20576))), (0, (1, 275)), (1, (0, a)), (2, (4, w7 321 (7 * a + w 286 a))), (4, (4, w7 322 (7 * a + w 286 a))), (9, (0, y9))], [], w149)) 3 rfl ?_
                refine e_Ok.inc (z := y9 + 1) rfl rfl (by omega) (by omega) ?_
                show e_Ok 20 elay ecode eI (d + 1) 396 (180, [(9, (0, y9 + 1)), (6, (0, y9)), (7, (4, x162)), (13, (4, z152 - w7 322 (7 * a + w 286 a))), (11, (4, z145 - w7 321 (7 * a + w 286 a))), (10, (0, w 276 (4 * y9 + 20576))), (0, (1, 275)), (1, (0, a)), (2, (4, w7 321 (7 * a + w 286 a))), (4, (4, w7 322 (7 * a + w 286 a)))], [], w149) _
                refine e_Ok.run (t' := (84, [(9, (0, y9 + 1)), (6, (0, y9)), (7, (4, x162)), (13, (4, z152 - w7 322 (7 * a + w 286 a))), (11, (4, z145 - w7 321 (7 * a + w 286 a))), (10, (0, w 276 (4 * y9 + 20576))), (0, (1, 275)), (1, (0, a)), (2, (4, w7 321 (7 * a + w 286 a))), (4, (4, w7 322 (7 * a + w 286 a)))], [], w149)) 1 rfl ?_
                refine e_Ok.sub eAlk (e_sub_of rfl ?_) (ih18 y9 x162 (y9 + 1) w149 ⟨f153, q151T, by omega, by omega, (fun e => by omega), (e_fr.trans (e_fr.trans j24 q144) q151)⟩ (by omega))
                exact ⟨rfl, rfl, rfl, rfl, rfl, rfl, rfl, trivial⟩
    refine e_Ok.sub eAlk (e_sub_of rfl ?_) (hL17 (33 + 1 : Int).toNat (-1) x16 0 w7 ⟨f10, q9T, by omega, by omega, (fun e => by omega), (e_fr.trans (e_fr.refl w) (e_fr.mono q9 (fun c k q => by unfold mPt at q; unfold mP; omega)))⟩ (by omega))
    exact ⟨rfl, rfl, rfl, rfl, rfl, rfl, rfl, trivial⟩
  · replace h5 : (w 276 (36 * a + 17) : Int) ≥ 0 := by have q : ¬ ((w 276 (36 * a + 17) : Int) < 0) := h5; omega
    refine e_Ok.run (t' := (15, [(0, (1, 275)), (1, (0, a))], [(0, 0)], w)) 1 rfl ?_
    refine e_Ok.rets rfl rfl ?_
    have e163 : w 276 5 = w 276 5 := rfl
    exact ⟨_, rfl, by omega, (e_fr.refl w), hT, by omega, mOr.fr hOr (by omega) (e_Has.orn hT) (e_Has.orw hT (by omega)) (fun k q => by unfold orK at q; exact rfl), (fun b g1 g2 => Or.inr rfl)⟩
set_option maxHeartbeats 4000000 in
theorem c_397 {d : Nat} (hd : 27 ≤ d) {w : eW} (hT : e_Has mTy w) {a : Int} (ha : 0 ≤ a ∧ a ≤ 3) (hOr : mOr w (w 275 40)) (hE : w 276 5 ≤ 2147483600) : e_Ok 20 elay ecode eI d 397 (0, [(0, (1, 275)), (1, (0, a))], [], w) (fun r w' => ∃ z : Int, r = [(0, z)] ∧ (0 ≤ z ∧ z ≤ 1) ∧ e_fr mGr w w' ∧ e_Has mTy w' ∧ (w 276 5 ≤ w' 276 5 ∧ w' 276 5 ≤ w 276 5 + 1) ∧ mOr w' (w 275 40) ∧ (∀ b, 0 ≤ b → b ≤ 3 → w' 276 (36 * b + 20) = 0 ∨ w' 276 (36 * b + 20) = w 276 (36 * b + 20))) := by
  obtain ⟨d, rfl⟩ : ∃ e, d = e + 1 := ⟨d - 1, by omega⟩
  have hja := (e_Has.get hT (c := 286) (k := a) (lo := 0) (hi := 6) rfl (by decide))
  have hpp := e_Has.get hT (c := 275) (k := 40) (lo := 0) (hi := 32) rfl (by decide)
  refine e_Ok.run (t' := (1, [(0, (1, 275)), (1, (0, a))], [(1, 275)], w)) 1 rfl ?_
  refine e_Ok.getr (z := 276) rfl rfl rfl rfl (e_Has.eq hT rfl) (by omega) ?_
  refine e_Ok.run (t' := (5, [(0, (1, 275)), (1, (0, a))], [(0, a), (1, 276)], w)) 1 rfl ?_
  refine e_Ok.callS rfl (by omega) rfl rfl (c_268 (by omega)) (fun r1 w2 h3 => ?_)
  obtain ⟨rfl, rfl⟩ := h3
  show e_Ok 20 elay ecode eI (d + 1) 397 (8, [(0, (1, 275)), (1, (0, a))], [(0, 36 * a + 16), (1, 276)], w) _
  refine e_Ok.run (t' := (9, [(0, (1, 275)), (1, (0, a))], [(0, 1), (0, 36 * a + 16), (1, 276)], w)) 1 rfl ?_
  refine e_Ok.add (z := 36 * a + 17) rfl (by omega) (by omega) ?_
  refine e_Ok.ald (z := w 276 (36 * a + 17)) rfl rfl rfl (by omega) rfl (by omega) ?_
  refine e_Ok.run (t' := (13, [(2, (0, w 276 (36 * a + 17))), (0, (1, 275)), (1, (0, a))], [(0, w 276 (36 * a + 17))], w)) 2 rfl ?_
  refine e_Ok.if1 rfl (fun h4 => ?_) (fun h4 => ?_)
  · replace h4 : (w 276 (36 * a + 17) : Int) ≥ 0 := h4
    have hq := hOr.2.2.2 a ha.1 ha.2 (by omega)
    refine e_Ok.run (t' := (21, [(2, (0, w 276 (36 * a + 17))), (0, (1, 275)), (1, (0, a))], [(0, 0), (0, w 276 (36 * a + 17)), (1, 275)], w)) 3 rfl ?_
    refine e_Ok.callV rfl (by omega) rfl rfl rfl rfl (c_395 (by omega) hT (by omega) (by omega)) (fun r5 w6 h7 => ?_)
    obtain ⟨z9, rfl, q8, q8a, q8b⟩ := h7
    have f10 : e_fr mGr w w6 := e_fr.trans (e_fr.refl w) (e_fr.mono q8 (fun c k q => by unfold mP at q; unfold mGr; omega))
    have q8T : e_Has mTy w6 := mT_P q8 hT
    show e_Ok 20 elay ecode eI (d + 1) 397 (24, [(2, (0, w 276 (36 * a + 17))), (0, (1, 275)), (1, (0, a))], [(0, z9)], w6) _
    refine e_Ok.run (t' := (28, [(3, (0, z9)), (2, (0, w 276 (36 * a + 17))), (0, (1, 275)), (1, (0, a))], [(0, 1), (0, w 276 (36 * a + 17)), (1, 275)], w6)) 4 rfl ?_
    refine e_Ok.callV rfl (by omega) rfl rfl rfl rfl (c_395 (by omega) q8T (by omega) (by omega)) (fun r11 w12 h13 => ?_)
    obtain ⟨z15, rfl, q14, q14a, q14b⟩ := h13
    have f16 : e_fr mGr w w12 := e_fr.trans f10 (e_fr.mono q14 (fun c k q => by unfold mP at q; unfold mGr; omega))
    have q14T : e_Has mTy w12 := mT_P q14 q8T
    show e_Ok 20 elay ecode eI (d + 1) 397 (31, [(3, (0, z9)), (2, (0, w 276 (36 * a + 17))), (0, (1, 275)), (1, (0, a))], [(0, z15)], w12) _
    refine e_Ok.run (t' := (34, [(4, (0, z15)), (3, (0, z9)), (2, (0, w 276 (36 * a + 17))), (0, (1, 275)), (1, (0, a))], [(1, 275)], w12)) 2 rfl ?_
    refine e_Ok.getr (z := 276) rfl rfl rfl rfl ((q14 275 0 (by unfold mP; omega)).trans ((q8 275 0 (by unfold mP; omega)).trans (e_Has.eq hT rfl))) (by omega) ?_
    refine e_Ok.run (t' := (38, [(4, (0, z15)), (3, (0, z9)), (2, (0, w 276 (36 * a + 17))), (0, (1, 275)), (1, (0, a))], [(0, a), (1, 276)], w12)) 1 rfl ?_
    refine e_Ok.callS rfl (by omega) rfl rfl (c_268 (by omega)) (fun r17 w18 h19 => ?_)
    obtain ⟨rfl, rfl⟩ := h19
    show e_Ok 20 elay ecode eI (d + 1) 397 (41, [(4, (0, z15)), (3, (0, z9)), (2, (0, w 276 (36 * a + 17))), (0, (1, 275)), (1, (0, a))], [(0, 36 * a + 16), (1, 276)], w12) _
    refine e_Ok.run (t' := (42, [(4, (0, z15)), (3, (0, z9)), (2, (0, w 276 (36 * a + 17))), (0, (1, 275)), (1, (0, a))], [(0, 1), (0, 36 * a + 16), (1, 276)], w12)) 1 rfl ?_
    refine e_Ok.add (z := 36 * a + 17) rfl (by omega) (by omega) ?_
    refine e_Ok.run (t' := (44, [(4, (0, z15)), (3, (0, z9)), (2, (0, w 276 (36 * a + 17))), (0, (1, 275)), (1, (0, a))], [(0, (-1)), (0, 36 * a + 17), (1, 276)], w12)) 1 rfl ?_
    refine e_Ok.ast rfl rfl rfl rfl (by omega) ?_
    generalize hw20 : e_up w12 276 (36 * a + 17) (-1) = w20
    have f21 : e_fr mGr w w20 := e_fr.up f16 hw20 (by unfold mGr; omega)
    have hT22 : e_Has mTy w20 := e_Has.upr q14T hw20 (nR_HOLDS (a := a) (by omega)) (by omega)
    refine e_Ok.run (t' := (51, [(6, (0, 0)), (5, (0, 0)), (4, (0, z15)), (3, (0, z9)), (2, (0, w 276 (36 * a + 17))), (0, (1, 275)), (1, (0, a))], [], w20)) 4 rfl ?_
    have hL23 : ∀ (nn : Nat) (y5 : Int) (y6 : Int) (v1 : eW), e_fr mGr w v1 ∧ e_Has mTy v1 ∧ (0 ≤ y5 ∧ y5 ≤ 1) ∧ (0 ≤ y6 ∧ y6 ≤ 4) ∧ mOr v1 (w 275 40) ∧ (y5 = 0 → 4 ≤ v1 276 (4 * w 276 (36 * a + 17) + 20576)) ∧ (∀ x, 0 ≤ x → x ≤ 3 → v1 276 (36 * x + 17) ≠ w 276 (36 * a + 17)) ∧ e_fr (mDp a) w v1 → 5 - y6 < nn → e_Ok 20 elay ecode eI (d + 1) 397 (51, [(0, (1, 275)), (1, (0, a)), (2, (0, w 276 (36 * a + 17))), (3, (0, z9)), (4, (0, z15)), (5, (0, y5)), (6, (0, y6))], [], v1) (fun r w' => ∃ z : Int, r = [(0, z)] ∧ (0 ≤ z ∧ z ≤ 1) ∧ e_fr mGr w w' ∧ e_Has mTy w' ∧ (w 276 5 ≤ w' 276 5 ∧ w' 276 5 ≤ w 276 5 + 1) ∧ mOr w' (w 275 40) ∧ (∀ b, 0 ≤ b → b ≤ 3 → w' 276 (36 * b + 20) = 0 ∨ w' 276 (36 * b + 20) = w 276 (36 * b + 20))) := by
      intro nn
      induction nn with
      | zero => intro y5 y6 v1 hj hm; obtain ⟨j25, j26, j27, j28, j29, j30, j31, j32⟩ := hj; exfalso; omega
      | succ nn ih24 =>
        intro y5 y6 v1 hj hm
        obtain ⟨j25, j26, j27, j28, j29, j30, j31, j32⟩ := hj
        refine e_Ok.run (t' := (54, [(0, (1, 275)), (1, (0, a)), (2, (0, w 276 (36 * a + 17))), (3, (0, z9)), (4, (0, z15)), (5, (0, y5)), (6, (0, y6))], [(1, 275), (0, y6)], v1)) 2 rfl ?_
        have h33 := (e_Has.get hT (c := 275) (k := 30) (lo := 0) (hi := 4) rfl (by decide))
        refine e_Ok.getf (z := w 275 30) rfl rfl rfl rfl ((j32 275 30 (by unfold mDp; omega)).trans rfl) (by omega) ?_
        refine e_Ok.if2 rfl (fun h34 => ?_) (fun h34 => ?_)
        · replace h34 : (y6 : Int) ≥ w 275 30 := h34
          refine e_Ok.run (t' := (215, [(0, (1, 275)), (1, (0, a)), (2, (0, w 276 (36 * a + 17))), (3, (0, z9)), (4, (0, z15)), (5, (0, y5)), (6, (0, y6))], [(0, y5)], v1)) 1 rfl ?_
          refine e_Ok.if1 rfl (fun h35 => ?_) (fun h35 => ?_)
          · replace h35 : (y5 : Int) ≠ 0 := h35
            refine e_Ok.run (t' := (228, [(0, (1, 275)), (1, (0, a)), (2, (0, w 276 (36 * a + 17))), (3, (0, z9)), (4, (0, z15)), (5, (0, y5)), (6, (0, y6))], [(0, (-1)), (1, 275)], v1)) 2 rfl ?_
            refine e_Ok.callV rfl (by omega) rfl rfl rfl rfl (c_390 (by omega) j26) (fun r36 w37 h38 => ?_)
            obtain ⟨rfl, q39, q39T, q39a, q39b⟩ := h38
            have f40 : e_fr mGr w w37 := e_fr.trans j25 (e_fr.mono q39 (fun c k q => by unfold mSt at q; unfold mGr; omega))
            show e_Ok 20 elay ecode eI (d + 1) 397 (231, [(0, (1, 275)), (1, (0, a)), (2, (0, w 276 (36 * a + 17))), (3, (0, z9)), (4, (0, z15)), (5, (0, y5)), (6, (0, y6))], [], w37) _
            refine e_Ok.run (t' := (236, [(0, (1, 275)), (1, (0, a)), (2, (0, w 276 (36 * a + 17))), (3, (0, z9)), (4, (0, z15)), (5, (0, y5)), (6, (0, y6))], [(0, w 276 (36 * a + 17)), (0, a), (0, 7), (1, 275)], w37)) 4 rfl ?_
            have e44 : w37 276 5 = w 276 5 := ((q39 276 5 (by unfold mSt; omega)).trans ((j32 276 5 (by unfold mDp; omega)).trans rfl))
            refine e_Ok.callV rfl (by omega) rfl rfl rfl rfl (c_319 q39T (by omega) (by omega) (by omega) (by omega)) (fun r41 w42 h43 => ?_)
            obtain ⟨rfl, q45, q45T, q45n⟩ := h43
            have f46 : e_fr mGr w w42 := e_fr.trans f40 (e_fr.mono q45 (fun c k q => by unfold mE at q; unfold mGr; omega))
            show e_Ok 20 elay ecode eI (d + 1) 397 (239, [(0, (1, 275)), (1, (0, a)), (2, (0, w 276 (36 * a + 17))), (3, (0, z9)), (4, (0, z15)), (5, (0, y5)), (6, (0, y6))], [], w42) _
            refine e_Ok.run (t' := (240, [(0, (1, 275)), (1, (0, a)), (2, (0, w 276 (36 * a + 17))), (3, (0, z9)), (4, (0, z15)), (5, (0, y5)), (6, (0, y6))], [(0, 1)], w42)) 1 rfl ?_
            refine e_Ok.rets rfl rfl ?_
            have e47 : w42 276 5 = w42 276 5 := rfl
            exact ⟨_, rfl, by omega, f46, q45T, by omega, mOr.fr j29 (by omega) (e_Has.orn j26) (e_Has.orw j26 (by omega)) (fun k q => by unfold orK at q; exact ((q45 276 k (by unfold mE; omega)).trans ((q39 276 k (by unfold mSt; omega)).trans rfl))), (fun b g1 g2 => by have e := q39b b g1 g2; rw [show v1 276 (36 * b + 20) = w 276 (36 * b + 20) from ((j32 276 (36 * b + 20) (by unfold mDp; omega)).trans rfl)] at e; rw [show w42 276 (36 * b + 20) = w37 276 (36 * b + 20) from ((q45 276 (36 * b + 20) (by unfold mE; omega)).trans rfl)]; exact e)⟩
          · replace h35 : (y5 : Int) = 0 := by have q : ¬ ((y5 : Int) ≠ 0) := h35; omega
            refine e_Ok.run (t' := (223, [(0, (1, 275)), (1, (0, a)), (2, (0, w 276 (36 * a + 17))), (3, (0, z9)), (4, (0, z15)), (5, (0, y5)), (6, (0, y6))], [(0, z15), (0, z9), (0, w 276 (36 * a + 17)), (1, 275)], v1)) 4 rfl ?_
            refine e_Ok.callV rfl (by omega) rfl rfl rfl rfl (c_394 (by omega) j26 (by omega) (by omega) (by omega)) (fun r48 w49 h50 => ?_)
            obtain ⟨rfl, q51, q51T, q51w⟩ := h50
            have f52 : e_fr mGr w w49 := e_fr.trans j25 (e_fr.mono q51 (fun c k q => by unfold mPa at q; unfold mGr; omega))
            show e_Ok 20 elay ecode eI (d + 1) 397 (226, [(0, (1, 275)), (1, (0, a)), (2, (0, w 276 (36 * a + 17))), (3, (0, z9)), (4, (0, z15)), (5, (0, y5)), (6, (0, y6))], [], w49) _
            refine e_Ok.run (t' := (228, [(0, (1, 275)), (1, (0, a)), (2, (0, w 276 (36 * a + 17))), (3, (0, z9)), (4, (0, z15)), (5, (0, y5)), (6, (0, y6))], [(0, (-1)), (1, 275)], w49)) 2 rfl ?_
            refine e_Ok.callV rfl (by omega) rfl rfl rfl rfl (c_390 (by omega) q51T) (fun r53 w54 h55 => ?_)
            obtain ⟨rfl, q56, q56T, q56a, q56b⟩ := h55
            have f57 : e_fr mGr w w54 := e_fr.trans f52 (e_fr.mono q56 (fun c k q => by unfold mSt at q; unfold mGr; omega))
            show e_Ok 20 elay ecode eI (d + 1) 397 (231, [(0, (1, 275)), (1, (0, a)), (2, (0, w 276 (36 * a + 17))), (3, (0, z9)), (4, (0, z15)), (5, (0, y5)), (6, (0, y6))], [], w54) _
            refine e_Ok.run (t' := (236, [(0, (1, 275)), (1, (0, a)), (2, (0, w 276 (36 * a + 17))), (3, (0, z9)), (4, (0, z15)), (5, (0, y5)), (6, (0, y6))], [(0, w 276 (36 * a + 17)), (0, a), (0, 7), (1, 275)], w54)) 4 rfl ?_
            have e61 : w54 276 5 = w 276 5 := ((q56 276 5 (by unfold mSt; omega)).trans ((q51 276 5 (by unfold mPa; omega)).trans ((j32 276 5 (by unfold mDp; omega)).trans rfl)))
            refine e_Ok.callV rfl (by omega) rfl rfl rfl rfl (c_319 q56T (by omega) (by omega) (by omega) (by omega)) (fun r58 w59 h60 => ?_)
            obtain ⟨rfl, q62, q62T, q62n⟩ := h60
            have f63 : e_fr mGr w w59 := e_fr.trans f57 (e_fr.mono q62 (fun c k q => by unfold mE at q; unfold mGr; omega))
            show e_Ok 20 elay ecode eI (d + 1) 397 (239, [(0, (1, 275)), (1, (0, a)), (2, (0, w 276 (36 * a + 17))), (3, (0, z9)), (4, (0, z15)), (5, (0, y5)), (6, (0, y6))], [], w59) _
            refine e_Ok.run (t' := (240, [(0, (1, 275)), (1, (0, a)), (2, (0, w 276 (36 * a + 17))), (3, (0, z9)), (4, (0, z15)), (5, (0, y5)), (6, (0, y6))], [(0, 1)], w59)) 1 rfl ?_
            refine e_Ok.rets rfl rfl ?_
            have e64 : w59 276 5 = w59 276 5 := rfl
            exact ⟨_, rfl, by omega, f63, q62T, by omega, mOr.lies (p := w 276 (36 * a + 17)) j29 (by omega) (Or.inl ⟨rfl, hq.1⟩) (e_Has.orn j26) (e_Has.orw j26 (by omega)) (by omega) (fun _ => j30 (by omega)) j31 ((q62 276 (4 * w 276 (36 * a + 17) + 20576) (by unfold mE; omega)).trans ((q56 276 (4 * w 276 (36 * a + 17) + 20576) (by unfold mSt; omega)).trans q51w)) (fun k q1 q2 => by unfold orK at q1; exact ((q62 276 k (by unfold mE; omega)).trans ((q56 276 k (by unfold mSt; omega)).trans ((q51 276 k (by unfold mPa; omega)).trans rfl)))), (fun b g1 g2 => by have e := q56b b g1 g2; rw [show w49 276 (36 * b + 20) = w 276 (36 * b + 20) from ((q51 276 (36 * b + 20) (by unfold mPa; omega)).trans ((j32 276 (36 * b + 20) (by unfold mDp; omega)).trans rfl))] at e; rw [show w59 276 (36 * b + 20) = w54 276 (36 * b + 20) from ((q62 276 (36 * b + 20) (by unfold mE; omega)).trans rfl)]; exact e)⟩
        · replace h34 : (y6 : Int) < w 275 30 := by have q : ¬ ((y6 : Int) ≥ w 275 30) := h34; omega
          refine e_Ok.run (t' := (62, [(0, (1, 275)), (1, (0, a)), (2, (0, w 276 (36 * a + 17))), (3, (0, z9)), (4, (0, z15)), (5, (0, y5)), (6, (0, y6))], [(0, y5)], v1)) 1 rfl ?_
          refine e_Ok.if1 rfl (fun h65 => ?_) (fun h65 => ?_)
          · replace h65 : (y5 : Int) ≠ 0 := h65
            refine e_Ok.run (t' := (215, [(0, (1, 275)), (1, (0, a)), (2, (0, w 276 (36 * a + 17))), (3, (0, z9)), (4, (0, z15)), (5, (0, y5)), (6, (0, y6))], [(0, y5)], v1)) 1 rfl ?_
            refine e_Ok.if1 rfl (fun h66 => ?_) (fun h66 => ?_)
            · replace h66 : (y5 : Int) ≠ 0 := h66
              refine e_Ok.run (t' := (228, [(0, (1, 275)), (1, (0, a)), (2, (0, w 276 (36 * a + 17))), (3, (0, z9)), (4, (0, z15)), (5, (0, y5)), (6, (0, y6))], [(0, (-1)), (1, 275)], v1)) 2 rfl ?_
              refine e_Ok.callV rfl (by omega) rfl rfl rfl rfl (c_390 (by omega) j26) (fun r67 w68 h69 => ?_)
              obtain ⟨rfl, q70, q70T, q70a, q70b⟩ := h69
              have f71 : e_fr mGr w w68 := e_fr.trans j25 (e_fr.mono q70 (fun c k q => by unfold mSt at q; unfold mGr; omega))
              show e_Ok 20 elay ecode eI (d + 1) 397 (231, [(0, (1, 275)), (1, (0, a)), (2, (0, w 276 (36 * a + 17))), (3, (0, z9)), (4, (0, z15)), (5, (0, y5)), (6, (0, y6))], [], w68) _
              refine e_Ok.run (t' := (236, [(0, (1, 275)), (1, (0, a)), (2, (0, w 276 (36 * a + 17))), (3, (0, z9)), (4, (0, z15)), (5, (0, y5)), (6, (0, y6))], [(0, w 276 (36 * a + 17)), (0, a), (0, 7), (1, 275)], w68)) 4 rfl ?_
              have e75 : w68 276 5 = w 276 5 := ((q70 276 5 (by unfold mSt; omega)).trans ((j32 276 5 (by unfold mDp; omega)).trans rfl))
              refine e_Ok.callV rfl (by omega) rfl rfl rfl rfl (c_319 q70T (by omega) (by omega) (by omega) (by omega)) (fun r72 w73 h74 => ?_)
              obtain ⟨rfl, q76, q76T, q76n⟩ := h74
              have f77 : e_fr mGr w w73 := e_fr.trans f71 (e_fr.mono q76 (fun c k q => by unfold mE at q; unfold mGr; omega))
              show e_Ok 20 elay ecode eI (d + 1) 397 (239, [(0, (1, 275)), (1, (0, a)), (2, (0, w 276 (36 * a + 17))), (3, (0, z9)), (4, (0, z15)), (5, (0, y5)), (6, (0, y6))], [], w73) _
              refine e_Ok.run (t' := (240, [(0, (1, 275)), (1, (0, a)), (2, (0, w 276 (36 * a + 17))), (3, (0, z9)), (4, (0, z15)), (5, (0, y5)), (6, (0, y6))], [(0, 1)], w73)) 1 rfl ?_
              refine e_Ok.rets rfl rfl ?_
              have e78 : w73 276 5 = w73 276 5 := rfl
              exact ⟨_, rfl, by omega, f77, q76T, by omega, mOr.fr j29 (by omega) (e_Has.orn j26) (e_Has.orw j26 (by omega)) (fun k q => by unfold orK at q; exact ((q76 276 k (by unfold mE; omega)).trans ((q70 276 k (by unfold mSt; omega)).trans rfl))), (fun b g1 g2 => by have e := q70b b g1 g2; rw [show v1 276 (36 * b + 20) = w 276 (36 * b + 20) from ((j32 276 (36 * b + 20) (by unfold mDp; omega)).trans rfl)] at e; rw [show w73 276 (36 * b + 20) = w68 276 (36 * b + 20) from ((q76 276 (36 * b + 20) (by unfold mE; omega)).trans rfl)]; exact e)⟩
            · replace h66 : (y5 : Int) = 0 := by have q : ¬ ((y5 : Int) ≠ 0) := h66; omega
              exfalso; omega
          · replace h65 : (y5 : Int) = 0 := by have q : ¬ ((y5 : Int) ≠ 0) := h65; omega
            refine e_Ok.run (t' := (67, [(0, (1, 275)), (1, (0, a)), (2, (0, w 276 (36 * a + 17))), (3, (0, z9)), (4, (0, z15)), (5, (0, y5)), (6, (0, y6))], [(1, 275), (0, z9)], v1)) 2 rfl ?_
            refine e_Ok.getr (z := 300) rfl rfl rfl rfl ((j32 275 31 (by unfold mDp; omega)).trans (e_Has.eq hT rfl)) (by omega) ?_
            refine e_Ok.run (t' := (72, [(0, (1, 275)), (1, (0, a)), (2, (0, w 276 (36 * a + 17))), (3, (0, z9)), (4, (0, z15)), (5, (0, y5)), (6, (0, y6))], [(0, y6), (1, 300), (0, z9)], v1)) 1 rfl ?_
            have h79 := (e_Has.get hT (c := 300) (k := y6) (lo := (-16000)) (hi := 16000) rfl (by decide))
            refine e_Ok.ald (z := w 300 y6) rfl rfl rfl (by omega) ((j32 300 y6 (by unfold mDp; omega)).trans rfl) (by omega) ?_
            refine e_Ok.any rfl (eF_sub_any _ _) (fun z80 z80a z80b => ?_)
            refine e_Ok.run (t' := (79, [(7, (0, z80)), (0, (1, 275)), (1, (0, a)), (2, (0, w 276 (36 * a + 17))), (3, (0, z9)), (4, (0, z15)), (5, (0, y5)), (6, (0, y6))], [(1, 275), (0, z15)], v1)) 3 rfl ?_
            refine e_Ok.getr (z := 301) rfl rfl rfl rfl ((j32 275 32 (by unfold mDp; omega)).trans (e_Has.eq hT rfl)) (by omega) ?_
            refine e_Ok.run (t' := (84, [(7, (0, z80)), (0, (1, 275)), (1, (0, a)), (2, (0, w 276 (36 * a + 17))), (3, (0, z9)), (4, (0, z15)), (5, (0, y5)), (6, (0, y6))], [(0, y6), (1, 301), (0, z15)], v1)) 1 rfl ?_
            have h81 := (e_Has.get hT (c := 301) (k := y6) (lo := (-16000)) (hi := 16000) rfl (by decide))
            refine e_Ok.ald (z := w 301 y6) rfl rfl rfl (by omega) ((j32 301 y6 (by unfold mDp; omega)).trans rfl) (by omega) ?_
            refine e_Ok.any rfl (eF_sub_any _ _) (fun z82 z82a z82b => ?_)
            refine e_Ok.run (t' := (89, [(8, (0, z82)), (7, (0, z80)), (0, (1, 275)), (1, (0, a)), (2, (0, w 276 (36 * a + 17))), (3, (0, z9)), (4, (0, z15)), (5, (0, y5)), (6, (0, y6))], [(1, 275)], v1)) 2 rfl ?_
            refine e_Ok.getr (z := 302) rfl rfl rfl rfl ((j32 275 33 (by unfold mDp; omega)).trans (e_Has.eq hT rfl)) (by omega) ?_
            refine e_Ok.run (t' := (94, [(8, (0, z82)), (7, (0, z80)), (0, (1, 275)), (1, (0, a)), (2, (0, w 276 (36 * a + 17))), (3, (0, z9)), (4, (0, z15)), (5, (0, y5)), (6, (0, y6))], [(0, y6), (1, 302)], v1)) 1 rfl ?_
            have h83 := (e_Has.get hT (c := 302) (k := y6) (lo := 0) (hi := 3) rfl (by decide))
            refine e_Ok.ald (z := w 302 y6) rfl rfl rfl (by omega) ((j32 302 y6 (by unfold mDp; omega)).trans rfl) (by omega) ?_
            refine e_Ok.run (t' := (96, [(8, (0, z82)), (7, (0, z80)), (0, (1, 275)), (1, (0, a)), (2, (0, w 276 (36 * a + 17))), (3, (0, z9)), (4, (0, z15)), (5, (0, y5)), (6, (0, y6))], [(0, 2), (0, w 302 y6)], v1)) 1 rfl ?_
            refine e_Ok.remn (fun z84 hz84 => ?_) rfl (by omega) (by omega)
            replace hz84 : z84 = (w 302 y6) % 2 := hz84
            have z84r : 0 ≤ z84 ∧ z84 ≤ 1 := by omega
            have hJ87 : ∀ m86 : Int, (-2147483648) ≤ m86 ∧ m86 ≤ 2147483647 → e_Ok 20 elay ecode eI (d + 1) 397 (107, [(8, (0, z82)), (7, (0, z80)), (0, (1, 275)), (1, (0, a)), (2, (0, w 276 (36 * a + 17))), (3, (0, z9)), (4, (0, z15)), (5, (0, y5)), (6, (0, y6))], [(0, m86)], v1) (fun r w' => ∃ z : Int, r = [(0, z)] ∧ (0 ≤ z ∧ z ≤ 1) ∧ e_fr mGr w w' ∧ e_Has mTy w' ∧ (w 276 5 ≤ w' 276 5 ∧ w' 276 5 ≤ w 276 5 + 1) ∧ mOr w' (w 275 40) ∧ (∀ b, 0 ≤ b → b ≤ 3 → w' 276 (36 * b + 20) = 0 ∨ w' 276 (36 * b + 20) = w 276 (36 * b + 20))) := by
              intro m86 m86r
              refine e_Ok.run (t' := (110, [(9, (0, m86)), (8, (0, z82)), (7, (0, z80)), (0, (1, 275)), (1, (0, a)), (2, (0, w 276 (36 * a + 17))), (3, (0, z9)), (4, (0, z15)), (5, (0, y5)), (6, (0, y6))], [(1, 275)], v1)) 2 rfl ?_
              refine e_Ok.getr (z := 302) rfl rfl rfl rfl ((j32 275 33 (by unfold mDp; omega)).trans (e_Has.eq hT rfl)) (by omega) ?_
              refine e_Ok.run (t' := (115, [(9, (0, m86)), (8, (0, z82)), (7, (0, z80)), (0, (1, 275)), (1, (0, a)), (2, (0, w 276 (36 * a + 17))), (3, (0, z9)), (4, (0, z15)), (5, (0, y5)), (6, (0, y6))], [(0, y6), (1, 302)], v1)) 1 rfl ?_
              refine e_Ok.ald (z := w 302 y6) rfl rfl rfl (by omega) ((j32 302 y6 (by unfold mDp; omega)).trans rfl) (by omega) ?_
              refine e_Ok.run (t' := (117, [(9, (0, m86)), (8, (0, z82)), (7, (0, z80)), (0, (1, 275)), (1, (0, a)), (2, (0, w 276 (36 * a + 17))), (3, (0, z9)), (4, (0, z15)), (5, (0, y5)), (6, (0, y6))], [(0, 2), (0, w 302 y6)], v1)) 1 rfl ?_
              refine e_Ok.remn (fun z88 hz88 => ?_) rfl (by omega) (by omega)
              replace hz88 : z88 = (w 302 y6) % 2 := hz88
              have z88r : 0 ≤ z88 ∧ z88 ≤ 1 := by omega
              have hJ91 : ∀ m90 : Int, (-2147483648) ≤ m90 ∧ m90 ≤ 2147483647 → e_Ok 20 elay ecode eI (d + 1) 397 (128, [(9, (0, m86)), (8, (0, z82)), (7, (0, z80)), (0, (1, 275)), (1, (0, a)), (2, (0, w 276 (36 * a + 17))), (3, (0, z9)), (4, (0, z15)), (5, (0, y5)), (6, (0, y6))], [(0, m90)], v1) (fun r w' => ∃ z : Int, r = [(0, z)] ∧ (0 ≤ z ∧ z ≤ 1) ∧ e_fr mGr w w' ∧ e_Has mTy w' ∧ (w 276 5 ≤ w' 276 5 ∧ w' 276 5 ≤ w 276 5 + 1) ∧ mOr w' (w 275 40) ∧ (∀ b, 0 ≤ b → b ≤ 3 → w' 276 (36 * b + 20) = 0 ∨ w' 276 (36 * b + 20) = w 276 (36 * b + 20))) := by
                intro m90 m90r
                refine e_Ok.run (t' := (131, [(10, (0, m90)), (9, (0, m86)), (8, (0, z82)), (7, (0, z80)), (0, (1, 275)), (1, (0, a)), (2, (0, w 276 (36 * a + 17))), (3, (0, z9)), (4, (0, z15)), (5, (0, y5)), (6, (0, y6))], [(1, 275)], v1)) 2 rfl ?_
                refine e_Ok.getr (z := 302) rfl rfl rfl rfl ((j32 275 33 (by unfold mDp; omega)).trans (e_Has.eq hT rfl)) (by omega) ?_
                refine e_Ok.run (t' := (136, [(10, (0, m90)), (9, (0, m86)), (8, (0, z82)), (7, (0, z80)), (0, (1, 275)), (1, (0, a)), (2, (0, w 276 (36 * a + 17))), (3, (0, z9)), (4, (0, z15)), (5, (0, y5)), (6, (0, y6))], [(0, y6), (1, 302)], v1)) 1 rfl ?_
                refine e_Ok.ald (z := w 302 y6) rfl rfl rfl (by omega) ((j32 302 y6 (by unfold mDp; omega)).trans rfl) (by omega) ?_
                refine e_Ok.run (t' := (138, [(10, (0, m90)), (9, (0, m86)), (8, (0, z82)), (7, (0, z80)), (0, (1, 275)), (1, (0, a)), (2, (0, w 276 (36 * a + 17))), (3, (0, z9)), (4, (0, z15)), (5, (0, y5)), (6, (0, y6))], [(0, 2), (0, w 302 y6)], v1)) 1 rfl ?_
                refine e_Ok.if2 rfl (fun h92 => ?_) (fun h92 => ?_)
                · replace h92 : (w 302 y6 : Int) ≥ 2 := h92
                  refine e_Ok.run (t' := (148, [(10, (0, m90)), (9, (0, m86)), (8, (0, z82)), (7, (0, z80)), (0, (1, 275)), (1, (0, a)), (2, (0, w 276 (36 * a + 17))), (3, (0, z9)), (4, (0, z15)), (5, (0, y5)), (6, (0, y6))], [(0, m86)], v1)) 1 rfl ?_
                  refine e_Ok.anyU rfl (fun z93 z93a z93b => ?_)
                  refine e_Ok.run (t' := (156, [(9, (0, z93)), (10, (0, m90)), (8, (0, z82)), (7, (0, z80)), (0, (1, 275)), (1, (0, a)), (2, (0, w 276 (36 * a + 17))), (3, (0, z9)), (4, (0, z15)), (5, (0, y5)), (6, (0, y6))], [(1, 275), (4, 0), (4, z93)], v1)) 5 rfl ?_
                  refine e_Ok.getr (z := 303) rfl rfl rfl rfl ((j32 275 34 (by unfold mDp; omega)).trans (e_Has.eq hT rfl)) (by omega) ?_
                  refine e_Ok.run (t' := (161, [(9, (0, z93)), (10, (0, m90)), (8, (0, z82)), (7, (0, z80)), (0, (1, 275)), (1, (0, a)), (2, (0, w 276 (36 * a + 17))), (3, (0, z9)), (4, (0, z15)), (5, (0, y5)), (6, (0, y6))], [(0, y6), (1, 303), (4, 0), (4, z93)], v1)) 1 rfl ?_
                  have h94 := (e_Has.get hT (c := 303) (k := y6) (lo := 0) (hi := 16000) rfl (by decide))
                  refine e_Ok.ald (z := w 303 y6) rfl rfl rfl (by omega) ((j32 303 y6 (by unfold mDp; omega)).trans rfl) (by omega) ?_
                  refine e_Ok.run (t' := (163, [(9, (0, z93)), (10, (0, m90)), (8, (0, z82)), (7, (0, z80)), (0, (1, 275)), (1, (0, a)), (2, (0, w 276 (36 * a + 17))), (3, (0, z9)), (4, (0, z15)), (5, (0, y5)), (6, (0, y6))], [(4, w 303 y6), (4, 0), (4, z93)], v1)) 1 rfl ?_
                  refine e_Ok.callS rfl (by omega) rfl rfl (c_266) (fun r95 w96 h97 => ?_)
                  obtain ⟨z98, rfl, rfl, q99⟩ := h97
                  obtain ⟨rfl, q99⟩ | ⟨rfl, q99⟩ := q99
                  · show e_Ok 20 elay ecode eI (d + 1) 397 (166, [(9, (0, z93)), (10, (0, m90)), (8, (0, z82)), (7, (0, z80)), (0, (1, 275)), (1, (0, a)), (2, (0, w 276 (36 * a + 17))), (3, (0, z9)), (4, (0, z15)), (5, (0, y5)), (6, (0, y6))], [(0, 1)], v1) _
                    refine e_Ok.if1 rfl (fun h100 => ?_) (fun h100 => ?_)
                    · replace h100 : (1 : Int) = 0 := h100
                      exfalso; omega
                    · replace h100 : (1 : Int) ≠ 0 := by have q : ¬ ((1 : Int) = 0) := h100; omega
                      refine e_Ok.run (t' := (173, [(9, (0, z93)), (10, (0, m90)), (8, (0, z82)), (7, (0, z80)), (0, (1, 275)), (1, (0, a)), (2, (0, w 276 (36 * a + 17))), (3, (0, z9)), (4, (0, z15)), (5, (0, y5)), (6, (0, y6))], [(1, 275), (4, m90)], v1)) 3 rfl ?_
                      refine e_Ok.getr (z := 305) rfl rfl rfl rfl ((j32 275 36 (by unfold mDp; omega)).trans (e_Has.eq hT rfl)) (by omega) ?_
                      refine e_Ok.run (t' := (178, [(9, (0, z93)), (10, (0, m90)), (8, (0, z82)), (7, (0, z80)), (0, (1, 275)), (1, (0, a)), (2, (0, w 276 (36 * a + 17))), (3, (0, z9)), (4, (0, z15)), (5, (0, y5)), (6, (0, y6))], [(0, y6), (1, 305), (4, m90)], v1)) 1 rfl ?_
                      have h101 := (e_Has.get hT (c := 305) (k := y6) (lo := 0) (hi := 2000) rfl (by decide))
                      refine e_Ok.ald (z := w 305 y6) rfl rfl rfl (by omega) ((j32 305 y6 (by unfold mDp; omega)).trans rfl) (by omega) ?_
                      refine e_Ok.neg (z := -w 305 y6) rfl (by omega) (by omega) ?_
                      refine e_Ok.run (t' := (182, [(9, (0, z93)), (10, (0, m90)), (8, (0, z82)), (7, (0, z80)), (0, (1, 275)), (1, (0, a)), (2, (0, w 276 (36 * a + 17))), (3, (0, z9)), (4, (0, z15)), (5, (0, y5)), (6, (0, y6))], [(1, 275), (4, -w 305 y6), (4, m90)], v1)) 2 rfl ?_
                      refine e_Ok.getr (z := 305) rfl rfl rfl rfl ((j32 275 36 (by unfold mDp; omega)).trans (e_Has.eq hT rfl)) (by omega) ?_
                      refine e_Ok.run (t' := (187, [(9, (0, z93)), (10, (0, m90)), (8, (0, z82)), (7, (0, z80)), (0, (1, 275)), (1, (0, a)), (2, (0, w 276 (36 * a + 17))), (3, (0, z9)), (4, (0, z15)), (5, (0, y5)), (6, (0, y6))], [(0, y6), (1, 305), (4, -w 305 y6), (4, m90)], v1)) 1 rfl ?_
                      refine e_Ok.ald (z := w 305 y6) rfl rfl rfl (by omega) ((j32 305 y6 (by unfold mDp; omega)).trans rfl) (by omega) ?_
                      refine e_Ok.run (t' := (189, [(9, (0, z93)), (10, (0, m90)), (8, (0, z82)), (7, (0, z80)), (0, (1, 275)), (1, (0, a)), (2, (0, w 276 (36 * a + 17))), (3, (0, z9)), (4, (0, z15)), (5, (0, y5)), (6, (0, y6))], [(4, w 305 y6), (4, -w 305 y6), (4, m90)], v1)) 1 rfl ?_
                      refine e_Ok.callS rfl (by omega) rfl rfl (c_266) (fun r102 w103 h104 => ?_)
                      obtain ⟨z105, rfl, rfl, q106⟩ := h104
                      obtain ⟨rfl, q106⟩ | ⟨rfl, q106⟩ := q106
                      · show e_Ok 20 elay ecode eI (d + 1) 397 (192, [(9, (0, z93)), (10, (0, m90)), (8, (0, z82)), (7, (0, z80)), (0, (1, 275)), (1, (0, a)), (2, (0, w 276 (36 * a + 17))), (3, (0, z9)), (4, (0, z15)), (5, (0, y5)), (6, (0, y6))], [(0, 1)], v1) _
                        refine e_Ok.if1 rfl (fun h107 => ?_) (fun h107 => ?_)
                        · replace h107 : (1 : Int) = 0 := h107
                          exfalso; omega
                        · replace h107 : (1 : Int) ≠ 0 := by have q : ¬ ((1 : Int) = 0) := h107; omega
                          refine e_Ok.run (t' := (204, [(5, (0, 1)), (9, (0, z93)), (10, (0, m90)), (8, (0, z82)), (7, (0, z80)), (0, (1, 275)), (1, (0, a)), (2, (0, w 276 (36 * a + 17))), (3, (0, z9)), (4, (0, z15)), (6, (0, y6))], [(0, z93), (0, y6), (0, w 276 (36 * a + 17)), (1, 275)], v1)) 6 rfl ?_
                          refine e_Ok.callV rfl (by omega) rfl rfl rfl rfl (c_393 (by omega) j26 (m := w 275 40) (m' := w 275 40) j29 (by omega) (Or.inl ⟨rfl, hq.1⟩) (by omega) (by omega) (by omega) (fun _ => j30 (by omega)) j31) (fun r108 w109 h110 => ?_)
                          obtain ⟨rfl, q111, q111T, q111o⟩ := h110
                          have f112 : e_fr mGr w w109 := e_fr.trans j25 (e_fr.mono q111 (fun c k q => by unfold mCo at q; unfold mGr; omega))
                          show e_Ok 20 elay ecode eI (d + 1) 397 (207, [(5, (0, 1)), (9, (0, z93)), (10, (0, m90)), (8, (0, z82)), (7, (0, z80)), (0, (1, 275)), (1, (0, a)), (2, (0, w 276 (36 * a + 17))), (3, (0, z9)), (4, (0, z15)), (6, (0, y6))], [], w109) _
                          refine e_Ok.inc (z := y6 + 1) rfl rfl (by omega) (by omega) ?_
                          show e_Ok 20 elay ecode eI (d + 1) 397 (210, [(6, (0, y6 + 1)), (5, (0, 1)), (9, (0, z93)), (10, (0, m90)), (8, (0, z82)), (7, (0, z80)), (0, (1, 275)), (1, (0, a)), (2, (0, w 276 (36 * a + 17))), (3, (0, z9)), (4, (0, z15))], [], w109) _
                          refine e_Ok.run (t' := (51, [(6, (0, y6 + 1)), (5, (0, 1)), (9, (0, z93)), (10, (0, m90)), (8, (0, z82)), (7, (0, z80)), (0, (1, 275)), (1, (0, a)), (2, (0, w 276 (36 * a + 17))), (3, (0, z9)), (4, (0, z15))], [], w109)) 1 rfl ?_
                          refine e_Ok.sub eAlk (e_sub_of rfl ?_) (ih24 1 (y6 + 1) w109 ⟨f112, q111T, by omega, by omega, q111o, (fun e => by omega), (fun x g1 g2 => by rw [show w109 276 (36 * x + 17) = v1 276 (36 * x + 17) from ((q111 276 (36 * x + 17) (by unfold mCo; omega)).trans rfl)]; exact j31 x g1 g2), (e_fr.trans j32 (e_fr.mono q111 (fun c k q => by unfold mCo at q; unfold mDp; omega)))⟩ (by omega))
                          exact ⟨rfl, rfl, rfl, rfl, rfl, rfl, rfl, trivial⟩
                      · show e_Ok 20 elay ecode eI (d + 1) 397 (192, [(9, (0, z93)), (10, (0, m90)), (8, (0, z82)), (7, (0, z80)), (0, (1, 275)), (1, (0, a)), (2, (0, w 276 (36 * a + 17))), (3, (0, z9)), (4, (0, z15)), (5, (0, y5)), (6, (0, y6))], [(0, 0)], v1) _
                        refine e_Ok.if1 rfl (fun h113 => ?_) (fun h113 => ?_)
                        · replace h113 : (0 : Int) = 0 := h113
                          refine e_Ok.inc (z := y6 + 1) rfl rfl (by omega) (by omega) ?_
                          show e_Ok 20 elay ecode eI (d + 1) 397 (210, [(6, (0, y6 + 1)), (9, (0, z93)), (10, (0, m90)), (8, (0, z82)), (7, (0, z80)), (0, (1, 275)), (1, (0, a)), (2, (0, w 276 (36 * a + 17))), (3, (0, z9)), (4, (0, z15)), (5, (0, y5))], [], v1) _
                          refine e_Ok.run (t' := (51, [(6, (0, y6 + 1)), (9, (0, z93)), (10, (0, m90)), (8, (0, z82)), (7, (0, z80)), (0, (1, 275)), (1, (0, a)), (2, (0, w 276 (36 * a + 17))), (3, (0, z9)), (4, (0, z15)), (5, (0, y5))], [], v1)) 1 rfl ?_
                          refine e_Ok.sub eAlk (e_sub_of rfl ?_) (ih24 y5 (y6 + 1) v1 ⟨j25, j26, by omega, by omega, j29, j30, j31, j32⟩ (by omega))
                          exact ⟨rfl, rfl, rfl, rfl, rfl, rfl, rfl, trivial⟩
                        · replace h113 : (0 : Int) ≠ 0 := by have q : ¬ ((0 : Int) = 0) := h113; omega
                          exfalso; omega
                  · show e_Ok 20 elay ecode eI (d + 1) 397 (166, [(9, (0, z93)), (10, (0, m90)), (8, (0, z82)), (7, (0, z80)), (0, (1, 275)), (1, (0, a)), (2, (0, w 276 (36 * a + 17))), (3, (0, z9)), (4, (0, z15)), (5, (0, y5)), (6, (0, y6))], [(0, 0)], v1) _
                    refine e_Ok.if1 rfl (fun h114 => ?_) (fun h114 => ?_)
                    · replace h114 : (0 : Int) = 0 := h114
                      refine e_Ok.inc (z := y6 + 1) rfl rfl (by omega) (by omega) ?_
                      show e_Ok 20 elay ecode eI (d + 1) 397 (210, [(6, (0, y6 + 1)), (9, (0, z93)), (10, (0, m90)), (8, (0, z82)), (7, (0, z80)), (0, (1, 275)), (1, (0, a)), (2, (0, w 276 (36 * a + 17))), (3, (0, z9)), (4, (0, z15)), (5, (0, y5))], [], v1) _
                      refine e_Ok.run (t' := (51, [(6, (0, y6 + 1)), (9, (0, z93)), (10, (0, m90)), (8, (0, z82)), (7, (0, z80)), (0, (1, 275)), (1, (0, a)), (2, (0, w 276 (36 * a + 17))), (3, (0, z9)), (4, (0, z15)), (5, (0, y5))], [], v1)) 1 rfl ?_
                      refine e_Ok.sub eAlk (e_sub_of rfl ?_) (ih24 y5 (y6 + 1) v1 ⟨j25, j26, by omega, by omega, j29, j30, j31, j32⟩ (by omega))
                      exact ⟨rfl, rfl, rfl, rfl, rfl, rfl, rfl, trivial⟩
                    · replace h114 : (0 : Int) ≠ 0 := by have q : ¬ ((0 : Int) = 0) := h114; omega
                      exfalso; omega
                · replace h92 : (w 302 y6 : Int) < 2 := by have q : ¬ ((w 302 y6 : Int) ≥ 2) := h92; omega
                  refine e_Ok.run (t' := (156, [(9, (0, m86)), (10, (0, m90)), (8, (0, z82)), (7, (0, z80)), (0, (1, 275)), (1, (0, a)), (2, (0, w 276 (36 * a + 17))), (3, (0, z9)), (4, (0, z15)), (5, (0, y5)), (6, (0, y6))], [(1, 275), (4, 0), (4, m86)], v1)) 7 rfl ?_
                  refine e_Ok.getr (z := 303) rfl rfl rfl rfl ((j32 275 34 (by unfold mDp; omega)).trans (e_Has.eq hT rfl)) (by omega) ?_
                  refine e_Ok.run (t' := (161, [(9, (0, m86)), (10, (0, m90)), (8, (0, z82)), (7, (0, z80)), (0, (1, 275)), (1, (0, a)), (2, (0, w 276 (36 * a + 17))), (3, (0, z9)), (4, (0, z15)), (5, (0, y5)), (6, (0, y6))], [(0, y6), (1, 303), (4, 0), (4, m86)], v1)) 1 rfl ?_
                  have h115 := (e_Has.get hT (c := 303) (k := y6) (lo := 0) (hi := 16000) rfl (by decide))
                  refine e_Ok.ald (z := w 303 y6) rfl rfl rfl (by omega) ((j32 303 y6 (by unfold mDp; omega)).trans rfl) (by omega) ?_
                  refine e_Ok.run (t' := (163, [(9, (0, m86)), (10, (0, m90)), (8, (0, z82)), (7, (0, z80)), (0, (1, 275)), (1, (0, a)), (2, (0, w 276 (36 * a + 17))), (3, (0, z9)), (4, (0, z15)), (5, (0, y5)), (6, (0, y6))], [(4, w 303 y6), (4, 0), (4, m86)], v1)) 1 rfl ?_
                  refine e_Ok.callS rfl (by omega) rfl rfl (c_266) (fun r116 w117 h118 => ?_)
                  obtain ⟨z119, rfl, rfl, q120⟩ := h118
                  obtain ⟨rfl, q120⟩ | ⟨rfl, q120⟩ := q120
                  · show e_Ok 20 elay ecode eI (d + 1) 397 (166, [(9, (0, m86)), (10, (0, m90)), (8, (0, z82)), (7, (0, z80)), (0, (1, 275)), (1, (0, a)), (2, (0, w 276 (36 * a + 17))), (3, (0, z9)), (4, (0, z15)), (5, (0, y5)), (6, (0, y6))], [(0, 1)], v1) _
                    refine e_Ok.if1 rfl (fun h121 => ?_) (fun h121 => ?_)
                    · replace h121 : (1 : Int) = 0 := h121
                      exfalso; omega
                    · replace h121 : (1 : Int) ≠ 0 := by have q : ¬ ((1 : Int) = 0) := h121; omega
                      refine e_Ok.run (t' := (173, [(9, (0, m86)), (10, (0, m90)), (8, (0, z82)), (7, (0, z80)), (0, (1, 275)), (1, (0, a)), (2, (0, w 276 (36 * a + 17))), (3, (0, z9)), (4, (0, z15)), (5, (0, y5)), (6, (0, y6))], [(1, 275), (4, m90)], v1)) 3 rfl ?_
                      refine e_Ok.getr (z := 305) rfl rfl rfl rfl ((j32 275 36 (by unfold mDp; omega)).trans (e_Has.eq hT rfl)) (by omega) ?_
                      refine e_Ok.run (t' := (178, [(9, (0, m86)), (10, (0, m90)), (8, (0, z82)), (7, (0, z80)), (0, (1, 275)), (1, (0, a)), (2, (0, w 276 (36 * a + 17))), (3, (0, z9)), (4, (0, z15)), (5, (0, y5)), (6, (0, y6))], [(0, y6), (1, 305), (4, m90)], v1)) 1 rfl ?_
                      have h122 := (e_Has.get hT (c := 305) (k := y6) (lo := 0) (hi := 2000) rfl (by decide))
                      refine e_Ok.ald (z := w 305 y6) rfl rfl rfl (by omega) ((j32 305 y6 (by unfold mDp; omega)).trans rfl) (by omega) ?_
                      refine e_Ok.neg (z := -w 305 y6) rfl (by omega) (by omega) ?_
                      refine e_Ok.run (t' := (182, [(9, (0, m86)), (10, (0, m90)), (8, (0, z82)), (7, (0, z80)), (0, (1, 275)), (1, (0, a)), (2, (0, w 276 (36 * a + 17))), (3, (0, z9)), (4, (0, z15)), (5, (0, y5)), (6, (0, y6))], [(1, 275), (4, -w 305 y6), (4, m90)], v1)) 2 rfl ?_
                      refine e_Ok.getr (z := 305) rfl rfl rfl rfl ((j32 275 36 (by unfold mDp; omega)).trans (e_Has.eq hT rfl)) (by omega) ?_
                      refine e_Ok.run (t' := (187, [(9, (0, m86)), (10, (0, m90)), (8, (0, z82)), (7, (0, z80)), (0, (1, 275)), (1, (0, a)), (2, (0, w 276 (36 * a + 17))), (3, (0, z9)), (4, (0, z15)), (5, (0, y5)), (6, (0, y6))], [(0, y6), (1, 305), (4, -w 305 y6), (4, m90)], v1)) 1 rfl ?_
                      refine e_Ok.ald (z := w 305 y6) rfl rfl rfl (by omega) ((j32 305 y6 (by unfold mDp; omega)).trans rfl) (by omega) ?_
                      refine e_Ok.run (t' := (189, [(9, (0, m86)), (10, (0, m90)), (8, (0, z82)), (7, (0, z80)), (0, (1, 275)), (1, (0, a)), (2, (0, w 276 (36 * a + 17))), (3, (0, z9)), (4, (0, z15)), (5, (0, y5)), (6, (0, y6))], [(4, w 305 y6), (4, -w 305 y6), (4, m90)], v1)) 1 rfl ?_
                      refine e_Ok.callS rfl (by omega) rfl rfl (c_266) (fun r123 w124 h125 => ?_)
                      obtain ⟨z126, rfl, rfl, q127⟩ := h125
                      obtain ⟨rfl, q127⟩ | ⟨rfl, q127⟩ := q127
                      · show e_Ok 20 elay ecode eI (d + 1) 397 (192, [(9, (0, m86)), (10, (0, m90)), (8, (0, z82)), (7, (0, z80)), (0, (1, 275)), (1, (0, a)), (2, (0, w 276 (36 * a + 17))), (3, (0, z9)), (4, (0, z15)), (5, (0, y5)), (6, (0, y6))], [(0, 1)], v1) _
                        refine e_Ok.if1 rfl (fun h128 => ?_) (fun h128 => ?_)
                        · replace h128 : (1 : Int) = 0 := h128
                          exfalso; omega
                        · replace h128 : (1 : Int) ≠ 0 := by have q : ¬ ((1 : Int) = 0) := h128; omega
                          refine e_Ok.run (t' := (204, [(5, (0, 1)), (9, (0, m86)), (10, (0, m90)), (8, (0, z82)), (7, (0, z80)), (0, (1, 275)), (1, (0, a)), (2, (0, w 276 (36 * a + 17))), (3, (0, z9)), (4, (0, z15)), (6, (0, y6))], [(0, m86), (0, y6), (0, w 276 (36 * a + 17)), (1, 275)], v1)) 6 rfl ?_
                          refine e_Ok.callV rfl (by omega) rfl rfl rfl rfl (c_393 (by omega) j26 (m := w 275 40) (m' := w 275 40) j29 (by omega) (Or.inl ⟨rfl, hq.1⟩) (by omega) (by omega) (by omega) (fun _ => j30 (by omega)) j31) (fun r129 w130 h131 => ?_)
                          obtain ⟨rfl, q132, q132T, q132o⟩ := h131
                          have f133 : e_fr mGr w w130 := e_fr.trans j25 (e_fr.mono q132 (fun c k q => by unfold mCo at q; unfold mGr; omega))
                          show e_Ok 20 elay ecode eI (d + 1) 397 (207, [(5, (0, 1)), (9, (0, m86)), (10, (0, m90)), (8, (0, z82)), (7, (0, z80)), (0, (1, 275)), (1, (0, a)), (2, (0, w 276 (36 * a + 17))), (3, (0, z9)), (4, (0, z15)), (6, (0, y6))], [], w130) _
                          refine e_Ok.inc (z := y6 + 1) rfl rfl (by omega) (by omega) ?_
                          show e_Ok 20 elay ecode eI (d + 1) 397 (210, [(6, (0, y6 + 1)), (5, (0, 1)), (9, (0, m86)), (10, (0, m90)), (8, (0, z82)), (7, (0, z80)), (0, (1, 275)), (1, (0, a)), (2, (0, w 276 (36 * a + 17))), (3, (0, z9)), (4, (0, z15))], [], w130) _
                          refine e_Ok.run (t' := (51, [(6, (0, y6 + 1)), (5, (0, 1)), (9, (0, m86)), (10, (0, m90)), (8, (0, z82)), (7, (0, z80)), (0, (1, 275)), (1, (0, a)), (2, (0, w 276 (36 * a + 17))), (3, (0, z9)), (4, (0, z15))], [], w130)) 1 rfl ?_
                          refine e_Ok.sub eAlk (e_sub_of rfl ?_) (ih24 1 (y6 + 1) w130 ⟨f133, q132T, by omega, by omega, q132o, (fun e => by omega), (fun x g1 g2 => by rw [show w130 276 (36 * x + 17) = v1 276 (36 * x + 17) from ((q132 276 (36 * x + 17) (by unfold mCo; omega)).trans rfl)]; exact j31 x g1 g2), (e_fr.trans j32 (e_fr.mono q132 (fun c k q => by unfold mCo at q; unfold mDp; omega)))⟩ (by omega))
                          exact ⟨rfl, rfl, rfl, rfl, rfl, rfl, rfl, trivial⟩
                      · show e_Ok 20 elay ecode eI (d + 1) 397 (192, [(9, (0, m86)), (10, (0, m90)), (8, (0, z82)), (7, (0, z80)), (0, (1, 275)), (1, (0, a)), (2, (0, w 276 (36 * a + 17))), (3, (0, z9)), (4, (0, z15)), (5, (0, y5)), (6, (0, y6))], [(0, 0)], v1) _
                        refine e_Ok.if1 rfl (fun h134 => ?_) (fun h134 => ?_)
                        · replace h134 : (0 : Int) = 0 := h134
                          refine e_Ok.inc (z := y6 + 1) rfl rfl (by omega) (by omega) ?_
                          show e_Ok 20 elay ecode eI (d + 1) 397 (210, [(6, (0, y6 + 1)), (9, (0, m86)), (10, (0, m90)), (8, (0, z82)), (7, (0, z80)), (0, (1, 275)), (1, (0, a)), (2, (0, w 276 (36 * a + 17))), (3, (0, z9)), (4, (0, z15)), (5, (0, y5))], [], v1) _
                          refine e_Ok.run (t' := (51, [(6, (0, y6 + 1)), (9, (0, m86)), (10, (0, m90)), (8, (0, z82)), (7, (0, z80)), (0, (1, 275)), (1, (0, a)), (2, (0, w 276 (36 * a + 17))), (3, (0, z9)), (4, (0, z15)), (5, (0, y5))], [], v1)) 1 rfl ?_
                          refine e_Ok.sub eAlk (e_sub_of rfl ?_) (ih24 y5 (y6 + 1) v1 ⟨j25, j26, by omega, by omega, j29, j30, j31, j32⟩ (by omega))
                          exact ⟨rfl, rfl, rfl, rfl, rfl, rfl, rfl, trivial⟩
                        · replace h134 : (0 : Int) ≠ 0 := by have q : ¬ ((0 : Int) = 0) := h134; omega
                          exfalso; omega
                  · show e_Ok 20 elay ecode eI (d + 1) 397 (166, [(9, (0, m86)), (10, (0, m90)), (8, (0, z82)), (7, (0, z80)), (0, (1, 275)), (1, (0, a)), (2, (0, w 276 (36 * a + 17))), (3, (0, z9)), (4, (0, z15)), (5, (0, y5)), (6, (0, y6))], [(0, 0)], v1) _
                    refine e_Ok.if1 rfl (fun h135 => ?_) (fun h135 => ?_)
                    · replace h135 : (0 : Int) = 0 := h135
                      refine e_Ok.inc (z := y6 + 1) rfl rfl (by omega) (by omega) ?_
                      show e_Ok 20 elay ecode eI (d + 1) 397 (210, [(6, (0, y6 + 1)), (9, (0, m86)), (10, (0, m90)), (8, (0, z82)), (7, (0, z80)), (0, (1, 275)), (1, (0, a)), (2, (0, w 276 (36 * a + 17))), (3, (0, z9)), (4, (0, z15)), (5, (0, y5))], [], v1) _
                      refine e_Ok.run (t' := (51, [(6, (0, y6 + 1)), (9, (0, m86)), (10, (0, m90)), (8, (0, z82)), (7, (0, z80)), (0, (1, 275)), (1, (0, a)), (2, (0, w 276 (36 * a + 17))), (3, (0, z9)), (4, (0, z15)), (5, (0, y5))], [], v1)) 1 rfl ?_
                      refine e_Ok.sub eAlk (e_sub_of rfl ?_) (ih24 y5 (y6 + 1) v1 ⟨j25, j26, by omega, by omega, j29, j30, j31, j32⟩ (by omega))
                      exact ⟨rfl, rfl, rfl, rfl, rfl, rfl, rfl, trivial⟩
                    · replace h135 : (0 : Int) ≠ 0 := by have q : ¬ ((0 : Int) = 0) := h135; omega
                      exfalso; omega
              refine e_Ok.if1 rfl (fun h89 => ?_) (fun h89 => ?_)
              · exact e_Ok.run 1 rfl (hJ91 z80 (by omega))
              · exact e_Ok.run 2 rfl (hJ91 z82 (by omega))
            refine e_Ok.if1 rfl (fun h85 => ?_) (fun h85 => ?_)
            · exact e_Ok.run 1 rfl (hJ87 z82 (by omega))
            · exact e_Ok.run 2 rfl (hJ87 z80 (by omega))
    refine e_Ok.sub eAlk (e_sub_of rfl ?_) (hL23 (5 + 1 : Int).toNat 0 0 w20 ⟨f21, hT22, by omega, by omega, mOr.off hOr (by omega) (e_Has.orn hT) (e_Has.orw hT (by omega)) ha (by rw [← hw20]; exact e_up_eq _ _ _ _) (fun k q1 q2 => by unfold orK at q1; exact (by rw [← hw20]; exact (e_up_ne _ _ (Or.inr (by omega))).trans ((q14 276 k (by unfold mP; omega)).trans ((q8 276 k (by unfold mP; omega)).trans rfl)))), (fun _ => by rw [show w20 276 (4 * w 276 (36 * a + 17) + 20576) = w 276 (4 * w 276 (36 * a + 17) + 20576) from (by rw [← hw20]; exact (e_up_ne _ _ (Or.inr (by omega))).trans ((q14 276 (4 * w 276 (36 * a + 17) + 20576) (by unfold mP; omega)).trans ((q8 276 (4 * w 276 (36 * a + 17) + 20576) (by unfold mP; omega)).trans rfl)))]; omega), (fun x g1 g2 => Decidable.byCases (p := x = a) (fun e => by rw [e, show w20 276 (36 * a + 17) = -1 from (by rw [← hw20]; exact e_up_eq _ _ _ _)]; omega) (fun e => by rw [show w20 276 (36 * x + 17) = w 276 (36 * x + 17) from (by rw [← hw20]; exact (e_up_ne _ _ (Or.inr (by omega))).trans ((q14 276 (36 * x + 17) (by unfold mP; omega)).trans ((q8 276 (36 * x + 17) (by unfold mP; omega)).trans rfl)))]; intro e2; have q := hOr.2.2.2 x g1 g2 (by omega); rw [e2] at q; omega)), (e_fr.up (e_fr.trans (e_fr.trans (e_fr.refl w) (e_fr.mono q8 (fun c k q => by unfold mP at q; unfold mDp; omega))) (e_fr.mono q14 (fun c k q => by unfold mP at q; unfold mDp; omega))) hw20 (by unfold mDp; omega))⟩ (by omega))
    exact ⟨rfl, rfl, rfl, rfl, rfl, rfl, rfl, trivial⟩
  · replace h4 : (w 276 (36 * a + 17) : Int) < 0 := by have q : ¬ ((w 276 (36 * a + 17) : Int) ≥ 0) := h4; omega
    refine e_Ok.run (t' := (17, [(2, (0, w 276 (36 * a + 17))), (0, (1, 275)), (1, (0, a))], [(0, 0)], w)) 1 rfl ?_
    refine e_Ok.rets rfl rfl ?_
    have e136 : w 276 5 = w 276 5 := rfl
    exact ⟨_, rfl, by omega, (e_fr.refl w), hT, by omega, hOr, (fun b g1 g2 => Or.inr rfl)⟩
end
