noncomputable section
def mGr (c k : Int) : Prop := c = 321 ∨ c = 322 ∨ (c = 276 ∧ ((20576 ≤ k ∧ k < 20836) ∨ k = 5 ∨ 25060 ≤ k ∨ (16 ≤ k ∧ k < 160 ∧ ((k - 16) % 36 = 1 ∨ (k - 16) % 36 = 4 ∨ (k - 16) % 36 = 5))))
def mOo (b c k : Int) : Prop := c = 321 ∨ c = 322 ∨ (c = 276 ∧ 33 * b + 20705 ≤ k ∧ k ≤ 33 * b + 20736)
def mDp (a c k : Int) : Prop := c = 321 ∨ c = 322 ∨ (c = 276 ∧ ((20576 ≤ k ∧ k < 20836) ∨ k = 36 * a + 17))
theorem no_80_0 {t : Int} {k : Int} : ¬ mPt t 275 k := by unfold mPt; omega
theorem no_80_1 {t : Int} {k : Int} : ¬ mPt t 286 k := by unfold mPt; omega
theorem no_80_2 {t : Int} {k : Int} : ¬ mPt t 285 k := by unfold mPt; omega
theorem no_80_3 {k : Int} : ¬ mP 275 k := by unfold mP; omega
theorem no_80_4 {k : Int} : ¬ mP 276 k := by unfold mP; omega
theorem no_80_5 : ¬ mSt 276 5 := by unfold mSt; omega
theorem no_80_6 {a : Int} (ha : 0 ≤ a ∧ a ≤ 3) : ¬ mE 276 (36 * a + 17) := by unfold mE; omega
theorem no_80_7 {a : Int} (ha : 0 ≤ a ∧ a ≤ 3) : ¬ mSt 276 (36 * a + 17) := by unfold mSt; omega
theorem no_80_8 {b : Int} (hb : 0 ≤ b ∧ b ≤ 3) : ¬ mE 276 (36 * b + 20) := by unfold mE; omega
theorem no_80_9 {b : Int} {k : Int} : ¬ mOo b 275 k := by unfold mOo; omega
theorem no_80_10 {b : Int} (hb : 0 ≤ b ∧ b ≤ 3) : ¬ mOo b 276 5 := by unfold mOo; omega
theorem no_80_11 {b : Int} (hb : 0 ≤ b ∧ b ≤ 3) : ¬ mOo b 276 (36 * b + 20) := by unfold mOo; omega
theorem su_80_22 {t : Int} {c k : Int} (q : mPt t c k) : mGr c k := by
  unfold mPt at q
  rcases q with ⟨(q | q), ⟨q, q⟩⟩
  · exact Or.inl (by omega)
  · exact Or.inr (Or.inl (by omega))
theorem su_80_23 {c k : Int} (q : mSt c k) : mGr c k := by
  unfold mSt at q
  rcases q with ⟨q, (⟨q, (⟨q, (q | q)⟩)⟩)⟩
  · exact Or.inr (Or.inr ⟨(by omega), Or.inr (Or.inr (Or.inr ⟨(by omega), ⟨(by omega), Or.inr (Or.inl (by omega))⟩⟩))⟩)
  · exact Or.inr (Or.inr ⟨(by omega), Or.inr (Or.inr (Or.inr ⟨(by omega), ⟨(by omega), Or.inr (Or.inr (by omega))⟩⟩))⟩)
theorem su_80_24 {c k : Int} (q : mE c k) : mGr c k := by
  unfold mE at q
  rcases q with ⟨q, (q | q)⟩
  · exact Or.inr (Or.inr ⟨(by omega), Or.inr (Or.inl (by omega))⟩)
  · exact Or.inr (Or.inr ⟨(by omega), Or.inr (Or.inr (Or.inl (by omega)))⟩)
theorem su_80_25 {b : Int} {c k : Int} (q : mP c k) : mOo b c k := by
  unfold mP at q
  rcases q with q | q
  · exact Or.inl (by omega)
  · exact Or.inr (Or.inl (by omega))
theorem su_80_26 {c k : Int} (q : mP c k) : mGr c k := by
  unfold mP at q
  rcases q with q | q
  · exact Or.inl (by omega)
  · exact Or.inr (Or.inl (by omega))
theorem su_80_27 {t : Int} {c k : Int} (q : mPt t c k) : mP c k := by
  unfold mPt at q
  rcases q with ⟨(q | q), ⟨q, q⟩⟩
  · exact Or.inl (by omega)
  · exact Or.inr (by omega)
set_option maxHeartbeats 4000000 in
theorem c_396 {d : Nat} (hd : 27 ≤ d) {w : eW} (hT : e_Has mTy w) {a : Int} (ha : 0 ≤ a ∧ a ≤ 3) (hOr : mOr w (w 275 40)) (hE : w 276 5 ≤ 2147483600) : e_Ok 20 elay ecode eI d 396 (0, [(0, (1, 275)), (1, (0, a))], [], w) (fun r w' => ∃ z : Int, r = [(0, z)] ∧ (0 ≤ z ∧ z ≤ 1) ∧ e_fr mGr w w' ∧ e_Has mTy w' ∧ (w 276 5 ≤ w' 276 5 ∧ w' 276 5 ≤ w 276 5 + 1) ∧ mOr w' (w 275 40) ∧ (∀ b, 0 ≤ b → b ≤ 3 → w' 276 (36 * b + 20) = 0 ∨ w' 276 (36 * b + 20) = w 276 (36 * b + 20))) := by
  obtain ⟨d, rfl⟩ : ∃ e, d = e + 1 := ⟨d - 1, by omega⟩
  have hja := (e_Has.get hT (c := 286) (k := a) (lo := 0) (hi := 6) rfl (by decide))
  have hhl := e_Has.get hT (nR_HOLDS (a := a) ha) (by decide)
  have hpp := e_Has.get hT (c := 275) (k := 40) (lo := 0) (hi := 32) rfl (by decide)
  refine e_Ok.run (t' := (1, [(0, (1, 275)), (1, (0, a))], [(1, 275)], w)) 1 rfl ?_
  refine e_Ok.getr (z := 276) rfl (el_o rfl) rfl rfl (e_Has.eq hT rfl) (by omega) ?_
  refine e_Ok.run (t' := (5, [(0, (1, 275)), (1, (0, a))], [(0, a), (1, 276)], w)) 1 rfl ?_
  refine e_Ok.callS rfl (by omega) rfl rfl (c_268 (by omega)) (fun r1 w2 h3 => ?_)
  obtain ⟨rfl, rfl⟩ := h3
  show e_Ok 20 elay ecode eI (d + 1) 396 (8, [(0, (1, 275)), (1, (0, a))], [(0, 36 * a + 16), (1, 276)], w) _
  refine e_Ok.run (t' := (9, [(0, (1, 275)), (1, (0, a))], [(0, 1), (0, 36 * a + 16), (1, 276)], w)) 1 rfl ?_
  refine e_Ok.add (z := 36 * a + 17) rfl (by omega) (by omega) ?_
  have h4 := (e_Has.get hT (c := 276) (k := 36 * a + 17) (lo := (-1)) (hi := 31) (nR_HOLDS (a := a) (by omega)) (by decide))
  refine e_Ok.ald (z := w 276 (36 * a + 17)) rfl (el_o rfl) rfl (by omega) rfl (by omega) ?_
  refine e_Ok.if1 rfl (fun h5 => ?_) (fun h5 => ?_)
  · replace h5 : (w 276 (36 * a + 17) : Int) < 0 := h5
    refine e_Ok.run (t' := (19, [(0, (1, 275)), (1, (0, a))], [(0, 0), (0, a), (1, 275)], w)) 3 rfl ?_
    refine e_Ok.callV rfl (by omega) rfl rfl rfl rfl (c_301_0 (by omega) hT (by omega)) (fun r6 w7 h8 => ?_)
    obtain ⟨rfl, q9, q9k⟩ := h8
    have f10 : e_fr mGr w w7 := e_fr.trans (e_fr.refl w) (e_fr.mono q9 (fun c k q => by first | exact su_80_22 q | (unfold mPt at q; unfold mGr; omega)))
    have q9T : e_Has mTy w7 := mT_Pt q9 hT
    show e_Ok 20 elay ecode eI (d + 1) 396 (22, [(0, (1, 275)), (1, (0, a))], [], w7) _
    refine e_Ok.run (t' := (23, [(0, (1, 275)), (1, (0, a))], [(1, 275)], w7)) 1 rfl ?_
    refine e_Ok.getr (z := 321) rfl (el_o rfl) rfl rfl ((q9 275 55 (by first | exact no_80_0 | (unfold mPt; omega))).trans (e_Has.eq hT rfl)) (by omega) ?_
    refine e_Ok.run (t' := (29, [(0, (1, 275)), (1, (0, a))], [(0, a), (0, 7), (1, 321)], w7)) 2 rfl ?_
    refine e_Ok.mul (z := 7 * a) rfl (by omega) (by omega) ?_
    refine e_Ok.run (t' := (31, [(0, (1, 275)), (1, (0, a))], [(1, 275), (0, 7 * a), (1, 321)], w7)) 1 rfl ?_
    refine e_Ok.getr (z := 286) rfl (el_o rfl) rfl rfl ((q9 275 15 (by first | exact no_80_0 | (unfold mPt; omega))).trans (e_Has.eq hT rfl)) (by omega) ?_
    refine e_Ok.run (t' := (35, [(0, (1, 275)), (1, (0, a))], [(0, a), (1, 286), (0, 7 * a), (1, 321)], w7)) 1 rfl ?_
    have h11 := (e_Has.get hT (c := 286) (k := a) (lo := 0) (hi := 6) rfl (by decide))
    refine e_Ok.ald (z := w 286 a) rfl (el_o rfl) rfl (by omega) ((q9 286 a (by first | exact no_80_1 | (unfold mPt; omega))).trans rfl) (by omega) ?_
    refine e_Ok.add (z := 7 * a + w 286 a) rfl (by omega) (by omega) ?_
    have h12 := (q9k.1 (7 * a + w 286 a) (by omega) (by omega))
    refine e_Ok.ald (z := w7 321 (7 * a + w 286 a)) rfl (el_o rfl) rfl (by omega) rfl (by omega) ?_
    refine e_Ok.run (t' := (41, [(2, (4, w7 321 (7 * a + w 286 a))), (0, (1, 275)), (1, (0, a))], [(1, 275)], w7)) 3 rfl ?_
    refine e_Ok.getr (z := 322) rfl (el_o rfl) rfl rfl ((q9 275 56 (by first | exact no_80_0 | (unfold mPt; omega))).trans (e_Has.eq hT rfl)) (by omega) ?_
    refine e_Ok.run (t' := (47, [(2, (4, w7 321 (7 * a + w 286 a))), (0, (1, 275)), (1, (0, a))], [(0, a), (0, 7), (1, 322)], w7)) 2 rfl ?_
    refine e_Ok.mul (z := 7 * a) rfl (by omega) (by omega) ?_
    refine e_Ok.run (t' := (49, [(2, (4, w7 321 (7 * a + w 286 a))), (0, (1, 275)), (1, (0, a))], [(1, 275), (0, 7 * a), (1, 322)], w7)) 1 rfl ?_
    refine e_Ok.getr (z := 286) rfl (el_o rfl) rfl rfl ((q9 275 15 (by first | exact no_80_0 | (unfold mPt; omega))).trans (e_Has.eq hT rfl)) (by omega) ?_
    refine e_Ok.run (t' := (53, [(2, (4, w7 321 (7 * a + w 286 a))), (0, (1, 275)), (1, (0, a))], [(0, a), (1, 286), (0, 7 * a), (1, 322)], w7)) 1 rfl ?_
    refine e_Ok.ald (z := w 286 a) rfl (el_o rfl) rfl (by omega) ((q9 286 a (by first | exact no_80_1 | (unfold mPt; omega))).trans rfl) (by omega) ?_
    refine e_Ok.add (z := 7 * a + w 286 a) rfl (by omega) (by omega) ?_
    have h13 := (q9k.2 (7 * a + w 286 a) (by omega) (by omega))
    refine e_Ok.ald (z := w7 322 (7 * a + w 286 a)) rfl (el_o rfl) rfl (by omega) rfl (by omega) ?_
    refine e_Ok.run (t' := (63, [(6, (0, (-1))), (4, (4, w7 322 (7 * a + w 286 a))), (2, (4, w7 321 (7 * a + w 286 a))), (0, (1, 275)), (1, (0, a))], [(1, 275)], w7)) 5 rfl ?_
    refine e_Ok.getr (z := 285) rfl (el_o rfl) rfl rfl ((q9 275 14 (by first | exact no_80_0 | (unfold mPt; omega))).trans (e_Has.eq hT rfl)) (by omega) ?_
    refine e_Ok.run (t' := (67, [(6, (0, (-1))), (4, (4, w7 322 (7 * a + w 286 a))), (2, (4, w7 321 (7 * a + w 286 a))), (0, (1, 275)), (1, (0, a))], [(0, a), (1, 285)], w7)) 1 rfl ?_
    have h14 := (e_Has.get hT (c := 285) (k := a) (lo := 0) (hi := 800) rfl (by decide))
    refine e_Ok.ald (z := w 285 a) rfl (el_o rfl) rfl (by omega) ((q9 285 a (by first | exact no_80_2 | (unfold mPt; omega))).trans rfl) (by omega) ?_
    refine e_Ok.run (t' := (70, [(6, (0, (-1))), (4, (4, w7 322 (7 * a + w 286 a))), (2, (4, w7 321 (7 * a + w 286 a))), (0, (1, 275)), (1, (0, a))], [(1, 275), (4, w 285 a)], w7)) 2 rfl ?_
    refine e_Ok.getr (z := 285) rfl (el_o rfl) rfl rfl ((q9 275 14 (by first | exact no_80_0 | (unfold mPt; omega))).trans (e_Has.eq hT rfl)) (by omega) ?_
    refine e_Ok.run (t' := (74, [(6, (0, (-1))), (4, (4, w7 322 (7 * a + w 286 a))), (2, (4, w7 321 (7 * a + w 286 a))), (0, (1, 275)), (1, (0, a))], [(0, a), (1, 285), (4, w 285 a)], w7)) 1 rfl ?_
    refine e_Ok.ald (z := w 285 a) rfl (el_o rfl) rfl (by omega) ((q9 285 a (by first | exact no_80_2 | (unfold mPt; omega))).trans rfl) (by omega) ?_
    refine e_Ok.run (t' := (76, [(6, (0, (-1))), (4, (4, w7 322 (7 * a + w 286 a))), (2, (4, w7 321 (7 * a + w 286 a))), (0, (1, 275)), (1, (0, a))], [(4, w 285 a), (4, w 285 a)], w7)) 1 rfl ?_
    refine e_Ok.anyL rfl ⟨_, rfl⟩ (fun x15 => ?_)
    refine e_Ok.run (t' := (78, [(6, (0, (-1))), (4, (4, w7 322 (7 * a + w 286 a))), (2, (4, w7 321 (7 * a + w 286 a))), (0, (1, 275)), (1, (0, a))], [(4, 1), (4, x15)], w7)) 1 rfl ?_
    refine e_Ok.anyL rfl ⟨_, rfl⟩ (fun x16 => ?_)
    refine e_Ok.run (t' := (84, [(9, (0, 0)), (7, (4, x16)), (6, (0, (-1))), (4, (4, w7 322 (7 * a + w 286 a))), (2, (4, w7 321 (7 * a + w 286 a))), (0, (1, 275)), (1, (0, a))], [], w7)) 3 rfl ?_
    have hL17 : ∀ (nn : Nat) (y6 : Int) (y7 : Int) (y9 : Int) (v1 : eW), e_fr mGr w v1 ∧ e_Has mTy v1 ∧ (-1 ≤ y6 ∧ y6 ≤ 31) ∧ (0 ≤ y9 ∧ y9 ≤ 32) ∧ ((0 ≤ y6 → y6 < w 275 40 ∧ (w 276 (4 * y6 + 20576) < 4 ∨ w 276 (4 * y6 + 20576) = 8))) ∧ e_fr mP w v1 → 33 - y9 < nn → e_Ok 20 elay ecode eI (d + 1) 396 (84, [(0, (1, 275)), (1, (0, a)), (2, (4, w7 321 (7 * a + w 286 a))), (4, (4, w7 322 (7 * a + w 286 a))), (6, (0, y6)), (7, (4, y7)), (9, (0, y9))], [], v1) (fun r w' => ∃ z : Int, r = [(0, z)] ∧ (0 ≤ z ∧ z ≤ 1) ∧ e_fr mGr w w' ∧ e_Has mTy w' ∧ (w 276 5 ≤ w' 276 5 ∧ w' 276 5 ≤ w 276 5 + 1) ∧ mOr w' (w 275 40) ∧ (∀ b, 0 ≤ b → b ≤ 3 → w' 276 (36 * b + 20) = 0 ∨ w' 276 (36 * b + 20) = w 276 (36 * b + 20))) := by
      intro nn
      induction nn with
      | zero => intro y6 y7 y9 v1 hj hm; obtain ⟨j19, j20, j21, j22, j23, j24⟩ := hj; exfalso; omega
      | succ nn ih18 =>
        intro y6 y7 y9 v1 hj hm
        obtain ⟨j19, j20, j21, j22, j23, j24⟩ := hj
        refine e_Ok.run (t' := (87, [(0, (1, 275)), (1, (0, a)), (2, (4, w7 321 (7 * a + w 286 a))), (4, (4, w7 322 (7 * a + w 286 a))), (6, (0, y6)), (7, (4, y7)), (9, (0, y9))], [(1, 275), (0, y9)], v1)) 2 rfl ?_
        refine e_Ok.getf (z := w 275 40) rfl (el_o rfl) rfl rfl ((j24 275 40 no_80_3).trans rfl) (by omega) ?_
        refine e_Ok.if2 rfl (fun h25 => ?_) (fun h25 => ?_)
        · replace h25 : (y9 : Int) ≥ w 275 40 := h25
          refine e_Ok.run (t' := (185, [(0, (1, 275)), (1, (0, a)), (2, (4, w7 321 (7 * a + w 286 a))), (4, (4, w7 322 (7 * a + w 286 a))), (6, (0, y6)), (7, (4, y7)), (9, (0, y9))], [(0, y6)], v1)) 1 rfl ?_
          refine e_Ok.if1 rfl (fun h26 => ?_) (fun h26 => ?_)
          · replace h26 : (y6 : Int) ≥ 0 := h26
            have hy6 := j23 (by omega)
            have hpw := e_Has.get hT (nR_WHERE (p := y6) (by omega)) (by decide)
            refine e_Ok.run (t' := (191, [(0, (1, 275)), (1, (0, a)), (2, (4, w7 321 (7 * a + w 286 a))), (4, (4, w7 322 (7 * a + w 286 a))), (6, (0, y6)), (7, (4, y7)), (9, (0, y9))], [(1, 275)], v1)) 1 rfl ?_
            refine e_Ok.getr (z := 276) rfl (el_o rfl) rfl rfl ((j24 275 0 no_80_3).trans (e_Has.eq hT rfl)) (by omega) ?_
            refine e_Ok.run (t' := (196, [(0, (1, 275)), (1, (0, a)), (2, (4, w7 321 (7 * a + w 286 a))), (4, (4, w7 322 (7 * a + w 286 a))), (6, (0, y6)), (7, (4, y7)), (9, (0, y9))], [(0, y6), (1, 276)], v1)) 1 rfl ?_
            refine e_Ok.callS rfl (by omega) rfl rfl (c_392 (by omega)) (fun r27 w28 h29 => ?_)
            obtain ⟨rfl, rfl⟩ := h29
            show e_Ok 20 elay ecode eI (d + 1) 396 (199, [(0, (1, 275)), (1, (0, a)), (2, (4, w7 321 (7 * a + w 286 a))), (4, (4, w7 322 (7 * a + w 286 a))), (6, (0, y6)), (7, (4, y7)), (9, (0, y9))], [(0, 4 * y6 + 20576), (1, 276)], v1) _
            refine e_Ok.ald (z := w 276 (4 * y6 + 20576)) rfl (el_o rfl) rfl (by omega) ((j24 276 (4 * y6 + 20576) no_80_4).trans rfl) (by omega) ?_
            refine e_Ok.run (t' := (205, [(9, (0, w 276 (4 * y6 + 20576))), (0, (1, 275)), (1, (0, a)), (2, (4, w7 321 (7 * a + w 286 a))), (4, (4, w7 322 (7 * a + w 286 a))), (6, (0, y6)), (7, (4, y7))], [(0, 4), (0, w 276 (4 * y6 + 20576))], v1)) 3 rfl ?_
            refine e_Ok.if2 rfl (fun h30 => ?_) (fun h30 => ?_)
            · replace h30 : (w 276 (4 * y6 + 20576) : Int) ≥ 4 := h30
              refine e_Ok.run (t' := (299, [(9, (0, w 276 (4 * y6 + 20576))), (0, (1, 275)), (1, (0, a)), (2, (4, w7 321 (7 * a + w 286 a))), (4, (4, w7 322 (7 * a + w 286 a))), (6, (0, y6)), (7, (4, y7))], [(1, 275)], v1)) 1 rfl ?_
              refine e_Ok.getr (z := 276) rfl (el_o rfl) rfl rfl ((j24 275 0 no_80_3).trans (e_Has.eq hT rfl)) (by omega) ?_
              refine e_Ok.run (t' := (304, [(9, (0, w 276 (4 * y6 + 20576))), (0, (1, 275)), (1, (0, a)), (2, (4, w7 321 (7 * a + w 286 a))), (4, (4, w7 322 (7 * a + w 286 a))), (6, (0, y6)), (7, (4, y7))], [(0, y6), (1, 276)], v1)) 1 rfl ?_
              refine e_Ok.callS rfl (by omega) rfl rfl (c_392 (by omega)) (fun r31 w32 h33 => ?_)
              obtain ⟨rfl, rfl⟩ := h33
              show e_Ok 20 elay ecode eI (d + 1) 396 (307, [(9, (0, w 276 (4 * y6 + 20576))), (0, (1, 275)), (1, (0, a)), (2, (4, w7 321 (7 * a + w 286 a))), (4, (4, w7 322 (7 * a + w 286 a))), (6, (0, y6)), (7, (4, y7))], [(0, 4 * y6 + 20576), (1, 276)], v1) _
              refine e_Ok.run (t' := (309, [(9, (0, w 276 (4 * y6 + 20576))), (0, (1, 275)), (1, (0, a)), (2, (4, w7 321 (7 * a + w 286 a))), (4, (4, w7 322 (7 * a + w 286 a))), (6, (0, y6)), (7, (4, y7))], [(0, a), (0, 4), (0, 4 * y6 + 20576), (1, 276)], v1)) 2 rfl ?_
              refine e_Ok.add (z := a + 4) rfl (by omega) (by omega) ?_
              refine e_Ok.ast rfl (el_o rfl) rfl rfl (by omega) ?_
              generalize hw34 : e_up v1 276 (4 * y6 + 20576) (a + 4) = w34
              have f35 : e_fr mGr w w34 := e_fr.up j19 hw34 (by unfold mGr; omega)
              have hT36 : e_Has mTy w34 := e_Has.upr j20 hw34 (nR_WHERE (p := y6) (by omega)) (by omega)
              refine e_Ok.run (t' := (312, [(9, (0, w 276 (4 * y6 + 20576))), (0, (1, 275)), (1, (0, a)), (2, (4, w7 321 (7 * a + w 286 a))), (4, (4, w7 322 (7 * a + w 286 a))), (6, (0, y6)), (7, (4, y7))], [(1, 275)], w34)) 1 rfl ?_
              refine e_Ok.getr (z := 276) rfl (el_o rfl) rfl rfl (by rw [← hw34]; exact (e_up_ne _ _ (Or.inl (by omega))).trans ((j24 275 0 no_80_3).trans (e_Has.eq hT rfl))) (by omega) ?_
              refine e_Ok.run (t' := (317, [(9, (0, w 276 (4 * y6 + 20576))), (0, (1, 275)), (1, (0, a)), (2, (4, w7 321 (7 * a + w 286 a))), (4, (4, w7 322 (7 * a + w 286 a))), (6, (0, y6)), (7, (4, y7))], [(0, y6), (1, 276)], w34)) 1 rfl ?_
              refine e_Ok.callS rfl (by omega) rfl rfl (c_392 (by omega)) (fun r37 w38 h40 => ?_)
              obtain ⟨rfl, rfl⟩ := h40
              show e_Ok 20 elay ecode eI (d + 1) 396 (320, [(9, (0, w 276 (4 * y6 + 20576))), (0, (1, 275)), (1, (0, a)), (2, (4, w7 321 (7 * a + w 286 a))), (4, (4, w7 322 (7 * a + w 286 a))), (6, (0, y6)), (7, (4, y7))], [(0, 4 * y6 + 20576), (1, 276)], w34) _
              refine e_Ok.run (t' := (321, [(9, (0, w 276 (4 * y6 + 20576))), (0, (1, 275)), (1, (0, a)), (2, (4, w7 321 (7 * a + w 286 a))), (4, (4, w7 322 (7 * a + w 286 a))), (6, (0, y6)), (7, (4, y7))], [(0, 3), (0, 4 * y6 + 20576), (1, 276)], w34)) 1 rfl ?_
              refine e_Ok.add (z := 4 * y6 + 20579) rfl (by omega) (by omega) ?_
              refine e_Ok.run (t' := (323, [(9, (0, w 276 (4 * y6 + 20576))), (0, (1, 275)), (1, (0, a)), (2, (4, w7 321 (7 * a + w 286 a))), (4, (4, w7 322 (7 * a + w 286 a))), (6, (0, y6)), (7, (4, y7))], [(0, 0), (0, 4 * y6 + 20579), (1, 276)], w34)) 1 rfl ?_
              refine e_Ok.ast rfl (el_o rfl) rfl rfl (by omega) ?_
              generalize hw41 : e_up w34 276 (4 * y6 + 20579) 0 = w41
              have f42 : e_fr mGr w w41 := e_fr.up f35 hw41 (by unfold mGr; omega)
              have hT43 : e_Has mTy w41 := e_Has.upr hT36 hw41 (nR_PART3 (p := y6) (by omega)) (by omega)
              refine e_Ok.run (t' := (325, [(9, (0, w 276 (4 * y6 + 20576))), (0, (1, 275)), (1, (0, a)), (2, (4, w7 321 (7 * a + w 286 a))), (4, (4, w7 322 (7 * a + w 286 a))), (6, (0, y6)), (7, (4, y7))], [(1, 275)], w41)) 1 rfl ?_
              refine e_Ok.getr (z := 276) rfl (el_o rfl) rfl rfl (by rw [← hw41]; exact (e_up_ne _ _ (Or.inl (by omega))).trans (by rw [← hw34]; exact (e_up_ne _ _ (Or.inl (by omega))).trans ((j24 275 0 no_80_3).trans (e_Has.eq hT rfl)))) (by omega) ?_
              refine e_Ok.run (t' := (329, [(9, (0, w 276 (4 * y6 + 20576))), (0, (1, 275)), (1, (0, a)), (2, (4, w7 321 (7 * a + w 286 a))), (4, (4, w7 322 (7 * a + w 286 a))), (6, (0, y6)), (7, (4, y7))], [(0, a), (1, 276)], w41)) 1 rfl ?_
              refine e_Ok.callS rfl (by omega) rfl rfl (c_268 (by omega)) (fun r44 w45 h46 => ?_)
              obtain ⟨rfl, rfl⟩ := h46
              show e_Ok 20 elay ecode eI (d + 1) 396 (332, [(9, (0, w 276 (4 * y6 + 20576))), (0, (1, 275)), (1, (0, a)), (2, (4, w7 321 (7 * a + w 286 a))), (4, (4, w7 322 (7 * a + w 286 a))), (6, (0, y6)), (7, (4, y7))], [(0, 36 * a + 16), (1, 276)], w41) _
              refine e_Ok.run (t' := (333, [(9, (0, w 276 (4 * y6 + 20576))), (0, (1, 275)), (1, (0, a)), (2, (4, w7 321 (7 * a + w 286 a))), (4, (4, w7 322 (7 * a + w 286 a))), (6, (0, y6)), (7, (4, y7))], [(0, 1), (0, 36 * a + 16), (1, 276)], w41)) 1 rfl ?_
              refine e_Ok.add (z := 36 * a + 17) rfl (by omega) (by omega) ?_
              refine e_Ok.run (t' := (336, [(9, (0, w 276 (4 * y6 + 20576))), (0, (1, 275)), (1, (0, a)), (2, (4, w7 321 (7 * a + w 286 a))), (4, (4, w7 322 (7 * a + w 286 a))), (6, (0, y6)), (7, (4, y7))], [(0, y6), (0, 36 * a + 17), (1, 276)], w41)) 1 rfl ?_
              refine e_Ok.ast rfl (el_o rfl) rfl rfl (by omega) ?_
              generalize hw47 : e_up w41 276 (36 * a + 17) y6 = w47
              have f48 : e_fr mGr w w47 := e_fr.up f42 hw47 (by unfold mGr; omega)
              have hT49 : e_Has mTy w47 := e_Has.upr hT43 hw47 (nR_HOLDS (a := a) (by omega)) (by omega)
              refine e_Ok.run (t' := (339, [(9, (0, w 276 (4 * y6 + 20576))), (0, (1, 275)), (1, (0, a)), (2, (4, w7 321 (7 * a + w 286 a))), (4, (4, w7 322 (7 * a + w 286 a))), (6, (0, y6)), (7, (4, y7))], [(0, (-1)), (1, 275)], w47)) 2 rfl ?_
              refine e_Ok.callV rfl (by omega) rfl rfl rfl rfl (c_390 (by omega) hT49) (fun r50 w51 h52 => ?_)
              obtain ⟨rfl, q53, q53T, q53a, q53b⟩ := h52
              have f54 : e_fr mGr w w51 := e_fr.trans f48 (e_fr.mono q53 (fun c k q => su_80_23 q))
              show e_Ok 20 elay ecode eI (d + 1) 396 (342, [(9, (0, w 276 (4 * y6 + 20576))), (0, (1, 275)), (1, (0, a)), (2, (4, w7 321 (7 * a + w 286 a))), (4, (4, w7 322 (7 * a + w 286 a))), (6, (0, y6)), (7, (4, y7))], [], w51) _
              refine e_Ok.run (t' := (348, [(9, (0, w 276 (4 * y6 + 20576))), (0, (1, 275)), (1, (0, a)), (2, (4, w7 321 (7 * a + w 286 a))), (4, (4, w7 322 (7 * a + w 286 a))), (6, (0, y6)), (7, (4, y7))], [(0, y6), (0, a), (0, 6), (1, 275)], w51)) 4 rfl ?_
              have e58 : w51 276 5 = w 276 5 := ((q53 276 5 no_80_5).trans (by rw [← hw47]; exact (e_up_ne _ _ (Or.inr (by omega))).trans (by rw [← hw41]; exact (e_up_ne _ _ (Or.inr (by omega))).trans (by rw [← hw34]; exact (e_up_ne _ _ (Or.inr (by omega))).trans ((j24 276 5 no_80_4).trans rfl)))))
              refine e_Ok.callV rfl (by omega) rfl rfl rfl rfl (c_319 q53T (by omega) (by omega) (by omega) (by omega)) (fun r55 w56 h57 => ?_)
              obtain ⟨rfl, q59, q59T, q59n⟩ := h57
              have f60 : e_fr mGr w w56 := e_fr.trans f54 (e_fr.mono q59 (fun c k q => su_80_24 q))
              show e_Ok 20 elay ecode eI (d + 1) 396 (351, [(9, (0, w 276 (4 * y6 + 20576))), (0, (1, 275)), (1, (0, a)), (2, (4, w7 321 (7 * a + w 286 a))), (4, (4, w7 322 (7 * a + w 286 a))), (6, (0, y6)), (7, (4, y7))], [], w56) _
              refine e_Ok.run (t' := (352, [(9, (0, w 276 (4 * y6 + 20576))), (0, (1, 275)), (1, (0, a)), (2, (4, w7 321 (7 * a + w 286 a))), (4, (4, w7 322 (7 * a + w 286 a))), (6, (0, y6)), (7, (4, y7))], [(0, 1)], w56)) 1 rfl ?_
              refine e_Ok.rets rfl rfl ?_
              have e61 : w56 276 5 = w56 276 5 := rfl
              exact ⟨_, rfl, by omega, f60, q59T, by omega, mOr.up hOr (by omega) (e_Has.orn hT) (e_Has.orw hT (by omega)) (by omega) ha (by omega) ((q59 276 (4 * y6 + 20576) (by unfold mE; omega)).trans ((q53 276 (4 * y6 + 20576) (by unfold mSt; omega)).trans (by rw [← hw47]; exact (e_up_ne _ _ (Or.inr (by omega))).trans (by rw [← hw41]; exact (e_up_ne _ _ (Or.inr (by omega))).trans (by rw [← hw34]; exact e_up_eq _ _ _ _))))) ((q59 276 (36 * a + 17) (by first | exact no_80_6 (by omega) | (unfold mE; omega))).trans ((q53 276 (36 * a + 17) (by first | exact no_80_7 (by omega) | (unfold mSt; omega))).trans (by rw [← hw47]; exact e_up_eq _ _ _ _))) (fun k q1 q2 q3 => by unfold orK at q1; exact ((q59 276 k (by unfold mE; omega)).trans ((q53 276 k (by unfold mSt; omega)).trans (by rw [← hw47]; exact (e_up_ne _ _ (Or.inr (by omega))).trans (by rw [← hw41]; exact (e_up_ne _ _ (Or.inr (by omega))).trans (by rw [← hw34]; exact (e_up_ne _ _ (Or.inr (by omega))).trans ((j24 276 k no_80_4).trans rfl))))))), (fun b g1 g2 => by have e := q53b b g1 g2; rw [show w47 276 (36 * b + 20) = w 276 (36 * b + 20) from (by rw [← hw47]; exact (e_up_ne _ _ (Or.inr (by omega))).trans (by rw [← hw41]; exact (e_up_ne _ _ (Or.inr (by omega))).trans (by rw [← hw34]; exact (e_up_ne _ _ (Or.inr (by omega))).trans ((j24 276 (36 * b + 20) no_80_4).trans rfl))))] at e; rw [show w56 276 (36 * b + 20) = w51 276 (36 * b + 20) from ((q59 276 (36 * b + 20) (by first | exact no_80_8 (by omega) | (unfold mE; omega))).trans rfl)]; exact e)⟩
            · replace h30 : (w 276 (4 * y6 + 20576) : Int) < 4 := by have q : ¬ ((w 276 (4 * y6 + 20576) : Int) ≥ 4) := h30; omega
              obtain ⟨i0, hi1, hi2, hi3⟩ := hOr.2.2.1 y6 (by omega) (by omega) (by omega)
              have hnb := e_Has.get hT (nR_ORDER (b := w 276 (4 * y6 + 20576)) (by omega)) (by decide)
              refine e_Ok.run (t' := (215, [(9, (0, w 276 (4 * y6 + 20576))), (0, (1, 275)), (1, (0, a)), (2, (4, w7 321 (7 * a + w 286 a))), (4, (4, w7 322 (7 * a + w 286 a))), (6, (0, y6)), (7, (4, y7))], [(0, w 276 (4 * y6 + 20576)), (0, 33), (0, 20704)], v1)) 3 rfl ?_
              refine e_Ok.mul (z := 33 * w 276 (4 * y6 + 20576)) rfl (by omega) (by omega) ?_
              refine e_Ok.add (z := 33 * w 276 (4 * y6 + 20576) + 20704) rfl (by omega) (by omega) ?_
              refine e_Ok.run (t' := (222, [(11, (0, 1)), (10, (0, 33 * w 276 (4 * y6 + 20576) + 20704)), (9, (0, w 276 (4 * y6 + 20576))), (0, (1, 275)), (1, (0, a)), (2, (4, w7 321 (7 * a + w 286 a))), (4, (4, w7 322 (7 * a + w 286 a))), (6, (0, y6)), (7, (4, y7))], [], v1)) 3 rfl ?_
              have hL62 : ∀ (nn : Nat) (y11 : Int), 1 ≤ y11 ∧ y11 ≤ i0 → 33 - y11 < nn → e_Ok 20 elay ecode eI (d + 1) 396 (222, [(0, (1, 275)), (1, (0, a)), (6, (0, y6)), (9, (0, w 276 (4 * y6 + 20576))), (10, (0, 33 * w 276 (4 * y6 + 20576) + 20704)), (11, (0, y11))], [], v1) (fun r w' => ∃ z : Int, r = [(0, z)] ∧ (0 ≤ z ∧ z ≤ 1) ∧ e_fr mGr w w' ∧ e_Has mTy w' ∧ (w 276 5 ≤ w' 276 5 ∧ w' 276 5 ≤ w 276 5 + 1) ∧ mOr w' (w 275 40) ∧ (∀ b, 0 ≤ b → b ≤ 3 → w' 276 (36 * b + 20) = 0 ∨ w' 276 (36 * b + 20) = w 276 (36 * b + 20))) := by
                intro nn
                induction nn with
                | zero => intro y11 hj hm; obtain j64 := hj; exfalso; omega
                | succ nn ih63 =>
                  intro y11 hj hm
                  obtain j64 := hj
                  refine e_Ok.run (t' := (223, [(0, (1, 275)), (1, (0, a)), (6, (0, y6)), (9, (0, w 276 (4 * y6 + 20576))), (10, (0, 33 * w 276 (4 * y6 + 20576) + 20704)), (11, (0, y11))], [(1, 275)], v1)) 1 rfl ?_
                  refine e_Ok.getr (z := 276) rfl (el_o rfl) rfl rfl ((j24 275 0 no_80_3).trans (e_Has.eq hT rfl)) (by omega) ?_
                  refine e_Ok.run (t' := (230, [(0, (1, 275)), (1, (0, a)), (6, (0, y6)), (9, (0, w 276 (4 * y6 + 20576))), (10, (0, 33 * w 276 (4 * y6 + 20576) + 20704)), (11, (0, y11))], [(0, y11), (0, 33 * w 276 (4 * y6 + 20576) + 20704), (1, 276)], v1)) 2 rfl ?_
                  refine e_Ok.add (z := 33 * w 276 (4 * y6 + 20576) + y11 + 20704) rfl (by omega) (by omega) ?_
                  have h65 := (e_Has.get hT (c := 276) (k := 33 * w 276 (4 * y6 + 20576) + y11 + 20704) (lo := 0) (hi := 31) (nR_ORD (w 276 (4 * y6 + 20576)) (by omega) (by omega)) (by decide))
                  refine e_Ok.ald (z := w 276 (33 * w 276 (4 * y6 + 20576) + y11 + 20704)) rfl rfl rfl (by omega) ((j24 276 (33 * w 276 (4 * y6 + 20576) + y11 + 20704) no_80_4).trans rfl) (by omega) ?_
                  refine e_Ok.run (t' := (234, [(0, (1, 275)), (1, (0, a)), (6, (0, y6)), (9, (0, w 276 (4 * y6 + 20576))), (10, (0, 33 * w 276 (4 * y6 + 20576) + 20704)), (11, (0, y11))], [(0, y6), (0, w 276 (33 * w 276 (4 * y6 + 20576) + y11 + 20704))], v1)) 1 rfl ?_
                  refine e_Ok.if2 rfl (fun h66 => ?_) (fun h66 => ?_)
                  · replace h66 : (w 276 (33 * w 276 (4 * y6 + 20576) + y11 + 20704) : Int) = y6 := h66
                    have hk : w 276 (33 * w 276 (4 * y6 + 20576) + y11 + 20704) = y6 := by omega
                    refine e_Ok.run (t' := (247, [(12, (0, y11)), (0, (1, 275)), (1, (0, a)), (6, (0, y6)), (9, (0, w 276 (4 * y6 + 20576))), (10, (0, 33 * w 276 (4 * y6 + 20576) + 20704)), (11, (0, y11))], [], v1)) 2 rfl ?_
                    have hL67 : ∀ (nn : Nat) (y12 : Int) (v2 : eW), e_fr mGr w v2 ∧ e_Has mTy v2 ∧ (y11 ≤ y12 ∧ y12 ≤ w 276 (33 * w 276 (4 * y6 + 20576) + 20704)) ∧ (∀ i, y11 ≤ i → i < y12 → v2 276 (33 * w 276 (4 * y6 + 20576) + i + 20704) = w 276 (33 * w 276 (4 * y6 + 20576) + i + 20705)) ∧ (∀ i, 1 ≤ i → i ≤ 32 → (i < y11 ∨ y12 ≤ i) → v2 276 (33 * w 276 (4 * y6 + 20576) + i + 20704) = w 276 (33 * w 276 (4 * y6 + 20576) + i + 20704)) ∧ e_fr (mOo (w 276 (4 * y6 + 20576))) w v2 → 33 - y12 < nn → e_Ok 20 elay ecode eI (d + 1) 396 (247, [(0, (1, 275)), (1, (0, a)), (6, (0, y6)), (9, (0, w 276 (4 * y6 + 20576))), (10, (0, 33 * w 276 (4 * y6 + 20576) + 20704)), (11, (0, y11)), (12, (0, y12))], [], v2) (fun r w' => ∃ z : Int, r = [(0, z)] ∧ (0 ≤ z ∧ z ≤ 1) ∧ e_fr mGr w w' ∧ e_Has mTy w' ∧ (w 276 5 ≤ w' 276 5 ∧ w' 276 5 ≤ w 276 5 + 1) ∧ mOr w' (w 275 40) ∧ (∀ b, 0 ≤ b → b ≤ 3 → w' 276 (36 * b + 20) = 0 ∨ w' 276 (36 * b + 20) = w 276 (36 * b + 20))) := by
                      intro nn
                      induction nn with
                      | zero => intro y12 v2 hj hm; obtain ⟨j69, j70, j71, j72, j73, j74⟩ := hj; exfalso; omega
                      | succ nn ih68 =>
                        intro y12 v2 hj hm
                        obtain ⟨j69, j70, j71, j72, j73, j74⟩ := hj
                        refine e_Ok.run (t' := (250, [(0, (1, 275)), (1, (0, a)), (6, (0, y6)), (9, (0, w 276 (4 * y6 + 20576))), (10, (0, 33 * w 276 (4 * y6 + 20576) + 20704)), (11, (0, y11)), (12, (0, y12))], [(1, 275), (0, y12)], v2)) 2 rfl ?_
                        refine e_Ok.getr (z := 276) rfl (el_o rfl) rfl rfl ((j74 275 0 (by first | exact no_80_9 | (unfold mOo; omega))).trans (e_Has.eq hT rfl)) (by omega) ?_
                        refine e_Ok.run (t' := (255, [(0, (1, 275)), (1, (0, a)), (6, (0, y6)), (9, (0, w 276 (4 * y6 + 20576))), (10, (0, 33 * w 276 (4 * y6 + 20576) + 20704)), (11, (0, y11)), (12, (0, y12))], [(0, 33 * w 276 (4 * y6 + 20576) + 20704), (1, 276), (0, y12)], v2)) 1 rfl ?_
                        refine e_Ok.ald (z := w 276 (33 * w 276 (4 * y6 + 20576) + 20704)) rfl rfl rfl (by omega) ((j74 276 (33 * w 276 (4 * y6 + 20576) + 20704) (by unfold mOo; omega)).trans rfl) (by omega) ?_
                        refine e_Ok.if2 rfl (fun h75 => ?_) (fun h75 => ?_)
                        · replace h75 : (y12 : Int) ≥ w 276 (33 * w 276 (4 * y6 + 20576) + 20704) := h75
                          refine e_Ok.run (t' := (288, [(0, (1, 275)), (1, (0, a)), (6, (0, y6)), (9, (0, w 276 (4 * y6 + 20576))), (10, (0, 33 * w 276 (4 * y6 + 20576) + 20704)), (11, (0, y11)), (12, (0, y12))], [(1, 275)], v2)) 1 rfl ?_
                          refine e_Ok.getr (z := 276) rfl (el_o rfl) rfl rfl ((j74 275 0 (by first | exact no_80_9 | (unfold mOo; omega))).trans (e_Has.eq hT rfl)) (by omega) ?_
                          refine e_Ok.run (t' := (294, [(0, (1, 275)), (1, (0, a)), (6, (0, y6)), (9, (0, w 276 (4 * y6 + 20576))), (10, (0, 33 * w 276 (4 * y6 + 20576) + 20704)), (11, (0, y11)), (12, (0, y12))], [(0, 33 * w 276 (4 * y6 + 20576) + 20704), (1, 276), (0, 33 * w 276 (4 * y6 + 20576) + 20704), (1, 276)], v2)) 2 rfl ?_
                          refine e_Ok.ald (z := w 276 (33 * w 276 (4 * y6 + 20576) + 20704)) rfl rfl rfl (by omega) ((j74 276 (33 * w 276 (4 * y6 + 20576) + 20704) (by unfold mOo; omega)).trans rfl) (by omega) ?_
                          refine e_Ok.run (t' := (296, [(0, (1, 275)), (1, (0, a)), (6, (0, y6)), (9, (0, w 276 (4 * y6 + 20576))), (10, (0, 33 * w 276 (4 * y6 + 20576) + 20704)), (11, (0, y11)), (12, (0, y12))], [(0, 1), (0, w 276 (33 * w 276 (4 * y6 + 20576) + 20704)), (0, 33 * w 276 (4 * y6 + 20576) + 20704), (1, 276)], v2)) 1 rfl ?_
                          refine e_Ok.sub' (z := w 276 (33 * w 276 (4 * y6 + 20576) + 20704) - 1) rfl (by omega) (by omega) ?_
                          refine e_Ok.ast rfl (el_o rfl) rfl rfl (by omega) ?_
                          generalize hw76 : e_up v2 276 (33 * w 276 (4 * y6 + 20576) + 20704) (w 276 (33 * w 276 (4 * y6 + 20576) + 20704) - 1) = w76
                          have f77 : e_fr mGr w w76 := e_fr.up j69 hw76 (by unfold mGr; omega)
                          have hT78 : e_Has mTy w76 := e_Has.upr j70 hw76 (nR_ORDER (b := w 276 (4 * y6 + 20576)) (by omega)) (by omega)
                          refine e_Ok.run (t' := (299, [(0, (1, 275)), (1, (0, a)), (6, (0, y6)), (9, (0, w 276 (4 * y6 + 20576))), (10, (0, 33 * w 276 (4 * y6 + 20576) + 20704)), (11, (0, y11)), (12, (0, y12))], [(1, 275)], w76)) 1 rfl ?_
                          refine e_Ok.getr (z := 276) rfl (el_o rfl) rfl rfl (by rw [← hw76]; exact (e_up_ne _ _ (Or.inl (by omega))).trans ((j74 275 0 (by first | exact no_80_9 | (unfold mOo; omega))).trans (e_Has.eq hT rfl))) (by omega) ?_
                          refine e_Ok.run (t' := (304, [(0, (1, 275)), (1, (0, a)), (6, (0, y6)), (9, (0, w 276 (4 * y6 + 20576))), (10, (0, 33 * w 276 (4 * y6 + 20576) + 20704)), (11, (0, y11)), (12, (0, y12))], [(0, y6), (1, 276)], w76)) 1 rfl ?_
                          refine e_Ok.callS rfl (by omega) rfl rfl (c_392 (by omega)) (fun r79 w80 h81 => ?_)
                          obtain ⟨rfl, rfl⟩ := h81
                          show e_Ok 20 elay ecode eI (d + 1) 396 (307, [(0, (1, 275)), (1, (0, a)), (6, (0, y6)), (9, (0, w 276 (4 * y6 + 20576))), (10, (0, 33 * w 276 (4 * y6 + 20576) + 20704)), (11, (0, y11)), (12, (0, y12))], [(0, 4 * y6 + 20576), (1, 276)], w76) _
                          refine e_Ok.run (t' := (309, [(0, (1, 275)), (1, (0, a)), (6, (0, y6)), (9, (0, w 276 (4 * y6 + 20576))), (10, (0, 33 * w 276 (4 * y6 + 20576) + 20704)), (11, (0, y11)), (12, (0, y12))], [(0, a), (0, 4), (0, 4 * y6 + 20576), (1, 276)], w76)) 2 rfl ?_
                          refine e_Ok.add (z := a + 4) rfl (by omega) (by omega) ?_
                          refine e_Ok.ast rfl (el_o rfl) rfl rfl (by omega) ?_
                          generalize hw82 : e_up w76 276 (4 * y6 + 20576) (a + 4) = w82
                          have f83 : e_fr mGr w w82 := e_fr.up f77 hw82 (by unfold mGr; omega)
                          have hT84 : e_Has mTy w82 := e_Has.upr hT78 hw82 (nR_WHERE (p := y6) (by omega)) (by omega)
                          refine e_Ok.run (t' := (312, [(0, (1, 275)), (1, (0, a)), (6, (0, y6)), (9, (0, w 276 (4 * y6 + 20576))), (10, (0, 33 * w 276 (4 * y6 + 20576) + 20704)), (11, (0, y11)), (12, (0, y12))], [(1, 275)], w82)) 1 rfl ?_
                          refine e_Ok.getr (z := 276) rfl (el_o rfl) rfl rfl (by rw [← hw82]; exact (e_up_ne _ _ (Or.inl (by omega))).trans (by rw [← hw76]; exact (e_up_ne _ _ (Or.inl (by omega))).trans ((j74 275 0 (by first | exact no_80_9 | (unfold mOo; omega))).trans (e_Has.eq hT rfl)))) (by omega) ?_
                          refine e_Ok.run (t' := (317, [(0, (1, 275)), (1, (0, a)), (6, (0, y6)), (9, (0, w 276 (4 * y6 + 20576))), (10, (0, 33 * w 276 (4 * y6 + 20576) + 20704)), (11, (0, y11)), (12, (0, y12))], [(0, y6), (1, 276)], w82)) 1 rfl ?_
                          refine e_Ok.callS rfl (by omega) rfl rfl (c_392 (by omega)) (fun r85 w86 h87 => ?_)
                          obtain ⟨rfl, rfl⟩ := h87
                          show e_Ok 20 elay ecode eI (d + 1) 396 (320, [(0, (1, 275)), (1, (0, a)), (6, (0, y6)), (9, (0, w 276 (4 * y6 + 20576))), (10, (0, 33 * w 276 (4 * y6 + 20576) + 20704)), (11, (0, y11)), (12, (0, y12))], [(0, 4 * y6 + 20576), (1, 276)], w82) _
                          refine e_Ok.run (t' := (321, [(0, (1, 275)), (1, (0, a)), (6, (0, y6)), (9, (0, w 276 (4 * y6 + 20576))), (10, (0, 33 * w 276 (4 * y6 + 20576) + 20704)), (11, (0, y11)), (12, (0, y12))], [(0, 3), (0, 4 * y6 + 20576), (1, 276)], w82)) 1 rfl ?_
                          refine e_Ok.add (z := 4 * y6 + 20579) rfl (by omega) (by omega) ?_
                          refine e_Ok.run (t' := (323, [(0, (1, 275)), (1, (0, a)), (6, (0, y6)), (9, (0, w 276 (4 * y6 + 20576))), (10, (0, 33 * w 276 (4 * y6 + 20576) + 20704)), (11, (0, y11)), (12, (0, y12))], [(0, 0), (0, 4 * y6 + 20579), (1, 276)], w82)) 1 rfl ?_
                          refine e_Ok.ast rfl (el_o rfl) rfl rfl (by omega) ?_
                          generalize hw88 : e_up w82 276 (4 * y6 + 20579) 0 = w88
                          have f89 : e_fr mGr w w88 := e_fr.up f83 hw88 (by unfold mGr; omega)
                          have hT90 : e_Has mTy w88 := e_Has.upr hT84 hw88 (nR_PART3 (p := y6) (by omega)) (by omega)
                          refine e_Ok.run (t' := (325, [(0, (1, 275)), (1, (0, a)), (6, (0, y6)), (9, (0, w 276 (4 * y6 + 20576))), (10, (0, 33 * w 276 (4 * y6 + 20576) + 20704)), (11, (0, y11)), (12, (0, y12))], [(1, 275)], w88)) 1 rfl ?_
                          refine e_Ok.getr (z := 276) rfl (el_o rfl) rfl rfl (by rw [← hw88]; exact (e_up_ne _ _ (Or.inl (by omega))).trans (by rw [← hw82]; exact (e_up_ne _ _ (Or.inl (by omega))).trans (by rw [← hw76]; exact (e_up_ne _ _ (Or.inl (by omega))).trans ((j74 275 0 (by first | exact no_80_9 | (unfold mOo; omega))).trans (e_Has.eq hT rfl))))) (by omega) ?_
                          refine e_Ok.run (t' := (329, [(0, (1, 275)), (1, (0, a)), (6, (0, y6)), (9, (0, w 276 (4 * y6 + 20576))), (10, (0, 33 * w 276 (4 * y6 + 20576) + 20704)), (11, (0, y11)), (12, (0, y12))], [(0, a), (1, 276)], w88)) 1 rfl ?_
                          refine e_Ok.callS rfl (by omega) rfl rfl (c_268 (by omega)) (fun r91 w92 h93 => ?_)
                          obtain ⟨rfl, rfl⟩ := h93
                          show e_Ok 20 elay ecode eI (d + 1) 396 (332, [(0, (1, 275)), (1, (0, a)), (6, (0, y6)), (9, (0, w 276 (4 * y6 + 20576))), (10, (0, 33 * w 276 (4 * y6 + 20576) + 20704)), (11, (0, y11)), (12, (0, y12))], [(0, 36 * a + 16), (1, 276)], w88) _
                          refine e_Ok.run (t' := (333, [(0, (1, 275)), (1, (0, a)), (6, (0, y6)), (9, (0, w 276 (4 * y6 + 20576))), (10, (0, 33 * w 276 (4 * y6 + 20576) + 20704)), (11, (0, y11)), (12, (0, y12))], [(0, 1), (0, 36 * a + 16), (1, 276)], w88)) 1 rfl ?_
                          refine e_Ok.add (z := 36 * a + 17) rfl (by omega) (by omega) ?_
                          refine e_Ok.run (t' := (336, [(0, (1, 275)), (1, (0, a)), (6, (0, y6)), (9, (0, w 276 (4 * y6 + 20576))), (10, (0, 33 * w 276 (4 * y6 + 20576) + 20704)), (11, (0, y11)), (12, (0, y12))], [(0, y6), (0, 36 * a + 17), (1, 276)], w88)) 1 rfl ?_
                          refine e_Ok.ast rfl (el_o rfl) rfl rfl (by omega) ?_
                          generalize hw94 : e_up w88 276 (36 * a + 17) y6 = w94
                          have f95 : e_fr mGr w w94 := e_fr.up f89 hw94 (by unfold mGr; omega)
                          have hT101 : e_Has mTy w94 := e_Has.upr hT90 hw94 (nR_HOLDS (a := a) (by omega)) (by omega)
                          refine e_Ok.run (t' := (339, [(0, (1, 275)), (1, (0, a)), (6, (0, y6)), (9, (0, w 276 (4 * y6 + 20576))), (10, (0, 33 * w 276 (4 * y6 + 20576) + 20704)), (11, (0, y11)), (12, (0, y12))], [(0, (-1)), (1, 275)], w94)) 2 rfl ?_
                          refine e_Ok.callV rfl (by omega) rfl rfl rfl rfl (c_390 (by omega) hT101) (fun r103 w104 h105 => ?_)
                          obtain ⟨rfl, q106, q106T, q106a, q106b⟩ := h105
                          have f107 : e_fr mGr w w104 := e_fr.trans f95 (e_fr.mono q106 (fun c k q => su_80_23 q))
                          show e_Ok 20 elay ecode eI (d + 1) 396 (342, [(0, (1, 275)), (1, (0, a)), (6, (0, y6)), (9, (0, w 276 (4 * y6 + 20576))), (10, (0, 33 * w 276 (4 * y6 + 20576) + 20704)), (11, (0, y11)), (12, (0, y12))], [], w104) _
                          refine e_Ok.run (t' := (348, [(0, (1, 275)), (1, (0, a)), (6, (0, y6)), (9, (0, w 276 (4 * y6 + 20576))), (10, (0, 33 * w 276 (4 * y6 + 20576) + 20704)), (11, (0, y11)), (12, (0, y12))], [(0, y6), (0, a), (0, 6), (1, 275)], w104)) 4 rfl ?_
                          have e111 : w104 276 5 = w 276 5 := ((q106 276 5 no_80_5).trans (by rw [← hw94]; exact (e_up_ne _ _ (Or.inr (by omega))).trans (by rw [← hw88]; exact (e_up_ne _ _ (Or.inr (by omega))).trans (by rw [← hw82]; exact (e_up_ne _ _ (Or.inr (by omega))).trans (by rw [← hw76]; exact (e_up_ne _ _ (Or.inr (by omega))).trans ((j74 276 5 (by first | exact no_80_10 (by omega) | (unfold mOo; omega))).trans rfl))))))
                          refine e_Ok.callV rfl (by omega) rfl rfl rfl rfl (c_319 q106T (by omega) (by omega) (by omega) (by omega)) (fun r108 w109 h110 => ?_)
                          obtain ⟨rfl, q112, q112T, q112n⟩ := h110
                          have f113 : e_fr mGr w w109 := e_fr.trans f107 (e_fr.mono q112 (fun c k q => su_80_24 q))
                          show e_Ok 20 elay ecode eI (d + 1) 396 (351, [(0, (1, 275)), (1, (0, a)), (6, (0, y6)), (9, (0, w 276 (4 * y6 + 20576))), (10, (0, 33 * w 276 (4 * y6 + 20576) + 20704)), (11, (0, y11)), (12, (0, y12))], [], w109) _
                          refine e_Ok.run (t' := (352, [(0, (1, 275)), (1, (0, a)), (6, (0, y6)), (9, (0, w 276 (4 * y6 + 20576))), (10, (0, 33 * w 276 (4 * y6 + 20576) + 20704)), (11, (0, y11)), (12, (0, y12))], [(0, 1)], w109)) 1 rfl ?_
                          refine e_Ok.rets rfl rfl ?_
                          have e114 : w109 276 5 = w109 276 5 := rfl
                          exact ⟨_, rfl, by omega, f113, q112T, by omega, mOr.grip (b := w 276 (4 * y6 + 20576)) (k := y11) hOr (by omega) (e_Has.orn hT) (e_Has.orw hT (by omega)) (by omega) ha (by omega) (by omega) hk (fun i g1 g2 => Eq.trans ((q112 276 (33 * w 276 (4 * y6 + 20576) + i + 20704) (by unfold mE; omega)).trans ((q106 276 (33 * w 276 (4 * y6 + 20576) + i + 20704) (by unfold mSt; omega)).trans (by rw [← hw94]; exact (e_up_ne _ _ (Or.inr (by omega))).trans (by rw [← hw88]; exact (e_up_ne _ _ (Or.inr (by omega))).trans (by rw [← hw82]; exact (e_up_ne _ _ (Or.inr (by omega))).trans (by rw [← hw76]; exact (e_up_ne _ _ (Or.inr (by omega))).trans rfl)))))) (j73 i (by omega) (by omega) (by omega))) (fun i g1 g2 => Eq.trans ((q112 276 (33 * w 276 (4 * y6 + 20576) + i + 20704) (by unfold mE; omega)).trans ((q106 276 (33 * w 276 (4 * y6 + 20576) + i + 20704) (by unfold mSt; omega)).trans (by rw [← hw94]; exact (e_up_ne _ _ (Or.inr (by omega))).trans (by rw [← hw88]; exact (e_up_ne _ _ (Or.inr (by omega))).trans (by rw [← hw82]; exact (e_up_ne _ _ (Or.inr (by omega))).trans (by rw [← hw76]; exact (e_up_ne _ _ (Or.inr (by omega))).trans rfl)))))) (j72 i g1 (by omega))) ((q112 276 (33 * w 276 (4 * y6 + 20576) + 20704) (by unfold mE; omega)).trans ((q106 276 (33 * w 276 (4 * y6 + 20576) + 20704) (by unfold mSt; omega)).trans (by rw [← hw94]; exact (e_up_ne _ _ (Or.inr (by omega))).trans (by rw [← hw88]; exact (e_up_ne _ _ (Or.inr (by omega))).trans (by rw [← hw82]; exact (e_up_ne _ _ (Or.inr (by omega))).trans (by rw [← hw76]; exact e_up_eq _ _ _ _)))))) ((q112 276 (4 * y6 + 20576) (by unfold mE; omega)).trans ((q106 276 (4 * y6 + 20576) (by unfold mSt; omega)).trans (by rw [← hw94]; exact (e_up_ne _ _ (Or.inr (by omega))).trans (by rw [← hw88]; exact (e_up_ne _ _ (Or.inr (by omega))).trans (by rw [← hw82]; exact e_up_eq _ _ _ _))))) ((q112 276 (36 * a + 17) (by first | exact no_80_6 (by omega) | (unfold mE; omega))).trans ((q106 276 (36 * a + 17) (by first | exact no_80_7 (by omega) | (unfold mSt; omega))).trans (by rw [← hw94]; exact e_up_eq _ _ _ _))) (fun k q1 q2 q3 q4 => by unfold orK at q1; exact ((q112 276 k (by unfold mE; omega)).trans ((q106 276 k (by unfold mSt; omega)).trans (by rw [← hw94]; exact (e_up_ne _ _ (Or.inr (by omega))).trans (by rw [← hw88]; exact (e_up_ne _ _ (Or.inr (by omega))).trans (by rw [← hw82]; exact (e_up_ne _ _ (Or.inr (by omega))).trans (by rw [← hw76]; exact (e_up_ne _ _ (Or.inr (by omega))).trans ((j74 276 k (by unfold mOo; omega)).trans rfl)))))))), (fun b g1 g2 => by have e := q106b b g1 g2; rw [show w94 276 (36 * b + 20) = w 276 (36 * b + 20) from (by rw [← hw94]; exact (e_up_ne _ _ (Or.inr (by omega))).trans (by rw [← hw88]; exact (e_up_ne _ _ (Or.inr (by omega))).trans (by rw [← hw82]; exact (e_up_ne _ _ (Or.inr (by omega))).trans (by rw [← hw76]; exact (e_up_ne _ _ (Or.inr (by omega))).trans ((j74 276 (36 * b + 20) (by first | exact no_80_11 (by omega) | (unfold mOo; omega))).trans rfl)))))] at e; rw [show w109 276 (36 * b + 20) = w104 276 (36 * b + 20) from ((q112 276 (36 * b + 20) (by first | exact no_80_8 (by omega) | (unfold mE; omega))).trans rfl)]; exact e)⟩
                        · replace h75 : (y12 : Int) < w 276 (33 * w 276 (4 * y6 + 20576) + 20704) := by have q : ¬ ((y12 : Int) ≥ w 276 (33 * w 276 (4 * y6 + 20576) + 20704)) := h75; omega
                          refine e_Ok.run (t' := (260, [(0, (1, 275)), (1, (0, a)), (6, (0, y6)), (9, (0, w 276 (4 * y6 + 20576))), (10, (0, 33 * w 276 (4 * y6 + 20576) + 20704)), (11, (0, y11)), (12, (0, y12))], [(1, 275)], v2)) 1 rfl ?_
                          refine e_Ok.getr (z := 276) rfl (el_o rfl) rfl rfl ((j74 275 0 (by first | exact no_80_9 | (unfold mOo; omega))).trans (e_Has.eq hT rfl)) (by omega) ?_
                          refine e_Ok.run (t' := (267, [(0, (1, 275)), (1, (0, a)), (6, (0, y6)), (9, (0, w 276 (4 * y6 + 20576))), (10, (0, 33 * w 276 (4 * y6 + 20576) + 20704)), (11, (0, y11)), (12, (0, y12))], [(0, y12), (0, 33 * w 276 (4 * y6 + 20576) + 20704), (1, 276)], v2)) 2 rfl ?_
                          refine e_Ok.add (z := 33 * w 276 (4 * y6 + 20576) + y12 + 20704) rfl (by omega) (by omega) ?_
                          refine e_Ok.run (t' := (269, [(0, (1, 275)), (1, (0, a)), (6, (0, y6)), (9, (0, w 276 (4 * y6 + 20576))), (10, (0, 33 * w 276 (4 * y6 + 20576) + 20704)), (11, (0, y11)), (12, (0, y12))], [(1, 275), (0, 33 * w 276 (4 * y6 + 20576) + y12 + 20704), (1, 276)], v2)) 1 rfl ?_
                          refine e_Ok.getr (z := 276) rfl (el_o rfl) rfl rfl ((j74 275 0 (by first | exact no_80_9 | (unfold mOo; omega))).trans (e_Has.eq hT rfl)) (by omega) ?_
                          refine e_Ok.run (t' := (276, [(0, (1, 275)), (1, (0, a)), (6, (0, y6)), (9, (0, w 276 (4 * y6 + 20576))), (10, (0, 33 * w 276 (4 * y6 + 20576) + 20704)), (11, (0, y11)), (12, (0, y12))], [(0, y12), (0, 33 * w 276 (4 * y6 + 20576) + 20704), (1, 276), (0, 33 * w 276 (4 * y6 + 20576) + y12 + 20704), (1, 276)], v2)) 2 rfl ?_
                          refine e_Ok.add (z := 33 * w 276 (4 * y6 + 20576) + y12 + 20704) rfl (by omega) (by omega) ?_
                          refine e_Ok.run (t' := (278, [(0, (1, 275)), (1, (0, a)), (6, (0, y6)), (9, (0, w 276 (4 * y6 + 20576))), (10, (0, 33 * w 276 (4 * y6 + 20576) + 20704)), (11, (0, y11)), (12, (0, y12))], [(0, 1), (0, 33 * w 276 (4 * y6 + 20576) + y12 + 20704), (1, 276), (0, 33 * w 276 (4 * y6 + 20576) + y12 + 20704), (1, 276)], v2)) 1 rfl ?_
                          refine e_Ok.add (z := 33 * w 276 (4 * y6 + 20576) + y12 + 20705) rfl (by omega) (by omega) ?_
                          have h115 := (e_Has.get j70 (c := 276) (k := 33 * w 276 (4 * y6 + 20576) + y12 + 20705) (lo := 0) (hi := 31) (nR_ORD (w 276 (4 * y6 + 20576)) (by omega) (by omega)) (by decide))
                          refine e_Ok.ald (z := v2 276 (33 * w 276 (4 * y6 + 20576) + y12 + 20705)) rfl rfl rfl (by omega) rfl (by omega) ?_
                          refine e_Ok.ast rfl (el_o rfl) rfl rfl (by omega) ?_
                          generalize hw116 : e_up v2 276 (33 * w 276 (4 * y6 + 20576) + y12 + 20704) (v2 276 (33 * w 276 (4 * y6 + 20576) + y12 + 20705)) = w116
                          have f117 : e_fr mGr w w116 := e_fr.up j69 hw116 (by unfold mGr; omega)
                          have hT118 : e_Has mTy w116 := e_Has.upr j70 hw116 (nR_ORD (w 276 (4 * y6 + 20576)) (by omega) (by omega)) (by omega)
                          refine e_Ok.inc (z := y12 + 1) rfl rfl (by omega) (by omega) ?_
                          show e_Ok 20 elay ecode eI (d + 1) 396 (284, [(12, (0, y12 + 1)), (0, (1, 275)), (1, (0, a)), (6, (0, y6)), (9, (0, w 276 (4 * y6 + 20576))), (10, (0, 33 * w 276 (4 * y6 + 20576) + 20704)), (11, (0, y11))], [], w116) _
                          refine e_Ok.run (t' := (247, [(12, (0, y12 + 1)), (0, (1, 275)), (1, (0, a)), (6, (0, y6)), (9, (0, w 276 (4 * y6 + 20576))), (10, (0, 33 * w 276 (4 * y6 + 20576) + 20704)), (11, (0, y11))], [], w116)) 1 rfl ?_
                          refine e_Ok.sub eAlk (e_sub_of rfl ?_) (ih68 (y12 + 1) w116 ⟨f117, hT118, by omega, (fun i g1 g2 => Decidable.byCases (p := i = y12) (fun e => by rw [e, ← hw116, e_up_eq]; have q := j73 (y12 + 1) (by omega) (by omega) (by omega); rw [show 33 * w 276 (4 * y6 + 20576) + (y12 + 1) + 20704 = 33 * w 276 (4 * y6 + 20576) + y12 + 20705 by omega] at q; exact q) (fun e => Eq.trans (by rw [← hw116]; exact (e_up_ne _ _ (Or.inr (by omega))).trans rfl) (j72 i g1 (by omega)))), (fun i g1 g2 g3 => Eq.trans (by rw [← hw116]; exact (e_up_ne _ _ (Or.inr (by omega))).trans rfl) (j73 i g1 g2 (by omega))), (e_fr.up j74 hw116 (by unfold mOo; omega))⟩ (by omega))
                          exact ⟨rfl, rfl, rfl, rfl, rfl, rfl, rfl, trivial⟩
                    refine e_Ok.sub eAlk (e_sub_of rfl ?_) (hL67 (33 + 1 : Int).toNat y11 v1 ⟨j19, j20, by omega, (fun i g1 g2 => by omega), (fun i g1 g2 g3 => ((j24 276 (33 * w 276 (4 * y6 + 20576) + i + 20704) no_80_4).trans rfl)), (e_fr.mono j24 (fun c k q => by first | exact su_80_25 q | (unfold mP at q; unfold mOo; omega)))⟩ (by omega))
                    exact ⟨rfl, rfl, rfl, rfl, rfl, rfl, rfl, trivial⟩
                  · replace h66 : (w 276 (33 * w 276 (4 * y6 + 20576) + y11 + 20704) : Int) ≠ y6 := by have q : ¬ ((w 276 (33 * w 276 (4 * y6 + 20576) + y11 + 20704) : Int) = y6) := h66; omega
                    refine e_Ok.inc (z := y11 + 1) rfl rfl (by omega) (by omega) ?_
                    show e_Ok 20 elay ecode eI (d + 1) 396 (240, [(11, (0, y11 + 1)), (0, (1, 275)), (1, (0, a)), (6, (0, y6)), (9, (0, w 276 (4 * y6 + 20576))), (10, (0, 33 * w 276 (4 * y6 + 20576) + 20704))], [], v1) _
                    refine e_Ok.run (t' := (222, [(11, (0, y11 + 1)), (0, (1, 275)), (1, (0, a)), (6, (0, y6)), (9, (0, w 276 (4 * y6 + 20576))), (10, (0, 33 * w 276 (4 * y6 + 20576) + 20704))], [], v1)) 1 rfl ?_
                    refine e_Ok.sub eAlk (e_sub_of rfl ?_) (ih63 (y11 + 1) (by have e : y11 ≠ i0 := (fun e => by subst e; omega); omega) (by omega))
                    exact ⟨rfl, rfl, rfl, rfl, rfl, rfl, trivial⟩
              refine e_Ok.sub eAlk (e_sub_of rfl ?_) (hL62 (33 + 1 : Int).toNat 1 (by omega) (by omega))
              exact ⟨rfl, rfl, rfl, rfl, rfl, rfl, trivial⟩
          · replace h26 : (y6 : Int) < 0 := by have q : ¬ ((y6 : Int) ≥ 0) := h26; omega
            refine e_Ok.run (t' := (189, [(0, (1, 275)), (1, (0, a)), (2, (4, w7 321 (7 * a + w 286 a))), (4, (4, w7 322 (7 * a + w 286 a))), (6, (0, y6)), (7, (4, y7)), (9, (0, y9))], [(0, 0)], v1)) 1 rfl ?_
            refine e_Ok.rets rfl rfl ?_
            have e119 : v1 276 5 = w 276 5 := ((j24 276 5 no_80_4).trans rfl)
            exact ⟨_, rfl, by omega, j19, j20, by omega, mOr.fr hOr (by omega) (e_Has.orn hT) (e_Has.orw hT (by omega)) (fun k q => by unfold orK at q; exact ((j24 276 k no_80_4).trans rfl)), (fun b g1 g2 => Or.inr ((j24 276 (36 * b + 20) no_80_4).trans rfl))⟩
        · replace h25 : (y9 : Int) < w 275 40 := by have q : ¬ ((y9 : Int) ≥ w 275 40) := h25; omega
          refine e_Ok.run (t' := (94, [(0, (1, 275)), (1, (0, a)), (2, (4, w7 321 (7 * a + w 286 a))), (4, (4, w7 322 (7 * a + w 286 a))), (6, (0, y6)), (7, (4, y7)), (9, (0, y9))], [(1, 275)], v1)) 1 rfl ?_
          refine e_Ok.getr (z := 276) rfl (el_o rfl) rfl rfl ((j24 275 0 no_80_3).trans (e_Has.eq hT rfl)) (by omega) ?_
          refine e_Ok.run (t' := (99, [(0, (1, 275)), (1, (0, a)), (2, (4, w7 321 (7 * a + w 286 a))), (4, (4, w7 322 (7 * a + w 286 a))), (6, (0, y6)), (7, (4, y7)), (9, (0, y9))], [(0, y9), (1, 276)], v1)) 1 rfl ?_
          refine e_Ok.callS rfl (by omega) rfl rfl (c_392 (by omega)) (fun r120 w121 h122 => ?_)
          obtain ⟨rfl, rfl⟩ := h122
          show e_Ok 20 elay ecode eI (d + 1) 396 (102, [(0, (1, 275)), (1, (0, a)), (2, (4, w7 321 (7 * a + w 286 a))), (4, (4, w7 322 (7 * a + w 286 a))), (6, (0, y6)), (7, (4, y7)), (9, (0, y9))], [(0, 4 * y9 + 20576), (1, 276)], v1) _
          have h123 := (e_Has.get hT (c := 276) (k := 4 * y9 + 20576) (lo := 0) (hi := 8) (nR_WHERE (p := y9) (by omega)) (by decide))
          refine e_Ok.ald (z := w 276 (4 * y9 + 20576)) rfl (el_o rfl) rfl (by omega) ((j24 276 (4 * y9 + 20576) no_80_4).trans rfl) (by omega) ?_
          refine e_Ok.run (t' := (108, [(10, (0, w 276 (4 * y9 + 20576))), (0, (1, 275)), (1, (0, a)), (2, (4, w7 321 (7 * a + w 286 a))), (4, (4, w7 322 (7 * a + w 286 a))), (6, (0, y6)), (7, (4, y7)), (9, (0, y9))], [(0, 4), (0, w 276 (4 * y9 + 20576))], v1)) 3 rfl ?_
          refine e_Ok.if2 rfl (fun h124 => ?_) (fun h124 => ?_)
          · replace h124 : (w 276 (4 * y9 + 20576) : Int) < 4 := h124
            refine e_Ok.run (t' := (122, [(10, (0, w 276 (4 * y9 + 20576))), (0, (1, 275)), (1, (0, a)), (2, (4, w7 321 (7 * a + w 286 a))), (4, (4, w7 322 (7 * a + w 286 a))), (6, (0, y6)), (7, (4, y7)), (9, (0, y9))], [(0, 0), (0, y9), (1, 275)], v1)) 3 rfl ?_
            refine e_Ok.callV rfl (by omega) rfl rfl rfl rfl (c_395 (by omega) j20 (by omega) (by omega)) (fun r125 w126 h127 => ?_)
            obtain ⟨z129, rfl, q128, q128a, q128b⟩ := h127
            have f130 : e_fr mGr w w126 := e_fr.trans j19 (e_fr.mono q128 (fun c k q => su_80_26 q))
            have q128T : e_Has mTy w126 := mT_P q128 j20
            show e_Ok 20 elay ecode eI (d + 1) 396 (125, [(10, (0, w 276 (4 * y9 + 20576))), (0, (1, 275)), (1, (0, a)), (2, (4, w7 321 (7 * a + w 286 a))), (4, (4, w7 322 (7 * a + w 286 a))), (6, (0, y6)), (7, (4, y7)), (9, (0, y9))], [(0, z129)], w126) _
            refine e_Ok.run (t' := (127, [(10, (0, w 276 (4 * y9 + 20576))), (0, (1, 275)), (1, (0, a)), (2, (4, w7 321 (7 * a + w 286 a))), (4, (4, w7 322 (7 * a + w 286 a))), (6, (0, y6)), (7, (4, y7)), (9, (0, y9))], [(4, w7 321 (7 * a + w 286 a)), (4, z129)], w126)) 2 rfl ?_
            refine e_Ok.subL (z := z129 - w7 321 (7 * a + w 286 a)) rfl (by omega) (by omega) ?_
            refine e_Ok.run (t' := (134, [(11, (4, z129 - w7 321 (7 * a + w 286 a))), (10, (0, w 276 (4 * y9 + 20576))), (0, (1, 275)), (1, (0, a)), (2, (4, w7 321 (7 * a + w 286 a))), (4, (4, w7 322 (7 * a + w 286 a))), (6, (0, y6)), (7, (4, y7)), (9, (0, y9))], [(0, 1), (0, y9), (1, 275)], w126)) 4 rfl ?_
            refine e_Ok.callV rfl (by omega) rfl rfl rfl rfl (c_395 (by omega) q128T (by omega) (by omega)) (fun r132 w133 h134 => ?_)
            obtain ⟨z136, rfl, q135, q135a, q135b⟩ := h134
            have f137 : e_fr mGr w w133 := e_fr.trans f130 (e_fr.mono q135 (fun c k q => su_80_26 q))
            have q135T : e_Has mTy w133 := mT_P q135 q128T
            show e_Ok 20 elay ecode eI (d + 1) 396 (137, [(11, (4, z129 - w7 321 (7 * a + w 286 a))), (10, (0, w 276 (4 * y9 + 20576))), (0, (1, 275)), (1, (0, a)), (2, (4, w7 321 (7 * a + w 286 a))), (4, (4, w7 322 (7 * a + w 286 a))), (6, (0, y6)), (7, (4, y7)), (9, (0, y9))], [(0, z136)], w133) _
            refine e_Ok.run (t' := (140, [(11, (4, z129 - w7 321 (7 * a + w 286 a))), (10, (0, w 276 (4 * y9 + 20576))), (0, (1, 275)), (1, (0, a)), (2, (4, w7 321 (7 * a + w 286 a))), (4, (4, w7 322 (7 * a + w 286 a))), (6, (0, y6)), (7, (4, y7)), (9, (0, y9))], [(4, w7 322 (7 * a + w 286 a)), (4, z136)], w133)) 2 rfl ?_
            refine e_Ok.subL (z := z136 - w7 322 (7 * a + w 286 a)) rfl (by omega) (by omega) ?_
            refine e_Ok.run (t' := (147, [(13, (4, z136 - w7 322 (7 * a + w 286 a))), (11, (4, z129 - w7 321 (7 * a + w 286 a))), (10, (0, w 276 (4 * y9 + 20576))), (0, (1, 275)), (1, (0, a)), (2, (4, w7 321 (7 * a + w 286 a))), (4, (4, w7 322 (7 * a + w 286 a))), (6, (0, y6)), (7, (4, y7)), (9, (0, y9))], [(4, z129 - w7 321 (7 * a + w 286 a)), (4, z129 - w7 321 (7 * a + w 286 a))], w133)) 3 rfl ?_
            refine e_Ok.anyL rfl ⟨_, rfl⟩ (fun x139 => ?_)
            refine e_Ok.run (t' := (152, [(13, (4, z136 - w7 322 (7 * a + w 286 a))), (11, (4, z129 - w7 321 (7 * a + w 286 a))), (10, (0, w 276 (4 * y9 + 20576))), (0, (1, 275)), (1, (0, a)), (2, (4, w7 321 (7 * a + w 286 a))), (4, (4, w7 322 (7 * a + w 286 a))), (6, (0, y6)), (7, (4, y7)), (9, (0, y9))], [(4, z136 - w7 322 (7 * a + w 286 a)), (4, z136 - w7 322 (7 * a + w 286 a)), (4, x139)], w133)) 2 rfl ?_
            refine e_Ok.anyL rfl ⟨_, rfl⟩ (fun x140 => ?_)
            refine e_Ok.anyL rfl ⟨_, rfl⟩ (fun x141 => ?_)
            refine e_Ok.run (t' := (156, [(13, (4, z136 - w7 322 (7 * a + w 286 a))), (11, (4, z129 - w7 321 (7 * a + w 286 a))), (10, (0, w 276 (4 * y9 + 20576))), (0, (1, 275)), (1, (0, a)), (2, (4, w7 321 (7 * a + w 286 a))), (4, (4, w7 322 (7 * a + w 286 a))), (6, (0, y6)), (7, (4, y7)), (9, (0, y9))], [(4, y7), (4, x141)], w133)) 1 rfl ?_
            refine e_Ok.lcmp rfl (fun z142 z142a z142b z142c => ?_)
            refine e_Ok.if1 rfl (fun h143 => ?_) (fun h143 => ?_)
            · replace h143 : (z142 : Int) ≥ 0 := h143
              refine e_Ok.inc (z := y9 + 1) rfl rfl (by omega) (by omega) ?_
              show e_Ok 20 elay ecode eI (d + 1) 396 (180, [(9, (0, y9 + 1)), (13, (4, z136 - w7 322 (7 * a + w 286 a))), (11, (4, z129 - w7 321 (7 * a + w 286 a))), (10, (0, w 276 (4 * y9 + 20576))), (0, (1, 275)), (1, (0, a)), (2, (4, w7 321 (7 * a + w 286 a))), (4, (4, w7 322 (7 * a + w 286 a))), (6, (0, y6)), (7, (4, y7))], [], w133) _
              refine e_Ok.run (t' := (84, [(9, (0, y9 + 1)), (13, (4, z136 - w7 322 (7 * a + w 286 a))), (11, (4, z129 - w7 321 (7 * a + w 286 a))), (10, (0, w 276 (4 * y9 + 20576))), (0, (1, 275)), (1, (0, a)), (2, (4, w7 321 (7 * a + w 286 a))), (4, (4, w7 322 (7 * a + w 286 a))), (6, (0, y6)), (7, (4, y7))], [], w133)) 1 rfl ?_
              refine e_Ok.sub eAlk (e_sub_of rfl ?_) (ih18 y6 y7 (y9 + 1) w133 ⟨f137, q135T, by omega, by omega, (fun e => j23 e), (e_fr.trans (e_fr.trans j24 q128) q135)⟩ (by omega))
              exact ⟨rfl, rfl, rfl, rfl, rfl, rfl, rfl, trivial⟩
            · replace h143 : (z142 : Int) < 0 := by have q : ¬ ((z142 : Int) ≥ 0) := h143; omega
              refine e_Ok.run (t' := (164, [(13, (4, z136 - w7 322 (7 * a + w 286 a))), (11, (4, z129 - w7 321 (7 * a + w 286 a))), (10, (0, w 276 (4 * y9 + 20576))), (0, (1, 275)), (1, (0, a)), (2, (4, w7 321 (7 * a + w 286 a))), (4, (4, w7 322 (7 * a + w 286 a))), (6, (0, y6)), (7, (4, y7)), (9, (0, y9))], [(4, z129 - w7 321 (7 * a + w 286 a)), (4, z129 - w7 321 (7 * a + w 286 a))], w133)) 2 rfl ?_
              refine e_Ok.anyL rfl ⟨_, rfl⟩ (fun x144 => ?_)
              refine e_Ok.run (t' := (169, [(13, (4, z136 - w7 322 (7 * a + w 286 a))), (11, (4, z129 - w7 321 (7 * a + w 286 a))), (10, (0, w 276 (4 * y9 + 20576))), (0, (1, 275)), (1, (0, a)), (2, (4, w7 321 (7 * a + w 286 a))), (4, (4, w7 322 (7 * a + w 286 a))), (6, (0, y6)), (7, (4, y7)), (9, (0, y9))], [(4, z136 - w7 322 (7 * a + w 286 a)), (4, z136 - w7 322 (7 * a + w 286 a)), (4, x144)], w133)) 2 rfl ?_
              refine e_Ok.anyL rfl ⟨_, rfl⟩ (fun x145 => ?_)
              refine e_Ok.anyL rfl ⟨_, rfl⟩ (fun x146 => ?_)
              refine e_Ok.run (t' := (177, [(6, (0, y9)), (7, (4, x146)), (13, (4, z136 - w7 322 (7 * a + w 286 a))), (11, (4, z129 - w7 321 (7 * a + w 286 a))), (10, (0, w 276 (4 * y9 + 20576))), (0, (1, 275)), (1, (0, a)), (2, (4, w7 321 (7 * a + w 286 a))), (4, (4, w7 322 (7 * a + w 286 a))), (9, (0, y9))], [], w133)) 3 rfl ?_
              refine e_Ok.inc (z := y9 + 1) rfl rfl (by omega) (by omega) ?_
              show e_Ok 20 elay ecode eI (d + 1) 396 (180, [(9, (0, y9 + 1)), (6, (0, y9)), (7, (4, x146)), (13, (4, z136 - w7 322 (7 * a + w 286 a))), (11, (4, z129 - w7 321 (7 * a + w 286 a))), (10, (0, w 276 (4 * y9 + 20576))), (0, (1, 275)), (1, (0, a)), (2, (4, w7 321 (7 * a + w 286 a))), (4, (4, w7 322 (7 * a + w 286 a)))], [], w133) _
              refine e_Ok.run (t' := (84, [(9, (0, y9 + 1)), (6, (0, y9)), (7, (4, x146)), (13, (4, z136 - w7 322 (7 * a + w 286 a))), (11, (4, z129 - w7 321 (7 * a + w 286 a))), (10, (0, w 276 (4 * y9 + 20576))), (0, (1, 275)), (1, (0, a)), (2, (4, w7 321 (7 * a + w 286 a))), (4, (4, w7 322 (7 * a + w 286 a)))], [], w133)) 1 rfl ?_
              refine e_Ok.sub eAlk (e_sub_of rfl ?_) (ih18 y9 x146 (y9 + 1) w133 ⟨f137, q135T, by omega, by omega, (fun e => by omega), (e_fr.trans (e_fr.trans j24 q128) q135)⟩ (by omega))
              exact ⟨rfl, rfl, rfl, rfl, rfl, rfl, rfl, trivial⟩
          · replace h124 : (w 276 (4 * y9 + 20576) : Int) ≥ 4 := by have q : ¬ ((w 276 (4 * y9 + 20576) : Int) < 4) := h124; omega
            refine e_Ok.run (t' := (115, [(10, (0, w 276 (4 * y9 + 20576))), (0, (1, 275)), (1, (0, a)), (2, (4, w7 321 (7 * a + w 286 a))), (4, (4, w7 322 (7 * a + w 286 a))), (6, (0, y6)), (7, (4, y7)), (9, (0, y9))], [(0, 8), (0, w 276 (4 * y9 + 20576))], v1)) 2 rfl ?_
            refine e_Ok.if2 rfl (fun h147 => ?_) (fun h147 => ?_)
            · replace h147 : (w 276 (4 * y9 + 20576) : Int) ≠ 8 := h147
              refine e_Ok.inc (z := y9 + 1) rfl rfl (by omega) (by omega) ?_
              show e_Ok 20 elay ecode eI (d + 1) 396 (180, [(9, (0, y9 + 1)), (10, (0, w 276 (4 * y9 + 20576))), (0, (1, 275)), (1, (0, a)), (2, (4, w7 321 (7 * a + w 286 a))), (4, (4, w7 322 (7 * a + w 286 a))), (6, (0, y6)), (7, (4, y7))], [], v1) _
              refine e_Ok.run (t' := (84, [(9, (0, y9 + 1)), (10, (0, w 276 (4 * y9 + 20576))), (0, (1, 275)), (1, (0, a)), (2, (4, w7 321 (7 * a + w 286 a))), (4, (4, w7 322 (7 * a + w 286 a))), (6, (0, y6)), (7, (4, y7))], [], v1)) 1 rfl ?_
              refine e_Ok.sub eAlk (e_sub_of rfl ?_) (ih18 y6 y7 (y9 + 1) v1 ⟨j19, j20, by omega, by omega, (fun e => j23 e), j24⟩ (by omega))
              exact ⟨rfl, rfl, rfl, rfl, rfl, rfl, rfl, trivial⟩
            · replace h147 : (w 276 (4 * y9 + 20576) : Int) = 8 := by have q : ¬ ((w 276 (4 * y9 + 20576) : Int) ≠ 8) := h147; omega
              refine e_Ok.run (t' := (122, [(10, (0, w 276 (4 * y9 + 20576))), (0, (1, 275)), (1, (0, a)), (2, (4, w7 321 (7 * a + w 286 a))), (4, (4, w7 322 (7 * a + w 286 a))), (6, (0, y6)), (7, (4, y7)), (9, (0, y9))], [(0, 0), (0, y9), (1, 275)], v1)) 3 rfl ?_
              refine e_Ok.callV rfl (by omega) rfl rfl rfl rfl (c_395 (by omega) j20 (by omega) (by omega)) (fun r148 w149 h150 => ?_)
              obtain ⟨z152, rfl, q151, q151a, q151b⟩ := h150
              have f153 : e_fr mGr w w149 := e_fr.trans j19 (e_fr.mono q151 (fun c k q => su_80_26 q))
              have q151T : e_Has mTy w149 := mT_P q151 j20
              show e_Ok 20 elay ecode eI (d + 1) 396 (125, [(10, (0, w 276 (4 * y9 + 20576))), (0, (1, 275)), (1, (0, a)), (2, (4, w7 321 (7 * a + w 286 a))), (4, (4, w7 322 (7 * a + w 286 a))), (6, (0, y6)), (7, (4, y7)), (9, (0, y9))], [(0, z152)], w149) _
              refine e_Ok.run (t' := (127, [(10, (0, w 276 (4 * y9 + 20576))), (0, (1, 275)), (1, (0, a)), (2, (4, w7 321 (7 * a + w 286 a))), (4, (4, w7 322 (7 * a + w 286 a))), (6, (0, y6)), (7, (4, y7)), (9, (0, y9))], [(4, w7 321 (7 * a + w 286 a)), (4, z152)], w149)) 2 rfl ?_
              refine e_Ok.subL (z := z152 - w7 321 (7 * a + w 286 a)) rfl (by omega) (by omega) ?_
              refine e_Ok.run (t' := (134, [(11, (4, z152 - w7 321 (7 * a + w 286 a))), (10, (0, w 276 (4 * y9 + 20576))), (0, (1, 275)), (1, (0, a)), (2, (4, w7 321 (7 * a + w 286 a))), (4, (4, w7 322 (7 * a + w 286 a))), (6, (0, y6)), (7, (4, y7)), (9, (0, y9))], [(0, 1), (0, y9), (1, 275)], w149)) 4 rfl ?_
              refine e_Ok.callV rfl (by omega) rfl rfl rfl rfl (c_395 (by omega) q151T (by omega) (by omega)) (fun r155 w156 h157 => ?_)
              obtain ⟨z159, rfl, q158, q158a, q158b⟩ := h157
              have f160 : e_fr mGr w w156 := e_fr.trans f153 (e_fr.mono q158 (fun c k q => su_80_26 q))
              have q158T : e_Has mTy w156 := mT_P q158 q151T
              show e_Ok 20 elay ecode eI (d + 1) 396 (137, [(11, (4, z152 - w7 321 (7 * a + w 286 a))), (10, (0, w 276 (4 * y9 + 20576))), (0, (1, 275)), (1, (0, a)), (2, (4, w7 321 (7 * a + w 286 a))), (4, (4, w7 322 (7 * a + w 286 a))), (6, (0, y6)), (7, (4, y7)), (9, (0, y9))], [(0, z159)], w156) _
              refine e_Ok.run (t' := (140, [(11, (4, z152 - w7 321 (7 * a + w 286 a))), (10, (0, w 276 (4 * y9 + 20576))), (0, (1, 275)), (1, (0, a)), (2, (4, w7 321 (7 * a + w 286 a))), (4, (4, w7 322 (7 * a + w 286 a))), (6, (0, y6)), (7, (4, y7)), (9, (0, y9))], [(4, w7 322 (7 * a + w 286 a)), (4, z159)], w156)) 2 rfl ?_
              refine e_Ok.subL (z := z159 - w7 322 (7 * a + w 286 a)) rfl (by omega) (by omega) ?_
              refine e_Ok.run (t' := (147, [(13, (4, z159 - w7 322 (7 * a + w 286 a))), (11, (4, z152 - w7 321 (7 * a + w 286 a))), (10, (0, w 276 (4 * y9 + 20576))), (0, (1, 275)), (1, (0, a)), (2, (4, w7 321 (7 * a + w 286 a))), (4, (4, w7 322 (7 * a + w 286 a))), (6, (0, y6)), (7, (4, y7)), (9, (0, y9))], [(4, z152 - w7 321 (7 * a + w 286 a)), (4, z152 - w7 321 (7 * a + w 286 a))], w156)) 3 rfl ?_
              refine e_Ok.anyL rfl ⟨_, rfl⟩ (fun x162 => ?_)
              refine e_Ok.run (t' := (152, [(13, (4, z159 - w7 322 (7 * a + w 286 a))), (11, (4, z152 - w7 321 (7 * a + w 286 a))), (10, (0, w 276 (4 * y9 + 20576))), (0, (1, 275)), (1, (0, a)), (2, (4, w7 321 (7 * a + w 286 a))), (4, (4, w7 322 (7 * a + w 286 a))), (6, (0, y6)), (7, (4, y7)), (9, (0, y9))], [(4, z159 - w7 322 (7 * a + w 286 a)), (4, z159 - w7 322 (7 * a + w 286 a)), (4, x162)], w156)) 2 rfl ?_
              refine e_Ok.anyL rfl ⟨_, rfl⟩ (fun x163 => ?_)
              refine e_Ok.anyL rfl ⟨_, rfl⟩ (fun x164 => ?_)
              refine e_Ok.run (t' := (156, [(13, (4, z159 - w7 322 (7 * a + w 286 a))), (11, (4, z152 - w7 321 (7 * a + w 286 a))), (10, (0, w 276 (4 * y9 + 20576))), (0, (1, 275)), (1, (0, a)), (2, (4, w7 321 (7 * a + w 286 a))), (4, (4, w7 322 (7 * a + w 286 a))), (6, (0, y6)), (7, (4, y7)), (9, (0, y9))], [(4, y7), (4, x164)], w156)) 1 rfl ?_
              refine e_Ok.lcmp rfl (fun z165 z165a z165b z165c => ?_)
              refine e_Ok.if1 rfl (fun h166 => ?_) (fun h166 => ?_)
              · replace h166 : (z165 : Int) ≥ 0 := h166
                refine e_Ok.inc (z := y9 + 1) rfl rfl (by omega) (by omega) ?_
                show e_Ok 20 elay ecode eI (d + 1) 396 (180, [(9, (0, y9 + 1)), (13, (4, z159 - w7 322 (7 * a + w 286 a))), (11, (4, z152 - w7 321 (7 * a + w 286 a))), (10, (0, w 276 (4 * y9 + 20576))), (0, (1, 275)), (1, (0, a)), (2, (4, w7 321 (7 * a + w 286 a))), (4, (4, w7 322 (7 * a + w 286 a))), (6, (0, y6)), (7, (4, y7))], [], w156) _
                refine e_Ok.run (t' := (84, [(9, (0, y9 + 1)), (13, (4, z159 - w7 322 (7 * a + w 286 a))), (11, (4, z152 - w7 321 (7 * a + w 286 a))), (10, (0, w 276 (4 * y9 + 20576))), (0, (1, 275)), (1, (0, a)), (2, (4, w7 321 (7 * a + w 286 a))), (4, (4, w7 322 (7 * a + w 286 a))), (6, (0, y6)), (7, (4, y7))], [], w156)) 1 rfl ?_
                refine e_Ok.sub eAlk (e_sub_of rfl ?_) (ih18 y6 y7 (y9 + 1) w156 ⟨f160, q158T, by omega, by omega, (fun e => j23 e), (e_fr.trans (e_fr.trans j24 q151) q158)⟩ (by omega))
                exact ⟨rfl, rfl, rfl, rfl, rfl, rfl, rfl, trivial⟩
              · replace h166 : (z165 : Int) < 0 := by have q : ¬ ((z165 : Int) ≥ 0) := h166; omega
                refine e_Ok.run (t' := (164, [(13, (4, z159 - w7 322 (7 * a + w 286 a))), (11, (4, z152 - w7 321 (7 * a + w 286 a))), (10, (0, w 276 (4 * y9 + 20576))), (0, (1, 275)), (1, (0, a)), (2, (4, w7 321 (7 * a + w 286 a))), (4, (4, w7 322 (7 * a + w 286 a))), (6, (0, y6)), (7, (4, y7)), (9, (0, y9))], [(4, z152 - w7 321 (7 * a + w 286 a)), (4, z152 - w7 321 (7 * a + w 286 a))], w156)) 2 rfl ?_
                refine e_Ok.anyL rfl ⟨_, rfl⟩ (fun x167 => ?_)
                refine e_Ok.run (t' := (169, [(13, (4, z159 - w7 322 (7 * a + w 286 a))), (11, (4, z152 - w7 321 (7 * a + w 286 a))), (10, (0, w 276 (4 * y9 + 20576))), (0, (1, 275)), (1, (0, a)), (2, (4, w7 321 (7 * a + w 286 a))), (4, (4, w7 322 (7 * a + w 286 a))), (6, (0, y6)), (7, (4, y7)), (9, (0, y9))], [(4, z159 - w7 322 (7 * a + w 286 a)), (4, z159 - w7 322 (7 * a + w 286 a)), (4, x167)], w156)) 2 rfl ?_
                refine e_Ok.anyL rfl ⟨_, rfl⟩ (fun x168 => ?_)
                refine e_Ok.anyL rfl ⟨_, rfl⟩ (fun x169 => ?_)
                refine e_Ok.run (t' := (177, [(6, (0, y9)), (7, (4, x169)), (13, (4, z159 - w7 322 (7 * a + w 286 a))), (11, (4, z152 - w7 321 (7 * a + w 286 a))), (10, (0, w 276 (4 * y9 + 20576))), (0, (1, 275)), (1, (0, a)), (2, (4, w7 321 (7 * a + w 286 a))), (4, (4, w7 322 (7 * a + w 286 a))), (9, (0, y9))], [], w156)) 3 rfl ?_
                refine e_Ok.inc (z := y9 + 1) rfl rfl (by omega) (by omega) ?_
                show e_Ok 20 elay ecode eI (d + 1) 396 (180, [(9, (0, y9 + 1)), (6, (0, y9)), (7, (4, x169)), (13, (4, z159 - w7 322 (7 * a + w 286 a))), (11, (4, z152 - w7 321 (7 * a + w 286 a))), (10, (0, w 276 (4 * y9 + 20576))), (0, (1, 275)), (1, (0, a)), (2, (4, w7 321 (7 * a + w 286 a))), (4, (4, w7 322 (7 * a + w 286 a)))], [], w156) _
                refine e_Ok.run (t' := (84, [(9, (0, y9 + 1)), (6, (0, y9)), (7, (4, x169)), (13, (4, z159 - w7 322 (7 * a + w 286 a))), (11, (4, z152 - w7 321 (7 * a + w 286 a))), (10, (0, w 276 (4 * y9 + 20576))), (0, (1, 275)), (1, (0, a)), (2, (4, w7 321 (7 * a + w 286 a))), (4, (4, w7 322 (7 * a + w 286 a)))], [], w156)) 1 rfl ?_
                refine e_Ok.sub eAlk (e_sub_of rfl ?_) (ih18 y9 x169 (y9 + 1) w156 ⟨f160, q158T, by omega, by omega, (fun e => by omega), (e_fr.trans (e_fr.trans j24 q151) q158)⟩ (by omega))
                exact ⟨rfl, rfl, rfl, rfl, rfl, rfl, rfl, trivial⟩
    refine e_Ok.sub eAlk (e_sub_of rfl ?_) (hL17 (33 + 1 : Int).toNat (-1) x16 0 w7 ⟨f10, q9T, by omega, by omega, (fun e => by omega), (e_fr.trans (e_fr.refl w) (e_fr.mono q9 (fun c k q => by first | exact su_80_27 q | (unfold mPt at q; unfold mP; omega))))⟩ (by omega))
    exact ⟨rfl, rfl, rfl, rfl, rfl, rfl, rfl, trivial⟩
  · replace h5 : (w 276 (36 * a + 17) : Int) ≥ 0 := by have q : ¬ ((w 276 (36 * a + 17) : Int) < 0) := h5; omega
    refine e_Ok.run (t' := (15, [(0, (1, 275)), (1, (0, a))], [(0, 0)], w)) 1 rfl ?_
    refine e_Ok.rets rfl rfl ?_
    have e170 : w 276 5 = w 276 5 := rfl
    exact ⟨_, rfl, by omega, (e_fr.refl w), hT, by omega, mOr.fr hOr (by omega) (e_Has.orn hT) (e_Has.orw hT (by omega)) (fun k q => by unfold orK at q; exact rfl), (fun b g1 g2 => Or.inr rfl)⟩
theorem no_80_12 {a : Int} {k : Int} : ¬ mDp a 275 k := by unfold mDp; omega
theorem no_80_13 {a : Int} (ha : 0 ≤ a ∧ a ≤ 3) : ¬ mDp a 276 5 := by unfold mDp; omega
theorem no_80_14 {a : Int} {b : Int} (ha : 0 ≤ a ∧ a ≤ 3) (hb : 0 ≤ b ∧ b ≤ 3) : ¬ mDp a 276 (36 * b + 20) := by unfold mDp; omega
theorem no_80_15 {p : Int} (hp : 0 ≤ p ∧ p ≤ 9999) : ¬ mPa p 276 5 := by unfold mPa; omega
theorem no_80_16 {p : Int} {b : Int} (hp : 0 ≤ p ∧ p ≤ 9999) (hb : 0 ≤ b ∧ b ≤ 3) : ¬ mPa p 276 (36 * b + 20) := by unfold mPa; omega
theorem no_80_17 {a : Int} {k : Int} : ¬ mDp a 300 k := by unfold mDp; omega
theorem no_80_18 {a : Int} {k : Int} : ¬ mDp a 301 k := by unfold mDp; omega
theorem no_80_19 {a : Int} {k : Int} : ¬ mDp a 302 k := by unfold mDp; omega
theorem no_80_20 {a : Int} {k : Int} : ¬ mDp a 303 k := by unfold mDp; omega
theorem no_80_21 {a : Int} {k : Int} : ¬ mDp a 305 k := by unfold mDp; omega
theorem su_80_28 {a : Int} {c k : Int} (q : mP c k) : mDp a c k := by
  unfold mP at q
  rcases q with q | q
  · exact Or.inl (by omega)
  · exact Or.inr (Or.inl (by omega))
set_option maxHeartbeats 4000000 in
theorem c_397 {d : Nat} (hd : 27 ≤ d) {w : eW} (hT : e_Has mTy w) {a : Int} (ha : 0 ≤ a ∧ a ≤ 3) (hOr : mOr w (w 275 40)) (hE : w 276 5 ≤ 2147483600) : e_Ok 20 elay ecode eI d 397 (0, [(0, (1, 275)), (1, (0, a))], [], w) (fun r w' => ∃ z : Int, r = [(0, z)] ∧ (0 ≤ z ∧ z ≤ 1) ∧ e_fr mGr w w' ∧ e_Has mTy w' ∧ (w 276 5 ≤ w' 276 5 ∧ w' 276 5 ≤ w 276 5 + 1) ∧ mOr w' (w 275 40) ∧ (∀ b, 0 ≤ b → b ≤ 3 → w' 276 (36 * b + 20) = 0 ∨ w' 276 (36 * b + 20) = w 276 (36 * b + 20))) := by
  obtain ⟨d, rfl⟩ : ∃ e, d = e + 1 := ⟨d - 1, by omega⟩
  have hja := (e_Has.get hT (c := 286) (k := a) (lo := 0) (hi := 6) rfl (by decide))
  have hhl := e_Has.get hT (nR_HOLDS (a := a) ha) (by decide)
  have hpp := e_Has.get hT (c := 275) (k := 40) (lo := 0) (hi := 32) rfl (by decide)
  refine e_Ok.run (t' := (1, [(0, (1, 275)), (1, (0, a))], [(1, 275)], w)) 1 rfl ?_
  refine e_Ok.getr (z := 276) rfl (el_o rfl) rfl rfl (e_Has.eq hT rfl) (by omega) ?_
  refine e_Ok.run (t' := (5, [(0, (1, 275)), (1, (0, a))], [(0, a), (1, 276)], w)) 1 rfl ?_
  refine e_Ok.callS rfl (by omega) rfl rfl (c_268 (by omega)) (fun r1 w2 h3 => ?_)
  obtain ⟨rfl, rfl⟩ := h3
  show e_Ok 20 elay ecode eI (d + 1) 397 (8, [(0, (1, 275)), (1, (0, a))], [(0, 36 * a + 16), (1, 276)], w) _
  refine e_Ok.run (t' := (9, [(0, (1, 275)), (1, (0, a))], [(0, 1), (0, 36 * a + 16), (1, 276)], w)) 1 rfl ?_
  refine e_Ok.add (z := 36 * a + 17) rfl (by omega) (by omega) ?_
  refine e_Ok.ald (z := w 276 (36 * a + 17)) rfl (el_o rfl) rfl (by omega) rfl (by omega) ?_
  refine e_Ok.run (t' := (13, [(2, (0, w 276 (36 * a + 17))), (0, (1, 275)), (1, (0, a))], [(0, w 276 (36 * a + 17))], w)) 2 rfl ?_
  refine e_Ok.if1 rfl (fun h4 => ?_) (fun h4 => ?_)
  · replace h4 : (w 276 (36 * a + 17) : Int) ≥ 0 := h4
    have hq := hOr.2.2.2 a ha.1 ha.2 (by omega)
    refine e_Ok.run (t' := (21, [(2, (0, w 276 (36 * a + 17))), (0, (1, 275)), (1, (0, a))], [(0, 0), (0, w 276 (36 * a + 17)), (1, 275)], w)) 3 rfl ?_
    refine e_Ok.callV rfl (by omega) rfl rfl rfl rfl (c_395 (by omega) hT (by omega) (by omega)) (fun r5 w6 h7 => ?_)
    obtain ⟨z9, rfl, q8, q8a, q8b⟩ := h7
    have f10 : e_fr mGr w w6 := e_fr.trans (e_fr.refl w) (e_fr.mono q8 (fun c k q => su_80_26 q))
    have q8T : e_Has mTy w6 := mT_P q8 hT
    show e_Ok 20 elay ecode eI (d + 1) 397 (24, [(2, (0, w 276 (36 * a + 17))), (0, (1, 275)), (1, (0, a))], [(0, z9)], w6) _
    refine e_Ok.run (t' := (28, [(3, (0, z9)), (2, (0, w 276 (36 * a + 17))), (0, (1, 275)), (1, (0, a))], [(0, 1), (0, w 276 (36 * a + 17)), (1, 275)], w6)) 4 rfl ?_
    refine e_Ok.callV rfl (by omega) rfl rfl rfl rfl (c_395 (by omega) q8T (by omega) (by omega)) (fun r11 w12 h13 => ?_)
    obtain ⟨z15, rfl, q14, q14a, q14b⟩ := h13
    have f16 : e_fr mGr w w12 := e_fr.trans f10 (e_fr.mono q14 (fun c k q => su_80_26 q))
    have q14T : e_Has mTy w12 := mT_P q14 q8T
    show e_Ok 20 elay ecode eI (d + 1) 397 (31, [(3, (0, z9)), (2, (0, w 276 (36 * a + 17))), (0, (1, 275)), (1, (0, a))], [(0, z15)], w12) _
    refine e_Ok.run (t' := (34, [(4, (0, z15)), (3, (0, z9)), (2, (0, w 276 (36 * a + 17))), (0, (1, 275)), (1, (0, a))], [(1, 275)], w12)) 2 rfl ?_
    refine e_Ok.getr (z := 276) rfl (el_o rfl) rfl rfl ((q14 275 0 no_80_3).trans ((q8 275 0 no_80_3).trans (e_Has.eq hT rfl))) (by omega) ?_
    refine e_Ok.run (t' := (38, [(4, (0, z15)), (3, (0, z9)), (2, (0, w 276 (36 * a + 17))), (0, (1, 275)), (1, (0, a))], [(0, a), (1, 276)], w12)) 1 rfl ?_
    refine e_Ok.callS rfl (by omega) rfl rfl (c_268 (by omega)) (fun r17 w18 h19 => ?_)
    obtain ⟨rfl, rfl⟩ := h19
    show e_Ok 20 elay ecode eI (d + 1) 397 (41, [(4, (0, z15)), (3, (0, z9)), (2, (0, w 276 (36 * a + 17))), (0, (1, 275)), (1, (0, a))], [(0, 36 * a + 16), (1, 276)], w12) _
    refine e_Ok.run (t' := (42, [(4, (0, z15)), (3, (0, z9)), (2, (0, w 276 (36 * a + 17))), (0, (1, 275)), (1, (0, a))], [(0, 1), (0, 36 * a + 16), (1, 276)], w12)) 1 rfl ?_
    refine e_Ok.add (z := 36 * a + 17) rfl (by omega) (by omega) ?_
    refine e_Ok.run (t' := (44, [(4, (0, z15)), (3, (0, z9)), (2, (0, w 276 (36 * a + 17))), (0, (1, 275)), (1, (0, a))], [(0, (-1)), (0, 36 * a + 17), (1, 276)], w12)) 1 rfl ?_
    refine e_Ok.ast rfl (el_o rfl) rfl rfl (by omega) ?_
    generalize hw20 : e_up w12 276 (36 * a + 17) (-1) = w20
    have f21 : e_fr mGr w w20 := e_fr.up f16 hw20 (by unfold mGr; omega)
    have hT22 : e_Has mTy w20 := e_Has.upr q14T hw20 (nR_HOLDS (a := a) (by omega)) (by omega)
    refine e_Ok.run (t' := (51, [(6, (0, 0)), (5, (0, 0)), (4, (0, z15)), (3, (0, z9)), (2, (0, w 276 (36 * a + 17))), (0, (1, 275)), (1, (0, a))], [], w20)) 4 rfl ?_
    have hL23 : ∀ (nn : Nat) (y5 : Int) (y6 : Int) (v1 : eW), e_fr mGr w v1 ∧ e_Has mTy v1 ∧ (0 ≤ y5 ∧ y5 ≤ 1) ∧ (0 ≤ y6 ∧ y6 ≤ 4) ∧ mOr v1 (w 275 40) ∧ (y5 = 0 → 4 ≤ v1 276 (4 * w 276 (36 * a + 17) + 20576)) ∧ (∀ x, 0 ≤ x → x ≤ 3 → v1 276 (36 * x + 17) ≠ w 276 (36 * a + 17)) ∧ e_fr (mDp a) w v1 → 5 - y6 < nn → e_Ok 20 elay ecode eI (d + 1) 397 (51, [(0, (1, 275)), (1, (0, a)), (2, (0, w 276 (36 * a + 17))), (3, (0, z9)), (4, (0, z15)), (5, (0, y5)), (6, (0, y6))], [], v1) (fun r w' => ∃ z : Int, r = [(0, z)] ∧ (0 ≤ z ∧ z ≤ 1) ∧ e_fr mGr w w' ∧ e_Has mTy w' ∧ (w 276 5 ≤ w' 276 5 ∧ w' 276 5 ≤ w 276 5 + 1) ∧ mOr w' (w 275 40) ∧ (∀ b, 0 ≤ b → b ≤ 3 → w' 276 (36 * b + 20) = 0 ∨ w' 276 (36 * b + 20) = w 276 (36 * b + 20))) := by
      intro nn
      induction nn with
      | zero => intro y5 y6 v1 hj hm; obtain ⟨j25, j26, j27, j28, j29, j30, j31, j32⟩ := hj; exfalso; omega
      | succ nn ih24 =>
        intro y5 y6 v1 hj hm
        obtain ⟨j25, j26, j27, j28, j29, j30, j31, j32⟩ := hj
        refine e_Ok.run (t' := (54, [(0, (1, 275)), (1, (0, a)), (2, (0, w 276 (36 * a + 17))), (3, (0, z9)), (4, (0, z15)), (5, (0, y5)), (6, (0, y6))], [(1, 275), (0, y6)], v1)) 2 rfl ?_
        have h33 := (e_Has.get hT (c := 275) (k := 30) (lo := 0) (hi := 4) rfl (by decide))
        refine e_Ok.getf (z := w 275 30) rfl (el_o rfl) rfl rfl ((j32 275 30 (by first | exact no_80_12 | (unfold mDp; omega))).trans rfl) (by omega) ?_
        refine e_Ok.if2 rfl (fun h34 => ?_) (fun h34 => ?_)
        · replace h34 : (y6 : Int) ≥ w 275 30 := h34
          refine e_Ok.run (t' := (215, [(0, (1, 275)), (1, (0, a)), (2, (0, w 276 (36 * a + 17))), (3, (0, z9)), (4, (0, z15)), (5, (0, y5)), (6, (0, y6))], [(0, y5)], v1)) 1 rfl ?_
          refine e_Ok.if1 rfl (fun h35 => ?_) (fun h35 => ?_)
          · replace h35 : (y5 : Int) ≠ 0 := h35
            refine e_Ok.run (t' := (228, [(0, (1, 275)), (1, (0, a)), (2, (0, w 276 (36 * a + 17))), (3, (0, z9)), (4, (0, z15)), (5, (0, y5)), (6, (0, y6))], [(0, (-1)), (1, 275)], v1)) 2 rfl ?_
            refine e_Ok.callV rfl (by omega) rfl rfl rfl rfl (c_390 (by omega) j26) (fun r36 w37 h38 => ?_)
            obtain ⟨rfl, q40, q40T, q40a, q40b⟩ := h38
            have f41 : e_fr mGr w w37 := e_fr.trans j25 (e_fr.mono q40 (fun c k q => su_80_23 q))
            show e_Ok 20 elay ecode eI (d + 1) 397 (231, [(0, (1, 275)), (1, (0, a)), (2, (0, w 276 (36 * a + 17))), (3, (0, z9)), (4, (0, z15)), (5, (0, y5)), (6, (0, y6))], [], w37) _
            refine e_Ok.run (t' := (236, [(0, (1, 275)), (1, (0, a)), (2, (0, w 276 (36 * a + 17))), (3, (0, z9)), (4, (0, z15)), (5, (0, y5)), (6, (0, y6))], [(0, w 276 (36 * a + 17)), (0, a), (0, 7), (1, 275)], w37)) 4 rfl ?_
            have e45 : w37 276 5 = w 276 5 := ((q40 276 5 no_80_5).trans ((j32 276 5 (by first | exact no_80_13 (by omega) | (unfold mDp; omega))).trans rfl))
            refine e_Ok.callV rfl (by omega) rfl rfl rfl rfl (c_319 q40T (by omega) (by omega) (by omega) (by omega)) (fun r42 w43 h44 => ?_)
            obtain ⟨rfl, q46, q46T, q46n⟩ := h44
            have f47 : e_fr mGr w w43 := e_fr.trans f41 (e_fr.mono q46 (fun c k q => su_80_24 q))
            show e_Ok 20 elay ecode eI (d + 1) 397 (239, [(0, (1, 275)), (1, (0, a)), (2, (0, w 276 (36 * a + 17))), (3, (0, z9)), (4, (0, z15)), (5, (0, y5)), (6, (0, y6))], [], w43) _
            refine e_Ok.run (t' := (240, [(0, (1, 275)), (1, (0, a)), (2, (0, w 276 (36 * a + 17))), (3, (0, z9)), (4, (0, z15)), (5, (0, y5)), (6, (0, y6))], [(0, 1)], w43)) 1 rfl ?_
            refine e_Ok.rets rfl rfl ?_
            have e48 : w43 276 5 = w43 276 5 := rfl
            exact ⟨_, rfl, by omega, f47, q46T, by omega, mOr.fr j29 (by omega) (e_Has.orn j26) (e_Has.orw j26 (by omega)) (fun k q => by unfold orK at q; exact ((q46 276 k (by unfold mE; omega)).trans ((q40 276 k (by unfold mSt; omega)).trans rfl))), (fun b g1 g2 => by have e := q40b b g1 g2; rw [show v1 276 (36 * b + 20) = w 276 (36 * b + 20) from ((j32 276 (36 * b + 20) (by first | exact no_80_14 (by omega) (by omega) | (unfold mDp; omega))).trans rfl)] at e; rw [show w43 276 (36 * b + 20) = w37 276 (36 * b + 20) from ((q46 276 (36 * b + 20) (by first | exact no_80_8 (by omega) | (unfold mE; omega))).trans rfl)]; exact e)⟩
          · replace h35 : (y5 : Int) = 0 := by have q : ¬ ((y5 : Int) ≠ 0) := h35; omega
            refine e_Ok.run (t' := (223, [(0, (1, 275)), (1, (0, a)), (2, (0, w 276 (36 * a + 17))), (3, (0, z9)), (4, (0, z15)), (5, (0, y5)), (6, (0, y6))], [(0, z15), (0, z9), (0, w 276 (36 * a + 17)), (1, 275)], v1)) 4 rfl ?_
            refine e_Ok.callV rfl (by omega) rfl rfl rfl rfl (c_394 (by omega) j26 (by omega) (by omega) (by omega)) (fun r49 w50 h51 => ?_)
            obtain ⟨rfl, q52, q52T, q52w⟩ := h51
            have f53 : e_fr mGr w w50 := e_fr.trans j25 (e_fr.mono q52 (fun c k q => by unfold mPa at q; unfold mGr; omega))
            show e_Ok 20 elay ecode eI (d + 1) 397 (226, [(0, (1, 275)), (1, (0, a)), (2, (0, w 276 (36 * a + 17))), (3, (0, z9)), (4, (0, z15)), (5, (0, y5)), (6, (0, y6))], [], w50) _
            refine e_Ok.run (t' := (228, [(0, (1, 275)), (1, (0, a)), (2, (0, w 276 (36 * a + 17))), (3, (0, z9)), (4, (0, z15)), (5, (0, y5)), (6, (0, y6))], [(0, (-1)), (1, 275)], w50)) 2 rfl ?_
            refine e_Ok.callV rfl (by omega) rfl rfl rfl rfl (c_390 (by omega) q52T) (fun r54 w55 h56 => ?_)
            obtain ⟨rfl, q57, q57T, q57a, q57b⟩ := h56
            have f58 : e_fr mGr w w55 := e_fr.trans f53 (e_fr.mono q57 (fun c k q => su_80_23 q))
            show e_Ok 20 elay ecode eI (d + 1) 397 (231, [(0, (1, 275)), (1, (0, a)), (2, (0, w 276 (36 * a + 17))), (3, (0, z9)), (4, (0, z15)), (5, (0, y5)), (6, (0, y6))], [], w55) _
            refine e_Ok.run (t' := (236, [(0, (1, 275)), (1, (0, a)), (2, (0, w 276 (36 * a + 17))), (3, (0, z9)), (4, (0, z15)), (5, (0, y5)), (6, (0, y6))], [(0, w 276 (36 * a + 17)), (0, a), (0, 7), (1, 275)], w55)) 4 rfl ?_
            have e62 : w55 276 5 = w 276 5 := ((q57 276 5 no_80_5).trans ((q52 276 5 (by first | exact no_80_15 (by omega) | (unfold mPa; omega))).trans ((j32 276 5 (by first | exact no_80_13 (by omega) | (unfold mDp; omega))).trans rfl)))
            refine e_Ok.callV rfl (by omega) rfl rfl rfl rfl (c_319 q57T (by omega) (by omega) (by omega) (by omega)) (fun r59 w60 h61 => ?_)
            obtain ⟨rfl, q63, q63T, q63n⟩ := h61
            have f64 : e_fr mGr w w60 := e_fr.trans f58 (e_fr.mono q63 (fun c k q => su_80_24 q))
            show e_Ok 20 elay ecode eI (d + 1) 397 (239, [(0, (1, 275)), (1, (0, a)), (2, (0, w 276 (36 * a + 17))), (3, (0, z9)), (4, (0, z15)), (5, (0, y5)), (6, (0, y6))], [], w60) _
            refine e_Ok.run (t' := (240, [(0, (1, 275)), (1, (0, a)), (2, (0, w 276 (36 * a + 17))), (3, (0, z9)), (4, (0, z15)), (5, (0, y5)), (6, (0, y6))], [(0, 1)], w60)) 1 rfl ?_
            refine e_Ok.rets rfl rfl ?_
            have e65 : w60 276 5 = w60 276 5 := rfl
            exact ⟨_, rfl, by omega, f64, q63T, by omega, mOr.lies (p := w 276 (36 * a + 17)) j29 (by omega) (Or.inl ⟨rfl, hq.1⟩) (e_Has.orn j26) (e_Has.orw j26 (by omega)) (by omega) (fun _ => j30 (by omega)) j31 ((q63 276 (4 * w 276 (36 * a + 17) + 20576) (by unfold mE; omega)).trans ((q57 276 (4 * w 276 (36 * a + 17) + 20576) (by unfold mSt; omega)).trans q52w)) (fun k q1 q2 => by unfold orK at q1; exact ((q63 276 k (by unfold mE; omega)).trans ((q57 276 k (by unfold mSt; omega)).trans ((q52 276 k (by unfold mPa; omega)).trans rfl)))), (fun b g1 g2 => by have e := q57b b g1 g2; rw [show w50 276 (36 * b + 20) = w 276 (36 * b + 20) from ((q52 276 (36 * b + 20) (by first | exact no_80_16 (by omega) (by omega) | (unfold mPa; omega))).trans ((j32 276 (36 * b + 20) (by first | exact no_80_14 (by omega) (by omega) | (unfold mDp; omega))).trans rfl))] at e; rw [show w60 276 (36 * b + 20) = w55 276 (36 * b + 20) from ((q63 276 (36 * b + 20) (by first | exact no_80_8 (by omega) | (unfold mE; omega))).trans rfl)]; exact e)⟩
        · replace h34 : (y6 : Int) < w 275 30 := by have q : ¬ ((y6 : Int) ≥ w 275 30) := h34; omega
          refine e_Ok.run (t' := (62, [(0, (1, 275)), (1, (0, a)), (2, (0, w 276 (36 * a + 17))), (3, (0, z9)), (4, (0, z15)), (5, (0, y5)), (6, (0, y6))], [(0, y5)], v1)) 1 rfl ?_
          refine e_Ok.if1 rfl (fun h66 => ?_) (fun h66 => ?_)
          · replace h66 : (y5 : Int) ≠ 0 := h66
            refine e_Ok.run (t' := (215, [(0, (1, 275)), (1, (0, a)), (2, (0, w 276 (36 * a + 17))), (3, (0, z9)), (4, (0, z15)), (5, (0, y5)), (6, (0, y6))], [(0, y5)], v1)) 1 rfl ?_
            refine e_Ok.if1 rfl (fun h67 => ?_) (fun h67 => ?_)
            · replace h67 : (y5 : Int) ≠ 0 := h67
              refine e_Ok.run (t' := (228, [(0, (1, 275)), (1, (0, a)), (2, (0, w 276 (36 * a + 17))), (3, (0, z9)), (4, (0, z15)), (5, (0, y5)), (6, (0, y6))], [(0, (-1)), (1, 275)], v1)) 2 rfl ?_
              refine e_Ok.callV rfl (by omega) rfl rfl rfl rfl (c_390 (by omega) j26) (fun r68 w69 h70 => ?_)
              obtain ⟨rfl, q71, q71T, q71a, q71b⟩ := h70
              have f72 : e_fr mGr w w69 := e_fr.trans j25 (e_fr.mono q71 (fun c k q => su_80_23 q))
              show e_Ok 20 elay ecode eI (d + 1) 397 (231, [(0, (1, 275)), (1, (0, a)), (2, (0, w 276 (36 * a + 17))), (3, (0, z9)), (4, (0, z15)), (5, (0, y5)), (6, (0, y6))], [], w69) _
              refine e_Ok.run (t' := (236, [(0, (1, 275)), (1, (0, a)), (2, (0, w 276 (36 * a + 17))), (3, (0, z9)), (4, (0, z15)), (5, (0, y5)), (6, (0, y6))], [(0, w 276 (36 * a + 17)), (0, a), (0, 7), (1, 275)], w69)) 4 rfl ?_
              have e76 : w69 276 5 = w 276 5 := ((q71 276 5 no_80_5).trans ((j32 276 5 (by first | exact no_80_13 (by omega) | (unfold mDp; omega))).trans rfl))
              refine e_Ok.callV rfl (by omega) rfl rfl rfl rfl (c_319 q71T (by omega) (by omega) (by omega) (by omega)) (fun r73 w74 h75 => ?_)
              obtain ⟨rfl, q77, q77T, q77n⟩ := h75
              have f78 : e_fr mGr w w74 := e_fr.trans f72 (e_fr.mono q77 (fun c k q => su_80_24 q))
              show e_Ok 20 elay ecode eI (d + 1) 397 (239, [(0, (1, 275)), (1, (0, a)), (2, (0, w 276 (36 * a + 17))), (3, (0, z9)), (4, (0, z15)), (5, (0, y5)), (6, (0, y6))], [], w74) _
              refine e_Ok.run (t' := (240, [(0, (1, 275)), (1, (0, a)), (2, (0, w 276 (36 * a + 17))), (3, (0, z9)), (4, (0, z15)), (5, (0, y5)), (6, (0, y6))], [(0, 1)], w74)) 1 rfl ?_
              refine e_Ok.rets rfl rfl ?_
              have e79 : w74 276 5 = w74 276 5 := rfl
              exact ⟨_, rfl, by omega, f78, q77T, by omega, mOr.fr j29 (by omega) (e_Has.orn j26) (e_Has.orw j26 (by omega)) (fun k q => by unfold orK at q; exact ((q77 276 k (by unfold mE; omega)).trans ((q71 276 k (by unfold mSt; omega)).trans rfl))), (fun b g1 g2 => by have e := q71b b g1 g2; rw [show v1 276 (36 * b + 20) = w 276 (36 * b + 20) from ((j32 276 (36 * b + 20) (by first | exact no_80_14 (by omega) (by omega) | (unfold mDp; omega))).trans rfl)] at e; rw [show w74 276 (36 * b + 20) = w69 276 (36 * b + 20) from ((q77 276 (36 * b + 20) (by first | exact no_80_8 (by omega) | (unfold mE; omega))).trans rfl)]; exact e)⟩
            · replace h67 : (y5 : Int) = 0 := by have q : ¬ ((y5 : Int) ≠ 0) := h67; omega
              exfalso; omega
          · replace h66 : (y5 : Int) = 0 := by have q : ¬ ((y5 : Int) ≠ 0) := h66; omega
            refine e_Ok.run (t' := (67, [(0, (1, 275)), (1, (0, a)), (2, (0, w 276 (36 * a + 17))), (3, (0, z9)), (4, (0, z15)), (5, (0, y5)), (6, (0, y6))], [(1, 275), (0, z9)], v1)) 2 rfl ?_
            refine e_Ok.getr (z := 300) rfl (el_o rfl) rfl rfl ((j32 275 31 (by first | exact no_80_12 | (unfold mDp; omega))).trans (e_Has.eq hT rfl)) (by omega) ?_
            refine e_Ok.run (t' := (72, [(0, (1, 275)), (1, (0, a)), (2, (0, w 276 (36 * a + 17))), (3, (0, z9)), (4, (0, z15)), (5, (0, y5)), (6, (0, y6))], [(0, y6), (1, 300), (0, z9)], v1)) 1 rfl ?_
            have h80 := (e_Has.get hT (c := 300) (k := y6) (lo := (-16000)) (hi := 16000) rfl (by decide))
            refine e_Ok.ald (z := w 300 y6) rfl (el_o rfl) rfl (by omega) ((j32 300 y6 (by first | exact no_80_17 | (unfold mDp; omega))).trans rfl) (by omega) ?_
            refine e_Ok.any rfl (eF_sub_any _ _) (fun z81 z81a z81b => ?_)
            refine e_Ok.run (t' := (79, [(7, (0, z81)), (0, (1, 275)), (1, (0, a)), (2, (0, w 276 (36 * a + 17))), (3, (0, z9)), (4, (0, z15)), (5, (0, y5)), (6, (0, y6))], [(1, 275), (0, z15)], v1)) 3 rfl ?_
            refine e_Ok.getr (z := 301) rfl (el_o rfl) rfl rfl ((j32 275 32 (by first | exact no_80_12 | (unfold mDp; omega))).trans (e_Has.eq hT rfl)) (by omega) ?_
            refine e_Ok.run (t' := (84, [(7, (0, z81)), (0, (1, 275)), (1, (0, a)), (2, (0, w 276 (36 * a + 17))), (3, (0, z9)), (4, (0, z15)), (5, (0, y5)), (6, (0, y6))], [(0, y6), (1, 301), (0, z15)], v1)) 1 rfl ?_
            have h82 := (e_Has.get hT (c := 301) (k := y6) (lo := (-16000)) (hi := 16000) rfl (by decide))
            refine e_Ok.ald (z := w 301 y6) rfl (el_o rfl) rfl (by omega) ((j32 301 y6 (by first | exact no_80_18 | (unfold mDp; omega))).trans rfl) (by omega) ?_
            refine e_Ok.any rfl (eF_sub_any _ _) (fun z83 z83a z83b => ?_)
            refine e_Ok.run (t' := (89, [(8, (0, z83)), (7, (0, z81)), (0, (1, 275)), (1, (0, a)), (2, (0, w 276 (36 * a + 17))), (3, (0, z9)), (4, (0, z15)), (5, (0, y5)), (6, (0, y6))], [(1, 275)], v1)) 2 rfl ?_
            refine e_Ok.getr (z := 302) rfl (el_o rfl) rfl rfl ((j32 275 33 (by first | exact no_80_12 | (unfold mDp; omega))).trans (e_Has.eq hT rfl)) (by omega) ?_
            refine e_Ok.run (t' := (94, [(8, (0, z83)), (7, (0, z81)), (0, (1, 275)), (1, (0, a)), (2, (0, w 276 (36 * a + 17))), (3, (0, z9)), (4, (0, z15)), (5, (0, y5)), (6, (0, y6))], [(0, y6), (1, 302)], v1)) 1 rfl ?_
            have h84 := (e_Has.get hT (c := 302) (k := y6) (lo := 0) (hi := 3) rfl (by decide))
            refine e_Ok.ald (z := w 302 y6) rfl (el_o rfl) rfl (by omega) ((j32 302 y6 (by first | exact no_80_19 | (unfold mDp; omega))).trans rfl) (by omega) ?_
            refine e_Ok.run (t' := (96, [(8, (0, z83)), (7, (0, z81)), (0, (1, 275)), (1, (0, a)), (2, (0, w 276 (36 * a + 17))), (3, (0, z9)), (4, (0, z15)), (5, (0, y5)), (6, (0, y6))], [(0, 2), (0, w 302 y6)], v1)) 1 rfl ?_
            refine e_Ok.remn (fun z85 hz85 => ?_) rfl (by omega) (by omega)
            replace hz85 : z85 = (w 302 y6) % 2 := hz85
            have z85r : 0 ≤ z85 ∧ z85 ≤ 1 := by omega
            have hJ88 : ∀ m87 : Int, (-2147483648) ≤ m87 ∧ m87 ≤ 2147483647 → e_Ok 20 elay ecode eI (d + 1) 397 (107, [(8, (0, z83)), (7, (0, z81)), (0, (1, 275)), (1, (0, a)), (2, (0, w 276 (36 * a + 17))), (3, (0, z9)), (4, (0, z15)), (5, (0, y5)), (6, (0, y6))], [(0, m87)], v1) (fun r w' => ∃ z : Int, r = [(0, z)] ∧ (0 ≤ z ∧ z ≤ 1) ∧ e_fr mGr w w' ∧ e_Has mTy w' ∧ (w 276 5 ≤ w' 276 5 ∧ w' 276 5 ≤ w 276 5 + 1) ∧ mOr w' (w 275 40) ∧ (∀ b, 0 ≤ b → b ≤ 3 → w' 276 (36 * b + 20) = 0 ∨ w' 276 (36 * b + 20) = w 276 (36 * b + 20))) := by
              intro m87 m87r
              refine e_Ok.run (t' := (110, [(9, (0, m87)), (8, (0, z83)), (7, (0, z81)), (0, (1, 275)), (1, (0, a)), (2, (0, w 276 (36 * a + 17))), (3, (0, z9)), (4, (0, z15)), (5, (0, y5)), (6, (0, y6))], [(1, 275)], v1)) 2 rfl ?_
              refine e_Ok.getr (z := 302) rfl (el_o rfl) rfl rfl ((j32 275 33 (by first | exact no_80_12 | (unfold mDp; omega))).trans (e_Has.eq hT rfl)) (by omega) ?_
              refine e_Ok.run (t' := (115, [(9, (0, m87)), (8, (0, z83)), (7, (0, z81)), (0, (1, 275)), (1, (0, a)), (2, (0, w 276 (36 * a + 17))), (3, (0, z9)), (4, (0, z15)), (5, (0, y5)), (6, (0, y6))], [(0, y6), (1, 302)], v1)) 1 rfl ?_
              refine e_Ok.ald (z := w 302 y6) rfl (el_o rfl) rfl (by omega) ((j32 302 y6 (by first | exact no_80_19 | (unfold mDp; omega))).trans rfl) (by omega) ?_
              refine e_Ok.run (t' := (117, [(9, (0, m87)), (8, (0, z83)), (7, (0, z81)), (0, (1, 275)), (1, (0, a)), (2, (0, w 276 (36 * a + 17))), (3, (0, z9)), (4, (0, z15)), (5, (0, y5)), (6, (0, y6))], [(0, 2), (0, w 302 y6)], v1)) 1 rfl ?_
              refine e_Ok.remn (fun z89 hz89 => ?_) rfl (by omega) (by omega)
              replace hz89 : z89 = (w 302 y6) % 2 := hz89
              have z89r : 0 ≤ z89 ∧ z89 ≤ 1 := by omega
              have hJ92 : ∀ m91 : Int, (-2147483648) ≤ m91 ∧ m91 ≤ 2147483647 → e_Ok 20 elay ecode eI (d + 1) 397 (128, [(9, (0, m87)), (8, (0, z83)), (7, (0, z81)), (0, (1, 275)), (1, (0, a)), (2, (0, w 276 (36 * a + 17))), (3, (0, z9)), (4, (0, z15)), (5, (0, y5)), (6, (0, y6))], [(0, m91)], v1) (fun r w' => ∃ z : Int, r = [(0, z)] ∧ (0 ≤ z ∧ z ≤ 1) ∧ e_fr mGr w w' ∧ e_Has mTy w' ∧ (w 276 5 ≤ w' 276 5 ∧ w' 276 5 ≤ w 276 5 + 1) ∧ mOr w' (w 275 40) ∧ (∀ b, 0 ≤ b → b ≤ 3 → w' 276 (36 * b + 20) = 0 ∨ w' 276 (36 * b + 20) = w 276 (36 * b + 20))) := by
                intro m91 m91r
                refine e_Ok.run (t' := (131, [(10, (0, m91)), (9, (0, m87)), (8, (0, z83)), (7, (0, z81)), (0, (1, 275)), (1, (0, a)), (2, (0, w 276 (36 * a + 17))), (3, (0, z9)), (4, (0, z15)), (5, (0, y5)), (6, (0, y6))], [(1, 275)], v1)) 2 rfl ?_
                refine e_Ok.getr (z := 302) rfl (el_o rfl) rfl rfl ((j32 275 33 (by first | exact no_80_12 | (unfold mDp; omega))).trans (e_Has.eq hT rfl)) (by omega) ?_
                refine e_Ok.run (t' := (136, [(10, (0, m91)), (9, (0, m87)), (8, (0, z83)), (7, (0, z81)), (0, (1, 275)), (1, (0, a)), (2, (0, w 276 (36 * a + 17))), (3, (0, z9)), (4, (0, z15)), (5, (0, y5)), (6, (0, y6))], [(0, y6), (1, 302)], v1)) 1 rfl ?_
                refine e_Ok.ald (z := w 302 y6) rfl (el_o rfl) rfl (by omega) ((j32 302 y6 (by first | exact no_80_19 | (unfold mDp; omega))).trans rfl) (by omega) ?_
                refine e_Ok.run (t' := (138, [(10, (0, m91)), (9, (0, m87)), (8, (0, z83)), (7, (0, z81)), (0, (1, 275)), (1, (0, a)), (2, (0, w 276 (36 * a + 17))), (3, (0, z9)), (4, (0, z15)), (5, (0, y5)), (6, (0, y6))], [(0, 2), (0, w 302 y6)], v1)) 1 rfl ?_
                refine e_Ok.if2 rfl (fun h93 => ?_) (fun h93 => ?_)
                · replace h93 : (w 302 y6 : Int) ≥ 2 := h93
                  refine e_Ok.run (t' := (148, [(10, (0, m91)), (9, (0, m87)), (8, (0, z83)), (7, (0, z81)), (0, (1, 275)), (1, (0, a)), (2, (0, w 276 (36 * a + 17))), (3, (0, z9)), (4, (0, z15)), (5, (0, y5)), (6, (0, y6))], [(0, m87)], v1)) 1 rfl ?_
                  refine e_Ok.anyU rfl (fun z94 z94a z94b => ?_)
                  refine e_Ok.run (t' := (156, [(9, (0, z94)), (10, (0, m91)), (8, (0, z83)), (7, (0, z81)), (0, (1, 275)), (1, (0, a)), (2, (0, w 276 (36 * a + 17))), (3, (0, z9)), (4, (0, z15)), (5, (0, y5)), (6, (0, y6))], [(1, 275), (4, 0), (4, z94)], v1)) 5 rfl ?_
                  refine e_Ok.getr (z := 303) rfl (el_o rfl) rfl rfl ((j32 275 34 (by first | exact no_80_12 | (unfold mDp; omega))).trans (e_Has.eq hT rfl)) (by omega) ?_
                  refine e_Ok.run (t' := (161, [(9, (0, z94)), (10, (0, m91)), (8, (0, z83)), (7, (0, z81)), (0, (1, 275)), (1, (0, a)), (2, (0, w 276 (36 * a + 17))), (3, (0, z9)), (4, (0, z15)), (5, (0, y5)), (6, (0, y6))], [(0, y6), (1, 303), (4, 0), (4, z94)], v1)) 1 rfl ?_
                  have h95 := (e_Has.get hT (c := 303) (k := y6) (lo := 0) (hi := 16000) rfl (by decide))
                  refine e_Ok.ald (z := w 303 y6) rfl (el_o rfl) rfl (by omega) ((j32 303 y6 (by first | exact no_80_20 | (unfold mDp; omega))).trans rfl) (by omega) ?_
                  refine e_Ok.run (t' := (163, [(9, (0, z94)), (10, (0, m91)), (8, (0, z83)), (7, (0, z81)), (0, (1, 275)), (1, (0, a)), (2, (0, w 276 (36 * a + 17))), (3, (0, z9)), (4, (0, z15)), (5, (0, y5)), (6, (0, y6))], [(4, w 303 y6), (4, 0), (4, z94)], v1)) 1 rfl ?_
                  refine e_Ok.callS rfl (by omega) rfl rfl (c_266) (fun r101 w103 h104 => ?_)
                  obtain ⟨z105, rfl, rfl, q106⟩ := h104
                  obtain ⟨rfl, q106⟩ | ⟨rfl, q106⟩ := q106
                  · show e_Ok 20 elay ecode eI (d + 1) 397 (166, [(9, (0, z94)), (10, (0, m91)), (8, (0, z83)), (7, (0, z81)), (0, (1, 275)), (1, (0, a)), (2, (0, w 276 (36 * a + 17))), (3, (0, z9)), (4, (0, z15)), (5, (0, y5)), (6, (0, y6))], [(0, 1)], v1) _
                    refine e_Ok.if1 rfl (fun h107 => ?_) (fun h107 => ?_)
                    · replace h107 : (1 : Int) = 0 := h107
                      exfalso; omega
                    · replace h107 : (1 : Int) ≠ 0 := by have q : ¬ ((1 : Int) = 0) := h107; omega
                      refine e_Ok.run (t' := (173, [(9, (0, z94)), (10, (0, m91)), (8, (0, z83)), (7, (0, z81)), (0, (1, 275)), (1, (0, a)), (2, (0, w 276 (36 * a + 17))), (3, (0, z9)), (4, (0, z15)), (5, (0, y5)), (6, (0, y6))], [(1, 275), (4, m91)], v1)) 3 rfl ?_
                      refine e_Ok.getr (z := 305) rfl (el_o rfl) rfl rfl ((j32 275 36 (by first | exact no_80_12 | (unfold mDp; omega))).trans (e_Has.eq hT rfl)) (by omega) ?_
                      refine e_Ok.run (t' := (178, [(9, (0, z94)), (10, (0, m91)), (8, (0, z83)), (7, (0, z81)), (0, (1, 275)), (1, (0, a)), (2, (0, w 276 (36 * a + 17))), (3, (0, z9)), (4, (0, z15)), (5, (0, y5)), (6, (0, y6))], [(0, y6), (1, 305), (4, m91)], v1)) 1 rfl ?_
                      have h108 := (e_Has.get hT (c := 305) (k := y6) (lo := 0) (hi := 2000) rfl (by decide))
                      refine e_Ok.ald (z := w 305 y6) rfl (el_o rfl) rfl (by omega) ((j32 305 y6 (by first | exact no_80_21 | (unfold mDp; omega))).trans rfl) (by omega) ?_
                      refine e_Ok.neg (z := -w 305 y6) rfl (by omega) (by omega) ?_
                      refine e_Ok.run (t' := (182, [(9, (0, z94)), (10, (0, m91)), (8, (0, z83)), (7, (0, z81)), (0, (1, 275)), (1, (0, a)), (2, (0, w 276 (36 * a + 17))), (3, (0, z9)), (4, (0, z15)), (5, (0, y5)), (6, (0, y6))], [(1, 275), (4, -w 305 y6), (4, m91)], v1)) 2 rfl ?_
                      refine e_Ok.getr (z := 305) rfl (el_o rfl) rfl rfl ((j32 275 36 (by first | exact no_80_12 | (unfold mDp; omega))).trans (e_Has.eq hT rfl)) (by omega) ?_
                      refine e_Ok.run (t' := (187, [(9, (0, z94)), (10, (0, m91)), (8, (0, z83)), (7, (0, z81)), (0, (1, 275)), (1, (0, a)), (2, (0, w 276 (36 * a + 17))), (3, (0, z9)), (4, (0, z15)), (5, (0, y5)), (6, (0, y6))], [(0, y6), (1, 305), (4, -w 305 y6), (4, m91)], v1)) 1 rfl ?_
                      refine e_Ok.ald (z := w 305 y6) rfl (el_o rfl) rfl (by omega) ((j32 305 y6 (by first | exact no_80_21 | (unfold mDp; omega))).trans rfl) (by omega) ?_
                      refine e_Ok.run (t' := (189, [(9, (0, z94)), (10, (0, m91)), (8, (0, z83)), (7, (0, z81)), (0, (1, 275)), (1, (0, a)), (2, (0, w 276 (36 * a + 17))), (3, (0, z9)), (4, (0, z15)), (5, (0, y5)), (6, (0, y6))], [(4, w 305 y6), (4, -w 305 y6), (4, m91)], v1)) 1 rfl ?_
                      refine e_Ok.callS rfl (by omega) rfl rfl (c_266) (fun r109 w110 h111 => ?_)
                      obtain ⟨z112, rfl, rfl, q113⟩ := h111
                      obtain ⟨rfl, q113⟩ | ⟨rfl, q113⟩ := q113
                      · show e_Ok 20 elay ecode eI (d + 1) 397 (192, [(9, (0, z94)), (10, (0, m91)), (8, (0, z83)), (7, (0, z81)), (0, (1, 275)), (1, (0, a)), (2, (0, w 276 (36 * a + 17))), (3, (0, z9)), (4, (0, z15)), (5, (0, y5)), (6, (0, y6))], [(0, 1)], v1) _
                        refine e_Ok.if1 rfl (fun h114 => ?_) (fun h114 => ?_)
                        · replace h114 : (1 : Int) = 0 := h114
                          exfalso; omega
                        · replace h114 : (1 : Int) ≠ 0 := by have q : ¬ ((1 : Int) = 0) := h114; omega
                          refine e_Ok.run (t' := (204, [(5, (0, 1)), (9, (0, z94)), (10, (0, m91)), (8, (0, z83)), (7, (0, z81)), (0, (1, 275)), (1, (0, a)), (2, (0, w 276 (36 * a + 17))), (3, (0, z9)), (4, (0, z15)), (6, (0, y6))], [(0, z94), (0, y6), (0, w 276 (36 * a + 17)), (1, 275)], v1)) 6 rfl ?_
                          refine e_Ok.callV rfl (by omega) rfl rfl rfl rfl (c_393 (by omega) j26 (m := w 275 40) (m' := w 275 40) j29 (by omega) (Or.inl ⟨rfl, hq.1⟩) (by omega) (by omega) (by omega) (fun _ => j30 (by omega)) j31) (fun r115 w116 h117 => ?_)
                          obtain ⟨rfl, q118, q118T, q118o⟩ := h117
                          have f119 : e_fr mGr w w116 := e_fr.trans j25 (e_fr.mono q118 (fun c k q => by unfold mCo at q; unfold mGr; omega))
                          show e_Ok 20 elay ecode eI (d + 1) 397 (207, [(5, (0, 1)), (9, (0, z94)), (10, (0, m91)), (8, (0, z83)), (7, (0, z81)), (0, (1, 275)), (1, (0, a)), (2, (0, w 276 (36 * a + 17))), (3, (0, z9)), (4, (0, z15)), (6, (0, y6))], [], w116) _
                          refine e_Ok.inc (z := y6 + 1) rfl rfl (by omega) (by omega) ?_
                          show e_Ok 20 elay ecode eI (d + 1) 397 (210, [(6, (0, y6 + 1)), (5, (0, 1)), (9, (0, z94)), (10, (0, m91)), (8, (0, z83)), (7, (0, z81)), (0, (1, 275)), (1, (0, a)), (2, (0, w 276 (36 * a + 17))), (3, (0, z9)), (4, (0, z15))], [], w116) _
                          refine e_Ok.run (t' := (51, [(6, (0, y6 + 1)), (5, (0, 1)), (9, (0, z94)), (10, (0, m91)), (8, (0, z83)), (7, (0, z81)), (0, (1, 275)), (1, (0, a)), (2, (0, w 276 (36 * a + 17))), (3, (0, z9)), (4, (0, z15))], [], w116)) 1 rfl ?_
                          refine e_Ok.sub eAlk (e_sub_of rfl ?_) (ih24 1 (y6 + 1) w116 ⟨f119, q118T, by omega, by omega, q118o, (fun e => by omega), (fun x g1 g2 => by rw [show w116 276 (36 * x + 17) = v1 276 (36 * x + 17) from ((q118 276 (36 * x + 17) (by unfold mCo; omega)).trans rfl)]; exact j31 x g1 g2), (e_fr.trans j32 (e_fr.mono q118 (fun c k q => by unfold mCo at q; unfold mDp; omega)))⟩ (by omega))
                          exact ⟨rfl, rfl, rfl, rfl, rfl, rfl, rfl, trivial⟩
                      · show e_Ok 20 elay ecode eI (d + 1) 397 (192, [(9, (0, z94)), (10, (0, m91)), (8, (0, z83)), (7, (0, z81)), (0, (1, 275)), (1, (0, a)), (2, (0, w 276 (36 * a + 17))), (3, (0, z9)), (4, (0, z15)), (5, (0, y5)), (6, (0, y6))], [(0, 0)], v1) _
                        refine e_Ok.if1 rfl (fun h120 => ?_) (fun h120 => ?_)
                        · replace h120 : (0 : Int) = 0 := h120
                          refine e_Ok.inc (z := y6 + 1) rfl rfl (by omega) (by omega) ?_
                          show e_Ok 20 elay ecode eI (d + 1) 397 (210, [(6, (0, y6 + 1)), (9, (0, z94)), (10, (0, m91)), (8, (0, z83)), (7, (0, z81)), (0, (1, 275)), (1, (0, a)), (2, (0, w 276 (36 * a + 17))), (3, (0, z9)), (4, (0, z15)), (5, (0, y5))], [], v1) _
                          refine e_Ok.run (t' := (51, [(6, (0, y6 + 1)), (9, (0, z94)), (10, (0, m91)), (8, (0, z83)), (7, (0, z81)), (0, (1, 275)), (1, (0, a)), (2, (0, w 276 (36 * a + 17))), (3, (0, z9)), (4, (0, z15)), (5, (0, y5))], [], v1)) 1 rfl ?_
                          refine e_Ok.sub eAlk (e_sub_of rfl ?_) (ih24 y5 (y6 + 1) v1 ⟨j25, j26, by omega, by omega, j29, j30, j31, j32⟩ (by omega))
                          exact ⟨rfl, rfl, rfl, rfl, rfl, rfl, rfl, trivial⟩
                        · replace h120 : (0 : Int) ≠ 0 := by have q : ¬ ((0 : Int) = 0) := h120; omega
                          exfalso; omega
                  · show e_Ok 20 elay ecode eI (d + 1) 397 (166, [(9, (0, z94)), (10, (0, m91)), (8, (0, z83)), (7, (0, z81)), (0, (1, 275)), (1, (0, a)), (2, (0, w 276 (36 * a + 17))), (3, (0, z9)), (4, (0, z15)), (5, (0, y5)), (6, (0, y6))], [(0, 0)], v1) _
                    refine e_Ok.if1 rfl (fun h121 => ?_) (fun h121 => ?_)
                    · replace h121 : (0 : Int) = 0 := h121
                      refine e_Ok.inc (z := y6 + 1) rfl rfl (by omega) (by omega) ?_
                      show e_Ok 20 elay ecode eI (d + 1) 397 (210, [(6, (0, y6 + 1)), (9, (0, z94)), (10, (0, m91)), (8, (0, z83)), (7, (0, z81)), (0, (1, 275)), (1, (0, a)), (2, (0, w 276 (36 * a + 17))), (3, (0, z9)), (4, (0, z15)), (5, (0, y5))], [], v1) _
                      refine e_Ok.run (t' := (51, [(6, (0, y6 + 1)), (9, (0, z94)), (10, (0, m91)), (8, (0, z83)), (7, (0, z81)), (0, (1, 275)), (1, (0, a)), (2, (0, w 276 (36 * a + 17))), (3, (0, z9)), (4, (0, z15)), (5, (0, y5))], [], v1)) 1 rfl ?_
                      refine e_Ok.sub eAlk (e_sub_of rfl ?_) (ih24 y5 (y6 + 1) v1 ⟨j25, j26, by omega, by omega, j29, j30, j31, j32⟩ (by omega))
                      exact ⟨rfl, rfl, rfl, rfl, rfl, rfl, rfl, trivial⟩
                    · replace h121 : (0 : Int) ≠ 0 := by have q : ¬ ((0 : Int) = 0) := h121; omega
                      exfalso; omega
                · replace h93 : (w 302 y6 : Int) < 2 := by have q : ¬ ((w 302 y6 : Int) ≥ 2) := h93; omega
                  refine e_Ok.run (t' := (156, [(9, (0, m87)), (10, (0, m91)), (8, (0, z83)), (7, (0, z81)), (0, (1, 275)), (1, (0, a)), (2, (0, w 276 (36 * a + 17))), (3, (0, z9)), (4, (0, z15)), (5, (0, y5)), (6, (0, y6))], [(1, 275), (4, 0), (4, m87)], v1)) 7 rfl ?_
                  refine e_Ok.getr (z := 303) rfl (el_o rfl) rfl rfl ((j32 275 34 (by first | exact no_80_12 | (unfold mDp; omega))).trans (e_Has.eq hT rfl)) (by omega) ?_
                  refine e_Ok.run (t' := (161, [(9, (0, m87)), (10, (0, m91)), (8, (0, z83)), (7, (0, z81)), (0, (1, 275)), (1, (0, a)), (2, (0, w 276 (36 * a + 17))), (3, (0, z9)), (4, (0, z15)), (5, (0, y5)), (6, (0, y6))], [(0, y6), (1, 303), (4, 0), (4, m87)], v1)) 1 rfl ?_
                  have h122 := (e_Has.get hT (c := 303) (k := y6) (lo := 0) (hi := 16000) rfl (by decide))
                  refine e_Ok.ald (z := w 303 y6) rfl (el_o rfl) rfl (by omega) ((j32 303 y6 (by first | exact no_80_20 | (unfold mDp; omega))).trans rfl) (by omega) ?_
                  refine e_Ok.run (t' := (163, [(9, (0, m87)), (10, (0, m91)), (8, (0, z83)), (7, (0, z81)), (0, (1, 275)), (1, (0, a)), (2, (0, w 276 (36 * a + 17))), (3, (0, z9)), (4, (0, z15)), (5, (0, y5)), (6, (0, y6))], [(4, w 303 y6), (4, 0), (4, m87)], v1)) 1 rfl ?_
                  refine e_Ok.callS rfl (by omega) rfl rfl (c_266) (fun r123 w124 h125 => ?_)
                  obtain ⟨z126, rfl, rfl, q127⟩ := h125
                  obtain ⟨rfl, q127⟩ | ⟨rfl, q127⟩ := q127
                  · show e_Ok 20 elay ecode eI (d + 1) 397 (166, [(9, (0, m87)), (10, (0, m91)), (8, (0, z83)), (7, (0, z81)), (0, (1, 275)), (1, (0, a)), (2, (0, w 276 (36 * a + 17))), (3, (0, z9)), (4, (0, z15)), (5, (0, y5)), (6, (0, y6))], [(0, 1)], v1) _
                    refine e_Ok.if1 rfl (fun h128 => ?_) (fun h128 => ?_)
                    · replace h128 : (1 : Int) = 0 := h128
                      exfalso; omega
                    · replace h128 : (1 : Int) ≠ 0 := by have q : ¬ ((1 : Int) = 0) := h128; omega
                      refine e_Ok.run (t' := (173, [(9, (0, m87)), (10, (0, m91)), (8, (0, z83)), (7, (0, z81)), (0, (1, 275)), (1, (0, a)), (2, (0, w 276 (36 * a + 17))), (3, (0, z9)), (4, (0, z15)), (5, (0, y5)), (6, (0, y6))], [(1, 275), (4, m91)], v1)) 3 rfl ?_
                      refine e_Ok.getr (z := 305) rfl (el_o rfl) rfl rfl ((j32 275 36 (by first | exact no_80_12 | (unfold mDp; omega))).trans (e_Has.eq hT rfl)) (by omega) ?_
                      refine e_Ok.run (t' := (178, [(9, (0, m87)), (10, (0, m91)), (8, (0, z83)), (7, (0, z81)), (0, (1, 275)), (1, (0, a)), (2, (0, w 276 (36 * a + 17))), (3, (0, z9)), (4, (0, z15)), (5, (0, y5)), (6, (0, y6))], [(0, y6), (1, 305), (4, m91)], v1)) 1 rfl ?_
                      have h129 := (e_Has.get hT (c := 305) (k := y6) (lo := 0) (hi := 2000) rfl (by decide))
                      refine e_Ok.ald (z := w 305 y6) rfl (el_o rfl) rfl (by omega) ((j32 305 y6 (by first | exact no_80_21 | (unfold mDp; omega))).trans rfl) (by omega) ?_
                      refine e_Ok.neg (z := -w 305 y6) rfl (by omega) (by omega) ?_
                      refine e_Ok.run (t' := (182, [(9, (0, m87)), (10, (0, m91)), (8, (0, z83)), (7, (0, z81)), (0, (1, 275)), (1, (0, a)), (2, (0, w 276 (36 * a + 17))), (3, (0, z9)), (4, (0, z15)), (5, (0, y5)), (6, (0, y6))], [(1, 275), (4, -w 305 y6), (4, m91)], v1)) 2 rfl ?_
                      refine e_Ok.getr (z := 305) rfl (el_o rfl) rfl rfl ((j32 275 36 (by first | exact no_80_12 | (unfold mDp; omega))).trans (e_Has.eq hT rfl)) (by omega) ?_
                      refine e_Ok.run (t' := (187, [(9, (0, m87)), (10, (0, m91)), (8, (0, z83)), (7, (0, z81)), (0, (1, 275)), (1, (0, a)), (2, (0, w 276 (36 * a + 17))), (3, (0, z9)), (4, (0, z15)), (5, (0, y5)), (6, (0, y6))], [(0, y6), (1, 305), (4, -w 305 y6), (4, m91)], v1)) 1 rfl ?_
                      refine e_Ok.ald (z := w 305 y6) rfl (el_o rfl) rfl (by omega) ((j32 305 y6 (by first | exact no_80_21 | (unfold mDp; omega))).trans rfl) (by omega) ?_
                      refine e_Ok.run (t' := (189, [(9, (0, m87)), (10, (0, m91)), (8, (0, z83)), (7, (0, z81)), (0, (1, 275)), (1, (0, a)), (2, (0, w 276 (36 * a + 17))), (3, (0, z9)), (4, (0, z15)), (5, (0, y5)), (6, (0, y6))], [(4, w 305 y6), (4, -w 305 y6), (4, m91)], v1)) 1 rfl ?_
                      refine e_Ok.callS rfl (by omega) rfl rfl (c_266) (fun r130 w131 h132 => ?_)
                      obtain ⟨z133, rfl, rfl, q134⟩ := h132
                      obtain ⟨rfl, q134⟩ | ⟨rfl, q134⟩ := q134
                      · show e_Ok 20 elay ecode eI (d + 1) 397 (192, [(9, (0, m87)), (10, (0, m91)), (8, (0, z83)), (7, (0, z81)), (0, (1, 275)), (1, (0, a)), (2, (0, w 276 (36 * a + 17))), (3, (0, z9)), (4, (0, z15)), (5, (0, y5)), (6, (0, y6))], [(0, 1)], v1) _
                        refine e_Ok.if1 rfl (fun h135 => ?_) (fun h135 => ?_)
                        · replace h135 : (1 : Int) = 0 := h135
                          exfalso; omega
                        · replace h135 : (1 : Int) ≠ 0 := by have q : ¬ ((1 : Int) = 0) := h135; omega
                          refine e_Ok.run (t' := (204, [(5, (0, 1)), (9, (0, m87)), (10, (0, m91)), (8, (0, z83)), (7, (0, z81)), (0, (1, 275)), (1, (0, a)), (2, (0, w 276 (36 * a + 17))), (3, (0, z9)), (4, (0, z15)), (6, (0, y6))], [(0, m87), (0, y6), (0, w 276 (36 * a + 17)), (1, 275)], v1)) 6 rfl ?_
                          refine e_Ok.callV rfl (by omega) rfl rfl rfl rfl (c_393 (by omega) j26 (m := w 275 40) (m' := w 275 40) j29 (by omega) (Or.inl ⟨rfl, hq.1⟩) (by omega) (by omega) (by omega) (fun _ => j30 (by omega)) j31) (fun r136 w137 h138 => ?_)
                          obtain ⟨rfl, q139, q139T, q139o⟩ := h138
                          have f140 : e_fr mGr w w137 := e_fr.trans j25 (e_fr.mono q139 (fun c k q => by unfold mCo at q; unfold mGr; omega))
                          show e_Ok 20 elay ecode eI (d + 1) 397 (207, [(5, (0, 1)), (9, (0, m87)), (10, (0, m91)), (8, (0, z83)), (7, (0, z81)), (0, (1, 275)), (1, (0, a)), (2, (0, w 276 (36 * a + 17))), (3, (0, z9)), (4, (0, z15)), (6, (0, y6))], [], w137) _
                          refine e_Ok.inc (z := y6 + 1) rfl rfl (by omega) (by omega) ?_
                          show e_Ok 20 elay ecode eI (d + 1) 397 (210, [(6, (0, y6 + 1)), (5, (0, 1)), (9, (0, m87)), (10, (0, m91)), (8, (0, z83)), (7, (0, z81)), (0, (1, 275)), (1, (0, a)), (2, (0, w 276 (36 * a + 17))), (3, (0, z9)), (4, (0, z15))], [], w137) _
                          refine e_Ok.run (t' := (51, [(6, (0, y6 + 1)), (5, (0, 1)), (9, (0, m87)), (10, (0, m91)), (8, (0, z83)), (7, (0, z81)), (0, (1, 275)), (1, (0, a)), (2, (0, w 276 (36 * a + 17))), (3, (0, z9)), (4, (0, z15))], [], w137)) 1 rfl ?_
                          refine e_Ok.sub eAlk (e_sub_of rfl ?_) (ih24 1 (y6 + 1) w137 ⟨f140, q139T, by omega, by omega, q139o, (fun e => by omega), (fun x g1 g2 => by rw [show w137 276 (36 * x + 17) = v1 276 (36 * x + 17) from ((q139 276 (36 * x + 17) (by unfold mCo; omega)).trans rfl)]; exact j31 x g1 g2), (e_fr.trans j32 (e_fr.mono q139 (fun c k q => by unfold mCo at q; unfold mDp; omega)))⟩ (by omega))
                          exact ⟨rfl, rfl, rfl, rfl, rfl, rfl, rfl, trivial⟩
                      · show e_Ok 20 elay ecode eI (d + 1) 397 (192, [(9, (0, m87)), (10, (0, m91)), (8, (0, z83)), (7, (0, z81)), (0, (1, 275)), (1, (0, a)), (2, (0, w 276 (36 * a + 17))), (3, (0, z9)), (4, (0, z15)), (5, (0, y5)), (6, (0, y6))], [(0, 0)], v1) _
                        refine e_Ok.if1 rfl (fun h141 => ?_) (fun h141 => ?_)
                        · replace h141 : (0 : Int) = 0 := h141
                          refine e_Ok.inc (z := y6 + 1) rfl rfl (by omega) (by omega) ?_
                          show e_Ok 20 elay ecode eI (d + 1) 397 (210, [(6, (0, y6 + 1)), (9, (0, m87)), (10, (0, m91)), (8, (0, z83)), (7, (0, z81)), (0, (1, 275)), (1, (0, a)), (2, (0, w 276 (36 * a + 17))), (3, (0, z9)), (4, (0, z15)), (5, (0, y5))], [], v1) _
                          refine e_Ok.run (t' := (51, [(6, (0, y6 + 1)), (9, (0, m87)), (10, (0, m91)), (8, (0, z83)), (7, (0, z81)), (0, (1, 275)), (1, (0, a)), (2, (0, w 276 (36 * a + 17))), (3, (0, z9)), (4, (0, z15)), (5, (0, y5))], [], v1)) 1 rfl ?_
                          refine e_Ok.sub eAlk (e_sub_of rfl ?_) (ih24 y5 (y6 + 1) v1 ⟨j25, j26, by omega, by omega, j29, j30, j31, j32⟩ (by omega))
                          exact ⟨rfl, rfl, rfl, rfl, rfl, rfl, rfl, trivial⟩
                        · replace h141 : (0 : Int) ≠ 0 := by have q : ¬ ((0 : Int) = 0) := h141; omega
                          exfalso; omega
                  · show e_Ok 20 elay ecode eI (d + 1) 397 (166, [(9, (0, m87)), (10, (0, m91)), (8, (0, z83)), (7, (0, z81)), (0, (1, 275)), (1, (0, a)), (2, (0, w 276 (36 * a + 17))), (3, (0, z9)), (4, (0, z15)), (5, (0, y5)), (6, (0, y6))], [(0, 0)], v1) _
                    refine e_Ok.if1 rfl (fun h142 => ?_) (fun h142 => ?_)
                    · replace h142 : (0 : Int) = 0 := h142
                      refine e_Ok.inc (z := y6 + 1) rfl rfl (by omega) (by omega) ?_
                      show e_Ok 20 elay ecode eI (d + 1) 397 (210, [(6, (0, y6 + 1)), (9, (0, m87)), (10, (0, m91)), (8, (0, z83)), (7, (0, z81)), (0, (1, 275)), (1, (0, a)), (2, (0, w 276 (36 * a + 17))), (3, (0, z9)), (4, (0, z15)), (5, (0, y5))], [], v1) _
                      refine e_Ok.run (t' := (51, [(6, (0, y6 + 1)), (9, (0, m87)), (10, (0, m91)), (8, (0, z83)), (7, (0, z81)), (0, (1, 275)), (1, (0, a)), (2, (0, w 276 (36 * a + 17))), (3, (0, z9)), (4, (0, z15)), (5, (0, y5))], [], v1)) 1 rfl ?_
                      refine e_Ok.sub eAlk (e_sub_of rfl ?_) (ih24 y5 (y6 + 1) v1 ⟨j25, j26, by omega, by omega, j29, j30, j31, j32⟩ (by omega))
                      exact ⟨rfl, rfl, rfl, rfl, rfl, rfl, rfl, trivial⟩
                    · replace h142 : (0 : Int) ≠ 0 := by have q : ¬ ((0 : Int) = 0) := h142; omega
                      exfalso; omega
              refine e_Ok.if1 rfl (fun h90 => ?_) (fun h90 => ?_)
              · exact e_Ok.run 1 rfl (hJ92 z81 (by omega))
              · exact e_Ok.run 2 rfl (hJ92 z83 (by omega))
            refine e_Ok.if1 rfl (fun h86 => ?_) (fun h86 => ?_)
            · exact e_Ok.run 1 rfl (hJ88 z83 (by omega))
            · exact e_Ok.run 2 rfl (hJ88 z81 (by omega))
    refine e_Ok.sub eAlk (e_sub_of rfl ?_) (hL23 (5 + 1 : Int).toNat 0 0 w20 ⟨f21, hT22, by omega, by omega, mOr.off hOr (by omega) (e_Has.orn hT) (e_Has.orw hT (by omega)) ha (by rw [← hw20]; exact e_up_eq _ _ _ _) (fun k q1 q2 => by unfold orK at q1; exact (by rw [← hw20]; exact (e_up_ne _ _ (Or.inr (by omega))).trans ((q14 276 k no_80_4).trans ((q8 276 k no_80_4).trans rfl)))), (fun _ => by rw [show w20 276 (4 * w 276 (36 * a + 17) + 20576) = w 276 (4 * w 276 (36 * a + 17) + 20576) from (by rw [← hw20]; exact (e_up_ne _ _ (Or.inr (by omega))).trans ((q14 276 (4 * w 276 (36 * a + 17) + 20576) no_80_4).trans ((q8 276 (4 * w 276 (36 * a + 17) + 20576) no_80_4).trans rfl)))]; omega), (fun x g1 g2 => Decidable.byCases (p := x = a) (fun e => by rw [e, show w20 276 (36 * a + 17) = -1 from (by rw [← hw20]; exact e_up_eq _ _ _ _)]; omega) (fun e => by rw [show w20 276 (36 * x + 17) = w 276 (36 * x + 17) from (by rw [← hw20]; exact (e_up_ne _ _ (Or.inr (by omega))).trans ((q14 276 (36 * x + 17) no_80_4).trans ((q8 276 (36 * x + 17) no_80_4).trans rfl)))]; intro e2; have q := hOr.2.2.2 x g1 g2 (by omega); rw [e2] at q; omega)), (e_fr.up (e_fr.trans (e_fr.trans (e_fr.refl w) (e_fr.mono q8 (fun c k q => by first | exact su_80_28 q | (unfold mP at q; unfold mDp; omega)))) (e_fr.mono q14 (fun c k q => by first | exact su_80_28 q | (unfold mP at q; unfold mDp; omega)))) hw20 (by unfold mDp; omega))⟩ (by omega))
    exact ⟨rfl, rfl, rfl, rfl, rfl, rfl, rfl, trivial⟩
  · replace h4 : (w 276 (36 * a + 17) : Int) < 0 := by have q : ¬ ((w 276 (36 * a + 17) : Int) ≥ 0) := h4; omega
    refine e_Ok.run (t' := (17, [(2, (0, w 276 (36 * a + 17))), (0, (1, 275)), (1, (0, a))], [(0, 0)], w)) 1 rfl ?_
    refine e_Ok.rets rfl rfl ?_
    have e143 : w 276 5 = w 276 5 := rfl
    exact ⟨_, rfl, by omega, (e_fr.refl w), hT, by omega, hOr, (fun b g1 g2 => Or.inr rfl)⟩
end
