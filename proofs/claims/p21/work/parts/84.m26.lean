noncomputable section
def mSb (c _k : Int) : Prop := c = 346
def mGA (c k : Int) : Prop := c = 280 ∨ c = 346 ∨ (c = 276 ∧ (k = 5 ∨ 25060 ≤ k ∨ (16 ≤ k ∧ k < 160 ∧ (k - 16) % 36 ≠ 1)))
def mLt (c k : Int) : Prop := (c = 275 ∧ 58 ≤ k ∧ k ≤ 60) ∨ c = 324 ∨ c = 325 ∨ c = 280
def mLo (c k : Int) : Prop := mLt c k ∨ mTr c k
theorem moK_sb {c k : Int} (q : moK c k ∨ (c = 276 ∧ 16 ≤ k ∧ k < 160)) : ¬ mSb c k := by unfold moK at q; unfold mSb; omega
theorem moK_lt {c k : Int} (q : moK c k ∨ (c = 276 ∧ 16 ≤ k ∧ k < 160)) : ¬ mLt c k := by unfold moK at q; unfold mLt; omega
theorem moK_tr {c k : Int} (q : moK c k) (q2 : ¬ (c = 276 ∧ (k = 1 ∨ (16 ≤ k ∧ k < 160 ∧ 22 ≤ (k - 16) % 36 ∧ (k - 16) % 36 ≤ 27)))) : ¬ mTr c k := by unfold moK at q; unfold mTr; omega
theorem lo_kall {c k : Int} (q : mLo c k) : c ≠ 321 ∧ c ≠ 322 ∧ c ≠ 286 ∧ ¬ (c = 275 ∧ k = 10) := by unfold mLo mLt mTr at q; omega
def mZn (w : eW) : Prop := ∀ z, 0 ≤ z → z < w 275 42 → w 310 z < w 275 10
theorem kAll_fr {S : Int → Int → Prop} {w w' : eW} (f : e_fr S w w') (hS : ∀ c k, S c k → c ≠ 321 ∧ c ≠ 322 ∧ c ≠ 286 ∧ ¬ (c = 275 ∧ k = 10)) (h : ∀ b, 0 ≤ b → b < w 275 10 → e_pk2 w (7 * b) (w 286 b)) : ∀ b, 0 ≤ b → b < w' 275 10 → e_pk2 w' (7 * b) (w' 286 b) := fun b g1 g2 => by
  rw [f 286 b (fun q => (hS _ _ q).2.2.1 rfl)]
  rw [f 275 10 (fun q => (hS _ _ q).2.2.2 ⟨rfl, rfl⟩)] at g2
  exact e_pk2.fr f (fun k _ _ => ⟨fun q => (hS _ _ q).1 rfl, fun q => (hS _ _ q).2.1 rfl⟩) (h b g1 g2)
theorem no_84_0 {k : Int} : ¬ mSb 275 k := by unfold mSb; omega
theorem no_84_1 {k : Int} : ¬ mGA 275 k := by unfold mGA; omega
theorem no_84_2 : ¬ mGA 276 1 := by unfold mGA; omega
theorem no_84_3 {k : Int} : ¬ mSb 276 k := by unfold mSb; omega
theorem no_84_4 {k : Int} : ¬ mSb 286 k := by unfold mSb; omega
set_option maxHeartbeats 4000000 in
theorem c_402 {d : Nat} (hd : 26 ≤ d) {w : eW} (hT : e_Has mTy w) (hCf : mCf w) (hMo : mMo w (-1)) (hPw : w 276 1 = 1) (hE : w 276 5 ≤ 2147483000) : e_Ok 20 elay ecode eI d 402 (0, [(0, (1, 275))], [], w) (fun r w' => r = [] ∧ e_fr mGA w w' ∧ e_Has mTy w' ∧ (w 276 5 ≤ w' 276 5 ∧ w' 276 5 ≤ w 276 5 + 4) ∧ mMo w' (-1)) := by
  obtain ⟨d, rfl⟩ : ∃ e, d = e + 1 := ⟨d - 1, by omega⟩
  have har := e_Has.get hT (c := 275) (k := 10) (lo := 0) (hi := 4) rfl (by decide)
  refine e_Ok.run (t' := (2, [(1, (0, 0)), (0, (1, 275))], [], w)) 2 rfl ?_
  have hL1 : ∀ (nn : Nat) (y1 : Int) (v1 : eW), e_fr mGA w v1 ∧ e_Has mTy v1 ∧ (0 ≤ y1 ∧ y1 ≤ 4) ∧ e_fr mSb w v1 → 5 - y1 < nn → e_Ok 20 elay ecode eI (d + 1) 402 (2, [(0, (1, 275)), (1, (0, y1))], [], v1) (fun r w' => r = [] ∧ e_fr mGA w w' ∧ e_Has mTy w' ∧ (w 276 5 ≤ w' 276 5 ∧ w' 276 5 ≤ w 276 5 + 4) ∧ mMo w' (-1)) := by
    intro nn
    induction nn with
    | zero => intro y1 v1 hj hm; obtain ⟨j3, j4, j5, j6⟩ := hj; exfalso; omega
    | succ nn ih2 =>
      intro y1 v1 hj hm
      obtain ⟨j3, j4, j5, j6⟩ := hj
      refine e_Ok.run (t' := (4, [(0, (1, 275)), (1, (0, y1))], [(1, 275), (0, y1)], v1)) 2 rfl ?_
      refine e_Ok.getf (z := w 275 10) rfl (el_o rfl) rfl rfl ((j6 275 10 no_84_0).trans rfl) (by omega) ?_
      refine e_Ok.if2 rfl (fun h7 => ?_) (fun h7 => ?_)
      · replace h7 : (y1 : Int) ≥ w 275 10 := h7
        refine e_Ok.run (t' := (61, [(1, (0, 0)), (0, (1, 275))], [], v1)) 2 rfl ?_
        have hL8 : ∀ (nn : Nat) (z1 : Int) (v3 : eW), e_fr mGA w v3 ∧ e_Has mTy v3 ∧ (0 ≤ z1 ∧ z1 ≤ 4 ∧ z1 ≤ w 275 10) ∧ (w 276 5 ≤ v3 276 5 ∧ v3 276 5 ≤ w 276 5 + z1) ∧ mMo v3 (-1) → 5 - z1 < nn → e_Ok 20 elay ecode eI (d + 1) 402 (61, [(0, (1, 275)), (1, (0, z1))], [], v3) (fun r w' => r = [] ∧ e_fr mGA w w' ∧ e_Has mTy w' ∧ (w 276 5 ≤ w' 276 5 ∧ w' 276 5 ≤ w 276 5 + 4) ∧ mMo w' (-1)) := by
          intro nn
          induction nn with
          | zero => intro z1 v3 hj hm; obtain ⟨j10, j11, j12, j13, j14⟩ := hj; exfalso; omega
          | succ nn ih9 =>
            intro z1 v3 hj hm
            obtain ⟨j10, j11, j12, j13, j14⟩ := hj
            refine e_Ok.run (t' := (63, [(0, (1, 275)), (1, (0, z1))], [(1, 275), (0, z1)], v3)) 2 rfl ?_
            refine e_Ok.getf (z := w 275 10) rfl (el_o rfl) rfl rfl ((j10 275 10 no_84_1).trans rfl) (by omega) ?_
            refine e_Ok.if2 rfl (fun h15 => ?_) (fun h15 => ?_)
            · replace h15 : (z1 : Int) ≥ w 275 10 := h15
              refine e_Ok.rets rfl rfl ?_
              exact ⟨rfl, j10, j11, by omega, j14⟩
            · replace h15 : (z1 : Int) < w 275 10 := by have q : ¬ ((z1 : Int) ≥ w 275 10) := h15; omega
              refine e_Ok.run (t' := (71, [(0, (1, 275)), (1, (0, z1))], [(0, z1), (1, 275)], v3)) 2 rfl ?_
              have e19 : v3 276 5 = v3 276 5 := rfl
              refine e_Ok.callV rfl (by omega) rfl rfl rfl rfl (c_388 (by omega) j11 (mCf.fr hCf (fun c k q => ((j10 c k (by unfold mGA; omega)).trans rfl))) (by omega) j14 (Eq.trans ((j10 276 1 no_84_2).trans rfl) hPw) (by omega)) (fun r16 w17 h18 => ?_)
              obtain ⟨rfl, q20, q20T, q20n, q20m⟩ := h18
              have f21 : e_fr mGA w w17 := e_fr.trans j10 (e_fr.mono q20 (fun c k q => by unfold mGn mG1 mNw at q; unfold mGA; omega))
              show e_Ok 20 elay ecode eI (d + 1) 402 (74, [(0, (1, 275)), (1, (0, z1))], [], w17) _
              refine e_Ok.inc (z := z1 + 1) rfl rfl (by omega) (by omega) ?_
              show e_Ok 20 elay ecode eI (d + 1) 402 (77, [(1, (0, z1 + 1)), (0, (1, 275))], [], w17) _
              refine e_Ok.run (t' := (61, [(1, (0, z1 + 1)), (0, (1, 275))], [], w17)) 1 rfl ?_
              refine e_Ok.sub eAlk (e_sub_of rfl ?_) (ih9 (z1 + 1) w17 ⟨f21, q20T, by omega, by omega, q20m⟩ (by omega))
              exact ⟨rfl, rfl, trivial⟩
        refine e_Ok.sub eAlk (e_sub_of rfl ?_) (hL8 (5 + 1 : Int).toNat 0 v1 ⟨j3, j4, by omega, by have := (show v1 276 5 = w 276 5 from ((j6 276 5 no_84_3).trans rfl)); omega, (mMo.same hMo (e_Has.mo hT) (fun c k q => j6 c k (moK_sb q)))⟩ (by omega))
        exact ⟨rfl, rfl, trivial⟩
      · replace h7 : (y1 : Int) < w 275 10 := by have q : ¬ ((y1 : Int) ≥ w 275 10) := h7; omega
        refine e_Ok.run (t' := (12, [(2, (0, 0)), (0, (1, 275)), (1, (0, y1))], [], v1)) 2 rfl ?_
        have hL22 : ∀ (nn : Nat) (y2 : Int) (v2 : eW), e_fr mGA w v2 ∧ e_Has mTy v2 ∧ (0 ≤ y2 ∧ y2 ≤ 6) ∧ e_fr mSb w v2 → 7 - y2 < nn → e_Ok 20 elay ecode eI (d + 1) 402 (12, [(0, (1, 275)), (1, (0, y1)), (2, (0, y2))], [], v2) (fun r w' => r = [] ∧ e_fr mGA w w' ∧ e_Has mTy w' ∧ (w 276 5 ≤ w' 276 5 ∧ w' 276 5 ≤ w 276 5 + 4) ∧ mMo w' (-1)) := by
          intro nn
          induction nn with
          | zero => intro y2 v2 hj hm; obtain ⟨j24, j25, j26, j27⟩ := hj; exfalso; omega
          | succ nn ih23 =>
            intro y2 v2 hj hm
            obtain ⟨j24, j25, j26, j27⟩ := hj
            refine e_Ok.run (t' := (14, [(0, (1, 275)), (1, (0, y1)), (2, (0, y2))], [(1, 275), (0, y2)], v2)) 2 rfl ?_
            refine e_Ok.getr (z := 286) rfl (el_o rfl) rfl rfl ((j27 275 15 no_84_0).trans (e_Has.eq hT rfl)) (by omega) ?_
            refine e_Ok.run (t' := (18, [(0, (1, 275)), (1, (0, y1)), (2, (0, y2))], [(0, y1), (1, 286), (0, y2)], v2)) 1 rfl ?_
            have h28 := (e_Has.get hT (c := 286) (k := y1) (lo := 0) (hi := 6) rfl (by decide))
            refine e_Ok.ald (z := w 286 y1) rfl (el_o rfl) rfl (by omega) ((j27 286 y1 no_84_4).trans rfl) (by omega) ?_
            refine e_Ok.if2 rfl (fun h29 => ?_) (fun h29 => ?_)
            · replace h29 : (y2 : Int) ≥ w 286 y1 := h29
              refine e_Ok.inc (z := y1 + 1) rfl rfl (by omega) (by omega) ?_
              show e_Ok 20 elay ecode eI (d + 1) 402 (56, [(1, (0, y1 + 1)), (0, (1, 275)), (2, (0, y2))], [], v2) _
              refine e_Ok.run (t' := (2, [(1, (0, y1 + 1)), (0, (1, 275)), (2, (0, y2))], [], v2)) 1 rfl ?_
              refine e_Ok.sub eAlk (e_sub_of rfl ?_) (ih2 (y1 + 1) v2 ⟨j24, j25, by omega, j27⟩ (by omega))
              exact ⟨rfl, rfl, trivial⟩
            · replace h29 : (y2 : Int) < w 286 y1 := by have q : ¬ ((y2 : Int) ≥ w 286 y1) := h29; omega
              refine e_Ok.run (t' := (23, [(0, (1, 275)), (1, (0, y1)), (2, (0, y2))], [(1, 275)], v2)) 1 rfl ?_
              refine e_Ok.getr (z := 346) rfl (el_o rfl) rfl rfl ((j27 275 103 no_84_0).trans (e_Has.eq hT rfl)) (by omega) ?_
              refine e_Ok.run (t' := (29, [(0, (1, 275)), (1, (0, y1)), (2, (0, y2))], [(0, y1), (0, 6), (1, 346)], v2)) 2 rfl ?_
              refine e_Ok.mul (z := 6 * y1) rfl (by omega) (by omega) ?_
              refine e_Ok.run (t' := (31, [(0, (1, 275)), (1, (0, y1)), (2, (0, y2))], [(0, y2), (0, 6 * y1), (1, 346)], v2)) 1 rfl ?_
              refine e_Ok.add (z := 6 * y1 + y2) rfl (by omega) (by omega) ?_
              refine e_Ok.run (t' := (33, [(0, (1, 275)), (1, (0, y1)), (2, (0, y2))], [(1, 275), (0, 6 * y1 + y2), (1, 346)], v2)) 1 rfl ?_
              refine e_Ok.getr (z := 276) rfl (el_o rfl) rfl rfl ((j27 275 0 no_84_0).trans (e_Has.eq hT rfl)) (by omega) ?_
              refine e_Ok.run (t' := (37, [(0, (1, 275)), (1, (0, y1)), (2, (0, y2))], [(0, y1), (1, 276), (0, 6 * y1 + y2), (1, 346)], v2)) 1 rfl ?_
              refine e_Ok.callS rfl (by omega) rfl rfl (c_268 (by omega)) (fun r30 w31 h32 => ?_)
              obtain ⟨rfl, rfl⟩ := h32
              show e_Ok 20 elay ecode eI (d + 1) 402 (40, [(0, (1, 275)), (1, (0, y1)), (2, (0, y2))], [(0, 36 * y1 + 16), (1, 276), (0, 6 * y1 + y2), (1, 346)], v2) _
              refine e_Ok.run (t' := (42, [(0, (1, 275)), (1, (0, y1)), (2, (0, y2))], [(0, 22), (0, 36 * y1 + 16), (1, 276), (0, 6 * y1 + y2), (1, 346)], v2)) 1 rfl ?_
              refine e_Ok.add (z := 36 * y1 + 38) rfl (by omega) (by omega) ?_
              refine e_Ok.run (t' := (44, [(0, (1, 275)), (1, (0, y1)), (2, (0, y2))], [(0, y2), (0, 36 * y1 + 38), (1, 276), (0, 6 * y1 + y2), (1, 346)], v2)) 1 rfl ?_
              refine e_Ok.add (z := 36 * y1 + y2 + 38) rfl (by omega) (by omega) ?_
              have h33 := (e_Has.get hT (c := 276) (k := 36 * y1 + y2 + 38) (lo := (-2000)) (hi := 2000) (nR_STEP (a := y1) (j := y2) (by omega) (by omega)) (by decide))
              refine e_Ok.ald (z := w 276 (36 * y1 + y2 + 38)) rfl (el_o rfl) rfl (by omega) ((j27 276 (36 * y1 + y2 + 38) no_84_3).trans rfl) (by omega) ?_
              refine e_Ok.ast rfl (el_o rfl) rfl rfl (by omega) ?_
              generalize hw34 : e_up v2 346 (6 * y1 + y2) (w 276 (36 * y1 + y2 + 38)) = w34
              have f35 : e_fr mGA w w34 := e_fr.up j24 hw34 (by unfold mGA; omega)
              have hT36 : e_Has mTy w34 := e_Has.ups j25 hw34 rfl
              refine e_Ok.inc (z := y2 + 1) rfl rfl (by omega) (by omega) ?_
              show e_Ok 20 elay ecode eI (d + 1) 402 (50, [(2, (0, y2 + 1)), (0, (1, 275)), (1, (0, y1))], [], w34) _
              refine e_Ok.run (t' := (12, [(2, (0, y2 + 1)), (0, (1, 275)), (1, (0, y1))], [], w34)) 1 rfl ?_
              refine e_Ok.sub eAlk (e_sub_of rfl ?_) (ih23 (y2 + 1) w34 ⟨f35, hT36, by omega, (e_fr.up j27 hw34 (by unfold mSb; omega))⟩ (by omega))
              exact ⟨rfl, rfl, rfl, trivial⟩
        refine e_Ok.sub eAlk (e_sub_of rfl ?_) (hL22 (7 + 1 : Int).toNat 0 v1 ⟨j3, j4, by omega, j6⟩ (by omega))
        exact ⟨rfl, rfl, rfl, trivial⟩
  refine e_Ok.sub eAlk (e_sub_of rfl ?_) (hL1 (5 + 1 : Int).toNat 0 w ⟨(e_fr.refl w), hT, by omega, (e_fr.refl w)⟩ (by omega))
  exact ⟨rfl, rfl, trivial⟩
theorem c_405 {d : Nat} (hd : 21 ≤ d) {w : eW} (hT : e_Has mTy w) (hZn : mZn w) (kall : ∀ b, 0 ≤ b → b < w 275 10 → e_pk2 w (7 * b) (w 286 b)) : e_Ok 20 elay ecode eI d 405 (0, [(0, (1, 275))], [], w) (fun r w' => ∃ z : Int, r = [(0, z)] ∧ w = w' ∧ -1 ≤ z ∧ z ≤ 7) := by
  obtain ⟨d, rfl⟩ : ∃ e, d = e + 1 := ⟨d - 1, by omega⟩
  refine e_Ok.run (t' := (2, [(1, (0, 0)), (0, (1, 275))], [], w)) 2 rfl ?_
  have hL1 : ∀ (nn : Nat) (y1 : Int), 0 ≤ y1 ∧ y1 ≤ 8 → 9 - y1 < nn → e_Ok 20 elay ecode eI (d + 1) 405 (2, [(0, (1, 275)), (1, (0, y1))], [], w) (fun r w' => ∃ z : Int, r = [(0, z)] ∧ w = w' ∧ -1 ≤ z ∧ z ≤ 7) := by
    intro nn
    induction nn with
    | zero => intro y1 hj hm; obtain j3 := hj; exfalso; omega
    | succ nn ih2 =>
      intro y1 hj hm
      obtain j3 := hj
      refine e_Ok.run (t' := (4, [(0, (1, 275)), (1, (0, y1))], [(1, 275), (0, y1)], w)) 2 rfl ?_
      have h4 := (e_Has.get hT (c := 275) (k := 42) (lo := 0) (hi := 8) rfl (by decide))
      refine e_Ok.getf (z := w 275 42) rfl (el_o rfl) rfl rfl rfl (by omega) ?_
      refine e_Ok.if2 rfl (fun h5 => ?_) (fun h5 => ?_)
      · replace h5 : (y1 : Int) ≥ w 275 42 := h5
        refine e_Ok.run (t' := (226, [(0, (1, 275)), (1, (0, y1))], [(0, (-1))], w)) 1 rfl ?_
        refine e_Ok.rets rfl rfl ?_
        exact ⟨_, rfl, rfl, by omega, by omega⟩
      · replace h5 : (y1 : Int) < w 275 42 := by have q : ¬ ((y1 : Int) ≥ w 275 42) := h5; omega
        refine e_Ok.run (t' := (11, [(0, (1, 275)), (1, (0, y1))], [(1, 275)], w)) 1 rfl ?_
        refine e_Ok.getr (z := 310) rfl (el_o rfl) rfl rfl (e_Has.eq hT rfl) (by omega) ?_
        refine e_Ok.run (t' := (15, [(0, (1, 275)), (1, (0, y1))], [(0, y1), (1, 310)], w)) 1 rfl ?_
        have h6 := (e_Has.get hT (c := 310) (k := y1) (lo := 0) (hi := 3) rfl (by decide))
        refine e_Ok.ald (z := w 310 y1) rfl (el_o rfl) rfl (by omega) rfl (by omega) ?_
        refine e_Ok.run (t' := (19, [(3, (0, 1)), (2, (0, w 310 y1)), (0, (1, 275)), (1, (0, y1))], [], w)) 3 rfl ?_
        have hL7 : ∀ (nn : Nat) (y3 : Int), 1 ≤ y3 ∧ y3 ≤ 7 → 8 - y3 < nn → e_Ok 20 elay ecode eI (d + 1) 405 (19, [(0, (1, 275)), (1, (0, y1)), (2, (0, w 310 y1)), (3, (0, y3))], [], w) (fun r w' => ∃ z : Int, r = [(0, z)] ∧ w = w' ∧ -1 ≤ z ∧ z ≤ 7) := by
          intro nn
          induction nn with
          | zero => intro y3 hj hm; obtain j9 := hj; exfalso; omega
          | succ nn ih8 =>
            intro y3 hj hm
            obtain j9 := hj
            refine e_Ok.run (t' := (21, [(0, (1, 275)), (1, (0, y1)), (2, (0, w 310 y1)), (3, (0, y3))], [(1, 275), (0, y3)], w)) 2 rfl ?_
            refine e_Ok.getr (z := 286) rfl (el_o rfl) rfl rfl (e_Has.eq hT rfl) (by omega) ?_
            refine e_Ok.run (t' := (25, [(0, (1, 275)), (1, (0, y1)), (2, (0, w 310 y1)), (3, (0, y3))], [(0, w 310 y1), (1, 286), (0, y3)], w)) 1 rfl ?_
            have h10 := (e_Has.get hT (c := 286) (k := w 310 y1) (lo := 0) (hi := 6) rfl (by decide))
            refine e_Ok.ald (z := w 286 (w 310 y1)) rfl (el_o rfl) rfl (by omega) rfl (by omega) ?_
            refine e_Ok.if2 rfl (fun h11 => ?_) (fun h11 => ?_)
            · replace h11 : (y3 : Int) > w 286 (w 310 y1) := h11
              refine e_Ok.inc (z := y1 + 1) rfl rfl (by omega) (by omega) ?_
              show e_Ok 20 elay ecode eI (d + 1) 405 (222, [(1, (0, y1 + 1)), (0, (1, 275)), (2, (0, w 310 y1)), (3, (0, y3))], [], w) _
              refine e_Ok.run (t' := (2, [(1, (0, y1 + 1)), (0, (1, 275)), (2, (0, w 310 y1)), (3, (0, y3))], [], w)) 1 rfl ?_
              refine e_Ok.sub eAlk (e_sub_of rfl ?_) (ih2 (y1 + 1) (by omega) (by omega))
              exact ⟨rfl, rfl, trivial⟩
            · replace h11 : (y3 : Int) ≤ w 286 (w 310 y1) := by have q : ¬ ((y3 : Int) > w 286 (w 310 y1)) := h11; omega
              have hz := hZn y1 (by omega) (by omega)
              have hja := e_Has.get hT (c := 286) (k := w 310 y1) (lo := 0) (hi := 6) rfl (by decide)
              refine e_Ok.run (t' := (30, [(0, (1, 275)), (1, (0, y1)), (2, (0, w 310 y1)), (3, (0, y3))], [(1, 275)], w)) 1 rfl ?_
              refine e_Ok.getr (z := 321) rfl (el_o rfl) rfl rfl (e_Has.eq hT rfl) (by omega) ?_
              refine e_Ok.run (t' := (36, [(0, (1, 275)), (1, (0, y1)), (2, (0, w 310 y1)), (3, (0, y3))], [(0, w 310 y1), (0, 7), (1, 321)], w)) 2 rfl ?_
              refine e_Ok.mul (z := 7 * w 310 y1) rfl (by omega) (by omega) ?_
              refine e_Ok.run (t' := (38, [(0, (1, 275)), (1, (0, y1)), (2, (0, w 310 y1)), (3, (0, y3))], [(0, y3), (0, 7 * w 310 y1), (1, 321)], w)) 1 rfl ?_
              refine e_Ok.add (z := 7 * w 310 y1 + y3) rfl (by omega) (by omega) ?_
              have h12 := ((kall (w 310 y1) (by omega) (by omega)).1 (7 * w 310 y1 + y3) (by omega) (by omega))
              refine e_Ok.ald (z := w 321 (7 * w 310 y1 + y3)) rfl (el_o rfl) rfl (by omega) rfl (by omega) ?_
              refine e_Ok.run (t' := (44, [(4, (4, w 321 (7 * w 310 y1 + y3))), (0, (1, 275)), (1, (0, y1)), (2, (0, w 310 y1)), (3, (0, y3))], [(1, 275)], w)) 3 rfl ?_
              refine e_Ok.getr (z := 322) rfl (el_o rfl) rfl rfl (e_Has.eq hT rfl) (by omega) ?_
              refine e_Ok.run (t' := (50, [(4, (4, w 321 (7 * w 310 y1 + y3))), (0, (1, 275)), (1, (0, y1)), (2, (0, w 310 y1)), (3, (0, y3))], [(0, w 310 y1), (0, 7), (1, 322)], w)) 2 rfl ?_
              refine e_Ok.mul (z := 7 * w 310 y1) rfl (by omega) (by omega) ?_
              refine e_Ok.run (t' := (52, [(4, (4, w 321 (7 * w 310 y1 + y3))), (0, (1, 275)), (1, (0, y1)), (2, (0, w 310 y1)), (3, (0, y3))], [(0, y3), (0, 7 * w 310 y1), (1, 322)], w)) 1 rfl ?_
              refine e_Ok.add (z := 7 * w 310 y1 + y3) rfl (by omega) (by omega) ?_
              have h13 := ((kall (w 310 y1) (by omega) (by omega)).2 (7 * w 310 y1 + y3) (by omega) (by omega))
              refine e_Ok.ald (z := w 322 (7 * w 310 y1 + y3)) rfl (el_o rfl) rfl (by omega) rfl (by omega) ?_
              refine e_Ok.run (t' := (60, [(6, (4, w 322 (7 * w 310 y1 + y3))), (4, (4, w 321 (7 * w 310 y1 + y3))), (0, (1, 275)), (1, (0, y1)), (2, (0, w 310 y1)), (3, (0, y3))], [(1, 275), (4, w 321 (7 * w 310 y1 + y3))], w)) 4 rfl ?_
              refine e_Ok.getr (z := 276) rfl (el_o rfl) rfl rfl (e_Has.eq hT rfl) (by omega) ?_
              refine e_Ok.run (t' := (69, [(6, (4, w 322 (7 * w 310 y1 + y3))), (4, (4, w 321 (7 * w 310 y1 + y3))), (0, (1, 275)), (1, (0, y1)), (2, (0, w 310 y1)), (3, (0, y3))], [(0, w 310 y1), (0, 14), (0, 20876), (1, 276), (4, w 321 (7 * w 310 y1 + y3))], w)) 3 rfl ?_
              refine e_Ok.mul (z := 14 * w 310 y1) rfl (by omega) (by omega) ?_
              refine e_Ok.add (z := 14 * w 310 y1 + 20876) rfl (by omega) (by omega) ?_
              refine e_Ok.run (t' := (73, [(6, (4, w 322 (7 * w 310 y1 + y3))), (4, (4, w 321 (7 * w 310 y1 + y3))), (0, (1, 275)), (1, (0, y1)), (2, (0, w 310 y1)), (3, (0, y3))], [(0, y3), (0, 2), (0, 14 * w 310 y1 + 20876), (1, 276), (4, w 321 (7 * w 310 y1 + y3))], w)) 2 rfl ?_
              refine e_Ok.mul (z := 2 * y3) rfl (by omega) (by omega) ?_
              refine e_Ok.add (z := 14 * w 310 y1 + 2 * y3 + 20876) rfl (by omega) (by omega) ?_
              have h14 := (e_Has.get hT (c := 276) (k := 14 * w 310 y1 + 2 * y3 + 20876) (lo := (-2147483648)) (hi := 2147483647) (nR_mid (by omega)) (by decide))
              refine e_Ok.ald (z := w 276 (14 * w 310 y1 + 2 * y3 + 20876)) rfl (el_o rfl) rfl (by omega) rfl (by omega) ?_
              refine e_Ok.run (t' := (77, [(6, (4, w 322 (7 * w 310 y1 + y3))), (4, (4, w 321 (7 * w 310 y1 + y3))), (0, (1, 275)), (1, (0, y1)), (2, (0, w 310 y1)), (3, (0, y3))], [(4, w 276 (14 * w 310 y1 + 2 * y3 + 20876)), (4, w 321 (7 * w 310 y1 + y3))], w)) 1 rfl ?_
              refine e_Ok.subL (z := w 321 (7 * w 310 y1 + y3) - w 276 (14 * w 310 y1 + 2 * y3 + 20876)) rfl (by omega) (by omega) ?_
              refine e_Ok.run (t' := (83, [(8, (4, w 321 (7 * w 310 y1 + y3) - w 276 (14 * w 310 y1 + 2 * y3 + 20876))), (6, (4, w 322 (7 * w 310 y1 + y3))), (4, (4, w 321 (7 * w 310 y1 + y3))), (0, (1, 275)), (1, (0, y1)), (2, (0, w 310 y1)), (3, (0, y3))], [(1, 275), (4, w 322 (7 * w 310 y1 + y3))], w)) 3 rfl ?_
              refine e_Ok.getr (z := 276) rfl (el_o rfl) rfl rfl (e_Has.eq hT rfl) (by omega) ?_
              refine e_Ok.run (t' := (92, [(8, (4, w 321 (7 * w 310 y1 + y3) - w 276 (14 * w 310 y1 + 2 * y3 + 20876))), (6, (4, w 322 (7 * w 310 y1 + y3))), (4, (4, w 321 (7 * w 310 y1 + y3))), (0, (1, 275)), (1, (0, y1)), (2, (0, w 310 y1)), (3, (0, y3))], [(0, w 310 y1), (0, 14), (0, 20876), (1, 276), (4, w 322 (7 * w 310 y1 + y3))], w)) 3 rfl ?_
              refine e_Ok.mul (z := 14 * w 310 y1) rfl (by omega) (by omega) ?_
              refine e_Ok.add (z := 14 * w 310 y1 + 20876) rfl (by omega) (by omega) ?_
              refine e_Ok.run (t' := (96, [(8, (4, w 321 (7 * w 310 y1 + y3) - w 276 (14 * w 310 y1 + 2 * y3 + 20876))), (6, (4, w 322 (7 * w 310 y1 + y3))), (4, (4, w 321 (7 * w 310 y1 + y3))), (0, (1, 275)), (1, (0, y1)), (2, (0, w 310 y1)), (3, (0, y3))], [(0, y3), (0, 2), (0, 14 * w 310 y1 + 20876), (1, 276), (4, w 322 (7 * w 310 y1 + y3))], w)) 2 rfl ?_
              refine e_Ok.mul (z := 2 * y3) rfl (by omega) (by omega) ?_
              refine e_Ok.add (z := 14 * w 310 y1 + 2 * y3 + 20876) rfl (by omega) (by omega) ?_
              refine e_Ok.run (t' := (99, [(8, (4, w 321 (7 * w 310 y1 + y3) - w 276 (14 * w 310 y1 + 2 * y3 + 20876))), (6, (4, w 322 (7 * w 310 y1 + y3))), (4, (4, w 321 (7 * w 310 y1 + y3))), (0, (1, 275)), (1, (0, y1)), (2, (0, w 310 y1)), (3, (0, y3))], [(0, 1), (0, 14 * w 310 y1 + 2 * y3 + 20876), (1, 276), (4, w 322 (7 * w 310 y1 + y3))], w)) 1 rfl ?_
              refine e_Ok.add (z := 14 * w 310 y1 + 2 * y3 + 20877) rfl (by omega) (by omega) ?_
              have h16 := (e_Has.get hT (c := 276) (k := 14 * w 310 y1 + 2 * y3 + 20877) (lo := (-2147483648)) (hi := 2147483647) (nR_mid (by omega)) (by decide))
              refine e_Ok.ald (z := w 276 (14 * w 310 y1 + 2 * y3 + 20877)) rfl (el_o rfl) rfl (by omega) rfl (by omega) ?_
              refine e_Ok.run (t' := (102, [(8, (4, w 321 (7 * w 310 y1 + y3) - w 276 (14 * w 310 y1 + 2 * y3 + 20876))), (6, (4, w 322 (7 * w 310 y1 + y3))), (4, (4, w 321 (7 * w 310 y1 + y3))), (0, (1, 275)), (1, (0, y1)), (2, (0, w 310 y1)), (3, (0, y3))], [(4, w 276 (14 * w 310 y1 + 2 * y3 + 20877)), (4, w 322 (7 * w 310 y1 + y3))], w)) 1 rfl ?_
              refine e_Ok.subL (z := w 322 (7 * w 310 y1 + y3) - w 276 (14 * w 310 y1 + 2 * y3 + 20877)) rfl (by omega) (by omega) ?_
              refine e_Ok.run (t' := (106, [(10, (4, w 322 (7 * w 310 y1 + y3) - w 276 (14 * w 310 y1 + 2 * y3 + 20877))), (8, (4, w 321 (7 * w 310 y1 + y3) - w 276 (14 * w 310 y1 + 2 * y3 + 20876))), (6, (4, w 322 (7 * w 310 y1 + y3))), (4, (4, w 321 (7 * w 310 y1 + y3))), (0, (1, 275)), (1, (0, y1)), (2, (0, w 310 y1)), (3, (0, y3))], [(1, 275)], w)) 2 rfl ?_
              refine e_Ok.getr (z := 315) rfl (el_o rfl) rfl rfl (e_Has.eq hT rfl) (by omega) ?_
              refine e_Ok.run (t' := (110, [(10, (4, w 322 (7 * w 310 y1 + y3) - w 276 (14 * w 310 y1 + 2 * y3 + 20877))), (8, (4, w 321 (7 * w 310 y1 + y3) - w 276 (14 * w 310 y1 + 2 * y3 + 20876))), (6, (4, w 322 (7 * w 310 y1 + y3))), (4, (4, w 321 (7 * w 310 y1 + y3))), (0, (1, 275)), (1, (0, y1)), (2, (0, w 310 y1)), (3, (0, y3))], [(0, y1), (1, 315)], w)) 1 rfl ?_
              have h18 := (e_Has.get hT (c := 315) (k := y1) (lo := (-2147483648)) (hi := 2147483647) rfl (by decide))
              refine e_Ok.ald (z := w 315 y1) rfl (el_o rfl) rfl (by omega) rfl (by omega) ?_
              refine e_Ok.run (t' := (117, [(12, (4, w 315 y1)), (10, (4, w 322 (7 * w 310 y1 + y3) - w 276 (14 * w 310 y1 + 2 * y3 + 20877))), (8, (4, w 321 (7 * w 310 y1 + y3) - w 276 (14 * w 310 y1 + 2 * y3 + 20876))), (6, (4, w 322 (7 * w 310 y1 + y3))), (4, (4, w 321 (7 * w 310 y1 + y3))), (0, (1, 275)), (1, (0, y1)), (2, (0, w 310 y1)), (3, (0, y3))], [(1, 275), (4, w 321 (7 * w 310 y1 + y3))], w)) 4 rfl ?_
              refine e_Ok.getr (z := 311) rfl (el_o rfl) rfl rfl (e_Has.eq hT rfl) (by omega) ?_
              refine e_Ok.run (t' := (121, [(12, (4, w 315 y1)), (10, (4, w 322 (7 * w 310 y1 + y3) - w 276 (14 * w 310 y1 + 2 * y3 + 20877))), (8, (4, w 321 (7 * w 310 y1 + y3) - w 276 (14 * w 310 y1 + 2 * y3 + 20876))), (6, (4, w 322 (7 * w 310 y1 + y3))), (4, (4, w 321 (7 * w 310 y1 + y3))), (0, (1, 275)), (1, (0, y1)), (2, (0, w 310 y1)), (3, (0, y3))], [(0, y1), (1, 311), (4, w 321 (7 * w 310 y1 + y3))], w)) 1 rfl ?_
              have h19 := (e_Has.get hT (c := 311) (k := y1) (lo := (-16000)) (hi := 16000) rfl (by decide))
              refine e_Ok.ald (z := w 311 y1) rfl (el_o rfl) rfl (by omega) rfl (by omega) ?_
              refine e_Ok.run (t' := (124, [(12, (4, w 315 y1)), (10, (4, w 322 (7 * w 310 y1 + y3) - w 276 (14 * w 310 y1 + 2 * y3 + 20877))), (8, (4, w 321 (7 * w 310 y1 + y3) - w 276 (14 * w 310 y1 + 2 * y3 + 20876))), (6, (4, w 322 (7 * w 310 y1 + y3))), (4, (4, w 321 (7 * w 310 y1 + y3))), (0, (1, 275)), (1, (0, y1)), (2, (0, w 310 y1)), (3, (0, y3))], [(1, 275), (4, w 311 y1), (4, w 321 (7 * w 310 y1 + y3))], w)) 2 rfl ?_
              refine e_Ok.getr (z := 311) rfl (el_o rfl) rfl rfl (e_Has.eq hT rfl) (by omega) ?_
              refine e_Ok.run (t' := (128, [(12, (4, w 315 y1)), (10, (4, w 322 (7 * w 310 y1 + y3) - w 276 (14 * w 310 y1 + 2 * y3 + 20877))), (8, (4, w 321 (7 * w 310 y1 + y3) - w 276 (14 * w 310 y1 + 2 * y3 + 20876))), (6, (4, w 322 (7 * w 310 y1 + y3))), (4, (4, w 321 (7 * w 310 y1 + y3))), (0, (1, 275)), (1, (0, y1)), (2, (0, w 310 y1)), (3, (0, y3))], [(0, y1), (1, 311), (4, w 311 y1), (4, w 321 (7 * w 310 y1 + y3))], w)) 1 rfl ?_
              refine e_Ok.ald (z := w 311 y1) rfl (el_o rfl) rfl (by omega) rfl (by omega) ?_
              refine e_Ok.run (t' := (130, [(12, (4, w 315 y1)), (10, (4, w 322 (7 * w 310 y1 + y3) - w 276 (14 * w 310 y1 + 2 * y3 + 20877))), (8, (4, w 321 (7 * w 310 y1 + y3) - w 276 (14 * w 310 y1 + 2 * y3 + 20876))), (6, (4, w 322 (7 * w 310 y1 + y3))), (4, (4, w 321 (7 * w 310 y1 + y3))), (0, (1, 275)), (1, (0, y1)), (2, (0, w 310 y1)), (3, (0, y3))], [(1, 275), (0, w 311 y1), (4, w 311 y1), (4, w 321 (7 * w 310 y1 + y3))], w)) 1 rfl ?_
              refine e_Ok.getr (z := 313) rfl (el_o rfl) rfl rfl (e_Has.eq hT rfl) (by omega) ?_
              refine e_Ok.run (t' := (134, [(12, (4, w 315 y1)), (10, (4, w 322 (7 * w 310 y1 + y3) - w 276 (14 * w 310 y1 + 2 * y3 + 20877))), (8, (4, w 321 (7 * w 310 y1 + y3) - w 276 (14 * w 310 y1 + 2 * y3 + 20876))), (6, (4, w 322 (7 * w 310 y1 + y3))), (4, (4, w 321 (7 * w 310 y1 + y3))), (0, (1, 275)), (1, (0, y1)), (2, (0, w 310 y1)), (3, (0, y3))], [(0, y1), (1, 313), (0, w 311 y1), (4, w 311 y1), (4, w 321 (7 * w 310 y1 + y3))], w)) 1 rfl ?_
              have h20 := (e_Has.get hT (c := 313) (k := y1) (lo := 0) (hi := 32000) rfl (by decide))
              refine e_Ok.ald (z := w 313 y1) rfl (el_o rfl) rfl (by omega) rfl (by omega) ?_
              refine e_Ok.add (z := w 311 y1 + w 313 y1) rfl (by omega) (by omega) ?_
              refine e_Ok.run (t' := (137, [(12, (4, w 315 y1)), (10, (4, w 322 (7 * w 310 y1 + y3) - w 276 (14 * w 310 y1 + 2 * y3 + 20877))), (8, (4, w 321 (7 * w 310 y1 + y3) - w 276 (14 * w 310 y1 + 2 * y3 + 20876))), (6, (4, w 322 (7 * w 310 y1 + y3))), (4, (4, w 321 (7 * w 310 y1 + y3))), (0, (1, 275)), (1, (0, y1)), (2, (0, w 310 y1)), (3, (0, y3))], [(4, w 311 y1 + w 313 y1), (4, w 311 y1), (4, w 321 (7 * w 310 y1 + y3))], w)) 1 rfl ?_
              refine e_Ok.callS rfl (by omega) rfl rfl (c_266) (fun r21 w22 h23 => ?_)
              obtain ⟨z24, rfl, rfl, q25⟩ := h23
              obtain ⟨rfl, q25⟩ | ⟨rfl, q25⟩ := q25
              · show e_Ok 20 elay ecode eI (d + 1) 405 (140, [(12, (4, w 315 y1)), (10, (4, w 322 (7 * w 310 y1 + y3) - w 276 (14 * w 310 y1 + 2 * y3 + 20877))), (8, (4, w 321 (7 * w 310 y1 + y3) - w 276 (14 * w 310 y1 + 2 * y3 + 20876))), (6, (4, w 322 (7 * w 310 y1 + y3))), (4, (4, w 321 (7 * w 310 y1 + y3))), (0, (1, 275)), (1, (0, y1)), (2, (0, w 310 y1)), (3, (0, y3))], [(0, 1)], w) _
                refine e_Ok.if1 rfl (fun h26 => ?_) (fun h26 => ?_)
                · replace h26 : (1 : Int) = 0 := h26
                  exfalso; omega
                · replace h26 : (1 : Int) ≠ 0 := by have q : ¬ ((1 : Int) = 0) := h26; omega
                  refine e_Ok.run (t' := (146, [(12, (4, w 315 y1)), (10, (4, w 322 (7 * w 310 y1 + y3) - w 276 (14 * w 310 y1 + 2 * y3 + 20877))), (8, (4, w 321 (7 * w 310 y1 + y3) - w 276 (14 * w 310 y1 + 2 * y3 + 20876))), (6, (4, w 322 (7 * w 310 y1 + y3))), (4, (4, w 321 (7 * w 310 y1 + y3))), (0, (1, 275)), (1, (0, y1)), (2, (0, w 310 y1)), (3, (0, y3))], [(1, 275), (4, w 322 (7 * w 310 y1 + y3))], w)) 2 rfl ?_
                  refine e_Ok.getr (z := 312) rfl (el_o rfl) rfl rfl (e_Has.eq hT rfl) (by omega) ?_
                  refine e_Ok.run (t' := (150, [(12, (4, w 315 y1)), (10, (4, w 322 (7 * w 310 y1 + y3) - w 276 (14 * w 310 y1 + 2 * y3 + 20877))), (8, (4, w 321 (7 * w 310 y1 + y3) - w 276 (14 * w 310 y1 + 2 * y3 + 20876))), (6, (4, w 322 (7 * w 310 y1 + y3))), (4, (4, w 321 (7 * w 310 y1 + y3))), (0, (1, 275)), (1, (0, y1)), (2, (0, w 310 y1)), (3, (0, y3))], [(0, y1), (1, 312), (4, w 322 (7 * w 310 y1 + y3))], w)) 1 rfl ?_
                  have h27 := (e_Has.get hT (c := 312) (k := y1) (lo := (-16000)) (hi := 16000) rfl (by decide))
                  refine e_Ok.ald (z := w 312 y1) rfl (el_o rfl) rfl (by omega) rfl (by omega) ?_
                  refine e_Ok.run (t' := (153, [(12, (4, w 315 y1)), (10, (4, w 322 (7 * w 310 y1 + y3) - w 276 (14 * w 310 y1 + 2 * y3 + 20877))), (8, (4, w 321 (7 * w 310 y1 + y3) - w 276 (14 * w 310 y1 + 2 * y3 + 20876))), (6, (4, w 322 (7 * w 310 y1 + y3))), (4, (4, w 321 (7 * w 310 y1 + y3))), (0, (1, 275)), (1, (0, y1)), (2, (0, w 310 y1)), (3, (0, y3))], [(1, 275), (4, w 312 y1), (4, w 322 (7 * w 310 y1 + y3))], w)) 2 rfl ?_
                  refine e_Ok.getr (z := 312) rfl (el_o rfl) rfl rfl (e_Has.eq hT rfl) (by omega) ?_
                  refine e_Ok.run (t' := (157, [(12, (4, w 315 y1)), (10, (4, w 322 (7 * w 310 y1 + y3) - w 276 (14 * w 310 y1 + 2 * y3 + 20877))), (8, (4, w 321 (7 * w 310 y1 + y3) - w 276 (14 * w 310 y1 + 2 * y3 + 20876))), (6, (4, w 322 (7 * w 310 y1 + y3))), (4, (4, w 321 (7 * w 310 y1 + y3))), (0, (1, 275)), (1, (0, y1)), (2, (0, w 310 y1)), (3, (0, y3))], [(0, y1), (1, 312), (4, w 312 y1), (4, w 322 (7 * w 310 y1 + y3))], w)) 1 rfl ?_
                  refine e_Ok.ald (z := w 312 y1) rfl (el_o rfl) rfl (by omega) rfl (by omega) ?_
                  refine e_Ok.run (t' := (159, [(12, (4, w 315 y1)), (10, (4, w 322 (7 * w 310 y1 + y3) - w 276 (14 * w 310 y1 + 2 * y3 + 20877))), (8, (4, w 321 (7 * w 310 y1 + y3) - w 276 (14 * w 310 y1 + 2 * y3 + 20876))), (6, (4, w 322 (7 * w 310 y1 + y3))), (4, (4, w 321 (7 * w 310 y1 + y3))), (0, (1, 275)), (1, (0, y1)), (2, (0, w 310 y1)), (3, (0, y3))], [(1, 275), (0, w 312 y1), (4, w 312 y1), (4, w 322 (7 * w 310 y1 + y3))], w)) 1 rfl ?_
                  refine e_Ok.getr (z := 314) rfl (el_o rfl) rfl rfl (e_Has.eq hT rfl) (by omega) ?_
                  refine e_Ok.run (t' := (163, [(12, (4, w 315 y1)), (10, (4, w 322 (7 * w 310 y1 + y3) - w 276 (14 * w 310 y1 + 2 * y3 + 20877))), (8, (4, w 321 (7 * w 310 y1 + y3) - w 276 (14 * w 310 y1 + 2 * y3 + 20876))), (6, (4, w 322 (7 * w 310 y1 + y3))), (4, (4, w 321 (7 * w 310 y1 + y3))), (0, (1, 275)), (1, (0, y1)), (2, (0, w 310 y1)), (3, (0, y3))], [(0, y1), (1, 314), (0, w 312 y1), (4, w 312 y1), (4, w 322 (7 * w 310 y1 + y3))], w)) 1 rfl ?_
                  have h28 := (e_Has.get hT (c := 314) (k := y1) (lo := 0) (hi := 32000) rfl (by decide))
                  refine e_Ok.ald (z := w 314 y1) rfl (el_o rfl) rfl (by omega) rfl (by omega) ?_
                  refine e_Ok.add (z := w 312 y1 + w 314 y1) rfl (by omega) (by omega) ?_
                  refine e_Ok.run (t' := (166, [(12, (4, w 315 y1)), (10, (4, w 322 (7 * w 310 y1 + y3) - w 276 (14 * w 310 y1 + 2 * y3 + 20877))), (8, (4, w 321 (7 * w 310 y1 + y3) - w 276 (14 * w 310 y1 + 2 * y3 + 20876))), (6, (4, w 322 (7 * w 310 y1 + y3))), (4, (4, w 321 (7 * w 310 y1 + y3))), (0, (1, 275)), (1, (0, y1)), (2, (0, w 310 y1)), (3, (0, y3))], [(4, w 312 y1 + w 314 y1), (4, w 312 y1), (4, w 322 (7 * w 310 y1 + y3))], w)) 1 rfl ?_
                  refine e_Ok.callS rfl (by omega) rfl rfl (c_266) (fun r29 w30 h31 => ?_)
                  obtain ⟨z32, rfl, rfl, q33⟩ := h31
                  obtain ⟨rfl, q33⟩ | ⟨rfl, q33⟩ := q33
                  · show e_Ok 20 elay ecode eI (d + 1) 405 (169, [(12, (4, w 315 y1)), (10, (4, w 322 (7 * w 310 y1 + y3) - w 276 (14 * w 310 y1 + 2 * y3 + 20877))), (8, (4, w 321 (7 * w 310 y1 + y3) - w 276 (14 * w 310 y1 + 2 * y3 + 20876))), (6, (4, w 322 (7 * w 310 y1 + y3))), (4, (4, w 321 (7 * w 310 y1 + y3))), (0, (1, 275)), (1, (0, y1)), (2, (0, w 310 y1)), (3, (0, y3))], [(0, 1)], w) _
                    refine e_Ok.if1 rfl (fun h34 => ?_) (fun h34 => ?_)
                    · replace h34 : (1 : Int) = 0 := h34
                      exfalso; omega
                    · replace h34 : (1 : Int) ≠ 0 := by have q : ¬ ((1 : Int) = 0) := h34; omega
                      refine e_Ok.run (t' := (181, [(14, (0, 1)), (12, (4, w 315 y1)), (10, (4, w 322 (7 * w 310 y1 + y3) - w 276 (14 * w 310 y1 + 2 * y3 + 20877))), (8, (4, w 321 (7 * w 310 y1 + y3) - w 276 (14 * w 310 y1 + 2 * y3 + 20876))), (6, (4, w 322 (7 * w 310 y1 + y3))), (4, (4, w 321 (7 * w 310 y1 + y3))), (0, (1, 275)), (1, (0, y1)), (2, (0, w 310 y1)), (3, (0, y3))], [(0, 1)], w)) 4 rfl ?_
                      refine e_Ok.if1 rfl (fun h35 => ?_) (fun h35 => ?_)
                      · replace h35 : (1 : Int) = 0 := h35
                        exfalso; omega
                      · replace h35 : (1 : Int) ≠ 0 := by have q : ¬ ((1 : Int) = 0) := h35; omega
                        refine e_Ok.run (t' := (187, [(14, (0, 1)), (12, (4, w 315 y1)), (10, (4, w 322 (7 * w 310 y1 + y3) - w 276 (14 * w 310 y1 + 2 * y3 + 20877))), (8, (4, w 321 (7 * w 310 y1 + y3) - w 276 (14 * w 310 y1 + 2 * y3 + 20876))), (6, (4, w 322 (7 * w 310 y1 + y3))), (4, (4, w 321 (7 * w 310 y1 + y3))), (0, (1, 275)), (1, (0, y1)), (2, (0, w 310 y1)), (3, (0, y3))], [(4, 0), (4, w 315 y1)], w)) 2 rfl ?_
                        refine e_Ok.lcmp rfl (fun z36 z36a z36b z36c => ?_)
                        refine e_Ok.if1 rfl (fun h37 => ?_) (fun h37 => ?_)
                        · replace h37 : (z36 : Int) < 0 := h37
                          refine e_Ok.run (t' := (212, [(14, (0, 1)), (12, (4, w 315 y1)), (10, (4, w 322 (7 * w 310 y1 + y3) - w 276 (14 * w 310 y1 + 2 * y3 + 20877))), (8, (4, w 321 (7 * w 310 y1 + y3) - w 276 (14 * w 310 y1 + 2 * y3 + 20876))), (6, (4, w 322 (7 * w 310 y1 + y3))), (4, (4, w 321 (7 * w 310 y1 + y3))), (0, (1, 275)), (1, (0, y1)), (2, (0, w 310 y1)), (3, (0, y3))], [(0, y1)], w)) 1 rfl ?_
                          refine e_Ok.rets rfl rfl ?_
                          exact ⟨_, rfl, rfl, by omega, by omega⟩
                        · replace h37 : (z36 : Int) ≥ 0 := by have q : ¬ ((z36 : Int) < 0) := h37; omega
                          refine e_Ok.run (t' := (195, [(14, (0, 1)), (12, (4, w 315 y1)), (10, (4, w 322 (7 * w 310 y1 + y3) - w 276 (14 * w 310 y1 + 2 * y3 + 20877))), (8, (4, w 321 (7 * w 310 y1 + y3) - w 276 (14 * w 310 y1 + 2 * y3 + 20876))), (6, (4, w 322 (7 * w 310 y1 + y3))), (4, (4, w 321 (7 * w 310 y1 + y3))), (0, (1, 275)), (1, (0, y1)), (2, (0, w 310 y1)), (3, (0, y3))], [(4, w 321 (7 * w 310 y1 + y3) - w 276 (14 * w 310 y1 + 2 * y3 + 20876)), (4, w 321 (7 * w 310 y1 + y3) - w 276 (14 * w 310 y1 + 2 * y3 + 20876))], w)) 2 rfl ?_
                          refine e_Ok.anyL rfl ⟨_, rfl⟩ (fun x38 => ?_)
                          refine e_Ok.run (t' := (200, [(14, (0, 1)), (12, (4, w 315 y1)), (10, (4, w 322 (7 * w 310 y1 + y3) - w 276 (14 * w 310 y1 + 2 * y3 + 20877))), (8, (4, w 321 (7 * w 310 y1 + y3) - w 276 (14 * w 310 y1 + 2 * y3 + 20876))), (6, (4, w 322 (7 * w 310 y1 + y3))), (4, (4, w 321 (7 * w 310 y1 + y3))), (0, (1, 275)), (1, (0, y1)), (2, (0, w 310 y1)), (3, (0, y3))], [(4, w 322 (7 * w 310 y1 + y3) - w 276 (14 * w 310 y1 + 2 * y3 + 20877)), (4, w 322 (7 * w 310 y1 + y3) - w 276 (14 * w 310 y1 + 2 * y3 + 20877)), (4, x38)], w)) 2 rfl ?_
                          refine e_Ok.anyL rfl ⟨_, rfl⟩ (fun x40 => ?_)
                          refine e_Ok.anyL rfl ⟨_, rfl⟩ (fun x41 => ?_)
                          refine e_Ok.run (t' := (206, [(14, (0, 1)), (12, (4, w 315 y1)), (10, (4, w 322 (7 * w 310 y1 + y3) - w 276 (14 * w 310 y1 + 2 * y3 + 20877))), (8, (4, w 321 (7 * w 310 y1 + y3) - w 276 (14 * w 310 y1 + 2 * y3 + 20876))), (6, (4, w 322 (7 * w 310 y1 + y3))), (4, (4, w 321 (7 * w 310 y1 + y3))), (0, (1, 275)), (1, (0, y1)), (2, (0, w 310 y1)), (3, (0, y3))], [(4, w 315 y1), (4, w 315 y1), (4, x41)], w)) 2 rfl ?_
                          refine e_Ok.anyL rfl ⟨_, rfl⟩ (fun x42 => ?_)
                          refine e_Ok.lcmp rfl (fun z43 z43a z43b z43c => ?_)
                          refine e_Ok.if1 rfl (fun h44 => ?_) (fun h44 => ?_)
                          · replace h44 : (z43 : Int) ≤ 0 := h44
                            refine e_Ok.inc (z := y3 + 1) rfl rfl (by omega) (by omega) ?_
                            show e_Ok 20 elay ecode eI (d + 1) 405 (216, [(3, (0, y3 + 1)), (14, (0, 1)), (12, (4, w 315 y1)), (10, (4, w 322 (7 * w 310 y1 + y3) - w 276 (14 * w 310 y1 + 2 * y3 + 20877))), (8, (4, w 321 (7 * w 310 y1 + y3) - w 276 (14 * w 310 y1 + 2 * y3 + 20876))), (6, (4, w 322 (7 * w 310 y1 + y3))), (4, (4, w 321 (7 * w 310 y1 + y3))), (0, (1, 275)), (1, (0, y1)), (2, (0, w 310 y1))], [], w) _
                            refine e_Ok.run (t' := (19, [(3, (0, y3 + 1)), (14, (0, 1)), (12, (4, w 315 y1)), (10, (4, w 322 (7 * w 310 y1 + y3) - w 276 (14 * w 310 y1 + 2 * y3 + 20877))), (8, (4, w 321 (7 * w 310 y1 + y3) - w 276 (14 * w 310 y1 + 2 * y3 + 20876))), (6, (4, w 322 (7 * w 310 y1 + y3))), (4, (4, w 321 (7 * w 310 y1 + y3))), (0, (1, 275)), (1, (0, y1)), (2, (0, w 310 y1))], [], w)) 1 rfl ?_
                            refine e_Ok.sub eAlk (e_sub_of rfl ?_) (ih8 (y3 + 1) (by omega) (by omega))
                            exact ⟨rfl, rfl, rfl, rfl, trivial⟩
                          · replace h44 : (z43 : Int) > 0 := by have q : ¬ ((z43 : Int) ≤ 0) := h44; omega
                            refine e_Ok.run (t' := (212, [(14, (0, 1)), (12, (4, w 315 y1)), (10, (4, w 322 (7 * w 310 y1 + y3) - w 276 (14 * w 310 y1 + 2 * y3 + 20877))), (8, (4, w 321 (7 * w 310 y1 + y3) - w 276 (14 * w 310 y1 + 2 * y3 + 20876))), (6, (4, w 322 (7 * w 310 y1 + y3))), (4, (4, w 321 (7 * w 310 y1 + y3))), (0, (1, 275)), (1, (0, y1)), (2, (0, w 310 y1)), (3, (0, y3))], [(0, y1)], w)) 1 rfl ?_
                            refine e_Ok.rets rfl rfl ?_
                            exact ⟨_, rfl, rfl, by omega, by omega⟩
                  · show e_Ok 20 elay ecode eI (d + 1) 405 (169, [(12, (4, w 315 y1)), (10, (4, w 322 (7 * w 310 y1 + y3) - w 276 (14 * w 310 y1 + 2 * y3 + 20877))), (8, (4, w 321 (7 * w 310 y1 + y3) - w 276 (14 * w 310 y1 + 2 * y3 + 20876))), (6, (4, w 322 (7 * w 310 y1 + y3))), (4, (4, w 321 (7 * w 310 y1 + y3))), (0, (1, 275)), (1, (0, y1)), (2, (0, w 310 y1)), (3, (0, y3))], [(0, 0)], w) _
                    refine e_Ok.if1 rfl (fun h45 => ?_) (fun h45 => ?_)
                    · replace h45 : (0 : Int) = 0 := h45
                      refine e_Ok.run (t' := (181, [(14, (0, 0)), (12, (4, w 315 y1)), (10, (4, w 322 (7 * w 310 y1 + y3) - w 276 (14 * w 310 y1 + 2 * y3 + 20877))), (8, (4, w 321 (7 * w 310 y1 + y3) - w 276 (14 * w 310 y1 + 2 * y3 + 20876))), (6, (4, w 322 (7 * w 310 y1 + y3))), (4, (4, w 321 (7 * w 310 y1 + y3))), (0, (1, 275)), (1, (0, y1)), (2, (0, w 310 y1)), (3, (0, y3))], [(0, 0)], w)) 3 rfl ?_
                      refine e_Ok.if1 rfl (fun h46 => ?_) (fun h46 => ?_)
                      · replace h46 : (0 : Int) = 0 := h46
                        refine e_Ok.inc (z := y3 + 1) rfl rfl (by omega) (by omega) ?_
                        show e_Ok 20 elay ecode eI (d + 1) 405 (216, [(3, (0, y3 + 1)), (14, (0, 0)), (12, (4, w 315 y1)), (10, (4, w 322 (7 * w 310 y1 + y3) - w 276 (14 * w 310 y1 + 2 * y3 + 20877))), (8, (4, w 321 (7 * w 310 y1 + y3) - w 276 (14 * w 310 y1 + 2 * y3 + 20876))), (6, (4, w 322 (7 * w 310 y1 + y3))), (4, (4, w 321 (7 * w 310 y1 + y3))), (0, (1, 275)), (1, (0, y1)), (2, (0, w 310 y1))], [], w) _
                        refine e_Ok.run (t' := (19, [(3, (0, y3 + 1)), (14, (0, 0)), (12, (4, w 315 y1)), (10, (4, w 322 (7 * w 310 y1 + y3) - w 276 (14 * w 310 y1 + 2 * y3 + 20877))), (8, (4, w 321 (7 * w 310 y1 + y3) - w 276 (14 * w 310 y1 + 2 * y3 + 20876))), (6, (4, w 322 (7 * w 310 y1 + y3))), (4, (4, w 321 (7 * w 310 y1 + y3))), (0, (1, 275)), (1, (0, y1)), (2, (0, w 310 y1))], [], w)) 1 rfl ?_
                        refine e_Ok.sub eAlk (e_sub_of rfl ?_) (ih8 (y3 + 1) (by omega) (by omega))
                        exact ⟨rfl, rfl, rfl, rfl, trivial⟩
                      · replace h46 : (0 : Int) ≠ 0 := by have q : ¬ ((0 : Int) = 0) := h46; omega
                        exfalso; omega
                    · replace h45 : (0 : Int) ≠ 0 := by have q : ¬ ((0 : Int) = 0) := h45; omega
                      exfalso; omega
              · show e_Ok 20 elay ecode eI (d + 1) 405 (140, [(12, (4, w 315 y1)), (10, (4, w 322 (7 * w 310 y1 + y3) - w 276 (14 * w 310 y1 + 2 * y3 + 20877))), (8, (4, w 321 (7 * w 310 y1 + y3) - w 276 (14 * w 310 y1 + 2 * y3 + 20876))), (6, (4, w 322 (7 * w 310 y1 + y3))), (4, (4, w 321 (7 * w 310 y1 + y3))), (0, (1, 275)), (1, (0, y1)), (2, (0, w 310 y1)), (3, (0, y3))], [(0, 0)], w) _
                refine e_Ok.if1 rfl (fun h47 => ?_) (fun h47 => ?_)
                · replace h47 : (0 : Int) = 0 := h47
                  refine e_Ok.run (t' := (181, [(14, (0, 0)), (12, (4, w 315 y1)), (10, (4, w 322 (7 * w 310 y1 + y3) - w 276 (14 * w 310 y1 + 2 * y3 + 20877))), (8, (4, w 321 (7 * w 310 y1 + y3) - w 276 (14 * w 310 y1 + 2 * y3 + 20876))), (6, (4, w 322 (7 * w 310 y1 + y3))), (4, (4, w 321 (7 * w 310 y1 + y3))), (0, (1, 275)), (1, (0, y1)), (2, (0, w 310 y1)), (3, (0, y3))], [(0, 0)], w)) 3 rfl ?_
                  refine e_Ok.if1 rfl (fun h48 => ?_) (fun h48 => ?_)
                  · replace h48 : (0 : Int) = 0 := h48
                    refine e_Ok.inc (z := y3 + 1) rfl rfl (by omega) (by omega) ?_
                    show e_Ok 20 elay ecode eI (d + 1) 405 (216, [(3, (0, y3 + 1)), (14, (0, 0)), (12, (4, w 315 y1)), (10, (4, w 322 (7 * w 310 y1 + y3) - w 276 (14 * w 310 y1 + 2 * y3 + 20877))), (8, (4, w 321 (7 * w 310 y1 + y3) - w 276 (14 * w 310 y1 + 2 * y3 + 20876))), (6, (4, w 322 (7 * w 310 y1 + y3))), (4, (4, w 321 (7 * w 310 y1 + y3))), (0, (1, 275)), (1, (0, y1)), (2, (0, w 310 y1))], [], w) _
                    refine e_Ok.run (t' := (19, [(3, (0, y3 + 1)), (14, (0, 0)), (12, (4, w 315 y1)), (10, (4, w 322 (7 * w 310 y1 + y3) - w 276 (14 * w 310 y1 + 2 * y3 + 20877))), (8, (4, w 321 (7 * w 310 y1 + y3) - w 276 (14 * w 310 y1 + 2 * y3 + 20876))), (6, (4, w 322 (7 * w 310 y1 + y3))), (4, (4, w 321 (7 * w 310 y1 + y3))), (0, (1, 275)), (1, (0, y1)), (2, (0, w 310 y1))], [], w)) 1 rfl ?_
                    refine e_Ok.sub eAlk (e_sub_of rfl ?_) (ih8 (y3 + 1) (by omega) (by omega))
                    exact ⟨rfl, rfl, rfl, rfl, trivial⟩
                  · replace h48 : (0 : Int) ≠ 0 := by have q : ¬ ((0 : Int) = 0) := h48; omega
                    exfalso; omega
                · replace h47 : (0 : Int) ≠ 0 := by have q : ¬ ((0 : Int) = 0) := h47; omega
                  exfalso; omega
        refine e_Ok.sub eAlk (e_sub_of rfl ?_) (hL7 (8 + 1 : Int).toNat 1 (by omega) (by omega))
        exact ⟨rfl, rfl, rfl, rfl, trivial⟩
  refine e_Ok.sub eAlk (e_sub_of rfl ?_) (hL1 (9 + 1 : Int).toNat 0 (by omega) (by omega))
  exact ⟨rfl, rfl, trivial⟩
theorem no_84_5 : ¬ mLt 275 10 := by unfold mLt; omega
theorem no_84_6 {k : Int} : ¬ mLt 310 k := by unfold mLt; omega
theorem no_84_7 : ¬ mLt 275 42 := by unfold mLt; omega
theorem no_84_8 {k : Int} : ¬ mLt 276 k := by unfold mLt; omega
theorem no_84_9 {k : Int} : ¬ mLt 286 k := by unfold mLt; omega
theorem no_84_10 : ¬ mLt 275 0 := by unfold mLt; omega
theorem su_84_13 {c k : Int} (q : mL c k) : mLo c k := by
  unfold mL at q
  rcases q with ⟨q, ⟨q, q⟩⟩ | q | q
  · exact Or.inl (Or.inl ⟨(by omega), ⟨(by omega), (by omega)⟩⟩)
  · exact Or.inl (Or.inr (Or.inl (by omega)))
  · exact Or.inl (Or.inr (Or.inr (Or.inl (by omega))))
theorem su_84_14 {c k : Int} (q : mTl c k) : mLo c k := by
  unfold mTl at q
  rcases q with q
  · exact Or.inl (Or.inr (Or.inr (Or.inr (by omega))))
theorem su_84_15 {c k : Int} (q : mTl c k) : mLt c k := by
  unfold mTl at q
  rcases q with q
  · exact Or.inr (Or.inr (Or.inr (by omega)))
theorem su_84_16 {c k : Int} (q : mL c k) : mLt c k := by
  unfold mL at q
  rcases q with ⟨q, ⟨q, q⟩⟩ | q | q
  · exact Or.inl ⟨(by omega), ⟨(by omega), (by omega)⟩⟩
  · exact Or.inr (Or.inl (by omega))
  · exact Or.inr (Or.inr (Or.inl (by omega)))
set_option maxHeartbeats 4000000 in
theorem c_406 {d : Nat} (hd : 29 ≤ d) {w : eW} (hT : e_Has mTy w) (hMo : mMo w (-1)) (hZn : mZn w) (hJ0 : ∀ b, w 275 10 ≤ b → b ≤ 3 → w 286 b = 0) (kall : ∀ b, 0 ≤ b → b < w 275 10 → e_pk2 w (7 * b) (w 286 b)) (hE : w 276 5 ≤ 2147483000) : e_Ok 20 elay ecode eI d 406 (0, [(0, (1, 275))], [], w) (fun r w' => r = [] ∧ e_fr mLo w w' ∧ e_Has mTy w' ∧ (w 276 5 ≤ w' 276 5 ∧ w' 276 5 ≤ w 276 5 + 5) ∧ mMo w' (-1)) := by
  obtain ⟨d, rfl⟩ : ∃ e, d = e + 1 := ⟨d - 1, by omega⟩
  have har := e_Has.get hT (c := 275) (k := 10) (lo := 0) (hi := 4) rfl (by decide)
  refine e_Ok.run (t' := (1, [(0, (1, 275))], [(1, 275)], w)) 1 rfl ?_
  refine e_Ok.callV rfl (by omega) rfl rfl rfl rfl (c_404 (by omega) hT kall) (fun r1 w2 h3 => ?_)
  obtain ⟨z4, rfl, q5, q5a, q5b⟩ := h3
  have f6 : e_fr mLo w w2 := e_fr.trans (e_fr.refl w) (e_fr.mono q5 (fun c k q => su_84_13 q))
  have q5T : e_Has mTy w2 := mT_L q5 hT
  have q5c : z4 < 4 := by have q0 : w 275 10 = w 275 10 := rfl; omega
  show e_Ok 20 elay ecode eI (d + 1) 406 (4, [(0, (1, 275))], [(0, z4)], w2) _
  refine e_Ok.run (t' := (7, [(2, (0, 0)), (1, (0, z4)), (0, (1, 275))], [], w2)) 3 rfl ?_
  have hL7 : ∀ (nn : Nat) (y2 : Int) (v1 : eW), e_fr mLo w v1 ∧ e_Has mTy v1 ∧ (0 ≤ y2 ∧ y2 ≤ 4) ∧ e_fr mLt w v1 → 5 - y2 < nn → e_Ok 20 elay ecode eI (d + 1) 406 (7, [(0, (1, 275)), (1, (0, z4)), (2, (0, y2))], [], v1) (fun r w' => r = [] ∧ e_fr mLo w w' ∧ e_Has mTy w' ∧ (w 276 5 ≤ w' 276 5 ∧ w' 276 5 ≤ w 276 5 + 5) ∧ mMo w' (-1)) := by
    intro nn
    induction nn with
    | zero => intro y2 v1 hj hm; obtain ⟨j9, j10, j11, j12⟩ := hj; exfalso; omega
    | succ nn ih8 =>
      intro y2 v1 hj hm
      obtain ⟨j9, j10, j11, j12⟩ := hj
      refine e_Ok.run (t' := (9, [(0, (1, 275)), (1, (0, z4)), (2, (0, y2))], [(1, 275), (0, y2)], v1)) 2 rfl ?_
      refine e_Ok.getf (z := w 275 10) rfl (el_o rfl) rfl rfl ((j12 275 10 no_84_5).trans rfl) (by omega) ?_
      refine e_Ok.if2 rfl (fun h13 => ?_) (fun h13 => ?_)
      · replace h13 : (y2 : Int) ≥ w 275 10 := h13
        refine e_Ok.run (t' := (86, [(0, (1, 275)), (1, (0, z4)), (2, (0, y2))], [(0, z4)], v1)) 1 rfl ?_
        refine e_Ok.if1 rfl (fun h14 => ?_) (fun h14 => ?_)
        · replace h14 : (z4 : Int) < 0 := h14
          refine e_Ok.run (t' := (97, [(0, (1, 275)), (1, (0, z4)), (2, (0, y2))], [(1, 275)], v1)) 1 rfl ?_
          refine e_Ok.callV rfl (by omega) rfl rfl rfl rfl (c_405 (by omega) j10 (show mZn v1 from fun z g1 g2 => by have e := j12; rw [e 310 z no_84_6, e 275 10 no_84_5]; exact hZn z g1 (by rw [e 275 42 no_84_7] at g2; exact g2)) (kAll_fr j9 (fun c k q => lo_kall q) kall)) (fun r15 w16 h17 => ?_)
          obtain ⟨z18, rfl, rfl, q19a, q19b⟩ := h17
          show e_Ok 20 elay ecode eI (d + 1) 406 (100, [(0, (1, 275)), (1, (0, z4)), (2, (0, y2))], [(0, z18)], v1) _
          refine e_Ok.run (t' := (102, [(2, (0, z18)), (0, (1, 275)), (1, (0, z4))], [(0, z18)], v1)) 2 rfl ?_
          refine e_Ok.if1 rfl (fun h20 => ?_) (fun h20 => ?_)
          · replace h20 : (z18 : Int) < 0 := h20
            refine e_Ok.rets rfl rfl ?_
            have e21 : v1 276 5 = w 276 5 := ((j12 276 5 no_84_8).trans rfl)
            exact ⟨rfl, j9, j10, by omega, (mMo.same hMo (e_Has.mo hT) (fun c k q => j12 c k (moK_lt q)))⟩
          · replace h20 : (z18 : Int) ≥ 0 := by have q : ¬ ((z18 : Int) < 0) := h20; omega
            refine e_Ok.run (t' := (108, [(2, (0, z18)), (0, (1, 275)), (1, (0, z4))], [(0, z18), (0, 3), (1, 275)], v1)) 3 rfl ?_
            have e25 : v1 276 5 = w 276 5 := ((j12 276 5 no_84_8).trans rfl)
            refine e_Ok.callV rfl (by omega) rfl rfl rfl rfl (c_385 (by omega) j10 (by omega) (by omega) (by omega)) (fun r22 w23 h24 => ?_)
            obtain ⟨rfl, q26, q26T, q26n, q26p, q26s, q26t, q26u⟩ := h24
            have f27 : e_fr mLo w w23 := e_fr.trans j9 (e_fr.mono q26 (fun c k q => by exact Or.inr q))
            show e_Ok 20 elay ecode eI (d + 1) 406 (111, [(2, (0, z18)), (0, (1, 275)), (1, (0, z4))], [], w23) _
            refine e_Ok.rets rfl rfl ?_
            have e28 : w23 276 5 = w23 276 5 := rfl
            exact ⟨rfl, f27, q26T, by omega, (mMo.trip (mMo.same hMo (e_Has.mo hT) (fun c k q => j12 c k (moK_lt q))) (e_Has.mo j10) (fun b g1 g2 => by have e := j12; rw [e 286 b no_84_9]; exact hJ0 b (by rw [e 275 10 no_84_5] at g1; exact g1) g2) (fun c k q1 q2 => q26 c k (moK_tr q1 q2)) (e_Has.get j10 (c := 275) (k := 10) (lo := 0) (hi := 4) rfl (by decide)).1 q26s q26t q26u (fun b g1 g2 => e_Has.get j10 (nR_TRAVELS (a := b) ⟨g1, g2⟩) (by decide)))⟩
        · replace h14 : (z4 : Int) ≥ 0 := by have q : ¬ ((z4 : Int) < 0) := h14; omega
          refine e_Ok.run (t' := (92, [(0, (1, 275)), (1, (0, z4)), (2, (0, y2))], [(0, z4), (0, 2), (1, 275)], v1)) 3 rfl ?_
          have e32 : v1 276 5 = w 276 5 := ((j12 276 5 no_84_8).trans rfl)
          refine e_Ok.callV rfl (by omega) rfl rfl rfl rfl (c_385 (by omega) j10 (by omega) (by omega) (by omega)) (fun r29 w30 h31 => ?_)
          obtain ⟨rfl, q33, q33T, q33n, q33p, q33s, q33t, q33u⟩ := h31
          have f34 : e_fr mLo w w30 := e_fr.trans j9 (e_fr.mono q33 (fun c k q => by exact Or.inr q))
          show e_Ok 20 elay ecode eI (d + 1) 406 (95, [(0, (1, 275)), (1, (0, z4)), (2, (0, y2))], [], w30) _
          refine e_Ok.rets rfl rfl ?_
          have e35 : w30 276 5 = w30 276 5 := rfl
          exact ⟨rfl, f34, q33T, by omega, (mMo.trip (mMo.same hMo (e_Has.mo hT) (fun c k q => j12 c k (moK_lt q))) (e_Has.mo j10) (fun b g1 g2 => by have e := j12; rw [e 286 b no_84_9]; exact hJ0 b (by rw [e 275 10 no_84_5] at g1; exact g1) g2) (fun c k q1 q2 => q33 c k (moK_tr q1 q2)) (e_Has.get j10 (c := 275) (k := 10) (lo := 0) (hi := 4) rfl (by decide)).1 q33s q33t q33u (fun b g1 g2 => e_Has.get j10 (nR_TRAVELS (a := b) ⟨g1, g2⟩) (by decide)))⟩
      · replace h13 : (y2 : Int) < w 275 10 := by have q : ¬ ((y2 : Int) ≥ w 275 10) := h13; omega
        refine e_Ok.run (t' := (16, [(0, (1, 275)), (1, (0, z4)), (2, (0, y2))], [(1, 275)], v1)) 1 rfl ?_
        refine e_Ok.getr (z := 276) rfl (el_o rfl) rfl rfl ((j12 275 0 no_84_10).trans (e_Has.eq hT rfl)) (by omega) ?_
        refine e_Ok.run (t' := (20, [(0, (1, 275)), (1, (0, z4)), (2, (0, y2))], [(0, y2), (1, 276)], v1)) 1 rfl ?_
        refine e_Ok.callS rfl (by omega) rfl rfl (c_268 (by omega)) (fun r36 w37 h38 => ?_)
        obtain ⟨rfl, rfl⟩ := h38
        show e_Ok 20 elay ecode eI (d + 1) 406 (23, [(0, (1, 275)), (1, (0, z4)), (2, (0, y2))], [(0, 36 * y2 + 16), (1, 276)], v1) _
        refine e_Ok.run (t' := (25, [(0, (1, 275)), (1, (0, z4)), (2, (0, y2))], [(0, 6), (0, 36 * y2 + 16), (1, 276)], v1)) 1 rfl ?_
        refine e_Ok.add (z := 36 * y2 + 22) rfl (by omega) (by omega) ?_
        have h40 := (e_Has.get hT (c := 276) (k := 36 * y2 + 22) (lo := 0) (hi := 1) (nR_TRAVELS (a := y2) (by omega)) (by decide))
        refine e_Ok.ald (z := w 276 (36 * y2 + 22)) rfl (el_o rfl) rfl (by omega) ((j12 276 (36 * y2 + 22) no_84_8).trans rfl) (by omega) ?_
        refine e_Ok.run (t' := (28, [(0, (1, 275)), (1, (0, z4)), (2, (0, y2))], [(0, 1), (0, w 276 (36 * y2 + 22))], v1)) 1 rfl ?_
        refine e_Ok.if2 rfl (fun h41 => ?_) (fun h41 => ?_)
        · replace h41 : (w 276 (36 * y2 + 22) : Int) ≠ 1 := h41
          refine e_Ok.run (t' := (55, [(3, (0, 0)), (0, (1, 275)), (1, (0, z4)), (2, (0, y2))], [(0, 0), (0, 2), (1, 275)], v1)) 5 rfl ?_
          refine e_Ok.if1 rfl (fun h42 => ?_) (fun h42 => ?_)
          · replace h42 : (0 : Int) = 0 := h42
            refine e_Ok.run (t' := (76, [(3, (0, 0)), (0, (1, 275)), (1, (0, z4)), (2, (0, y2))], [(0, 0), (0, 2), (1, 275)], v1)) 1 rfl ?_
            refine e_Ok.callV rfl (by omega) rfl rfl rfl rfl (c_389 j10 (by omega)) (fun r43 w44 h45 => ?_)
            obtain ⟨rfl, q46, q46T⟩ := h45
            have f47 : e_fr mLo w w44 := e_fr.trans j9 (e_fr.mono q46 (fun c k q => su_84_14 q))
            show e_Ok 20 elay ecode eI (d + 1) 406 (79, [(3, (0, 0)), (0, (1, 275)), (1, (0, z4)), (2, (0, y2))], [], w44) _
            refine e_Ok.inc (z := y2 + 1) rfl rfl (by omega) (by omega) ?_
            show e_Ok 20 elay ecode eI (d + 1) 406 (82, [(2, (0, y2 + 1)), (3, (0, 0)), (0, (1, 275)), (1, (0, z4))], [], w44) _
            refine e_Ok.run (t' := (7, [(2, (0, y2 + 1)), (3, (0, 0)), (0, (1, 275)), (1, (0, z4))], [], w44)) 1 rfl ?_
            refine e_Ok.sub eAlk (e_sub_of rfl ?_) (ih8 (y2 + 1) w44 ⟨f47, q46T, by omega, (e_fr.trans j12 (e_fr.mono q46 (fun c k q => su_84_15 q)))⟩ (by omega))
            exact ⟨rfl, rfl, rfl, trivial⟩
          · replace h42 : (0 : Int) ≠ 0 := by have q : ¬ ((0 : Int) = 0) := h42; omega
            exfalso; omega
        · replace h41 : (w 276 (36 * y2 + 22) : Int) = 1 := by have q : ¬ ((w 276 (36 * y2 + 22) : Int) ≠ 1) := h41; omega
          refine e_Ok.run (t' := (32, [(0, (1, 275)), (1, (0, z4)), (2, (0, y2))], [(1, 275)], v1)) 1 rfl ?_
          refine e_Ok.getr (z := 276) rfl (el_o rfl) rfl rfl ((j12 275 0 no_84_10).trans (e_Has.eq hT rfl)) (by omega) ?_
          refine e_Ok.run (t' := (36, [(0, (1, 275)), (1, (0, z4)), (2, (0, y2))], [(0, y2), (1, 276)], v1)) 1 rfl ?_
          refine e_Ok.callS rfl (by omega) rfl rfl (c_268 (by omega)) (fun r48 w49 h50 => ?_)
          obtain ⟨rfl, rfl⟩ := h50
          show e_Ok 20 elay ecode eI (d + 1) 406 (39, [(0, (1, 275)), (1, (0, z4)), (2, (0, y2))], [(0, 36 * y2 + 16), (1, 276)], v1) _
          refine e_Ok.run (t' := (40, [(0, (1, 275)), (1, (0, z4)), (2, (0, y2))], [(0, 5), (0, 36 * y2 + 16), (1, 276)], v1)) 1 rfl ?_
          refine e_Ok.add (z := 36 * y2 + 21) rfl (by omega) (by omega) ?_
          have h51 := (e_Has.get hT (c := 276) (k := 36 * y2 + 21) (lo := 0) (hi := 1) (nR_BUT_OWN (a := y2) (by omega)) (by decide))
          refine e_Ok.ald (z := w 276 (36 * y2 + 21)) rfl (el_o rfl) rfl (by omega) ((j12 276 (36 * y2 + 21) no_84_8).trans rfl) (by omega) ?_
          refine e_Ok.run (t' := (43, [(0, (1, 275)), (1, (0, z4)), (2, (0, y2))], [(0, 1), (0, w 276 (36 * y2 + 21))], v1)) 1 rfl ?_
          refine e_Ok.if2 rfl (fun h52 => ?_) (fun h52 => ?_)
          · replace h52 : (w 276 (36 * y2 + 21) : Int) ≠ 1 := h52
            refine e_Ok.run (t' := (55, [(3, (0, 0)), (0, (1, 275)), (1, (0, z4)), (2, (0, y2))], [(0, 0), (0, 2), (1, 275)], v1)) 5 rfl ?_
            refine e_Ok.if1 rfl (fun h53 => ?_) (fun h53 => ?_)
            · replace h53 : (0 : Int) = 0 := h53
              refine e_Ok.run (t' := (76, [(3, (0, 0)), (0, (1, 275)), (1, (0, z4)), (2, (0, y2))], [(0, 0), (0, 2), (1, 275)], v1)) 1 rfl ?_
              refine e_Ok.callV rfl (by omega) rfl rfl rfl rfl (c_389 j10 (by omega)) (fun r54 w55 h56 => ?_)
              obtain ⟨rfl, q57, q57T⟩ := h56
              have f58 : e_fr mLo w w55 := e_fr.trans j9 (e_fr.mono q57 (fun c k q => su_84_14 q))
              show e_Ok 20 elay ecode eI (d + 1) 406 (79, [(3, (0, 0)), (0, (1, 275)), (1, (0, z4)), (2, (0, y2))], [], w55) _
              refine e_Ok.inc (z := y2 + 1) rfl rfl (by omega) (by omega) ?_
              show e_Ok 20 elay ecode eI (d + 1) 406 (82, [(2, (0, y2 + 1)), (3, (0, 0)), (0, (1, 275)), (1, (0, z4))], [], w55) _
              refine e_Ok.run (t' := (7, [(2, (0, y2 + 1)), (3, (0, 0)), (0, (1, 275)), (1, (0, z4))], [], w55)) 1 rfl ?_
              refine e_Ok.sub eAlk (e_sub_of rfl ?_) (ih8 (y2 + 1) w55 ⟨f58, q57T, by omega, (e_fr.trans j12 (e_fr.mono q57 (fun c k q => su_84_15 q)))⟩ (by omega))
              exact ⟨rfl, rfl, rfl, trivial⟩
            · replace h53 : (0 : Int) ≠ 0 := by have q : ¬ ((0 : Int) = 0) := h53; omega
              exfalso; omega
          · replace h52 : (w 276 (36 * y2 + 21) : Int) = 1 := by have q : ¬ ((w 276 (36 * y2 + 21) : Int) ≠ 1) := h52; omega
            refine e_Ok.run (t' := (55, [(3, (0, 1)), (0, (1, 275)), (1, (0, z4)), (2, (0, y2))], [(0, 1), (0, 2), (1, 275)], v1)) 6 rfl ?_
            refine e_Ok.if1 rfl (fun h59 => ?_) (fun h59 => ?_)
            · replace h59 : (1 : Int) = 0 := h59
              exfalso; omega
            · replace h59 : (1 : Int) ≠ 0 := by have q : ¬ ((1 : Int) = 0) := h59; omega
              refine e_Ok.run (t' := (63, [(3, (0, 1)), (0, (1, 275)), (1, (0, z4)), (2, (0, y2))], [(0, y2), (0, 7), (0, y2), (1, 275), (0, 2), (1, 275)], v1)) 4 rfl ?_
              refine e_Ok.mul (z := 7 * y2) rfl (by omega) (by omega) ?_
              refine e_Ok.run (t' := (65, [(3, (0, 1)), (0, (1, 275)), (1, (0, z4)), (2, (0, y2))], [(0, 0), (0, 7 * y2), (0, y2), (1, 275), (0, 2), (1, 275)], v1)) 1 rfl ?_
              have ela : v1 275 10 = w 275 10 := ((j12 275 10 no_84_5).trans rfl)
              refine e_Ok.callV rfl (by omega) rfl rfl rfl rfl (c_317 (by omega) j10 (by omega) (by omega) ((kAll_fr j9 (fun c k q => lo_kall q) kall) y2 (by omega) (by omega)).1 ((kAll_fr j9 (fun c k q => lo_kall q) kall) y2 (by omega) (by omega)).2 (kAll_fr j9 (fun c k q => lo_kall q) kall)) (fun r60 w61 h62 => ?_)
              obtain ⟨z63, rfl, q64, q64a, q64b⟩ := h62
              have f65 : e_fr mLo w w61 := e_fr.trans j9 (e_fr.mono q64 (fun c k q => su_84_13 q))
              have q64T : e_Has mTy w61 := mT_L q64 j10
              show e_Ok 20 elay ecode eI (d + 1) 406 (68, [(3, (0, 1)), (0, (1, 275)), (1, (0, z4)), (2, (0, y2))], [(0, z63), (0, 2), (1, 275)], w61) _
              refine e_Ok.if1 rfl (fun h66 => ?_) (fun h66 => ?_)
              · replace h66 : (z63 : Int) = 0 := h66
                refine e_Ok.run (t' := (76, [(3, (0, 1)), (0, (1, 275)), (1, (0, z4)), (2, (0, y2))], [(0, 0), (0, 2), (1, 275)], w61)) 1 rfl ?_
                refine e_Ok.callV rfl (by omega) rfl rfl rfl rfl (c_389 q64T (by omega)) (fun r67 w68 h69 => ?_)
                obtain ⟨rfl, q70, q70T⟩ := h69
                have f71 : e_fr mLo w w68 := e_fr.trans f65 (e_fr.mono q70 (fun c k q => su_84_14 q))
                show e_Ok 20 elay ecode eI (d + 1) 406 (79, [(3, (0, 1)), (0, (1, 275)), (1, (0, z4)), (2, (0, y2))], [], w68) _
                refine e_Ok.inc (z := y2 + 1) rfl rfl (by omega) (by omega) ?_
                show e_Ok 20 elay ecode eI (d + 1) 406 (82, [(2, (0, y2 + 1)), (3, (0, 1)), (0, (1, 275)), (1, (0, z4))], [], w68) _
                refine e_Ok.run (t' := (7, [(2, (0, y2 + 1)), (3, (0, 1)), (0, (1, 275)), (1, (0, z4))], [], w68)) 1 rfl ?_
                refine e_Ok.sub eAlk (e_sub_of rfl ?_) (ih8 (y2 + 1) w68 ⟨f71, q70T, by omega, (e_fr.trans (e_fr.trans j12 (e_fr.mono q64 (fun c k q => su_84_16 q))) (e_fr.mono q70 (fun c k q => su_84_15 q)))⟩ (by omega))
                exact ⟨rfl, rfl, rfl, trivial⟩
              · replace h66 : (z63 : Int) ≠ 0 := by have q : ¬ ((z63 : Int) = 0) := h66; omega
                refine e_Ok.run (t' := (76, [(3, (0, 1)), (0, (1, 275)), (1, (0, z4)), (2, (0, y2))], [(0, 1), (0, 2), (1, 275)], w61)) 2 rfl ?_
                refine e_Ok.callV rfl (by omega) rfl rfl rfl rfl (c_389 q64T (by omega)) (fun r72 w73 h74 => ?_)
                obtain ⟨rfl, q75, q75T⟩ := h74
                have f76 : e_fr mLo w w73 := e_fr.trans f65 (e_fr.mono q75 (fun c k q => su_84_14 q))
                show e_Ok 20 elay ecode eI (d + 1) 406 (79, [(3, (0, 1)), (0, (1, 275)), (1, (0, z4)), (2, (0, y2))], [], w73) _
                refine e_Ok.inc (z := y2 + 1) rfl rfl (by omega) (by omega) ?_
                show e_Ok 20 elay ecode eI (d + 1) 406 (82, [(2, (0, y2 + 1)), (3, (0, 1)), (0, (1, 275)), (1, (0, z4))], [], w73) _
                refine e_Ok.run (t' := (7, [(2, (0, y2 + 1)), (3, (0, 1)), (0, (1, 275)), (1, (0, z4))], [], w73)) 1 rfl ?_
                refine e_Ok.sub eAlk (e_sub_of rfl ?_) (ih8 (y2 + 1) w73 ⟨f76, q75T, by omega, (e_fr.trans (e_fr.trans j12 (e_fr.mono q64 (fun c k q => su_84_16 q))) (e_fr.mono q75 (fun c k q => su_84_15 q)))⟩ (by omega))
                exact ⟨rfl, rfl, rfl, trivial⟩
  refine e_Ok.sub eAlk (e_sub_of rfl ?_) (hL7 (5 + 1 : Int).toNat 0 w2 ⟨f6, q5T, by omega, (e_fr.trans (e_fr.refl w) (e_fr.mono q5 (fun c k q => su_84_16 q)))⟩ (by omega))
  exact ⟨rfl, rfl, rfl, trivial⟩
theorem no_84_11 {k : Int} : ¬ mTl 275 k := by unfold mTl; omega
theorem no_84_12 {k : Int} : ¬ mTl 276 k := by unfold mTl; omega
set_option maxHeartbeats 4000000 in
theorem c_407 {d : Nat} (hd : 21 ≤ d) {w : eW} (hT : e_Has mTy w) : e_Ok 20 elay ecode eI d 407 (0, [(0, (1, 275))], [], w) (fun r w' => r = [] ∧ e_fr mTl w w' ∧ e_Has mTy w') := by
  obtain ⟨d, rfl⟩ : ∃ e, d = e + 1 := ⟨d - 1, by omega⟩
  refine e_Ok.run (t' := (2, [(1, (0, 0)), (0, (1, 275))], [], w)) 2 rfl ?_
  have hL1 : ∀ (nn : Nat) (y1 : Int) (v1 : eW), e_fr mTl w v1 ∧ e_Has mTy v1 ∧ (0 ≤ y1 ∧ y1 ≤ 32) → 33 - y1 < nn → e_Ok 20 elay ecode eI (d + 1) 407 (2, [(0, (1, 275)), (1, (0, y1))], [], v1) (fun r w' => r = [] ∧ e_fr mTl w w' ∧ e_Has mTy w') := by
    intro nn
    induction nn with
    | zero => intro y1 v1 hj hm; obtain ⟨j3, j4, j5⟩ := hj; exfalso; omega
    | succ nn ih2 =>
      intro y1 v1 hj hm
      obtain ⟨j3, j4, j5⟩ := hj
      refine e_Ok.run (t' := (4, [(0, (1, 275)), (1, (0, y1))], [(1, 275), (0, y1)], v1)) 2 rfl ?_
      have h6 := (e_Has.get hT (c := 275) (k := 40) (lo := 0) (hi := 32) rfl (by decide))
      refine e_Ok.getf (z := w 275 40) rfl (el_o rfl) rfl rfl ((j3 275 40 no_84_11).trans rfl) (by omega) ?_
      refine e_Ok.if2 rfl (fun h7 => ?_) (fun h7 => ?_)
      · replace h7 : (y1 : Int) ≥ w 275 40 := h7
        refine e_Ok.rets rfl rfl ?_
        exact ⟨rfl, j3, j4⟩
      · replace h7 : (y1 : Int) < w 275 40 := by have q : ¬ ((y1 : Int) ≥ w 275 40) := h7; omega
        refine e_Ok.run (t' := (11, [(0, (1, 275)), (1, (0, y1))], [(1, 275)], v1)) 1 rfl ?_
        refine e_Ok.getr (z := 276) rfl (el_o rfl) rfl rfl ((j3 275 0 no_84_11).trans (e_Has.eq hT rfl)) (by omega) ?_
        refine e_Ok.run (t' := (15, [(0, (1, 275)), (1, (0, y1))], [(0, y1), (1, 276)], v1)) 1 rfl ?_
        refine e_Ok.callS rfl (by omega) rfl rfl (c_392 (by omega)) (fun r8 w9 h10 => ?_)
        obtain ⟨rfl, rfl⟩ := h10
        show e_Ok 20 elay ecode eI (d + 1) 407 (18, [(0, (1, 275)), (1, (0, y1))], [(0, 4 * y1 + 20576), (1, 276)], v1) _
        have h11 := (e_Has.get hT (c := 276) (k := 4 * y1 + 20576) (lo := 0) (hi := 8) (nR_WHERE (p := y1) (by omega)) (by decide))
        refine e_Ok.ald (z := w 276 (4 * y1 + 20576)) rfl (el_o rfl) rfl (by omega) ((j3 276 (4 * y1 + 20576) no_84_12).trans rfl) (by omega) ?_
        refine e_Ok.run (t' := (21, [(0, (1, 275)), (1, (0, y1))], [(0, 8), (0, w 276 (4 * y1 + 20576))], v1)) 1 rfl ?_
        have hJ14 : ∀ m13 : Int, 0 ≤ m13 ∧ m13 ≤ 1 → e_Ok 20 elay ecode eI (d + 1) 407 (29, [(0, (1, 275)), (1, (0, y1))], [(0, m13)], v1) (fun r w' => r = [] ∧ e_fr mTl w w' ∧ e_Has mTy w') := by
          intro m13 m13r
          refine e_Ok.run (t' := (32, [(3, (0, 0)), (2, (0, m13)), (0, (1, 275)), (1, (0, y1))], [], v1)) 3 rfl ?_
          have hL15 : ∀ (nn : Nat) (y2 : Int) (y3 : Int), 0 ≤ y3 ∧ y3 ≤ 4 → 5 - y3 < nn → e_Ok 20 elay ecode eI (d + 1) 407 (32, [(0, (1, 275)), (1, (0, y1)), (2, (0, y2)), (3, (0, y3))], [], v1) (fun r w' => r = [] ∧ e_fr mTl w w' ∧ e_Has mTy w') := by
            intro nn
            induction nn with
            | zero => intro y2 y3 hj hm; obtain j17 := hj; exfalso; omega
            | succ nn ih16 =>
              intro y2 y3 hj hm
              obtain j17 := hj
              refine e_Ok.run (t' := (34, [(0, (1, 275)), (1, (0, y1)), (2, (0, y2)), (3, (0, y3))], [(0, 4), (0, y3)], v1)) 2 rfl ?_
              refine e_Ok.if2 rfl (fun h18 => ?_) (fun h18 => ?_)
              · replace h18 : (y3 : Int) ≥ 4 := h18
                refine e_Ok.run (t' := (133, [(0, (1, 275)), (1, (0, y1)), (2, (0, y2)), (3, (0, y3))], [(0, 1), (0, y2), (0, 3), (1, 275)], v1)) 4 rfl ?_
                have hJ21 : ∀ m20 : Int, 0 ≤ m20 ∧ m20 ≤ 1 → e_Ok 20 elay ecode eI (d + 1) 407 (141, [(0, (1, 275)), (1, (0, y1)), (2, (0, y2)), (3, (0, y3))], [(0, m20), (0, 3), (1, 275)], v1) (fun r w' => r = [] ∧ e_fr mTl w w' ∧ e_Has mTy w') := by
                  intro m20 m20r
                  refine e_Ok.callV rfl (by omega) rfl rfl rfl rfl (c_389 j4 (by omega)) (fun r22 w23 h24 => ?_)
                  obtain ⟨rfl, q25, q25T⟩ := h24
                  have f26 : e_fr mTl w w23 := e_fr.trans j3 (e_fr.mono q25 (fun c k q => by exact q))
                  show e_Ok 20 elay ecode eI (d + 1) 407 (144, [(0, (1, 275)), (1, (0, y1)), (2, (0, y2)), (3, (0, y3))], [], w23) _
                  refine e_Ok.inc (z := y1 + 1) rfl rfl (by omega) (by omega) ?_
                  show e_Ok 20 elay ecode eI (d + 1) 407 (147, [(1, (0, y1 + 1)), (0, (1, 275)), (2, (0, y2)), (3, (0, y3))], [], w23) _
                  refine e_Ok.run (t' := (2, [(1, (0, y1 + 1)), (0, (1, 275)), (2, (0, y2)), (3, (0, y3))], [], w23)) 1 rfl ?_
                  refine e_Ok.sub eAlk (e_sub_of rfl ?_) (ih2 (y1 + 1) w23 ⟨f26, q25T, by omega⟩ (by omega))
                  exact ⟨rfl, rfl, trivial⟩
                refine e_Ok.if2 rfl (fun h19 => ?_) (fun h19 => ?_)
                · exact e_Ok.run 1 rfl (hJ21 0 (by omega))
                · exact e_Ok.run 2 rfl (hJ21 1 (by omega))
              · replace h18 : (y3 : Int) < 4 := by have q : ¬ ((y3 : Int) ≥ 4) := h18; omega
                refine e_Ok.run (t' := (40, [(0, (1, 275)), (1, (0, y1)), (2, (0, y2)), (3, (0, y3))], [(1, 275), (0, y3), (0, y2)], v1)) 3 rfl ?_
                have h27 := (e_Has.get hT (c := 275) (k := 10) (lo := 0) (hi := 4) rfl (by decide))
                refine e_Ok.getf (z := w 275 10) rfl (el_o rfl) rfl rfl ((j3 275 10 no_84_11).trans rfl) (by omega) ?_
                refine e_Ok.if2 rfl (fun h28 => ?_) (fun h28 => ?_)
                · replace h28 : (y3 : Int) ≥ w 275 10 := h28
                  refine e_Ok.run (t' := (66, [(0, (1, 275)), (1, (0, y1)), (2, (0, y2)), (3, (0, y3))], [(0, 0), (0, y2)], v1)) 1 rfl ?_
                  refine e_Ok.any rfl (eF_add_any _ _) (fun z29 z29a z29b => ?_)
                  refine e_Ok.run (t' := (71, [(4, (0, 1)), (2, (0, z29)), (0, (1, 275)), (1, (0, y1)), (3, (0, y3))], [], v1)) 3 rfl ?_
                  have hL30 : ∀ (nn : Nat) (x2 : Int) (y4 : Int), 1 ≤ y4 ∧ y4 ≤ 33 → 34 - y4 < nn → e_Ok 20 elay ecode eI (d + 1) 407 (71, [(0, (1, 275)), (1, (0, y1)), (2, (0, x2)), (3, (0, y3)), (4, (0, y4))], [], v1) (fun r w' => r = [] ∧ e_fr mTl w w' ∧ e_Has mTy w') := by
                    intro nn
                    induction nn with
                    | zero => intro x2 y4 hj hm; obtain j32 := hj; exfalso; omega
                    | succ nn ih31 =>
                      intro x2 y4 hj hm
                      obtain j32 := hj
                      refine e_Ok.run (t' := (74, [(0, (1, 275)), (1, (0, y1)), (2, (0, x2)), (3, (0, y3)), (4, (0, y4))], [(1, 275), (0, y4)], v1)) 2 rfl ?_
                      refine e_Ok.getr (z := 276) rfl (el_o rfl) rfl rfl ((j3 275 0 no_84_11).trans (e_Has.eq hT rfl)) (by omega) ?_
                      refine e_Ok.run (t' := (83, [(0, (1, 275)), (1, (0, y1)), (2, (0, x2)), (3, (0, y3)), (4, (0, y4))], [(0, y3), (0, 33), (0, 20704), (1, 276), (0, y4)], v1)) 3 rfl ?_
                      refine e_Ok.mul (z := 33 * y3) rfl (by omega) (by omega) ?_
                      refine e_Ok.add (z := 33 * y3 + 20704) rfl (by omega) (by omega) ?_
                      have h33 := (e_Has.get hT (c := 276) (k := 33 * y3 + 20704) (lo := 0) (hi := 32) (nR_ORDER (b := y3) (by omega)) (by decide))
                      refine e_Ok.ald (z := w 276 (33 * y3 + 20704)) rfl (el_o rfl) rfl (by omega) ((j3 276 (33 * y3 + 20704) no_84_12).trans rfl) (by omega) ?_
                      refine e_Ok.if2 rfl (fun h34 => ?_) (fun h34 => ?_)
                      · replace h34 : (y4 : Int) > w 276 (33 * y3 + 20704) := h34
                        refine e_Ok.inc (z := y3 + 1) rfl rfl (by omega) (by omega) ?_
                        show e_Ok 20 elay ecode eI (d + 1) 407 (126, [(3, (0, y3 + 1)), (0, (1, 275)), (1, (0, y1)), (2, (0, x2)), (4, (0, y4))], [], v1) _
                        refine e_Ok.run (t' := (32, [(3, (0, y3 + 1)), (0, (1, 275)), (1, (0, y1)), (2, (0, x2)), (4, (0, y4))], [], v1)) 1 rfl ?_
                        refine e_Ok.sub eAlk (e_sub_of rfl ?_) (ih16 x2 (y3 + 1) (by omega) (by omega))
                        exact ⟨rfl, rfl, rfl, rfl, trivial⟩
                      · replace h34 : (y4 : Int) ≤ w 276 (33 * y3 + 20704) := by have q : ¬ ((y4 : Int) > w 276 (33 * y3 + 20704)) := h34; omega
                        refine e_Ok.run (t' := (91, [(0, (1, 275)), (1, (0, y1)), (2, (0, x2)), (3, (0, y3)), (4, (0, y4))], [(1, 275), (0, x2)], v1)) 2 rfl ?_
                        refine e_Ok.getr (z := 276) rfl (el_o rfl) rfl rfl ((j3 275 0 no_84_11).trans (e_Has.eq hT rfl)) (by omega) ?_
                        refine e_Ok.run (t' := (100, [(0, (1, 275)), (1, (0, y1)), (2, (0, x2)), (3, (0, y3)), (4, (0, y4))], [(0, y3), (0, 33), (0, 20704), (1, 276), (0, x2)], v1)) 3 rfl ?_
                        refine e_Ok.mul (z := 33 * y3) rfl (by omega) (by omega) ?_
                        refine e_Ok.add (z := 33 * y3 + 20704) rfl (by omega) (by omega) ?_
                        refine e_Ok.run (t' := (104, [(0, (1, 275)), (1, (0, y1)), (2, (0, x2)), (3, (0, y3)), (4, (0, y4))], [(0, y4), (0, 33 * y3 + 20704), (1, 276), (0, x2)], v1)) 1 rfl ?_
                        refine e_Ok.add (z := 33 * y3 + y4 + 20704) rfl (by omega) (by omega) ?_
                        have h35 := (e_Has.get hT (c := 276) (k := 33 * y3 + y4 + 20704) (lo := 0) (hi := 31) (nR_ORD y3 (by omega) (by omega)) (by decide))
                        refine e_Ok.ald (z := w 276 (33 * y3 + y4 + 20704)) rfl (el_o rfl) rfl (by omega) ((j3 276 (33 * y3 + y4 + 20704) no_84_12).trans rfl) (by omega) ?_
                        refine e_Ok.run (t' := (107, [(0, (1, 275)), (1, (0, y1)), (2, (0, x2)), (3, (0, y3)), (4, (0, y4))], [(0, y1), (0, w 276 (33 * y3 + y4 + 20704)), (0, x2)], v1)) 1 rfl ?_
                        have hJ38 : ∀ m37 : Int, 0 ≤ m37 ∧ m37 ≤ 1 → e_Ok 20 elay ecode eI (d + 1) 407 (115, [(0, (1, 275)), (1, (0, y1)), (2, (0, x2)), (3, (0, y3)), (4, (0, y4))], [(0, m37), (0, x2)], v1) (fun r w' => r = [] ∧ e_fr mTl w w' ∧ e_Has mTy w') := by
                          intro m37 m37r
                          refine e_Ok.any rfl (eF_add_any _ _) (fun z40 z40a z40b => ?_)
                          refine e_Ok.run (t' := (117, [(2, (0, z40)), (0, (1, 275)), (1, (0, y1)), (3, (0, y3)), (4, (0, y4))], [], v1)) 1 rfl ?_
                          refine e_Ok.inc (z := y4 + 1) rfl rfl (by omega) (by omega) ?_
                          show e_Ok 20 elay ecode eI (d + 1) 407 (120, [(4, (0, y4 + 1)), (2, (0, z40)), (0, (1, 275)), (1, (0, y1)), (3, (0, y3))], [], v1) _
                          refine e_Ok.run (t' := (71, [(4, (0, y4 + 1)), (2, (0, z40)), (0, (1, 275)), (1, (0, y1)), (3, (0, y3))], [], v1)) 1 rfl ?_
                          refine e_Ok.sub eAlk (e_sub_of rfl ?_) (ih31 z40 (y4 + 1) (by omega) (by omega))
                          exact ⟨rfl, rfl, rfl, rfl, rfl, trivial⟩
                        refine e_Ok.if2 rfl (fun h36 => ?_) (fun h36 => ?_)
                        · exact e_Ok.run 1 rfl (hJ38 0 (by omega))
                        · exact e_Ok.run 2 rfl (hJ38 1 (by omega))
                  refine e_Ok.sub eAlk (e_sub_of rfl ?_) (hL30 (34 + 1 : Int).toNat z29 1 (by omega) (by omega))
                  exact ⟨rfl, rfl, rfl, rfl, rfl, trivial⟩
                · replace h28 : (y3 : Int) < w 275 10 := by have q : ¬ ((y3 : Int) ≥ w 275 10) := h28; omega
                  refine e_Ok.run (t' := (47, [(0, (1, 275)), (1, (0, y1)), (2, (0, y2)), (3, (0, y3))], [(1, 275), (0, y2)], v1)) 1 rfl ?_
                  refine e_Ok.getr (z := 276) rfl (el_o rfl) rfl rfl ((j3 275 0 no_84_11).trans (e_Has.eq hT rfl)) (by omega) ?_
                  refine e_Ok.run (t' := (51, [(0, (1, 275)), (1, (0, y1)), (2, (0, y2)), (3, (0, y3))], [(0, y3), (1, 276), (0, y2)], v1)) 1 rfl ?_
                  refine e_Ok.callS rfl (by omega) rfl rfl (c_268 (by omega)) (fun r41 w42 h43 => ?_)
                  obtain ⟨rfl, rfl⟩ := h43
                  show e_Ok 20 elay ecode eI (d + 1) 407 (54, [(0, (1, 275)), (1, (0, y1)), (2, (0, y2)), (3, (0, y3))], [(0, 36 * y3 + 16), (1, 276), (0, y2)], v1) _
                  refine e_Ok.run (t' := (55, [(0, (1, 275)), (1, (0, y1)), (2, (0, y2)), (3, (0, y3))], [(0, 1), (0, 36 * y3 + 16), (1, 276), (0, y2)], v1)) 1 rfl ?_
                  refine e_Ok.add (z := 36 * y3 + 17) rfl (by omega) (by omega) ?_
                  have h44 := (e_Has.get hT (c := 276) (k := 36 * y3 + 17) (lo := (-1)) (hi := 31) (nR_HOLDS (a := y3) (by omega)) (by decide))
                  refine e_Ok.ald (z := w 276 (36 * y3 + 17)) rfl (el_o rfl) rfl (by omega) ((j3 276 (36 * y3 + 17) no_84_12).trans rfl) (by omega) ?_
                  refine e_Ok.run (t' := (58, [(0, (1, 275)), (1, (0, y1)), (2, (0, y2)), (3, (0, y3))], [(0, y1), (0, w 276 (36 * y3 + 17)), (0, y2)], v1)) 1 rfl ?_
                  have hJ47 : ∀ m46 : Int, 0 ≤ m46 ∧ m46 ≤ 1 → e_Ok 20 elay ecode eI (d + 1) 407 (66, [(0, (1, 275)), (1, (0, y1)), (2, (0, y2)), (3, (0, y3))], [(0, m46), (0, y2)], v1) (fun r w' => r = [] ∧ e_fr mTl w w' ∧ e_Has mTy w') := by
                    intro m46 m46r
                    refine e_Ok.any rfl (eF_add_any _ _) (fun z48 z48a z48b => ?_)
                    refine e_Ok.run (t' := (71, [(4, (0, 1)), (2, (0, z48)), (0, (1, 275)), (1, (0, y1)), (3, (0, y3))], [], v1)) 3 rfl ?_
                    have hL49 : ∀ (nn : Nat) (x2 : Int) (y4 : Int), 1 ≤ y4 ∧ y4 ≤ 33 → 34 - y4 < nn → e_Ok 20 elay ecode eI (d + 1) 407 (71, [(0, (1, 275)), (1, (0, y1)), (2, (0, x2)), (3, (0, y3)), (4, (0, y4))], [], v1) (fun r w' => r = [] ∧ e_fr mTl w w' ∧ e_Has mTy w') := by
                      intro nn
                      induction nn with
                      | zero => intro x2 y4 hj hm; obtain j51 := hj; exfalso; omega
                      | succ nn ih50 =>
                        intro x2 y4 hj hm
                        obtain j51 := hj
                        refine e_Ok.run (t' := (74, [(0, (1, 275)), (1, (0, y1)), (2, (0, x2)), (3, (0, y3)), (4, (0, y4))], [(1, 275), (0, y4)], v1)) 2 rfl ?_
                        refine e_Ok.getr (z := 276) rfl (el_o rfl) rfl rfl ((j3 275 0 no_84_11).trans (e_Has.eq hT rfl)) (by omega) ?_
                        refine e_Ok.run (t' := (83, [(0, (1, 275)), (1, (0, y1)), (2, (0, x2)), (3, (0, y3)), (4, (0, y4))], [(0, y3), (0, 33), (0, 20704), (1, 276), (0, y4)], v1)) 3 rfl ?_
                        refine e_Ok.mul (z := 33 * y3) rfl (by omega) (by omega) ?_
                        refine e_Ok.add (z := 33 * y3 + 20704) rfl (by omega) (by omega) ?_
                        have h52 := (e_Has.get hT (c := 276) (k := 33 * y3 + 20704) (lo := 0) (hi := 32) (nR_ORDER (b := y3) (by omega)) (by decide))
                        refine e_Ok.ald (z := w 276 (33 * y3 + 20704)) rfl (el_o rfl) rfl (by omega) ((j3 276 (33 * y3 + 20704) no_84_12).trans rfl) (by omega) ?_
                        refine e_Ok.if2 rfl (fun h53 => ?_) (fun h53 => ?_)
                        · replace h53 : (y4 : Int) > w 276 (33 * y3 + 20704) := h53
                          refine e_Ok.inc (z := y3 + 1) rfl rfl (by omega) (by omega) ?_
                          show e_Ok 20 elay ecode eI (d + 1) 407 (126, [(3, (0, y3 + 1)), (0, (1, 275)), (1, (0, y1)), (2, (0, x2)), (4, (0, y4))], [], v1) _
                          refine e_Ok.run (t' := (32, [(3, (0, y3 + 1)), (0, (1, 275)), (1, (0, y1)), (2, (0, x2)), (4, (0, y4))], [], v1)) 1 rfl ?_
                          refine e_Ok.sub eAlk (e_sub_of rfl ?_) (ih16 x2 (y3 + 1) (by omega) (by omega))
                          exact ⟨rfl, rfl, rfl, rfl, trivial⟩
                        · replace h53 : (y4 : Int) ≤ w 276 (33 * y3 + 20704) := by have q : ¬ ((y4 : Int) > w 276 (33 * y3 + 20704)) := h53; omega
                          refine e_Ok.run (t' := (91, [(0, (1, 275)), (1, (0, y1)), (2, (0, x2)), (3, (0, y3)), (4, (0, y4))], [(1, 275), (0, x2)], v1)) 2 rfl ?_
                          refine e_Ok.getr (z := 276) rfl (el_o rfl) rfl rfl ((j3 275 0 no_84_11).trans (e_Has.eq hT rfl)) (by omega) ?_
                          refine e_Ok.run (t' := (100, [(0, (1, 275)), (1, (0, y1)), (2, (0, x2)), (3, (0, y3)), (4, (0, y4))], [(0, y3), (0, 33), (0, 20704), (1, 276), (0, x2)], v1)) 3 rfl ?_
                          refine e_Ok.mul (z := 33 * y3) rfl (by omega) (by omega) ?_
                          refine e_Ok.add (z := 33 * y3 + 20704) rfl (by omega) (by omega) ?_
                          refine e_Ok.run (t' := (104, [(0, (1, 275)), (1, (0, y1)), (2, (0, x2)), (3, (0, y3)), (4, (0, y4))], [(0, y4), (0, 33 * y3 + 20704), (1, 276), (0, x2)], v1)) 1 rfl ?_
                          refine e_Ok.add (z := 33 * y3 + y4 + 20704) rfl (by omega) (by omega) ?_
                          have h54 := (e_Has.get hT (c := 276) (k := 33 * y3 + y4 + 20704) (lo := 0) (hi := 31) (nR_ORD y3 (by omega) (by omega)) (by decide))
                          refine e_Ok.ald (z := w 276 (33 * y3 + y4 + 20704)) rfl (el_o rfl) rfl (by omega) ((j3 276 (33 * y3 + y4 + 20704) no_84_12).trans rfl) (by omega) ?_
                          refine e_Ok.run (t' := (107, [(0, (1, 275)), (1, (0, y1)), (2, (0, x2)), (3, (0, y3)), (4, (0, y4))], [(0, y1), (0, w 276 (33 * y3 + y4 + 20704)), (0, x2)], v1)) 1 rfl ?_
                          have hJ57 : ∀ m56 : Int, 0 ≤ m56 ∧ m56 ≤ 1 → e_Ok 20 elay ecode eI (d + 1) 407 (115, [(0, (1, 275)), (1, (0, y1)), (2, (0, x2)), (3, (0, y3)), (4, (0, y4))], [(0, m56), (0, x2)], v1) (fun r w' => r = [] ∧ e_fr mTl w w' ∧ e_Has mTy w') := by
                            intro m56 m56r
                            refine e_Ok.any rfl (eF_add_any _ _) (fun z58 z58a z58b => ?_)
                            refine e_Ok.run (t' := (117, [(2, (0, z58)), (0, (1, 275)), (1, (0, y1)), (3, (0, y3)), (4, (0, y4))], [], v1)) 1 rfl ?_
                            refine e_Ok.inc (z := y4 + 1) rfl rfl (by omega) (by omega) ?_
                            show e_Ok 20 elay ecode eI (d + 1) 407 (120, [(4, (0, y4 + 1)), (2, (0, z58)), (0, (1, 275)), (1, (0, y1)), (3, (0, y3))], [], v1) _
                            refine e_Ok.run (t' := (71, [(4, (0, y4 + 1)), (2, (0, z58)), (0, (1, 275)), (1, (0, y1)), (3, (0, y3))], [], v1)) 1 rfl ?_
                            refine e_Ok.sub eAlk (e_sub_of rfl ?_) (ih50 z58 (y4 + 1) (by omega) (by omega))
                            exact ⟨rfl, rfl, rfl, rfl, rfl, trivial⟩
                          refine e_Ok.if2 rfl (fun h55 => ?_) (fun h55 => ?_)
                          · exact e_Ok.run 1 rfl (hJ57 0 (by omega))
                          · exact e_Ok.run 2 rfl (hJ57 1 (by omega))
                    refine e_Ok.sub eAlk (e_sub_of rfl ?_) (hL49 (34 + 1 : Int).toNat z48 1 (by omega) (by omega))
                    exact ⟨rfl, rfl, rfl, rfl, rfl, trivial⟩
                  refine e_Ok.if2 rfl (fun h45 => ?_) (fun h45 => ?_)
                  · exact e_Ok.run 1 rfl (hJ47 0 (by omega))
                  · exact e_Ok.run 2 rfl (hJ47 1 (by omega))
          refine e_Ok.sub eAlk (e_sub_of rfl ?_) (hL15 (5 + 1 : Int).toNat m13 0 (by omega) (by omega))
          exact ⟨rfl, rfl, rfl, rfl, trivial⟩
        refine e_Ok.if2 rfl (fun h12 => ?_) (fun h12 => ?_)
        · exact e_Ok.run 1 rfl (hJ14 0 (by omega))
        · exact e_Ok.run 2 rfl (hJ14 1 (by omega))
  refine e_Ok.sub eAlk (e_sub_of rfl ?_) (hL1 (33 + 1 : Int).toNat 0 w ⟨(e_fr.refl w), hT, by omega⟩ (by omega))
  exact ⟨rfl, rfl, trivial⟩
end
