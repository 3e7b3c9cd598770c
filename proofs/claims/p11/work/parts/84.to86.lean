-- part 84
section
noncomputable section
def mSb (c _k : Int) : Prop := c = 346
def mGA (c k : Int) : Prop := c = 280 ∨ c = 346 ∨ (c = 276 ∧ (k = 5 ∨ 25060 ≤ k ∨ (16 ≤ k ∧ k < 160 ∧ (k - 16) % 36 ≠ 1)))
def mLt (c k : Int) : Prop := (c = 275 ∧ 58 ≤ k ∧ k ≤ 60) ∨ c = 324 ∨ c = 325 ∨ c = 280
def mLo (c k : Int) : Prop := mLt c k ∨ mTr c k
theorem moK_sb {c k : Int} (q : moK c k ∨ (c = 276 ∧ 16 ≤ k ∧ k < 160)) : ¬ mSb c k := by unfold moK at q; unfold mSb; omega
theorem moK_lt {c k : Int} (q : moK c k ∨ (c = 276 ∧ 16 ≤ k ∧ k < 160)) : ¬ mLt c k := by unfold moK at q; unfold mLt; omega
theorem moK_tr {c k : Int} (q : moK c k) (q2 : ¬ (c = 276 ∧ (k = 1 ∨ (16 ≤ k ∧ k < 160 ∧ 22 ≤ (k - 16) % 36 ∧ (k - 16) % 36 ≤ 27)))) : ¬ mTr c k := by unfold moK at q; unfold mTr; omega
theorem lo_kall {c k : Int} (q : mLo c k) : c ≠ 321 ∧ c ≠ 322 ∧ c ≠ 286 ∧ ¬ (c = 275 ∧ k = 10) := by unfold mLo mLt mTr at q; omega
def mZn (w : eW) : Prop := ∀ z, 0 ≤ z → z < w 275 42 → w 310 z < w 275 10
theorem kAll_fr {S : Int → Int → Prop} {w w' : eW} (f : e_fr S w w') (hS : ∀ c k, S c k → c ≠ 321 ∧ c ≠ 322 ∧ c ≠ 286 ∧ ¬ (c = 275 ∧ k = 10)) (h : ∀ b, 0 ≤ b → b < w 275 10 → e_pk2 w (7 * b) (w 286 b)) : ∀ b, 0 ≤ b → b < w' 275 10 → e_pk2 w' (7 * b) (w' 286 b) := fun b g1 g2 => by
  rw [f 286 b (fun q => (hS _ _ q).2.2.1 rfl)]
  rw [f 275 10 (fun q => (hS _ _ q).2.2.2 ⟨rfl, rfl⟩)] at g2
  exact e_pk2.fr f (fun k _ _ => ⟨fun q => (hS _ _ q).1 rfl, fun q => (hS _ _ q).2.1 rfl⟩) (h b g1 g2)
theorem no_84_0 {k : Int} : ¬ mSb 275 k := by unfold mSb; omega
theorem no_84_1 {k : Int} : ¬ mGA 275 k := by unfold mGA; omega
theorem no_84_2 : ¬ mGA 276 1 := by unfold mGA; omega
theorem no_84_3 {k : Int} : ¬ mSb 276 k := by unfold mSb; omega
theorem no_84_4 {k : Int} : ¬ mSb 286 k := by unfold mSb; omega
set_option maxHeartbeats 4000000 in
theorem c_402 {d : Nat} (hd : 26 ≤ d) {w : eW} (hT : e_Has mTy w) (hCf : mCf w) (hMo : mMo w (-1)) (hPw : w 276 1 = 1) (hE : w 276 5 ≤ 2147483000) : e_Ok 20 elay ecode eI d 402 (0, [(0, (1, 275))], [], w) (fun r w' => r = [] ∧ e_fr mGA w w' ∧ e_Has mTy w' ∧ (w 276 5 ≤ w' 276 5 ∧ w' 276 5 ≤ w 276 5 + 4) ∧ mMo w' (-1)) := by
  obtain ⟨d, rfl⟩ : ∃ e, d = e + 1 := ⟨d - 1, by omega⟩
  have har := e_Has.get hT (c := 275) (k := 10) (lo := 0) (hi := 4) (mt_o rfl) (by decide)
  refine e_Ok.run (t' := (2, [(1, (0, 0)), (0, (1, 275))], [], w)) 2 rfl ?_
  have hL1 : ∀ (nn : Nat) (y1 : Int) (v1 : eW), e_fr mGA w v1 ∧ e_Has mTy v1 ∧ (0 ≤ y1 ∧ y1 ≤ 4) ∧ e_fr mSb w v1 → 5 - y1 < nn → e_Ok 20 elay ecode eI (d + 1) 402 (2, [(0, (1, 275)), (1, (0, y1))], [], v1) (fun r w' => r = [] ∧ e_fr mGA w w' ∧ e_Has mTy w' ∧ (w 276 5 ≤ w' 276 5 ∧ w' 276 5 ≤ w 276 5 + 4) ∧ mMo w' (-1)) := by
    intro nn
    induction nn with
    | zero => intro y1 v1 hj hm; obtain ⟨j3, j4, j5, j6⟩ := hj; exfalso; omega
    | succ nn ih2 =>
      intro y1 v1 hj hm
      obtain ⟨j3, j4, j5, j6⟩ := hj
      refine e_Ok.run (t' := (4, [(0, (1, 275)), (1, (0, y1))], [(1, 275), (0, y1)], v1)) 2 rfl ?_
      refine e_Ok.getf (z := w 275 10) rfl (el_o rfl) rfl (ef_o rfl) ((j6 275 10 no_84_0).trans rfl) (by omega) ?_
      refine e_Ok.if2 rfl (fun h7 => ?_) (fun h7 => ?_)
      · replace h7 : (y1 : Int) ≥ w 275 10 := h7
        refine e_Ok.run (t' := (61, [(1, (0, 0)), (0, (1, 275))], [], v1)) 2 rfl ?_
        have hL8 : ∀ (nn : Nat) (z1 : Int) (v3 : eW), e_fr mGA w v3 ∧ e_Has mTy v3 ∧ (0 ≤ z1 ∧ z1 ≤ 4 ∧ z1 ≤ w 275 10) ∧ (w 276 5 ≤ v3 276 5 ∧ v3 276 5 ≤ w 276 5 + z1) ∧ mMo v3 (-1) → 5 - z1 < nn → e_Ok 20 elay ecode eI (d + 1) 402 (61, [(0, (1, 275)), (1, (0, z1))], [], v3) (fun r w' => r = [] ∧ e_fr mGA w w' ∧ e_Has mTy w' ∧ (w 276 5 ≤ w' 276 5 ∧ w' 276 5 ≤ w 276 5 + 4) ∧ mMo w' (-1)) := by
          intro nn
          induction nn with
          | zero => intro z1 v3 hj hm; obtain ⟨j10, j11, j12, j13, j14⟩ := hj; exfalso; omega
          | succ nn ih9 =>
            intro z1 v3 hj hm
            obtain ⟨j10, j11, j12, j13, j14⟩ := hj
            refine e_Ok.run (t' := (63, [(0, (1, 275)), (1, (0, z1))], [(1, 275), (0, z1)], v3)) 2 rfl ?_
            refine e_Ok.getf (z := w 275 10) rfl (el_o rfl) rfl (ef_o rfl) ((j10 275 10 no_84_1).trans rfl) (by omega) ?_
            refine e_Ok.if2 rfl (fun h15 => ?_) (fun h15 => ?_)
            · replace h15 : (z1 : Int) ≥ w 275 10 := h15
              refine e_Ok.rets rfl rfl ?_
              exact ⟨rfl, j10, j11, by omega, j14⟩
            · replace h15 : (z1 : Int) < w 275 10 := Int.not_le.mp (show ¬ ((z1 : Int) ≥ w 275 10) from h15)
              refine e_Ok.ps2 (x := (0, z1)) (y := (1, 275)) (q := 71) 2 rfl ?_
              have e19 : v3 276 5 = v3 276 5 := rfl
              refine e_Ok.callV rfl (e_dq hd rfl) rfl rfl rfl rfl (c_388 (e_dq hd rfl) j11 (mCf.fr hCf (fun c k q => ((j10 c k (by unfold mGA; omega)).trans rfl))) (by omega) j14 (Eq.trans ((j10 276 1 no_84_2).trans rfl) hPw) (by omega)) (fun r16 w17 h18 => ?_)
              obtain ⟨rfl, q20, q20T, q20n, q20m⟩ := h18
              refine e_Ok.nrm (q := 74) (st' := []) rfl rfl ?_
              refine e_Ok.inc (z := z1 + 1) rfl rfl (by first | with_reducible rfl | omega) (by omega) ?_
              show e_Ok 20 elay ecode eI (d + 1) 402 (77, [(1, (0, z1 + 1)), (0, (1, 275))], [], w17) _
              refine e_Ok.ps0 (q := 61) 1 rfl ?_
              refine e_Ok.sub eAlk (e_sub_of rfl ?_) (ih9 (z1 + 1) w17 ⟨(show e_fr mGA w w17 from e_fr.trans j10 (e_fr.mono q20 (fun c k q => by unfold mGn mG1 mNw at q; unfold mGA; omega))), q20T, by omega, by omega, q20m⟩ (by omega))
              exact ⟨rfl, rfl, trivial⟩
        refine e_Ok.sub eAlk (e_sub_of rfl ?_) (hL8 (5 + 1 : Int).toNat 0 v1 ⟨j3, j4, by omega, by have := (show v1 276 5 = w 276 5 from ((j6 276 5 no_84_3).trans rfl)); omega, (mMo.same hMo (e_Has.mo hT) (fun c k q => j6 c k (moK_sb q)))⟩ (by omega))
        exact ⟨rfl, rfl, trivial⟩
      · replace h7 : (y1 : Int) < w 275 10 := Int.not_le.mp (show ¬ ((y1 : Int) ≥ w 275 10) from h7)
        refine e_Ok.run (t' := (12, [(2, (0, 0)), (0, (1, 275)), (1, (0, y1))], [], v1)) 2 rfl ?_
        have hL22 : ∀ (nn : Nat) (y2 : Int) (v2 : eW), e_fr mGA w v2 ∧ e_Has mTy v2 ∧ (0 ≤ y2 ∧ y2 ≤ 6) ∧ e_fr mSb w v2 → 7 - y2 < nn → e_Ok 20 elay ecode eI (d + 1) 402 (12, [(0, (1, 275)), (1, (0, y1)), (2, (0, y2))], [], v2) (fun r w' => r = [] ∧ e_fr mGA w w' ∧ e_Has mTy w' ∧ (w 276 5 ≤ w' 276 5 ∧ w' 276 5 ≤ w 276 5 + 4) ∧ mMo w' (-1)) := by
          intro nn
          induction nn with
          | zero => intro y2 v2 hj hm; obtain ⟨j24, j25, j26, j27⟩ := hj; exfalso; omega
          | succ nn ih23 =>
            intro y2 v2 hj hm
            obtain ⟨j24, j25, j26, j27⟩ := hj
            refine e_Ok.run (t' := (14, [(0, (1, 275)), (1, (0, y1)), (2, (0, y2))], [(1, 275), (0, y2)], v2)) 2 rfl ?_
            refine e_Ok.getr (z := 286) rfl (el_o rfl) rfl (ef_o rfl) ((j27 275 15 no_84_0).trans (e_Has.eq hT (mt_o rfl))) ⟨by decide, by decide⟩ ?_
            refine e_Ok.ps1 (x := (0, y1)) (q := 18) 1 rfl ?_
            have h28 := (e_Has.get hT (c := 286) (k := y1) (lo := 0) (hi := 6) (mt_o rfl) (by decide))
            refine e_Ok.ald (z := w 286 y1) rfl (el_o rfl) rfl (by omega) ((j27 286 y1 no_84_4).trans rfl) (e_bq h28 (by decide) (by decide)) ?_
            refine e_Ok.if2 rfl (fun h29 => ?_) (fun h29 => ?_)
            · replace h29 : (y2 : Int) ≥ w 286 y1 := h29
              refine e_Ok.inc (z := y1 + 1) rfl rfl (by first | with_reducible rfl | omega) (by omega) ?_
              show e_Ok 20 elay ecode eI (d + 1) 402 (56, [(1, (0, y1 + 1)), (0, (1, 275)), (2, (0, y2))], [], v2) _
              refine e_Ok.ps0 (q := 2) 1 rfl ?_
              refine e_Ok.sub eAlk (e_sub_of rfl ?_) (ih2 (y1 + 1) v2 ⟨j24, j25, by omega, j27⟩ (by omega))
              exact ⟨rfl, rfl, trivial⟩
            · replace h29 : (y2 : Int) < w 286 y1 := Int.not_le.mp (show ¬ ((y2 : Int) ≥ w 286 y1) from h29)
              refine e_Ok.ps1 (x := (1, 275)) (q := 23) 1 rfl ?_
              refine e_Ok.getr (z := 346) rfl (el_o rfl) rfl (ef_o rfl) ((j27 275 103 no_84_0).trans (e_Has.eq hT (mt_o rfl))) ⟨by decide, by decide⟩ ?_
              refine e_Ok.ps2 (x := (0, y1)) (y := (0, 6)) (q := 29) 2 rfl ?_
              refine e_Ok.mul (z := 6 * y1) rfl rfl (by omega) ?_
              refine e_Ok.ps1 (x := (0, y2)) (q := 31) 1 rfl ?_
              refine e_Ok.add (z := 6 * y1 + y2) rfl rfl (by omega) ?_
              refine e_Ok.ps1 (x := (1, 275)) (q := 33) 1 rfl ?_
              refine e_Ok.getr (z := 276) rfl (el_o rfl) rfl (ef_o rfl) ((j27 275 0 no_84_0).trans (e_Has.eq hT (mt_o rfl))) ⟨by decide, by decide⟩ ?_
              refine e_Ok.ps1 (x := (0, y1)) (q := 37) 1 rfl ?_
              refine e_Ok.callS rfl (e_dq hd rfl) rfl rfl (c_268 (by omega)) (fun r30 w31 h32 => ?_)
              obtain ⟨rfl, rfl⟩ := h32
              refine e_Ok.nrm (q := 40) (st' := [(0, 36 * y1 + 16), (1, 276), (0, 6 * y1 + y2), (1, 346)]) rfl rfl ?_
              refine e_Ok.ps1 (x := (0, 22)) (q := 42) 1 rfl ?_
              refine e_Ok.add (z := 36 * y1 + 38) rfl (e_adl (by decide)) (by omega) ?_
              refine e_Ok.ps1 (x := (0, y2)) (q := 44) 1 rfl ?_
              refine e_Ok.add (z := 36 * y1 + y2 + 38) rfl (by omega) (by omega) ?_
              have h33 := (e_Has.get hT (c := 276) (k := 36 * y1 + y2 + 38) (lo := (-2000)) (hi := 2000) (nR_STEP (a := y1) (j := y2) (by omega) (by omega)) (by decide))
              refine e_Ok.ald (z := w 276 (36 * y1 + y2 + 38)) rfl (el_o rfl) rfl (by omega) ((j27 276 (36 * y1 + y2 + 38) no_84_3).trans rfl) (e_bq h33 (by decide) (by decide)) ?_
              refine e_Ok.ast rfl (el_o rfl) rfl rfl (by omega) ?_
              generalize hw34 : e_up v2 346 (6 * y1 + y2) (w 276 (36 * y1 + y2 + 38)) = w34
              have hT36 : e_Has mTy w34 := e_Has.ups j25 hw34 rfl
              refine e_Ok.inc (z := y2 + 1) rfl rfl (by first | with_reducible rfl | omega) (by omega) ?_
              show e_Ok 20 elay ecode eI (d + 1) 402 (50, [(2, (0, y2 + 1)), (0, (1, 275)), (1, (0, y1))], [], w34) _
              refine e_Ok.ps0 (q := 12) 1 rfl ?_
              refine e_Ok.sub eAlk (e_sub_of rfl ?_) (ih23 (y2 + 1) w34 ⟨(show e_fr mGA w w34 from e_fr.up j24 hw34 (by first | exact Or.inr (Or.inl rfl) | (unfold mGA; omega))), hT36, by omega, (e_fr.up j27 hw34 (by unfold mSb; omega))⟩ (by omega))
              exact ⟨rfl, rfl, rfl, trivial⟩
        refine e_Ok.sub eAlk (e_sub_of rfl ?_) (hL22 (7 + 1 : Int).toNat 0 v1 ⟨j3, j4, by omega, j6⟩ (by omega))
        exact ⟨rfl, rfl, rfl, trivial⟩
  refine e_Ok.sub eAlk (e_sub_of rfl ?_) (hL1 (5 + 1 : Int).toNat 0 w ⟨(e_fr.refl w), hT, by omega, (e_fr.refl w)⟩ (by omega))
  exact ⟨rfl, rfl, trivial⟩
theorem c_405 {d : Nat} (hd : 21 ≤ d) {w : eW} (hT : e_Has mTy w) (hZn : mZn w) (kall : ∀ b, 0 ≤ b → b < w 275 10 → e_pk2 w (7 * b) (w 286 b)) : e_Ok 20 elay ecode eI d 405 (0, [(0, (1, 275))], [], w) (fun r w' => ∃ z : Int, r = [(0, z)] ∧ w = w' ∧ -1 ≤ z ∧ z ≤ 7) := by
  obtain ⟨d, rfl⟩ : ∃ e, d = e + 1 := ⟨d - 1, by omega⟩
  refine e_Ok.run (t' := (2, [(1, (0, 0)), (0, (1, 275))], [], w)) 2 rfl ?_
  have hL1 : ∀ (nn : Nat) (y1 : Int), 0 ≤ y1 ∧ y1 ≤ 8 → 9 - y1 < nn → e_Ok 20 elay ecode eI (d + 1) 405 (2, [(0, (1, 275)), (1, (0, y1))], [], w) (fun r w' => ∃ z : Int, r = [(0, z)] ∧ w = w' ∧ -1 ≤ z ∧ z ≤ 7) := by
    intro nn
    induction nn with
    | zero => intro y1 hj hm; obtain j3 := hj; exfalso; omega
    | succ nn ih2 =>
      intro y1 hj hm
      obtain j3 := hj
      refine e_Ok.run (t' := (4, [(0, (1, 275)), (1, (0, y1))], [(1, 275), (0, y1)], w)) 2 rfl ?_
      have h4 := (e_Has.get hT (c := 275) (k := 42) (lo := 0) (hi := 8) (mt_o rfl) (by decide))
      refine e_Ok.getf (z := w 275 42) rfl (el_o rfl) rfl (ef_o rfl) rfl (e_bq h4 (by decide) (by decide)) ?_
      refine e_Ok.if2 rfl (fun h5 => ?_) (fun h5 => ?_)
      · replace h5 : (y1 : Int) ≥ w 275 42 := h5
        refine e_Ok.ps1 (x := (0, (-1))) (q := 226) 1 rfl ?_
        refine e_Ok.rets rfl rfl ?_
        exact ⟨_, rfl, rfl, by omega, by omega⟩
      · replace h5 : (y1 : Int) < w 275 42 := Int.not_le.mp (show ¬ ((y1 : Int) ≥ w 275 42) from h5)
        refine e_Ok.ps1 (x := (1, 275)) (q := 11) 1 rfl ?_
        refine e_Ok.getr (z := 310) rfl (el_o rfl) rfl (ef_o rfl) (e_Has.eq hT (mt_o rfl)) ⟨by decide, by decide⟩ ?_
        refine e_Ok.ps1 (x := (0, y1)) (q := 15) 1 rfl ?_
        have h6 := (e_Has.get hT (c := 310) (k := y1) (lo := 0) (hi := 3) (mt_o rfl) (by decide))
        refine e_Ok.ald (z := w 310 y1) rfl (el_o rfl) rfl (by omega) rfl (e_bq h6 (by decide) (by decide)) ?_
        refine e_Ok.run (t' := (19, [(3, (0, 1)), (2, (0, w 310 y1)), (0, (1, 275)), (1, (0, y1))], [], w)) 3 rfl ?_
        have hL7 : ∀ (nn : Nat) (y3 : Int), 1 ≤ y3 ∧ y3 ≤ 7 → 8 - y3 < nn → e_Ok 20 elay ecode eI (d + 1) 405 (19, [(0, (1, 275)), (1, (0, y1)), (2, (0, w 310 y1)), (3, (0, y3))], [], w) (fun r w' => ∃ z : Int, r = [(0, z)] ∧ w = w' ∧ -1 ≤ z ∧ z ≤ 7) := by
          intro nn
          induction nn with
          | zero => intro y3 hj hm; obtain j9 := hj; exfalso; omega
          | succ nn ih8 =>
            intro y3 hj hm
            obtain j9 := hj
            refine e_Ok.run (t' := (21, [(0, (1, 275)), (1, (0, y1)), (2, (0, w 310 y1)), (3, (0, y3))], [(1, 275), (0, y3)], w)) 2 rfl ?_
            refine e_Ok.getr (z := 286) rfl (el_o rfl) rfl (ef_o rfl) (e_Has.eq hT (mt_o rfl)) ⟨by decide, by decide⟩ ?_
            refine e_Ok.ps1 (x := (0, w 310 y1)) (q := 25) 1 rfl ?_
            have h10 := (e_Has.get hT (c := 286) (k := w 310 y1) (lo := 0) (hi := 6) (mt_o rfl) (by decide))
            refine e_Ok.ald (z := w 286 (w 310 y1)) rfl (el_o rfl) rfl (by omega) rfl (e_bq h10 (by decide) (by decide)) ?_
            refine e_Ok.if2 rfl (fun h11 => ?_) (fun h11 => ?_)
            · replace h11 : (y3 : Int) > w 286 (w 310 y1) := h11
              refine e_Ok.inc (z := y1 + 1) rfl rfl (by first | with_reducible rfl | omega) (by omega) ?_
              show e_Ok 20 elay ecode eI (d + 1) 405 (222, [(1, (0, y1 + 1)), (0, (1, 275)), (2, (0, w 310 y1)), (3, (0, y3))], [], w) _
              refine e_Ok.ps0 (q := 2) 1 rfl ?_
              refine e_Ok.sub eAlk (e_sub_of rfl ?_) (ih2 (y1 + 1) (by omega) (by omega))
              exact ⟨rfl, rfl, trivial⟩
            · replace h11 : (y3 : Int) ≤ w 286 (w 310 y1) := Int.not_lt.mp (show ¬ ((y3 : Int) > w 286 (w 310 y1)) from h11)
              have hz := hZn y1 (by omega) (by omega)
              have hja := e_Has.get hT (c := 286) (k := w 310 y1) (lo := 0) (hi := 6) (mt_o rfl) (by decide)
              refine e_Ok.ps1 (x := (1, 275)) (q := 30) 1 rfl ?_
              refine e_Ok.getr (z := 321) rfl (el_o rfl) rfl (ef_o rfl) (e_Has.eq hT (mt_o rfl)) ⟨by decide, by decide⟩ ?_
              refine e_Ok.ps2 (x := (0, w 310 y1)) (y := (0, 7)) (q := 36) 2 rfl ?_
              refine e_Ok.mul (z := 7 * w 310 y1) rfl rfl (by omega) ?_
              refine e_Ok.ps1 (x := (0, y3)) (q := 38) 1 rfl ?_
              refine e_Ok.add (z := 7 * w 310 y1 + y3) rfl rfl (by omega) ?_
              have h12 := ((kall (w 310 y1) (by omega) (by omega)).1 (7 * w 310 y1 + y3) (by omega) (by omega))
              refine e_Ok.ald (z := w 321 (7 * w 310 y1 + y3)) rfl (el_o rfl) rfl (by omega) rfl (by omega) ?_
              refine e_Ok.run (t' := (44, [(4, (4, w 321 (7 * w 310 y1 + y3))), (0, (1, 275)), (1, (0, y1)), (2, (0, w 310 y1)), (3, (0, y3))], [(1, 275)], w)) 3 rfl ?_
              refine e_Ok.getr (z := 322) rfl (el_o rfl) rfl (ef_o rfl) (e_Has.eq hT (mt_o rfl)) ⟨by decide, by decide⟩ ?_
              refine e_Ok.ps2 (x := (0, w 310 y1)) (y := (0, 7)) (q := 50) 2 rfl ?_
              refine e_Ok.mul (z := 7 * w 310 y1) rfl rfl (by omega) ?_
              refine e_Ok.ps1 (x := (0, y3)) (q := 52) 1 rfl ?_
              refine e_Ok.add (z := 7 * w 310 y1 + y3) rfl rfl (by omega) ?_
              have h13 := ((kall (w 310 y1) (by omega) (by omega)).2 (7 * w 310 y1 + y3) (by omega) (by omega))
              refine e_Ok.ald (z := w 322 (7 * w 310 y1 + y3)) rfl (el_o rfl) rfl (by omega) rfl (by omega) ?_
              refine e_Ok.run (t' := (60, [(6, (4, w 322 (7 * w 310 y1 + y3))), (4, (4, w 321 (7 * w 310 y1 + y3))), (0, (1, 275)), (1, (0, y1)), (2, (0, w 310 y1)), (3, (0, y3))], [(1, 275), (4, w 321 (7 * w 310 y1 + y3))], w)) 4 rfl ?_
              refine e_Ok.getr (z := 276) rfl (el_o rfl) rfl (ef_o rfl) (e_Has.eq hT (mt_o rfl)) ⟨by decide, by decide⟩ ?_
              refine e_Ok.ps3 (x := (0, w 310 y1)) (y := (0, 14)) (z := (0, 20876)) (q := 69) 3 rfl ?_
              refine e_Ok.mul (z := 14 * w 310 y1) rfl rfl (by omega) ?_
              refine e_Ok.add (z := 14 * w 310 y1 + 20876) rfl (Int.add_comm _ _) (by omega) ?_
              refine e_Ok.ps2 (x := (0, y3)) (y := (0, 2)) (q := 73) 2 rfl ?_
              refine e_Ok.mul (z := 2 * y3) rfl rfl (by omega) ?_
              refine e_Ok.add (z := 14 * w 310 y1 + 2 * y3 + 20876) rfl (by omega) (by omega) ?_
              have h14 := (e_Has.get hT (c := 276) (k := 14 * w 310 y1 + 2 * y3 + 20876) (lo := (-2147483648)) (hi := 2147483647) (nR_mid (by omega)) (by decide))
              refine e_Ok.ald (z := w 276 (14 * w 310 y1 + 2 * y3 + 20876)) rfl (el_o rfl) rfl (by omega) rfl (e_bq h14 (by decide) (by decide)) ?_
              refine e_Ok.run (t' := (77, [(6, (4, w 322 (7 * w 310 y1 + y3))), (4, (4, w 321 (7 * w 310 y1 + y3))), (0, (1, 275)), (1, (0, y1)), (2, (0, w 310 y1)), (3, (0, y3))], [(4, w 276 (14 * w 310 y1 + 2 * y3 + 20876)), (4, w 321 (7 * w 310 y1 + y3))], w)) 1 rfl ?_
              refine e_Ok.subL (z := w 321 (7 * w 310 y1 + y3) - w 276 (14 * w 310 y1 + 2 * y3 + 20876)) rfl (by omega) (by omega) ?_
              refine e_Ok.run (t' := (83, [(8, (4, w 321 (7 * w 310 y1 + y3) - w 276 (14 * w 310 y1 + 2 * y3 + 20876))), (6, (4, w 322 (7 * w 310 y1 + y3))), (4, (4, w 321 (7 * w 310 y1 + y3))), (0, (1, 275)), (1, (0, y1)), (2, (0, w 310 y1)), (3, (0, y3))], [(1, 275), (4, w 322 (7 * w 310 y1 + y3))], w)) 3 rfl ?_
              refine e_Ok.getr (z := 276) rfl (el_o rfl) rfl (ef_o rfl) (e_Has.eq hT (mt_o rfl)) ⟨by decide, by decide⟩ ?_
              refine e_Ok.ps3 (x := (0, w 310 y1)) (y := (0, 14)) (z := (0, 20876)) (q := 92) 3 rfl ?_
              refine e_Ok.mul (z := 14 * w 310 y1) rfl rfl (by omega) ?_
              refine e_Ok.add (z := 14 * w 310 y1 + 20876) rfl (Int.add_comm _ _) (by omega) ?_
              refine e_Ok.ps2 (x := (0, y3)) (y := (0, 2)) (q := 96) 2 rfl ?_
              refine e_Ok.mul (z := 2 * y3) rfl rfl (by omega) ?_
              refine e_Ok.add (z := 14 * w 310 y1 + 2 * y3 + 20876) rfl (by omega) (by omega) ?_
              refine e_Ok.ps1 (x := (0, 1)) (q := 99) 1 rfl ?_
              refine e_Ok.add (z := 14 * w 310 y1 + 2 * y3 + 20877) rfl (e_adl (by decide)) (by omega) ?_
              have h16 := (e_Has.get hT (c := 276) (k := 14 * w 310 y1 + 2 * y3 + 20877) (lo := (-2147483648)) (hi := 2147483647) (nR_mid (by omega)) (by decide))
              refine e_Ok.ald (z := w 276 (14 * w 310 y1 + 2 * y3 + 20877)) rfl (el_o rfl) rfl (by omega) rfl (e_bq h16 (by decide) (by decide)) ?_
              refine e_Ok.run (t' := (102, [(8, (4, w 321 (7 * w 310 y1 + y3) - w 276 (14 * w 310 y1 + 2 * y3 + 20876))), (6, (4, w 322 (7 * w 310 y1 + y3))), (4, (4, w 321 (7 * w 310 y1 + y3))), (0, (1, 275)), (1, (0, y1)), (2, (0, w 310 y1)), (3, (0, y3))], [(4, w 276 (14 * w 310 y1 + 2 * y3 + 20877)), (4, w 322 (7 * w 310 y1 + y3))], w)) 1 rfl ?_
              refine e_Ok.subL (z := w 322 (7 * w 310 y1 + y3) - w 276 (14 * w 310 y1 + 2 * y3 + 20877)) rfl (by omega) (by omega) ?_
              refine e_Ok.run (t' := (106, [(10, (4, w 322 (7 * w 310 y1 + y3) - w 276 (14 * w 310 y1 + 2 * y3 + 20877))), (8, (4, w 321 (7 * w 310 y1 + y3) - w 276 (14 * w 310 y1 + 2 * y3 + 20876))), (6, (4, w 322 (7 * w 310 y1 + y3))), (4, (4, w 321 (7 * w 310 y1 + y3))), (0, (1, 275)), (1, (0, y1)), (2, (0, w 310 y1)), (3, (0, y3))], [(1, 275)], w)) 2 rfl ?_
              refine e_Ok.getr (z := 315) rfl (el_o rfl) rfl (ef_o rfl) (e_Has.eq hT (mt_o rfl)) ⟨by decide, by decide⟩ ?_
              refine e_Ok.ps1 (x := (0, y1)) (q := 110) 1 rfl ?_
              have h18 := (e_Has.get hT (c := 315) (k := y1) (lo := (-2147483648)) (hi := 2147483647) (mt_o rfl) (by decide))
              refine e_Ok.ald (z := w 315 y1) rfl (el_o rfl) rfl (by omega) rfl (e_bq h18 (by decide) (by decide)) ?_
              refine e_Ok.run (t' := (117, [(12, (4, w 315 y1)), (10, (4, w 322 (7 * w 310 y1 + y3) - w 276 (14 * w 310 y1 + 2 * y3 + 20877))), (8, (4, w 321 (7 * w 310 y1 + y3) - w 276 (14 * w 310 y1 + 2 * y3 + 20876))), (6, (4, w 322 (7 * w 310 y1 + y3))), (4, (4, w 321 (7 * w 310 y1 + y3))), (0, (1, 275)), (1, (0, y1)), (2, (0, w 310 y1)), (3, (0, y3))], [(1, 275), (4, w 321 (7 * w 310 y1 + y3))], w)) 4 rfl ?_
              refine e_Ok.getr (z := 311) rfl (el_o rfl) rfl (ef_o rfl) (e_Has.eq hT (mt_o rfl)) ⟨by decide, by decide⟩ ?_
              refine e_Ok.ps1 (x := (0, y1)) (q := 121) 1 rfl ?_
              have h19 := (e_Has.get hT (c := 311) (k := y1) (lo := (-16000)) (hi := 16000) (mt_o rfl) (by decide))
              refine e_Ok.ald (z := w 311 y1) rfl (el_o rfl) rfl (by omega) rfl (e_bq h19 (by decide) (by decide)) ?_
              refine e_Ok.run (t' := (124, [(12, (4, w 315 y1)), (10, (4, w 322 (7 * w 310 y1 + y3) - w 276 (14 * w 310 y1 + 2 * y3 + 20877))), (8, (4, w 321 (7 * w 310 y1 + y3) - w 276 (14 * w 310 y1 + 2 * y3 + 20876))), (6, (4, w 322 (7 * w 310 y1 + y3))), (4, (4, w 321 (7 * w 310 y1 + y3))), (0, (1, 275)), (1, (0, y1)), (2, (0, w 310 y1)), (3, (0, y3))], [(1, 275), (4, w 311 y1), (4, w 321 (7 * w 310 y1 + y3))], w)) 2 rfl ?_
              refine e_Ok.getr (z := 311) rfl (el_o rfl) rfl (ef_o rfl) (e_Has.eq hT (mt_o rfl)) ⟨by decide, by decide⟩ ?_
              refine e_Ok.ps1 (x := (0, y1)) (q := 128) 1 rfl ?_
              refine e_Ok.ald (z := w 311 y1) rfl (el_o rfl) rfl (by omega) rfl (by omega) ?_
              refine e_Ok.ps1 (x := (1, 275)) (q := 130) 1 rfl ?_
              refine e_Ok.getr (z := 313) rfl (el_o rfl) rfl (ef_o rfl) (e_Has.eq hT (mt_o rfl)) ⟨by decide, by decide⟩ ?_
              refine e_Ok.ps1 (x := (0, y1)) (q := 134) 1 rfl ?_
              have h20 := (e_Has.get hT (c := 313) (k := y1) (lo := 0) (hi := 32000) (mt_o rfl) (by decide))
              refine e_Ok.ald (z := w 313 y1) rfl (el_o rfl) rfl (by omega) rfl (e_bq h20 (by decide) (by decide)) ?_
              refine e_Ok.add (z := w 311 y1 + w 313 y1) rfl rfl (by omega) ?_
              refine e_Ok.run (t' := (137, [(12, (4, w 315 y1)), (10, (4, w 322 (7 * w 310 y1 + y3) - w 276 (14 * w 310 y1 + 2 * y3 + 20877))), (8, (4, w 321 (7 * w 310 y1 + y3) - w 276 (14 * w 310 y1 + 2 * y3 + 20876))), (6, (4, w 322 (7 * w 310 y1 + y3))), (4, (4, w 321 (7 * w 310 y1 + y3))), (0, (1, 275)), (1, (0, y1)), (2, (0, w 310 y1)), (3, (0, y3))], [(4, w 311 y1 + w 313 y1), (4, w 311 y1), (4, w 321 (7 * w 310 y1 + y3))], w)) 1 rfl ?_
              refine e_Ok.callS rfl (e_dq hd rfl) rfl rfl (c_266) (fun r21 w22 h23 => ?_)
              obtain ⟨z24, rfl, rfl, q25⟩ := h23
              obtain ⟨rfl, q25⟩ | ⟨rfl, q25⟩ := q25
              · refine e_Ok.nrm (q := 140) (st' := [(0, 1)]) rfl rfl ?_
                refine e_Ok.if1 rfl (fun h26 => ?_) (fun h26 => ?_)
                · replace h26 : (1 : Int) = 0 := h26
                  exfalso; omega
                · replace h26 : (1 : Int) ≠ 0 := (show ¬ ((1 : Int) = 0) from h26)
                  refine e_Ok.ps2 (x := (1, 275)) (y := (4, w 322 (7 * w 310 y1 + y3))) (q := 146) 2 rfl ?_
                  refine e_Ok.getr (z := 312) rfl (el_o rfl) rfl (ef_o rfl) (e_Has.eq hT (mt_o rfl)) ⟨by decide, by decide⟩ ?_
                  refine e_Ok.ps1 (x := (0, y1)) (q := 150) 1 rfl ?_
                  have h27 := (e_Has.get hT (c := 312) (k := y1) (lo := (-16000)) (hi := 16000) (mt_o rfl) (by decide))
                  refine e_Ok.ald (z := w 312 y1) rfl (el_o rfl) rfl (by omega) rfl (e_bq h27 (by decide) (by decide)) ?_
                  refine e_Ok.run (t' := (153, [(12, (4, w 315 y1)), (10, (4, w 322 (7 * w 310 y1 + y3) - w 276 (14 * w 310 y1 + 2 * y3 + 20877))), (8, (4, w 321 (7 * w 310 y1 + y3) - w 276 (14 * w 310 y1 + 2 * y3 + 20876))), (6, (4, w 322 (7 * w 310 y1 + y3))), (4, (4, w 321 (7 * w 310 y1 + y3))), (0, (1, 275)), (1, (0, y1)), (2, (0, w 310 y1)), (3, (0, y3))], [(1, 275), (4, w 312 y1), (4, w 322 (7 * w 310 y1 + y3))], w)) 2 rfl ?_
                  refine e_Ok.getr (z := 312) rfl (el_o rfl) rfl (ef_o rfl) (e_Has.eq hT (mt_o rfl)) ⟨by decide, by decide⟩ ?_
                  refine e_Ok.ps1 (x := (0, y1)) (q := 157) 1 rfl ?_
                  refine e_Ok.ald (z := w 312 y1) rfl (el_o rfl) rfl (by omega) rfl (by omega) ?_
                  refine e_Ok.ps1 (x := (1, 275)) (q := 159) 1 rfl ?_
                  refine e_Ok.getr (z := 314) rfl (el_o rfl) rfl (ef_o rfl) (e_Has.eq hT (mt_o rfl)) ⟨by decide, by decide⟩ ?_
                  refine e_Ok.ps1 (x := (0, y1)) (q := 163) 1 rfl ?_
                  have h28 := (e_Has.get hT (c := 314) (k := y1) (lo := 0) (hi := 32000) (mt_o rfl) (by decide))
                  refine e_Ok.ald (z := w 314 y1) rfl (el_o rfl) rfl (by omega) rfl (e_bq h28 (by decide) (by decide)) ?_
                  refine e_Ok.add (z := w 312 y1 + w 314 y1) rfl rfl (by omega) ?_
                  refine e_Ok.run (t' := (166, [(12, (4, w 315 y1)), (10, (4, w 322 (7 * w 310 y1 + y3) - w 276 (14 * w 310 y1 + 2 * y3 + 20877))), (8, (4, w 321 (7 * w 310 y1 + y3) - w 276 (14 * w 310 y1 + 2 * y3 + 20876))), (6, (4, w 322 (7 * w 310 y1 + y3))), (4, (4, w 321 (7 * w 310 y1 + y3))), (0, (1, 275)), (1, (0, y1)), (2, (0, w 310 y1)), (3, (0, y3))], [(4, w 312 y1 + w 314 y1), (4, w 312 y1), (4, w 322 (7 * w 310 y1 + y3))], w)) 1 rfl ?_
                  refine e_Ok.callS rfl (e_dq hd rfl) rfl rfl (c_266) (fun r29 w30 h31 => ?_)
                  obtain ⟨z32, rfl, rfl, q33⟩ := h31
                  obtain ⟨rfl, q33⟩ | ⟨rfl, q33⟩ := q33
                  · refine e_Ok.nrm (q := 169) (st' := [(0, 1)]) rfl rfl ?_
                    refine e_Ok.if1 rfl (fun h34 => ?_) (fun h34 => ?_)
                    · replace h34 : (1 : Int) = 0 := h34
                      exfalso; omega
                    · replace h34 : (1 : Int) ≠ 0 := (show ¬ ((1 : Int) = 0) from h34)
                      refine e_Ok.run (t' := (181, [(14, (0, 1)), (12, (4, w 315 y1)), (10, (4, w 322 (7 * w 310 y1 + y3) - w 276 (14 * w 310 y1 + 2 * y3 + 20877))), (8, (4, w 321 (7 * w 310 y1 + y3) - w 276 (14 * w 310 y1 + 2 * y3 + 20876))), (6, (4, w 322 (7 * w 310 y1 + y3))), (4, (4, w 321 (7 * w 310 y1 + y3))), (0, (1, 275)), (1, (0, y1)), (2, (0, w 310 y1)), (3, (0, y3))], [(0, 1)], w)) 4 rfl ?_
                      refine e_Ok.if1 rfl (fun h35 => ?_) (fun h35 => ?_)
                      · replace h35 : (1 : Int) = 0 := h35
                        exfalso; omega
                      · replace h35 : (1 : Int) ≠ 0 := (show ¬ ((1 : Int) = 0) from h35)
                        refine e_Ok.ps2 (x := (4, 0)) (y := (4, w 315 y1)) (q := 187) 2 rfl ?_
                        refine e_Ok.lcmp rfl (fun z36 z36a z36b z36c => ?_)
                        refine e_Ok.if1 rfl (fun h37 => ?_) (fun h37 => ?_)
                        · replace h37 : (z36 : Int) < 0 := h37
                          refine e_Ok.ps1 (x := (0, y1)) (q := 212) 1 rfl ?_
                          refine e_Ok.rets rfl rfl ?_
                          exact ⟨_, rfl, rfl, by omega, by omega⟩
                        · replace h37 : (z36 : Int) ≥ 0 := Int.not_lt.mp (show ¬ ((z36 : Int) < 0) from h37)
                          refine e_Ok.ps2 (x := (4, w 321 (7 * w 310 y1 + y3) - w 276 (14 * w 310 y1 + 2 * y3 + 20876))) (y := (4, w 321 (7 * w 310 y1 + y3) - w 276 (14 * w 310 y1 + 2 * y3 + 20876))) (q := 195) 2 rfl ?_
                          refine e_Ok.anyL rfl ⟨_, rfl⟩ (fun x38 => ?_)
                          refine e_Ok.ps2 (x := (4, w 322 (7 * w 310 y1 + y3) - w 276 (14 * w 310 y1 + 2 * y3 + 20877))) (y := (4, w 322 (7 * w 310 y1 + y3) - w 276 (14 * w 310 y1 + 2 * y3 + 20877))) (q := 200) 2 rfl ?_
                          refine e_Ok.anyL rfl ⟨_, rfl⟩ (fun x40 => ?_)
                          refine e_Ok.anyL rfl ⟨_, rfl⟩ (fun x41 => ?_)
                          refine e_Ok.ps2 (x := (4, w 315 y1)) (y := (4, w 315 y1)) (q := 206) 2 rfl ?_
                          refine e_Ok.anyL rfl ⟨_, rfl⟩ (fun x42 => ?_)
                          refine e_Ok.lcmp rfl (fun z43 z43a z43b z43c => ?_)
                          refine e_Ok.if1 rfl (fun h44 => ?_) (fun h44 => ?_)
                          · replace h44 : (z43 : Int) ≤ 0 := h44
                            refine e_Ok.inc (z := y3 + 1) rfl rfl (by first | with_reducible rfl | omega) (by omega) ?_
                            show e_Ok 20 elay ecode eI (d + 1) 405 (216, [(3, (0, y3 + 1)), (14, (0, 1)), (12, (4, w 315 y1)), (10, (4, w 322 (7 * w 310 y1 + y3) - w 276 (14 * w 310 y1 + 2 * y3 + 20877))), (8, (4, w 321 (7 * w 310 y1 + y3) - w 276 (14 * w 310 y1 + 2 * y3 + 20876))), (6, (4, w 322 (7 * w 310 y1 + y3))), (4, (4, w 321 (7 * w 310 y1 + y3))), (0, (1, 275)), (1, (0, y1)), (2, (0, w 310 y1))], [], w) _
                            refine e_Ok.ps0 (q := 19) 1 rfl ?_
                            refine e_Ok.sub eAlk (e_sub_of rfl ?_) (ih8 (y3 + 1) (by omega) (by omega))
                            exact ⟨rfl, rfl, rfl, rfl, trivial⟩
                          · replace h44 : (z43 : Int) > 0 := Int.not_le.mp (show ¬ ((z43 : Int) ≤ 0) from h44)
                            refine e_Ok.ps1 (x := (0, y1)) (q := 212) 1 rfl ?_
                            refine e_Ok.rets rfl rfl ?_
                            exact ⟨_, rfl, rfl, by omega, by omega⟩
                  · refine e_Ok.nrm (q := 169) (st' := [(0, 0)]) rfl rfl ?_
                    refine e_Ok.if1 rfl (fun h45 => ?_) (fun h45 => ?_)
                    · replace h45 : (0 : Int) = 0 := h45
                      refine e_Ok.run (t' := (181, [(14, (0, 0)), (12, (4, w 315 y1)), (10, (4, w 322 (7 * w 310 y1 + y3) - w 276 (14 * w 310 y1 + 2 * y3 + 20877))), (8, (4, w 321 (7 * w 310 y1 + y3) - w 276 (14 * w 310 y1 + 2 * y3 + 20876))), (6, (4, w 322 (7 * w 310 y1 + y3))), (4, (4, w 321 (7 * w 310 y1 + y3))), (0, (1, 275)), (1, (0, y1)), (2, (0, w 310 y1)), (3, (0, y3))], [(0, 0)], w)) 3 rfl ?_
                      refine e_Ok.if1 rfl (fun h46 => ?_) (fun h46 => ?_)
                      · replace h46 : (0 : Int) = 0 := h46
                        refine e_Ok.inc (z := y3 + 1) rfl rfl (by first | with_reducible rfl | omega) (by omega) ?_
                        show e_Ok 20 elay ecode eI (d + 1) 405 (216, [(3, (0, y3 + 1)), (14, (0, 0)), (12, (4, w 315 y1)), (10, (4, w 322 (7 * w 310 y1 + y3) - w 276 (14 * w 310 y1 + 2 * y3 + 20877))), (8, (4, w 321 (7 * w 310 y1 + y3) - w 276 (14 * w 310 y1 + 2 * y3 + 20876))), (6, (4, w 322 (7 * w 310 y1 + y3))), (4, (4, w 321 (7 * w 310 y1 + y3))), (0, (1, 275)), (1, (0, y1)), (2, (0, w 310 y1))], [], w) _
                        refine e_Ok.ps0 (q := 19) 1 rfl ?_
                        refine e_Ok.sub eAlk (e_sub_of rfl ?_) (ih8 (y3 + 1) (by omega) (by omega))
                        exact ⟨rfl, rfl, rfl, rfl, trivial⟩
                      · replace h46 : (0 : Int) ≠ 0 := (show ¬ ((0 : Int) = 0) from h46)
                        exfalso; omega
                    · replace h45 : (0 : Int) ≠ 0 := (show ¬ ((0 : Int) = 0) from h45)
                      exfalso; omega
              · refine e_Ok.nrm (q := 140) (st' := [(0, 0)]) rfl rfl ?_
                refine e_Ok.if1 rfl (fun h47 => ?_) (fun h47 => ?_)
                · replace h47 : (0 : Int) = 0 := h47
                  refine e_Ok.run (t' := (181, [(14, (0, 0)), (12, (4, w 315 y1)), (10, (4, w 322 (7 * w 310 y1 + y3) - w 276 (14 * w 310 y1 + 2 * y3 + 20877))), (8, (4, w 321 (7 * w 310 y1 + y3) - w 276 (14 * w 310 y1 + 2 * y3 + 20876))), (6, (4, w 322 (7 * w 310 y1 + y3))), (4, (4, w 321 (7 * w 310 y1 + y3))), (0, (1, 275)), (1, (0, y1)), (2, (0, w 310 y1)), (3, (0, y3))], [(0, 0)], w)) 3 rfl ?_
                  refine e_Ok.if1 rfl (fun h48 => ?_) (fun h48 => ?_)
                  · replace h48 : (0 : Int) = 0 := h48
                    refine e_Ok.inc (z := y3 + 1) rfl rfl (by first | with_reducible rfl | omega) (by omega) ?_
                    show e_Ok 20 elay ecode eI (d + 1) 405 (216, [(3, (0, y3 + 1)), (14, (0, 0)), (12, (4, w 315 y1)), (10, (4, w 322 (7 * w 310 y1 + y3) - w 276 (14 * w 310 y1 + 2 * y3 + 20877))), (8, (4, w 321 (7 * w 310 y1 + y3) - w 276 (14 * w 310 y1 + 2 * y3 + 20876))), (6, (4, w 322 (7 * w 310 y1 + y3))), (4, (4, w 321 (7 * w 310 y1 + y3))), (0, (1, 275)), (1, (0, y1)), (2, (0, w 310 y1))], [], w) _
                    refine e_Ok.ps0 (q := 19) 1 rfl ?_
                    refine e_Ok.sub eAlk (e_sub_of rfl ?_) (ih8 (y3 + 1) (by omega) (by omega))
                    exact ⟨rfl, rfl, rfl, rfl, trivial⟩
                  · replace h48 : (0 : Int) ≠ 0 := (show ¬ ((0 : Int) = 0) from h48)
                    exfalso; omega
                · replace h47 : (0 : Int) ≠ 0 := (show ¬ ((0 : Int) = 0) from h47)
                  exfalso; omega
        refine e_Ok.sub eAlk (e_sub_of rfl ?_) (hL7 (8 + 1 : Int).toNat 1 (by omega) (by omega))
        exact ⟨rfl, rfl, rfl, rfl, trivial⟩
  refine e_Ok.sub eAlk (e_sub_of rfl ?_) (hL1 (9 + 1 : Int).toNat 0 (by omega) (by omega))
  exact ⟨rfl, rfl, trivial⟩
theorem no_84_5 : ¬ mLt 275 10 := by unfold mLt; omega
theorem no_84_6 {k : Int} : ¬ mLt 310 k := by unfold mLt; omega
theorem no_84_7 : ¬ mLt 275 42 := by unfold mLt; omega
theorem no_84_8 {k : Int} : ¬ mLt 276 k := by unfold mLt; omega
theorem no_84_9 {k : Int} : ¬ mLt 286 k := by unfold mLt; omega
theorem no_84_10 : ¬ mLt 275 0 := by unfold mLt; omega
theorem su_84_13 {c k : Int} (q : mL c k) : mLo c k := by
  unfold mL at q
  rcases q with ⟨q, ⟨q, q⟩⟩ | q | q
  · exact Or.inl (Or.inl ⟨(by omega), ⟨(by omega), (by omega)⟩⟩)
  · exact Or.inl (Or.inr (Or.inl (by omega)))
  · exact Or.inl (Or.inr (Or.inr (Or.inl (by omega))))
theorem su_84_14 {c k : Int} (q : mTl c k) : mLo c k := by
  unfold mTl at q
  rcases q with q
  · exact Or.inl (Or.inr (Or.inr (Or.inr (by omega))))
theorem su_84_15 {c k : Int} (q : mTl c k) : mLt c k := by
  unfold mTl at q
  rcases q with q
  · exact Or.inr (Or.inr (Or.inr (by omega)))
theorem su_84_16 {c k : Int} (q : mL c k) : mLt c k := by
  unfold mL at q
  rcases q with ⟨q, ⟨q, q⟩⟩ | q | q
  · exact Or.inl ⟨(by omega), ⟨(by omega), (by omega)⟩⟩
  · exact Or.inr (Or.inl (by omega))
  · exact Or.inr (Or.inr (Or.inl (by omega)))
set_option maxHeartbeats 4000000 in
theorem c_406 {d : Nat} (hd : 29 ≤ d) {w : eW} (hT : e_Has mTy w) (hMo : mMo w (-1)) (hZn : mZn w) (hJ0 : ∀ b, w 275 10 ≤ b → b ≤ 3 → w 286 b = 0) (kall : ∀ b, 0 ≤ b → b < w 275 10 → e_pk2 w (7 * b) (w 286 b)) (hE : w 276 5 ≤ 2147483000) : e_Ok 20 elay ecode eI d 406 (0, [(0, (1, 275))], [], w) (fun r w' => r = [] ∧ e_fr mLo w w' ∧ e_Has mTy w' ∧ (w 276 5 ≤ w' 276 5 ∧ w' 276 5 ≤ w 276 5 + 5) ∧ mMo w' (-1)) := by
  obtain ⟨d, rfl⟩ : ∃ e, d = e + 1 := ⟨d - 1, by omega⟩
  have har := e_Has.get hT (c := 275) (k := 10) (lo := 0) (hi := 4) (mt_o rfl) (by decide)
  refine e_Ok.ps1 (x := (1, 275)) (q := 1) 1 rfl ?_
  refine e_Ok.callV rfl (e_dq hd rfl) rfl rfl rfl rfl (c_404 (e_dq hd rfl) hT kall) (fun r1 w2 h3 => ?_)
  obtain ⟨z4, rfl, q5, q5a, q5b⟩ := h3
  have q5c : z4 < 4 := by have q0 : w 275 10 = w 275 10 := rfl; omega
  refine e_Ok.nrm (q := 4) (st' := [(0, z4)]) rfl rfl ?_
  refine e_Ok.run (t' := (7, [(2, (0, 0)), (1, (0, z4)), (0, (1, 275))], [], w2)) 3 rfl ?_
  have hL7 : ∀ (nn : Nat) (y2 : Int) (v1 : eW), e_fr mLo w v1 ∧ e_Has mTy v1 ∧ (0 ≤ y2 ∧ y2 ≤ 4) ∧ e_fr mLt w v1 → 5 - y2 < nn → e_Ok 20 elay ecode eI (d + 1) 406 (7, [(0, (1, 275)), (1, (0, z4)), (2, (0, y2))], [], v1) (fun r w' => r = [] ∧ e_fr mLo w w' ∧ e_Has mTy w' ∧ (w 276 5 ≤ w' 276 5 ∧ w' 276 5 ≤ w 276 5 + 5) ∧ mMo w' (-1)) := by
    intro nn
    induction nn with
    | zero => intro y2 v1 hj hm; obtain ⟨j9, j10, j11, j12⟩ := hj; exfalso; omega
    | succ nn ih8 =>
      intro y2 v1 hj hm
      obtain ⟨j9, j10, j11, j12⟩ := hj
      refine e_Ok.run (t' := (9, [(0, (1, 275)), (1, (0, z4)), (2, (0, y2))], [(1, 275), (0, y2)], v1)) 2 rfl ?_
      refine e_Ok.getf (z := w 275 10) rfl (el_o rfl) rfl (ef_o rfl) ((j12 275 10 no_84_5).trans rfl) (by omega) ?_
      refine e_Ok.if2 rfl (fun h13 => ?_) (fun h13 => ?_)
      · replace h13 : (y2 : Int) ≥ w 275 10 := h13
        refine e_Ok.ps1 (x := (0, z4)) (q := 86) 1 rfl ?_
        refine e_Ok.if1 rfl (fun h14 => ?_) (fun h14 => ?_)
        · replace h14 : (z4 : Int) < 0 := h14
          refine e_Ok.ps1 (x := (1, 275)) (q := 97) 1 rfl ?_
          refine e_Ok.callV rfl (e_dq hd rfl) rfl rfl rfl rfl (c_405 (e_dq hd rfl) j10 (show mZn v1 from fun z g1 g2 => by have e := j12; rw [e 310 z no_84_6, e 275 10 no_84_5]; exact hZn z g1 (by rw [e 275 42 no_84_7] at g2; exact g2)) (kAll_fr j9 (fun c k q => lo_kall q) kall)) (fun r15 w16 h17 => ?_)
          obtain ⟨z18, rfl, rfl, q19a, q19b⟩ := h17
          refine e_Ok.nrm (q := 100) (st' := [(0, z18)]) rfl rfl ?_
          refine e_Ok.run (t' := (102, [(2, (0, z18)), (0, (1, 275)), (1, (0, z4))], [(0, z18)], v1)) 2 rfl ?_
          refine e_Ok.if1 rfl (fun h20 => ?_) (fun h20 => ?_)
          · replace h20 : (z18 : Int) < 0 := h20
            refine e_Ok.rets rfl rfl ?_
            have e21 : v1 276 5 = w 276 5 := ((j12 276 5 no_84_8).trans rfl)
            exact ⟨rfl, j9, j10, by omega, (mMo.same hMo (e_Has.mo hT) (fun c k q => j12 c k (moK_lt q)))⟩
          · replace h20 : (z18 : Int) ≥ 0 := Int.not_lt.mp (show ¬ ((z18 : Int) < 0) from h20)
            refine e_Ok.ps3 (x := (0, z18)) (y := (0, 3)) (z := (1, 275)) (q := 108) 3 rfl ?_
            have e25 : v1 276 5 = w 276 5 := ((j12 276 5 no_84_8).trans rfl)
            refine e_Ok.callV rfl (e_dq hd rfl) rfl rfl rfl rfl (c_385 (e_dq hd rfl) j10 (by omega) (by omega) (by omega)) (fun r22 w23 h24 => ?_)
            obtain ⟨rfl, q26, q26T, q26n, q26p, q26s, q26t, q26u⟩ := h24
            refine e_Ok.nrm (q := 111) (st' := []) rfl rfl ?_
            refine e_Ok.rets rfl rfl ?_
            have e28 : w23 276 5 = w23 276 5 := rfl
            exact ⟨rfl, (show e_fr mLo w w23 from e_fr.trans j9 (e_fr.mono q26 (fun c k q => by exact Or.inr q))), q26T, by omega, (mMo.trip (mMo.same hMo (e_Has.mo hT) (fun c k q => j12 c k (moK_lt q))) (e_Has.mo j10) (fun b g1 g2 => by have e := j12; rw [e 286 b no_84_9]; exact hJ0 b (by rw [e 275 10 no_84_5] at g1; exact g1) g2) (fun c k q1 q2 => q26 c k (moK_tr q1 q2)) (e_Has.get j10 (c := 275) (k := 10) (lo := 0) (hi := 4) rfl (by decide)).1 q26s q26t q26u (fun b g1 g2 => e_Has.get j10 (nR_TRAVELS (a := b) ⟨g1, g2⟩) (by decide)))⟩
        · replace h14 : (z4 : Int) ≥ 0 := Int.not_lt.mp (show ¬ ((z4 : Int) < 0) from h14)
          refine e_Ok.ps3 (x := (0, z4)) (y := (0, 2)) (z := (1, 275)) (q := 92) 3 rfl ?_
          have e32 : v1 276 5 = w 276 5 := ((j12 276 5 no_84_8).trans rfl)
          refine e_Ok.callV rfl (e_dq hd rfl) rfl rfl rfl rfl (c_385 (e_dq hd rfl) j10 (by omega) (by omega) (by omega)) (fun r29 w30 h31 => ?_)
          obtain ⟨rfl, q33, q33T, q33n, q33p, q33s, q33t, q33u⟩ := h31
          refine e_Ok.nrm (q := 95) (st' := []) rfl rfl ?_
          refine e_Ok.rets rfl rfl ?_
          have e35 : w30 276 5 = w30 276 5 := rfl
          exact ⟨rfl, (show e_fr mLo w w30 from e_fr.trans j9 (e_fr.mono q33 (fun c k q => by exact Or.inr q))), q33T, by omega, (mMo.trip (mMo.same hMo (e_Has.mo hT) (fun c k q => j12 c k (moK_lt q))) (e_Has.mo j10) (fun b g1 g2 => by have e := j12; rw [e 286 b no_84_9]; exact hJ0 b (by rw [e 275 10 no_84_5] at g1; exact g1) g2) (fun c k q1 q2 => q33 c k (moK_tr q1 q2)) (e_Has.get j10 (c := 275) (k := 10) (lo := 0) (hi := 4) rfl (by decide)).1 q33s q33t q33u (fun b g1 g2 => e_Has.get j10 (nR_TRAVELS (a := b) ⟨g1, g2⟩) (by decide)))⟩
      · replace h13 : (y2 : Int) < w 275 10 := Int.not_le.mp (show ¬ ((y2 : Int) ≥ w 275 10) from h13)
        refine e_Ok.ps1 (x := (1, 275)) (q := 16) 1 rfl ?_
        refine e_Ok.getr (z := 276) rfl (el_o rfl) rfl (ef_o rfl) ((j12 275 0 no_84_10).trans (e_Has.eq hT (mt_o rfl))) ⟨by decide, by decide⟩ ?_
        refine e_Ok.ps1 (x := (0, y2)) (q := 20) 1 rfl ?_
        refine e_Ok.callS rfl (e_dq hd rfl) rfl rfl (c_268 (by omega)) (fun r36 w37 h38 => ?_)
        obtain ⟨rfl, rfl⟩ := h38
        refine e_Ok.nrm (q := 23) (st' := [(0, 36 * y2 + 16), (1, 276)]) rfl rfl ?_
        refine e_Ok.ps1 (x := (0, 6)) (q := 25) 1 rfl ?_
        refine e_Ok.add (z := 36 * y2 + 22) rfl (e_adl (by decide)) (by omega) ?_
        have h40 := (e_Has.get hT (c := 276) (k := 36 * y2 + 22) (lo := 0) (hi := 1) (nR_TRAVELS (a := y2) (by omega)) (by decide))
        refine e_Ok.ald (z := w 276 (36 * y2 + 22)) rfl (el_o rfl) rfl (by omega) ((j12 276 (36 * y2 + 22) no_84_8).trans rfl) (e_bq h40 (by decide) (by decide)) ?_
        refine e_Ok.ps1 (x := (0, 1)) (q := 28) 1 rfl ?_
        refine e_Ok.if2 rfl (fun h41 => ?_) (fun h41 => ?_)
        · replace h41 : (w 276 (36 * y2 + 22) : Int) ≠ 1 := h41
          refine e_Ok.run (t' := (55, [(3, (0, 0)), (0, (1, 275)), (1, (0, z4)), (2, (0, y2))], [(0, 0), (0, 2), (1, 275)], v1)) 5 rfl ?_
          refine e_Ok.if1 rfl (fun h42 => ?_) (fun h42 => ?_)
          · replace h42 : (0 : Int) = 0 := h42
            refine e_Ok.ps1 (x := (0, 0)) (q := 76) 1 rfl ?_
            refine e_Ok.callV rfl (e_dq hd rfl) rfl rfl rfl rfl (c_389 j10 (by omega)) (fun r43 w44 h45 => ?_)
            obtain ⟨rfl, q46, q46T⟩ := h45
            refine e_Ok.nrm (q := 79) (st' := []) rfl rfl ?_
            refine e_Ok.inc (z := y2 + 1) rfl rfl (by first | with_reducible rfl | omega) (by omega) ?_
            show e_Ok 20 elay ecode eI (d + 1) 406 (82, [(2, (0, y2 + 1)), (3, (0, 0)), (0, (1, 275)), (1, (0, z4))], [], w44) _
            refine e_Ok.ps0 (q := 7) 1 rfl ?_
            refine e_Ok.sub eAlk (e_sub_of rfl ?_) (ih8 (y2 + 1) w44 ⟨(show e_fr mLo w w44 from e_fr.trans j9 (e_fr.mono q46 (fun c k q => su_84_14 q))), q46T, by omega, (e_fr.trans j12 (e_fr.mono q46 (fun c k q => su_84_15 q)))⟩ (by omega))
            exact ⟨rfl, rfl, rfl, trivial⟩
          · replace h42 : (0 : Int) ≠ 0 := (show ¬ ((0 : Int) = 0) from h42)
            exfalso; omega
        · replace h41 : (w 276 (36 * y2 + 22) : Int) = 1 := Classical.not_not.mp (show ¬ ((w 276 (36 * y2 + 22) : Int) ≠ 1) from h41)
          refine e_Ok.ps1 (x := (1, 275)) (q := 32) 1 rfl ?_
          refine e_Ok.getr (z := 276) rfl (el_o rfl) rfl (ef_o rfl) ((j12 275 0 no_84_10).trans (e_Has.eq hT (mt_o rfl))) ⟨by decide, by decide⟩ ?_
          refine e_Ok.ps1 (x := (0, y2)) (q := 36) 1 rfl ?_
          refine e_Ok.callS rfl (e_dq hd rfl) rfl rfl (c_268 (by omega)) (fun r48 w49 h50 => ?_)
          obtain ⟨rfl, rfl⟩ := h50
          refine e_Ok.nrm (q := 39) (st' := [(0, 36 * y2 + 16), (1, 276)]) rfl rfl ?_
          refine e_Ok.ps1 (x := (0, 5)) (q := 40) 1 rfl ?_
          refine e_Ok.add (z := 36 * y2 + 21) rfl (e_adl (by decide)) (by omega) ?_
          have h51 := (e_Has.get hT (c := 276) (k := 36 * y2 + 21) (lo := 0) (hi := 1) (nR_BUT_OWN (a := y2) (by omega)) (by decide))
          refine e_Ok.ald (z := w 276 (36 * y2 + 21)) rfl (el_o rfl) rfl (by omega) ((j12 276 (36 * y2 + 21) no_84_8).trans rfl) (e_bq h51 (by decide) (by decide)) ?_
          refine e_Ok.ps1 (x := (0, 1)) (q := 43) 1 rfl ?_
          refine e_Ok.if2 rfl (fun h52 => ?_) (fun h52 => ?_)
          · replace h52 : (w 276 (36 * y2 + 21) : Int) ≠ 1 := h52
            refine e_Ok.run (t' := (55, [(3, (0, 0)), (0, (1, 275)), (1, (0, z4)), (2, (0, y2))], [(0, 0), (0, 2), (1, 275)], v1)) 5 rfl ?_
            refine e_Ok.if1 rfl (fun h53 => ?_) (fun h53 => ?_)
            · replace h53 : (0 : Int) = 0 := h53
              refine e_Ok.ps1 (x := (0, 0)) (q := 76) 1 rfl ?_
              refine e_Ok.callV rfl (e_dq hd rfl) rfl rfl rfl rfl (c_389 j10 (by omega)) (fun r54 w55 h56 => ?_)
              obtain ⟨rfl, q57, q57T⟩ := h56
              refine e_Ok.nrm (q := 79) (st' := []) rfl rfl ?_
              refine e_Ok.inc (z := y2 + 1) rfl rfl (by first | with_reducible rfl | omega) (by omega) ?_
              show e_Ok 20 elay ecode eI (d + 1) 406 (82, [(2, (0, y2 + 1)), (3, (0, 0)), (0, (1, 275)), (1, (0, z4))], [], w55) _
              refine e_Ok.ps0 (q := 7) 1 rfl ?_
              refine e_Ok.sub eAlk (e_sub_of rfl ?_) (ih8 (y2 + 1) w55 ⟨(show e_fr mLo w w55 from e_fr.trans j9 (e_fr.mono q57 (fun c k q => su_84_14 q))), q57T, by omega, (e_fr.trans j12 (e_fr.mono q57 (fun c k q => su_84_15 q)))⟩ (by omega))
              exact ⟨rfl, rfl, rfl, trivial⟩
            · replace h53 : (0 : Int) ≠ 0 := (show ¬ ((0 : Int) = 0) from h53)
              exfalso; omega
          · replace h52 : (w 276 (36 * y2 + 21) : Int) = 1 := Classical.not_not.mp (show ¬ ((w 276 (36 * y2 + 21) : Int) ≠ 1) from h52)
            refine e_Ok.run (t' := (55, [(3, (0, 1)), (0, (1, 275)), (1, (0, z4)), (2, (0, y2))], [(0, 1), (0, 2), (1, 275)], v1)) 6 rfl ?_
            refine e_Ok.if1 rfl (fun h59 => ?_) (fun h59 => ?_)
            · replace h59 : (1 : Int) = 0 := h59
              exfalso; omega
            · replace h59 : (1 : Int) ≠ 0 := (show ¬ ((1 : Int) = 0) from h59)
              refine e_Ok.ps4 (x := (0, y2)) (y := (0, 7)) (z := (0, y2)) (u := (1, 275)) (q := 63) 4 rfl ?_
              refine e_Ok.mul (z := 7 * y2) rfl rfl (by omega) ?_
              refine e_Ok.ps1 (x := (0, 0)) (q := 65) 1 rfl ?_
              have ela : v1 275 10 = w 275 10 := ((j12 275 10 no_84_5).trans rfl)
              refine e_Ok.callV rfl (e_dq hd rfl) rfl rfl rfl rfl (c_317 (e_dq hd rfl) j10 (by omega) (by omega) ((kAll_fr j9 (fun c k q => lo_kall q) kall) y2 (by omega) (by omega)).1 ((kAll_fr j9 (fun c k q => lo_kall q) kall) y2 (by omega) (by omega)).2 (kAll_fr j9 (fun c k q => lo_kall q) kall)) (fun r60 w61 h62 => ?_)
              obtain ⟨z63, rfl, q64, q64a, q64b⟩ := h62
              have f65 : e_fr mLo w w61 := e_fr.trans j9 (e_fr.mono q64 (fun c k q => su_84_13 q))
              have q64T : e_Has mTy w61 := mT_L q64 j10
              refine e_Ok.nrm (q := 68) (st' := [(0, z63), (0, 2), (1, 275)]) rfl rfl ?_
              refine e_Ok.if1 rfl (fun h66 => ?_) (fun h66 => ?_)
              · replace h66 : (z63 : Int) = 0 := h66
                refine e_Ok.ps1 (x := (0, 0)) (q := 76) 1 rfl ?_
                refine e_Ok.callV rfl (e_dq hd rfl) rfl rfl rfl rfl (c_389 q64T (by omega)) (fun r67 w68 h69 => ?_)
                obtain ⟨rfl, q70, q70T⟩ := h69
                refine e_Ok.nrm (q := 79) (st' := []) rfl rfl ?_
                refine e_Ok.inc (z := y2 + 1) rfl rfl (by first | with_reducible rfl | omega) (by omega) ?_
                show e_Ok 20 elay ecode eI (d + 1) 406 (82, [(2, (0, y2 + 1)), (3, (0, 1)), (0, (1, 275)), (1, (0, z4))], [], w68) _
                refine e_Ok.ps0 (q := 7) 1 rfl ?_
                refine e_Ok.sub eAlk (e_sub_of rfl ?_) (ih8 (y2 + 1) w68 ⟨(show e_fr mLo w w68 from e_fr.trans f65 (e_fr.mono q70 (fun c k q => su_84_14 q))), q70T, by omega, (e_fr.trans (e_fr.trans j12 (e_fr.mono q64 (fun c k q => su_84_16 q))) (e_fr.mono q70 (fun c k q => su_84_15 q)))⟩ (by omega))
                exact ⟨rfl, rfl, rfl, trivial⟩
              · replace h66 : (z63 : Int) ≠ 0 := (show ¬ ((z63 : Int) = 0) from h66)
                refine e_Ok.ps1 (x := (0, 1)) (q := 76) 2 rfl ?_
                refine e_Ok.callV rfl (e_dq hd rfl) rfl rfl rfl rfl (c_389 q64T (by omega)) (fun r72 w73 h74 => ?_)
                obtain ⟨rfl, q75, q75T⟩ := h74
                refine e_Ok.nrm (q := 79) (st' := []) rfl rfl ?_
                refine e_Ok.inc (z := y2 + 1) rfl rfl (by first | with_reducible rfl | omega) (by omega) ?_
                show e_Ok 20 elay ecode eI (d + 1) 406 (82, [(2, (0, y2 + 1)), (3, (0, 1)), (0, (1, 275)), (1, (0, z4))], [], w73) _
                refine e_Ok.ps0 (q := 7) 1 rfl ?_
                refine e_Ok.sub eAlk (e_sub_of rfl ?_) (ih8 (y2 + 1) w73 ⟨(show e_fr mLo w w73 from e_fr.trans f65 (e_fr.mono q75 (fun c k q => su_84_14 q))), q75T, by omega, (e_fr.trans (e_fr.trans j12 (e_fr.mono q64 (fun c k q => su_84_16 q))) (e_fr.mono q75 (fun c k q => su_84_15 q)))⟩ (by omega))
                exact ⟨rfl, rfl, rfl, trivial⟩
  refine e_Ok.sub eAlk (e_sub_of rfl ?_) (hL7 (5 + 1 : Int).toNat 0 w2 ⟨(show e_fr mLo w w2 from e_fr.trans (e_fr.refl w) (e_fr.mono q5 (fun c k q => su_84_13 q))), (show e_Has mTy w2 from mT_L q5 hT), by omega, (e_fr.trans (e_fr.refl w) (e_fr.mono q5 (fun c k q => su_84_16 q)))⟩ (by omega))
  exact ⟨rfl, rfl, rfl, trivial⟩
theorem no_84_11 {k : Int} : ¬ mTl 275 k := by unfold mTl; omega
theorem no_84_12 {k : Int} : ¬ mTl 276 k := by unfold mTl; omega
set_option maxHeartbeats 4000000 in
theorem c_407 {d : Nat} (hd : 21 ≤ d) {w : eW} (hT : e_Has mTy w) : e_Ok 20 elay ecode eI d 407 (0, [(0, (1, 275))], [], w) (fun r w' => r = [] ∧ e_fr mTl w w' ∧ e_Has mTy w') := by
  obtain ⟨d, rfl⟩ : ∃ e, d = e + 1 := ⟨d - 1, by omega⟩
  refine e_Ok.run (t' := (2, [(1, (0, 0)), (0, (1, 275))], [], w)) 2 rfl ?_
  have hL1 : ∀ (nn : Nat) (y1 : Int) (v1 : eW), e_fr mTl w v1 ∧ e_Has mTy v1 ∧ (0 ≤ y1 ∧ y1 ≤ 32) → 33 - y1 < nn → e_Ok 20 elay ecode eI (d + 1) 407 (2, [(0, (1, 275)), (1, (0, y1))], [], v1) (fun r w' => r = [] ∧ e_fr mTl w w' ∧ e_Has mTy w') := by
    intro nn
    induction nn with
    | zero => intro y1 v1 hj hm; obtain ⟨j3, j4, j5⟩ := hj; exfalso; omega
    | succ nn ih2 =>
      intro y1 v1 hj hm
      obtain ⟨j3, j4, j5⟩ := hj
      refine e_Ok.run (t' := (4, [(0, (1, 275)), (1, (0, y1))], [(1, 275), (0, y1)], v1)) 2 rfl ?_
      have h6 := (e_Has.get hT (c := 275) (k := 40) (lo := 0) (hi := 32) (mt_o rfl) (by decide))
      refine e_Ok.getf (z := w 275 40) rfl (el_o rfl) rfl (ef_o rfl) ((j3 275 40 no_84_11).trans rfl) (e_bq h6 (by decide) (by decide)) ?_
      refine e_Ok.if2 rfl (fun h7 => ?_) (fun h7 => ?_)
      · replace h7 : (y1 : Int) ≥ w 275 40 := h7
        refine e_Ok.rets rfl rfl ?_
        exact ⟨rfl, j3, j4⟩
      · replace h7 : (y1 : Int) < w 275 40 := Int.not_le.mp (show ¬ ((y1 : Int) ≥ w 275 40) from h7)
        refine e_Ok.ps1 (x := (1, 275)) (q := 11) 1 rfl ?_
        refine e_Ok.getr (z := 276) rfl (el_o rfl) rfl (ef_o rfl) ((j3 275 0 no_84_11).trans (e_Has.eq hT (mt_o rfl))) ⟨by decide, by decide⟩ ?_
        refine e_Ok.ps1 (x := (0, y1)) (q := 15) 1 rfl ?_
        refine e_Ok.callS rfl (e_dq hd rfl) rfl rfl (c_392 (by omega)) (fun r8 w9 h10 => ?_)
        obtain ⟨rfl, rfl⟩ := h10
        refine e_Ok.nrm (q := 18) (st' := [(0, 4 * y1 + 20576), (1, 276)]) rfl rfl ?_
        have h11 := (e_Has.get hT (c := 276) (k := 4 * y1 + 20576) (lo := 0) (hi := 8) (nR_WHERE (p := y1) (by omega)) (by decide))
        refine e_Ok.ald (z := w 276 (4 * y1 + 20576)) rfl (el_o rfl) rfl (by omega) ((j3 276 (4 * y1 + 20576) no_84_12).trans rfl) (e_bq h11 (by decide) (by decide)) ?_
        refine e_Ok.ps1 (x := (0, 8)) (q := 21) 1 rfl ?_
        have hJ14 : ∀ m13 : Int, 0 ≤ m13 ∧ m13 ≤ 1 → e_Ok 20 elay ecode eI (d + 1) 407 (29, [(0, (1, 275)), (1, (0, y1))], [(0, m13)], v1) (fun r w' => r = [] ∧ e_fr mTl w w' ∧ e_Has mTy w') := by
          intro m13 m13r
          refine e_Ok.run (t' := (32, [(3, (0, 0)), (2, (0, m13)), (0, (1, 275)), (1, (0, y1))], [], v1)) 3 rfl ?_
          have hL15 : ∀ (nn : Nat) (y2 : Int) (y3 : Int), 0 ≤ y3 ∧ y3 ≤ 4 → 5 - y3 < nn → e_Ok 20 elay ecode eI (d + 1) 407 (32, [(0, (1, 275)), (1, (0, y1)), (2, (0, y2)), (3, (0, y3))], [], v1) (fun r w' => r = [] ∧ e_fr mTl w w' ∧ e_Has mTy w') := by
            intro nn
            induction nn with
            | zero => intro y2 y3 hj hm; obtain j17 := hj; exfalso; omega
            | succ nn ih16 =>
              intro y2 y3 hj hm
              obtain j17 := hj
              refine e_Ok.run (t' := (34, [(0, (1, 275)), (1, (0, y1)), (2, (0, y2)), (3, (0, y3))], [(0, 4), (0, y3)], v1)) 2 rfl ?_
              refine e_Ok.if2 rfl (fun h18 => ?_) (fun h18 => ?_)
              · replace h18 : (y3 : Int) ≥ 4 := h18
                refine e_Ok.ps4 (x := (0, 1)) (y := (0, y2)) (z := (0, 3)) (u := (1, 275)) (q := 133) 4 rfl ?_
                have hJ21 : ∀ m20 : Int, 0 ≤ m20 ∧ m20 ≤ 1 → e_Ok 20 elay ecode eI (d + 1) 407 (141, [(0, (1, 275)), (1, (0, y1)), (2, (0, y2)), (3, (0, y3))], [(0, m20), (0, 3), (1, 275)], v1) (fun r w' => r = [] ∧ e_fr mTl w w' ∧ e_Has mTy w') := by
                  intro m20 m20r
                  refine e_Ok.callV rfl (e_dq hd rfl) rfl rfl rfl rfl (c_389 j4 (by omega)) (fun r22 w23 h24 => ?_)
                  obtain ⟨rfl, q25, q25T⟩ := h24
                  show e_Ok 20 elay ecode eI (d + 1) 407 (144, [(0, (1, 275)), (1, (0, y1)), (2, (0, y2)), (3, (0, y3))], [], w23) _
                  refine e_Ok.inc (z := y1 + 1) rfl rfl (by first | with_reducible rfl | omega) (by omega) ?_
                  show e_Ok 20 elay ecode eI (d + 1) 407 (147, [(1, (0, y1 + 1)), (0, (1, 275)), (2, (0, y2)), (3, (0, y3))], [], w23) _
                  refine e_Ok.ps0 (q := 2) 1 rfl ?_
                  refine e_Ok.sub eAlk (e_sub_of rfl ?_) (ih2 (y1 + 1) w23 ⟨(show e_fr mTl w w23 from e_fr.trans j3 (e_fr.mono q25 (fun c k q => by exact q))), q25T, by omega⟩ (by omega))
                  exact ⟨rfl, rfl, trivial⟩
                refine e_Ok.if2 rfl (fun h19 => ?_) (fun h19 => ?_)
                · exact e_Ok.run 1 rfl (hJ21 0 (by omega))
                · exact e_Ok.run 2 rfl (hJ21 1 (by omega))
              · replace h18 : (y3 : Int) < 4 := Int.not_le.mp (show ¬ ((y3 : Int) ≥ 4) from h18)
                refine e_Ok.ps3 (x := (1, 275)) (y := (0, y3)) (z := (0, y2)) (q := 40) 3 rfl ?_
                have h27 := (e_Has.get hT (c := 275) (k := 10) (lo := 0) (hi := 4) (mt_o rfl) (by decide))
                refine e_Ok.getf (z := w 275 10) rfl (el_o rfl) rfl (ef_o rfl) ((j3 275 10 no_84_11).trans rfl) (e_bq h27 (by decide) (by decide)) ?_
                refine e_Ok.if2 rfl (fun h28 => ?_) (fun h28 => ?_)
                · replace h28 : (y3 : Int) ≥ w 275 10 := h28
                  refine e_Ok.ps1 (x := (0, 0)) (q := 66) 1 rfl ?_
                  refine e_Ok.any rfl (eF_add_any _ _) (fun z29 z29a z29b => ?_)
                  refine e_Ok.run (t' := (71, [(4, (0, 1)), (2, (0, z29)), (0, (1, 275)), (1, (0, y1)), (3, (0, y3))], [], v1)) 3 rfl ?_
                  have hL30 : ∀ (nn : Nat) (x2 : Int) (y4 : Int), 1 ≤ y4 ∧ y4 ≤ 33 → 34 - y4 < nn → e_Ok 20 elay ecode eI (d + 1) 407 (71, [(0, (1, 275)), (1, (0, y1)), (2, (0, x2)), (3, (0, y3)), (4, (0, y4))], [], v1) (fun r w' => r = [] ∧ e_fr mTl w w' ∧ e_Has mTy w') := by
                    intro nn
                    induction nn with
                    | zero => intro x2 y4 hj hm; obtain j32 := hj; exfalso; omega
                    | succ nn ih31 =>
                      intro x2 y4 hj hm
                      obtain j32 := hj
                      refine e_Ok.run (t' := (74, [(0, (1, 275)), (1, (0, y1)), (2, (0, x2)), (3, (0, y3)), (4, (0, y4))], [(1, 275), (0, y4)], v1)) 2 rfl ?_
                      refine e_Ok.getr (z := 276) rfl (el_o rfl) rfl (ef_o rfl) ((j3 275 0 no_84_11).trans (e_Has.eq hT (mt_o rfl))) ⟨by decide, by decide⟩ ?_
                      refine e_Ok.ps3 (x := (0, y3)) (y := (0, 33)) (z := (0, 20704)) (q := 83) 3 rfl ?_
                      refine e_Ok.mul (z := 33 * y3) rfl rfl (by omega) ?_
                      refine e_Ok.add (z := 33 * y3 + 20704) rfl (Int.add_comm _ _) (by omega) ?_
                      have h33 := (e_Has.get hT (c := 276) (k := 33 * y3 + 20704) (lo := 0) (hi := 32) (nR_ORDER (b := y3) (by omega)) (by decide))
                      refine e_Ok.ald (z := w 276 (33 * y3 + 20704)) rfl (el_o rfl) rfl (by omega) ((j3 276 (33 * y3 + 20704) no_84_12).trans rfl) (e_bq h33 (by decide) (by decide)) ?_
                      refine e_Ok.if2 rfl (fun h34 => ?_) (fun h34 => ?_)
                      · replace h34 : (y4 : Int) > w 276 (33 * y3 + 20704) := h34
                        refine e_Ok.inc (z := y3 + 1) rfl rfl (by first | with_reducible rfl | omega) (by omega) ?_
                        show e_Ok 20 elay ecode eI (d + 1) 407 (126, [(3, (0, y3 + 1)), (0, (1, 275)), (1, (0, y1)), (2, (0, x2)), (4, (0, y4))], [], v1) _
                        refine e_Ok.ps0 (q := 32) 1 rfl ?_
                        refine e_Ok.sub eAlk (e_sub_of rfl ?_) (ih16 x2 (y3 + 1) (by omega) (by omega))
                        exact ⟨rfl, rfl, rfl, rfl, trivial⟩
                      · replace h34 : (y4 : Int) ≤ w 276 (33 * y3 + 20704) := Int.not_lt.mp (show ¬ ((y4 : Int) > w 276 (33 * y3 + 20704)) from h34)
                        refine e_Ok.ps2 (x := (1, 275)) (y := (0, x2)) (q := 91) 2 rfl ?_
                        refine e_Ok.getr (z := 276) rfl (el_o rfl) rfl (ef_o rfl) ((j3 275 0 no_84_11).trans (e_Has.eq hT (mt_o rfl))) ⟨by decide, by decide⟩ ?_
                        refine e_Ok.ps3 (x := (0, y3)) (y := (0, 33)) (z := (0, 20704)) (q := 100) 3 rfl ?_
                        refine e_Ok.mul (z := 33 * y3) rfl rfl (by omega) ?_
                        refine e_Ok.add (z := 33 * y3 + 20704) rfl (Int.add_comm _ _) (by omega) ?_
                        refine e_Ok.ps1 (x := (0, y4)) (q := 104) 1 rfl ?_
                        refine e_Ok.add (z := 33 * y3 + y4 + 20704) rfl (by omega) (by omega) ?_
                        have h35 := (e_Has.get hT (c := 276) (k := 33 * y3 + y4 + 20704) (lo := 0) (hi := 31) (nR_ORD y3 (by omega) (by omega)) (by decide))
                        refine e_Ok.ald (z := w 276 (33 * y3 + y4 + 20704)) rfl (el_o rfl) rfl (by omega) ((j3 276 (33 * y3 + y4 + 20704) no_84_12).trans rfl) (e_bq h35 (by decide) (by decide)) ?_
                        refine e_Ok.ps1 (x := (0, y1)) (q := 107) 1 rfl ?_
                        have hJ38 : ∀ m37 : Int, 0 ≤ m37 ∧ m37 ≤ 1 → e_Ok 20 elay ecode eI (d + 1) 407 (115, [(0, (1, 275)), (1, (0, y1)), (2, (0, x2)), (3, (0, y3)), (4, (0, y4))], [(0, m37), (0, x2)], v1) (fun r w' => r = [] ∧ e_fr mTl w w' ∧ e_Has mTy w') := by
                          intro m37 m37r
                          refine e_Ok.any rfl (eF_add_any _ _) (fun z40 z40a z40b => ?_)
                          refine e_Ok.run (t' := (117, [(2, (0, z40)), (0, (1, 275)), (1, (0, y1)), (3, (0, y3)), (4, (0, y4))], [], v1)) 1 rfl ?_
                          refine e_Ok.inc (z := y4 + 1) rfl rfl (by first | with_reducible rfl | omega) (by omega) ?_
                          show e_Ok 20 elay ecode eI (d + 1) 407 (120, [(4, (0, y4 + 1)), (2, (0, z40)), (0, (1, 275)), (1, (0, y1)), (3, (0, y3))], [], v1) _
                          refine e_Ok.ps0 (q := 71) 1 rfl ?_
                          refine e_Ok.sub eAlk (e_sub_of rfl ?_) (ih31 z40 (y4 + 1) (by omega) (by omega))
                          exact ⟨rfl, rfl, rfl, rfl, rfl, trivial⟩
                        refine e_Ok.if2 rfl (fun h36 => ?_) (fun h36 => ?_)
                        · exact e_Ok.run 1 rfl (hJ38 0 (by omega))
                        · exact e_Ok.run 2 rfl (hJ38 1 (by omega))
                  refine e_Ok.sub eAlk (e_sub_of rfl ?_) (hL30 (34 + 1 : Int).toNat z29 1 (by omega) (by omega))
                  exact ⟨rfl, rfl, rfl, rfl, rfl, trivial⟩
                · replace h28 : (y3 : Int) < w 275 10 := Int.not_le.mp (show ¬ ((y3 : Int) ≥ w 275 10) from h28)
                  refine e_Ok.ps1 (x := (1, 275)) (q := 47) 1 rfl ?_
                  refine e_Ok.getr (z := 276) rfl (el_o rfl) rfl (ef_o rfl) ((j3 275 0 no_84_11).trans (e_Has.eq hT (mt_o rfl))) ⟨by decide, by decide⟩ ?_
                  refine e_Ok.ps1 (x := (0, y3)) (q := 51) 1 rfl ?_
                  refine e_Ok.callS rfl (e_dq hd rfl) rfl rfl (c_268 (by omega)) (fun r41 w42 h43 => ?_)
                  obtain ⟨rfl, rfl⟩ := h43
                  refine e_Ok.nrm (q := 54) (st' := [(0, 36 * y3 + 16), (1, 276), (0, y2)]) rfl rfl ?_
                  refine e_Ok.ps1 (x := (0, 1)) (q := 55) 1 rfl ?_
                  refine e_Ok.add (z := 36 * y3 + 17) rfl (e_adl (by decide)) (by omega) ?_
                  have h44 := (e_Has.get hT (c := 276) (k := 36 * y3 + 17) (lo := (-1)) (hi := 31) (nR_HOLDS (a := y3) (by omega)) (by decide))
                  refine e_Ok.ald (z := w 276 (36 * y3 + 17)) rfl (el_o rfl) rfl (by omega) ((j3 276 (36 * y3 + 17) no_84_12).trans rfl) (e_bq h44 (by decide) (by decide)) ?_
                  refine e_Ok.ps1 (x := (0, y1)) (q := 58) 1 rfl ?_
                  have hJ47 : ∀ m46 : Int, 0 ≤ m46 ∧ m46 ≤ 1 → e_Ok 20 elay ecode eI (d + 1) 407 (66, [(0, (1, 275)), (1, (0, y1)), (2, (0, y2)), (3, (0, y3))], [(0, m46), (0, y2)], v1) (fun r w' => r = [] ∧ e_fr mTl w w' ∧ e_Has mTy w') := by
                    intro m46 m46r
                    refine e_Ok.any rfl (eF_add_any _ _) (fun z48 z48a z48b => ?_)
                    refine e_Ok.run (t' := (71, [(4, (0, 1)), (2, (0, z48)), (0, (1, 275)), (1, (0, y1)), (3, (0, y3))], [], v1)) 3 rfl ?_
                    have hL49 : ∀ (nn : Nat) (x2 : Int) (y4 : Int), 1 ≤ y4 ∧ y4 ≤ 33 → 34 - y4 < nn → e_Ok 20 elay ecode eI (d + 1) 407 (71, [(0, (1, 275)), (1, (0, y1)), (2, (0, x2)), (3, (0, y3)), (4, (0, y4))], [], v1) (fun r w' => r = [] ∧ e_fr mTl w w' ∧ e_Has mTy w') := by
                      intro nn
                      induction nn with
                      | zero => intro x2 y4 hj hm; obtain j51 := hj; exfalso; omega
                      | succ nn ih50 =>
                        intro x2 y4 hj hm
                        obtain j51 := hj
                        refine e_Ok.run (t' := (74, [(0, (1, 275)), (1, (0, y1)), (2, (0, x2)), (3, (0, y3)), (4, (0, y4))], [(1, 275), (0, y4)], v1)) 2 rfl ?_
                        refine e_Ok.getr (z := 276) rfl (el_o rfl) rfl (ef_o rfl) ((j3 275 0 no_84_11).trans (e_Has.eq hT (mt_o rfl))) ⟨by decide, by decide⟩ ?_
                        refine e_Ok.ps3 (x := (0, y3)) (y := (0, 33)) (z := (0, 20704)) (q := 83) 3 rfl ?_
                        refine e_Ok.mul (z := 33 * y3) rfl rfl (by omega) ?_
                        refine e_Ok.add (z := 33 * y3 + 20704) rfl (Int.add_comm _ _) (by omega) ?_
                        have h52 := (e_Has.get hT (c := 276) (k := 33 * y3 + 20704) (lo := 0) (hi := 32) (nR_ORDER (b := y3) (by omega)) (by decide))
                        refine e_Ok.ald (z := w 276 (33 * y3 + 20704)) rfl (el_o rfl) rfl (by omega) ((j3 276 (33 * y3 + 20704) no_84_12).trans rfl) (e_bq h52 (by decide) (by decide)) ?_
                        refine e_Ok.if2 rfl (fun h53 => ?_) (fun h53 => ?_)
                        · replace h53 : (y4 : Int) > w 276 (33 * y3 + 20704) := h53
                          refine e_Ok.inc (z := y3 + 1) rfl rfl (by first | with_reducible rfl | omega) (by omega) ?_
                          show e_Ok 20 elay ecode eI (d + 1) 407 (126, [(3, (0, y3 + 1)), (0, (1, 275)), (1, (0, y1)), (2, (0, x2)), (4, (0, y4))], [], v1) _
                          refine e_Ok.ps0 (q := 32) 1 rfl ?_
                          refine e_Ok.sub eAlk (e_sub_of rfl ?_) (ih16 x2 (y3 + 1) (by omega) (by omega))
                          exact ⟨rfl, rfl, rfl, rfl, trivial⟩
                        · replace h53 : (y4 : Int) ≤ w 276 (33 * y3 + 20704) := Int.not_lt.mp (show ¬ ((y4 : Int) > w 276 (33 * y3 + 20704)) from h53)
                          refine e_Ok.ps2 (x := (1, 275)) (y := (0, x2)) (q := 91) 2 rfl ?_
                          refine e_Ok.getr (z := 276) rfl (el_o rfl) rfl (ef_o rfl) ((j3 275 0 no_84_11).trans (e_Has.eq hT (mt_o rfl))) ⟨by decide, by decide⟩ ?_
                          refine e_Ok.ps3 (x := (0, y3)) (y := (0, 33)) (z := (0, 20704)) (q := 100) 3 rfl ?_
                          refine e_Ok.mul (z := 33 * y3) rfl rfl (by omega) ?_
                          refine e_Ok.add (z := 33 * y3 + 20704) rfl (Int.add_comm _ _) (by omega) ?_
                          refine e_Ok.ps1 (x := (0, y4)) (q := 104) 1 rfl ?_
                          refine e_Ok.add (z := 33 * y3 + y4 + 20704) rfl (by omega) (by omega) ?_
                          have h54 := (e_Has.get hT (c := 276) (k := 33 * y3 + y4 + 20704) (lo := 0) (hi := 31) (nR_ORD y3 (by omega) (by omega)) (by decide))
                          refine e_Ok.ald (z := w 276 (33 * y3 + y4 + 20704)) rfl (el_o rfl) rfl (by omega) ((j3 276 (33 * y3 + y4 + 20704) no_84_12).trans rfl) (e_bq h54 (by decide) (by decide)) ?_
                          refine e_Ok.ps1 (x := (0, y1)) (q := 107) 1 rfl ?_
                          have hJ57 : ∀ m56 : Int, 0 ≤ m56 ∧ m56 ≤ 1 → e_Ok 20 elay ecode eI (d + 1) 407 (115, [(0, (1, 275)), (1, (0, y1)), (2, (0, x2)), (3, (0, y3)), (4, (0, y4))], [(0, m56), (0, x2)], v1) (fun r w' => r = [] ∧ e_fr mTl w w' ∧ e_Has mTy w') := by
                            intro m56 m56r
                            refine e_Ok.any rfl (eF_add_any _ _) (fun z58 z58a z58b => ?_)
                            refine e_Ok.run (t' := (117, [(2, (0, z58)), (0, (1, 275)), (1, (0, y1)), (3, (0, y3)), (4, (0, y4))], [], v1)) 1 rfl ?_
                            refine e_Ok.inc (z := y4 + 1) rfl rfl (by first | with_reducible rfl | omega) (by omega) ?_
                            show e_Ok 20 elay ecode eI (d + 1) 407 (120, [(4, (0, y4 + 1)), (2, (0, z58)), (0, (1, 275)), (1, (0, y1)), (3, (0, y3))], [], v1) _
                            refine e_Ok.ps0 (q := 71) 1 rfl ?_
                            refine e_Ok.sub eAlk (e_sub_of rfl ?_) (ih50 z58 (y4 + 1) (by omega) (by omega))
                            exact ⟨rfl, rfl, rfl, rfl, rfl, trivial⟩
                          refine e_Ok.if2 rfl (fun h55 => ?_) (fun h55 => ?_)
                          · exact e_Ok.run 1 rfl (hJ57 0 (by omega))
                          · exact e_Ok.run 2 rfl (hJ57 1 (by omega))
                    refine e_Ok.sub eAlk (e_sub_of rfl ?_) (hL49 (34 + 1 : Int).toNat z48 1 (by omega) (by omega))
                    exact ⟨rfl, rfl, rfl, rfl, rfl, trivial⟩
                  refine e_Ok.if2 rfl (fun h45 => ?_) (fun h45 => ?_)
                  · exact e_Ok.run 1 rfl (hJ47 0 (by omega))
                  · exact e_Ok.run 2 rfl (hJ47 1 (by omega))
          refine e_Ok.sub eAlk (e_sub_of rfl ?_) (hL15 (5 + 1 : Int).toNat m13 0 (by omega) (by omega))
          exact ⟨rfl, rfl, rfl, rfl, trivial⟩
        refine e_Ok.if2 rfl (fun h12 => ?_) (fun h12 => ?_)
        · exact e_Ok.run 1 rfl (hJ14 0 (by omega))
        · exact e_Ok.run 2 rfl (hJ14 1 (by omega))
  refine e_Ok.sub eAlk (e_sub_of rfl ?_) (hL1 (33 + 1 : Int).toNat 0 w ⟨(e_fr.refl w), hT, by omega⟩ (by omega))
  exact ⟨rfl, rfl, trivial⟩
end
end
-- part 85
section
noncomputable section
/-! tasks: what stands of a task between its turns -/
def Gh : Type := (Int × Int × Int) × ((Int → Int) × (Int → Int) × (Int → Int) × (Int → Int)) × ((Int → Int → Prop) × (Int → Int → Prop))
def Gh.n (G : Gh) : Int := G.1.1
def Gh.nt (G : Gh) : Int := G.1.2.1
def Gh.nw (G : Gh) : Int := G.1.2.2
def Gh.dl (G : Gh) : Int → Int := G.2.1.1
def Gh.sg (G : Gh) : Int → Int := G.2.1.2.1
def Gh.pi (G : Gh) : Int → Int := G.2.1.2.2.1
def Gh.en (G : Gh) : Int → Int := G.2.1.2.2.2
def Gh.an (G : Gh) : Int → Int → Prop := G.2.2.1
def Gh.br (G : Gh) : Int → Int → Prop := G.2.2.2
def gC (w : eW) (G : Int → Gh) (a : Int) : Prop := cOk w a (G a).n (G a).nt (G a).nw (G a).dl (G a).sg (G a).pi (G a).en (G a).an (G a).br
def gT (w : eW) (G : Int → Gh) (a t g p : Int) (bs ow : Int → Int) : Prop := topOk w a t g p (G a).n (G a).nt (G a).nw (G a).dl (G a).sg (G a).pi (G a).an (G a).br bs ow
def gAll (w : eW) (G : Int → Gh) : Prop := ∀ a, 0 ≤ a → a ≤ 3 → gC w G a
theorem gAll.fr {w w' : eW} {G : Int → Gh} (h : gAll w G) (e : ∀ c k, 328 ≤ c → c ≤ 338 → w' c k = w c k) : gAll w' G := fun a g1 g2 => cOk.fr e (h a g1 g2)
/-- the task u, where it acts, stands at a place of its arm's program -/
def tkOk (w : eW) (G : Int → Gh) (u : Int) : Prop := 1 ≤ w 276 (1260 * u + 416) → w 276 (1260 * u + 416) ≤ 5 → ∃ (a g p : Int) (bs ow : Int → Int), (0 ≤ a ∧ a ≤ 3) ∧ w 276 (1260 * u + 417) = a ∧ gT w G a u g p bs ow ∧ (G a).dl p = 0 ∧ (0 ≤ w 276 (1260 * u + 424) → w 276 (1260 * u + 425) < w 338 a)
/-- what tkOk reads of a task -/
def tkK (u k : Int) : Prop := k = 1260 * u + 417 ∨ k = 1260 * u + 424 ∨ k = 1260 * u + 425 ∨ k = 1260 * u + 428 ∨ k = 1260 * u + 429 ∨ (1260 * u + 436 ≤ k ∧ k ≤ 1260 * u + 1675)
theorem gT.fr {w w' : eW} {G : Int → Gh} {a t g p : Int} {bs ow : Int → Int} (hC : gC w G a) (h : gT w G a t g p bs ow) (e : ∀ c k, 328 ≤ c → c ≤ 338 → w' c k = w c k) (hf : ∀ k, tkK t k → w' 276 k = w 276 k) : gT w' G a t g p bs ow := by
  obtain ⟨h1, h2, h3⟩ := h
  have hr := h3.2.2.2.1
  have hg := h3.1
  have hp := hC.2.2.2.1.2.1 _ hr.1 hr.2
  refine runOk.at (runOk.fr e (fun i q1 q2 => ⟨hf _ (by unfold tkK; omega), hf _ (by unfold tkK; omega)⟩) (hf _ (by unfold tkK; omega)) (hf _ (by unfold tkK; omega)) (fun k q1 q2 => hf _ (by unfold tkK; omega)) hp.2 h3) h1 (Eq.trans (hf _ (by unfold tkK; omega)) h2) (e 330 _ (by omega) (by omega))
theorem tkOk.fr {w w' : eW} {G : Int → Gh} {u : Int} (hA : gAll w G) (h : tkOk w G u) (e : ∀ c k, 328 ≤ c → c ≤ 338 → w' c k = w c k) (hs : w' 276 (1260 * u + 416) = w 276 (1260 * u + 416)) (hf : ∀ k, tkK u k → w' 276 k = w 276 k) : tkOk w' G u := by
  intro q1 q2
  rw [hs] at q1 q2
  obtain ⟨a, g, p, bs, ow, ha, h1, h2, h3, h4⟩ := h q1 q2
  refine ⟨a, g, p, bs, ow, ha, Eq.trans (hf _ (by unfold tkK; omega)) h1, h2.fr (hA a ha.1 ha.2) e hf, h3, ?_⟩
  rw [hf (1260 * u + 424) (by unfold tkK; omega), hf (1260 * u + 425) (by unfold tkK; omega), e 338 _ (by omega) (by omega)]
  exact h4
theorem tkOk.not {w : eW} {G : Int → Gh} {u : Int} (h : w 276 (1260 * u + 416) < 1 ∨ 5 < w 276 (1260 * u + 416)) : tkOk w G u := fun q1 q2 => by omega
/-- a new task -/
theorem tkOk.new {w w' : eW} {G : Int → Gh} {a z q : Int} (hC : gC w G a) (ha : 0 ≤ a ∧ a ≤ 3) (hq : 0 ≤ q ∧ q < w 338 a) (e : ∀ c k, 328 ≤ c → c ≤ 338 → w' c k = w c k) (h1 : w' 276 (1260 * z + 417) = a) (h2 : w' 276 (1260 * z + 424) = -1) (h3 : w' 276 (1260 * z + 428) = 1) (h4 : w' 276 (1260 * z + 429) = 0) (h5 : w' 276 (1260 * z + 436) = w 337 (32 * a + q)) : tkOk w' G z := by
  intro _ _
  have ht := hC.2.2.2.2.2.2 q hq.1 hq.2
  unfold tgt at ht
  obtain ⟨t1, t2, t3, t4, t5⟩ := ht
  have hc1 := hC.1
  have hpi := hC.2.2.2.1
  refine ⟨a, 0, w 337 (32 * a + q), fun _ => 0, fun _ => 0, ha, h1, ?_, t3, fun e => by omega⟩
  refine runOk.at (r := -1) ?_ ⟨t1, t2⟩ (by rw [show 1260 * z + 2 * 0 + 436 = 1260 * z + 436 by omega]; exact h5) (Eq.trans (e 330 _ (by omega) (by omega)) t5)
  refine ⟨by omega, by omega, ⟨rfl, fun i g1 g2 => ⟨Int.le_refl 0, show (0 : Int) ≤ 30 * i by omega⟩, fun i j g1 g2 g3 => Int.le_refl 0, fun i g1 g2 => by omega⟩, by omega, ?_, fun y g1 g2 g3 => ?_, fun j g1 g2 => ?_⟩
  · show w' 276 (1260 * z + 429) = 0 + (G a).pi (-1)
    rw [h4, hpi.1]; rfl
  · have := hpi.2.2.2.1 y g1
    omega
  · have q1 : (G a).pi (-1) = 0 := hpi.1
    replace g2 : j < 0 + (G a).pi (-1) := g2
    omega
theorem tkOk.hop {S : Int → Int → Prop} {w w' : eW} {G : Int → Gh} {v : Int} (hA : gAll w G) (h : tkOk w G v) (hF : e_fr S w w') (hS : ∀ c k, S c k → ¬ (328 ≤ c ∧ c ≤ 338) ∧ (c = 276 → k ≠ 1260 * v + 416 ∧ ¬ tkK v k)) : tkOk w' G v :=
  tkOk.fr hA h (fun c k q1 q2 => hF c k (fun q => (hS c k q).1 ⟨q1, q2⟩)) (hF _ _ (fun q => ((hS _ _ q).2 rfl).1 rfl)) (fun k q1 => hF _ _ (fun q => ((hS _ _ q).2 rfl).2 q1))
/-- what an act of the task t begins with -/
def actOk (w : eW) (G : Int → Gh) (t a g p : Int) (bs ow : Int → Int) : Prop :=
  gT w G a t g p bs ow ∧ w 275 102 = (G a).dl p ∧ (∀ i, 0 ≤ i → i ≤ (G a).dl p - 1 → -2147483648 ≤ w 345 i ∧ w 345 i ≤ 2147483647) ∧ ((G a).sg p = 0 → (G a).dl p = 0) ∧ w 276 (1260 * t + 416) = 1 ∧ (0 ≤ w 276 (1260 * t + 424) → w 276 (1260 * t + 425) < w 338 a) ∧ (0 ≤ w 275 99 ∧ w 275 99 ≤ 20)
/-- a turn's measure -/
def muR (w : eW) (t : Int) (s : Int) : Int := if s = 1 then 1 else if 0 ≤ w 276 (1260 * t + 424) ∧ w 276 (w 276 (1260 * t + 424) + 352) ≠ w 276 (1260 * t + 426) then 1 else 0
def muI (o g p s : Int) : Int := if o = 30 then 0 else 1 + (g + 1) * 20000 + (10000 - p) + (if s = 1 then 1000000 else 0)
def mu2 (w : eW) (t a g p s : Int) : Int := ((20 - w 275 99) * 2 + muR w t s) * 4000000 + muI (w 328 (10000 * a + p)) g p s
theorem muR_b (w : eW) (t s : Int) : 0 ≤ muR w t s ∧ muR w t s ≤ 1 := by
  unfold muR
  split
  · omega
  · split <;> omega
theorem muI_b {o g p s : Int} (hg : 0 ≤ g ∧ g ≤ 19) (hp : 0 ≤ p ∧ p ≤ 10000) : 0 ≤ muI o g p s ∧ muI o g p s ≤ 1500000 := by
  unfold muI
  split
  · omega
  · split <;> omega
theorem mu2_b {w : eW} {t a g p s : Int} (hb : 0 ≤ w 275 99 ∧ w 275 99 ≤ 20) (hg : 0 ≤ g ∧ g ≤ 19) (hp : 0 ≤ p ∧ p ≤ 10000) : 0 ≤ mu2 w t a g p s ∧ mu2 w t a g p s ≤ 200000000 := by
  have h1 := muR_b w t s
  have h2 := muI_b (o := w 328 (10000 * a + p)) (s := s) hg hp
  unfold mu2
  omega
/-- a BEGIN is passed -/
theorem mu2_begin {w w' : eW} {t a g p g' p' s s' : Int} (hb : w 275 99 < 20) (h9 : w' 275 99 = w 275 99 + 1) (hg : 0 ≤ g ∧ g ≤ 19) (hp : 0 ≤ p ∧ p ≤ 10000) (hg' : 0 ≤ g' ∧ g' ≤ 19) (hp' : 0 ≤ p' ∧ p' ≤ 10000) : mu2 w' t a g' p' s' < mu2 w t a g p s := by
  have h1 := muR_b w t s
  have h2 := muI_b (o := w 328 (10000 * a + p)) (s := s) hg hp
  have h3 := muR_b w' t s'
  have h4 := muI_b (o := w' 328 (10000 * a + p')) (s := s') hg' hp'
  unfold mu2
  omega
/-- the watch is seen -/
theorem mu2_watch {w w' : eW} {t a g p g' p' s : Int} (h9 : w' 275 99 = w 275 99) (hs : s = 0) (h1 : 0 ≤ w 276 (1260 * t + 424)) (h2 : w 276 (w 276 (1260 * t + 424) + 352) ≠ w 276 (1260 * t + 426)) (h3 : w' 276 (1260 * t + 424) = w 276 (1260 * t + 424)) (h4 : w' 276 (w 276 (1260 * t + 424) + 352) = w 276 (w 276 (1260 * t + 424) + 352)) (h5 : w' 276 (1260 * t + 426) = w 276 (w 276 (1260 * t + 424) + 352)) (hg : 0 ≤ g ∧ g ≤ 19) (hp : 0 ≤ p ∧ p ≤ 10000) (hg' : 0 ≤ g' ∧ g' ≤ 19) (hp' : 0 ≤ p' ∧ p' ≤ 10000) : mu2 w' t a g' p' 0 < mu2 w t a g p s := by
  have e1 : muR w t s = 1 := by unfold muR; rw [if_neg (by omega), if_pos ⟨h1, h2⟩]
  have e2 : muR w' t 0 = 0 := by unfold muR; rw [if_neg (by omega), h3, h4, h5, if_neg (by omega)]
  have h6 := muI_b (o := w 328 (10000 * a + p)) (s := s) hg hp
  have h7 := muI_b (o := w' 328 (10000 * a + p')) (s := 0) hg' hp'
  unfold mu2
  omega
/-- inside a statement, or out of it -/
theorem mu2_in {w w' : eW} {t a g p g' p' s' : Int} (h9 : w' 275 99 = w 275 99) (ho : w 328 (10000 * a + p) ≠ 30) (h : (s' = 1 ∧ g' = g ∧ p < p') ∨ s' = 0) (hg : 0 ≤ g ∧ g ≤ 19) (hp : 0 ≤ p ∧ p ≤ 10000) (hg' : 0 ≤ g' ∧ g' ≤ 19) (hp' : 0 ≤ p' ∧ p' ≤ 10000) : mu2 w' t a g' p' s' < mu2 w t a g p 1 := by
  have e1 : muR w t 1 = 1 := by unfold muR; rw [if_pos rfl]
  have h2 := muR_b w' t s'
  have e3 : muI (w 328 (10000 * a + p)) g p 1 = 1 + (g + 1) * 20000 + (10000 - p) + 1000000 := by unfold muI; rw [if_neg ho, if_pos rfl]
  have e4 : muI (w' 328 (10000 * a + p')) g' p' s' < 1 + (g + 1) * 20000 + (10000 - p) + 1000000 := by
    unfold muI
    split
    · omega
    · split <;> omega
  unfold mu2
  omega
/-- between statements -/
theorem mu2_out {w w' : eW} {t a g p g' p' : Int} (h9 : w' 275 99 = w 275 99) (ho : w 328 (10000 * a + p) ≠ 30) (h328 : w' 328 (10000 * a + p') = w 328 (10000 * a + p')) (hq : ∀ k, (352 ≤ k ∧ k ≤ 415) ∨ k = 1260 * t + 424 ∨ k = 1260 * t + 426 → w' 276 k = w 276 k) (hw : w 276 (1260 * t + 424) ≤ 63) (h : (g' ≤ g ∧ (g' = g → p < p')) ∨ w 328 (10000 * a + p') = 30) (hg : 0 ≤ g ∧ g ≤ 19) (hp : 0 ≤ p ∧ p ≤ 10000) (hg' : 0 ≤ g' ∧ g' ≤ 19) (hp' : 0 ≤ p' ∧ p' ≤ 10000) : mu2 w' t a g' p' 0 < mu2 w t a g p 0 := by
  have e1 : muR w' t 0 = muR w t 0 := by
    unfold muR
    rw [if_neg (show ¬ (0 : Int) = 1 by decide), if_neg (show ¬ (0 : Int) = 1 by decide), hq (1260 * t + 424) (by omega), hq (1260 * t + 426) (by omega)]
    by_cases e : 0 ≤ w 276 (1260 * t + 424)
    · rw [hq (w 276 (1260 * t + 424) + 352) (by omega)]
    · rw [if_neg (fun q => e q.1), if_neg (fun q => e q.1)]
  have e2 : muI (w' 328 (10000 * a + p')) g' p' 0 < muI (w 328 (10000 * a + p)) g p 0 := by
    rw [h328]
    unfold muI
    rw [if_neg ho, if_neg (show ¬ (0 : Int) = 1 by decide)]
    by_cases e : w 328 (10000 * a + p') = 30
    · rw [if_pos e]; omega
    · rw [if_neg e]
      have q := h.resolve_right e
      omega
  unfold mu2
  omega
end
end
-- part 86
section
noncomputable section
def mOt (t c k : Int) : Prop := (c = 275 ∧ (k = 100 ∨ k = 102)) ∨ c = 326 ∨ c = 327 ∨ mGr c k ∨ (c = 276 ∧ ((160 ≤ k ∧ k ≤ 223) ∨ (352 ≤ k ∧ k ≤ 415) ∨ (20868 ≤ k ∧ k ≤ 20875) ∨ k = 6 ∨ k = 1260 * t + 416 ∨ k = 1260 * t + 421 ∨ k = 1260 * t + 422 ∨ k = 1260 * t + 424 ∨ k = 1260 * t + 425 ∨ k = 1260 * t + 426))
theorem no_86_0 : ¬ mO 276 5 := by unfold mO; omega
theorem no_86_1 {t : Int} (ht : 0 ≤ t ∧ t ≤ 15) : ¬ mO 276 (1260 * t + 424) := by unfold mO; omega
theorem no_86_2 {t : Int} (ht : 0 ≤ t ∧ t ≤ 15) : ¬ mO 276 (1260 * t + 425) := by unfold mO; omega
theorem no_86_3 {k : Int} : ¬ mO 275 k := by unfold mO; omega
theorem no_86_4 {b : Int} (hb : 0 ≤ b ∧ b ≤ 3) : ¬ mO 276 (36 * b + 20) := by unfold mO; omega
theorem no_86_5 {t : Int} (ht : 0 ≤ t ∧ t ≤ 15) : ¬ mO 276 (1260 * t + 416) := by unfold mO; omega
theorem no_86_6 {t : Int} (ht : 0 ≤ t ∧ t ≤ 15) : ¬ mTk t 276 5 := by unfold mTk; omega
theorem no_86_7 {t : Int} (ht : 0 ≤ t ∧ t ≤ 15) : ¬ mTk t 276 (1260 * t + 424) := by unfold mTk; omega
theorem no_86_8 {t : Int} (ht : 0 ≤ t ∧ t ≤ 15) : ¬ mTk t 276 (1260 * t + 425) := by unfold mTk; omega
theorem no_86_9 {t : Int} : ¬ mTk t 275 102 := by unfold mTk; omega
theorem no_86_10 {t : Int} {b : Int} (ht : 0 ≤ t ∧ t ≤ 15) (hb : 0 ≤ b ∧ b ≤ 3) : ¬ mTk t 276 (36 * b + 20) := by unfold mTk; omega
theorem no_86_11 : ¬ mLk 276 5 := by unfold mLk; omega
theorem no_86_12 {t : Int} (ht : 0 ≤ t ∧ t ≤ 15) : ¬ mLk 276 (1260 * t + 424) := by unfold mLk; omega
theorem no_86_13 {t : Int} (ht : 0 ≤ t ∧ t ≤ 15) : ¬ mLk 276 (1260 * t + 425) := by unfold mLk; omega
theorem no_86_14 {k : Int} : ¬ mLk 275 k := by unfold mLk; omega
theorem no_86_15 {b : Int} (hb : 0 ≤ b ∧ b ≤ 3) : ¬ mLk 276 (36 * b + 20) := by unfold mLk; omega
theorem no_86_16 {t : Int} (ht : 0 ≤ t ∧ t ≤ 15) : ¬ mLk 276 (1260 * t + 416) := by unfold mLk; omega
theorem no_86_17 {t : Int} (ht : 0 ≤ t ∧ t ≤ 15) : ¬ mGr 276 (1260 * t + 424) := by unfold mGr; omega
theorem no_86_18 {t : Int} (ht : 0 ≤ t ∧ t ≤ 15) : ¬ mGr 276 (1260 * t + 425) := by unfold mGr; omega
theorem no_86_19 {k : Int} : ¬ mGr 275 k := by unfold mGr; omega
theorem no_86_20 {t : Int} (ht : 0 ≤ t ∧ t ≤ 15) : ¬ mGr 276 (1260 * t + 416) := by unfold mGr; omega
theorem su_86_21 {t : Int} {c k : Int} (q : mO c k) : mOt t c k := by
  unfold mO at q
  rcases q with ⟨q, (⟨q, q⟩ | ⟨q, q⟩)⟩ | q | q
  · exact Or.inr (Or.inr (Or.inr (Or.inr ⟨(by omega), Or.inl ⟨(by omega), (by omega)⟩⟩)))
  · exact Or.inr (Or.inr (Or.inr (Or.inr ⟨(by omega), Or.inr (Or.inl ⟨(by omega), (by omega)⟩)⟩)))
  · exact Or.inr (Or.inl (by omega))
  · exact Or.inr (Or.inr (Or.inl (by omega)))
theorem su_86_22 {t : Int} {c k : Int} (q : mTk t c k) : mOt t c k := by
  unfold mTk at q
  rcases q with ⟨q, q⟩ | ⟨q, (⟨q, q⟩ | q | q | q | q)⟩
  · exact Or.inl ⟨(by omega), Or.inl (by omega)⟩
  · exact Or.inr (Or.inr (Or.inr (Or.inr ⟨(by omega), Or.inr (Or.inr (Or.inl ⟨(by omega), (by omega)⟩))⟩)))
  · exact Or.inr (Or.inr (Or.inr (Or.inr ⟨(by omega), Or.inr (Or.inr (Or.inr (Or.inl (by omega))))⟩)))
  · exact Or.inr (Or.inr (Or.inr (Or.inr ⟨(by omega), Or.inr (Or.inr (Or.inr (Or.inr (Or.inl (by omega)))))⟩)))
  · exact Or.inr (Or.inr (Or.inr (Or.inr ⟨(by omega), Or.inr (Or.inr (Or.inr (Or.inr (Or.inr (Or.inl (by omega))))))⟩)))
  · exact Or.inr (Or.inr (Or.inr (Or.inr ⟨(by omega), Or.inr (Or.inr (Or.inr (Or.inr (Or.inr (Or.inr (Or.inl (by omega)))))))⟩)))
theorem su_86_23 {t : Int} {c k : Int} (q : mLk c k) : mOt t c k := by
  unfold mLk at q
  rcases q with ⟨q, ⟨q, q⟩⟩
  · exact Or.inr (Or.inr (Or.inr (Or.inr ⟨(by omega), Or.inr (Or.inr (Or.inl ⟨(by omega), (by omega)⟩))⟩)))
set_option maxHeartbeats 4000000 in
theorem c_378 {d : Nat} (hd : 31 ≤ d) {w : eW} (hT : e_Has mTy w) (hA : mAc w) (hOr : mOr w (w 275 40)) {t a o x D : Int} (ht : 0 ≤ t ∧ t ≤ 15) (ha : 0 ≤ a ∧ a ≤ 3) (h96 : w 275 96 = t) (h97 : w 275 97 = 1260 * t + 416) (h98 : w 275 98 = a) (ho : o = 35 ∨ o = 36 ∨ o = 37 ∨ o = 42 ∨ o = 43 ∨ o = 44) (hD2 : o = 35 → D = 2) (hD1 : o = 36 ∨ o = 37 ∨ o = 44 → D = 1) (hD0 : o = 42 ∨ o = 43 → D = 0) (hx : o = 44 → 0 ≤ x ∧ x < w 338 a) (hW : 0 ≤ w 276 (1260 * t + 424) → w 276 (1260 * t + 425) < w 338 a) (h102 : w 275 102 = D) (hst : e_kn w 345 0 (D - 1)) (hE : w 276 5 ≤ 2147483600) : e_Ok 20 elay ecode eI d 378 (0, [(0, (1, 275)), (1, (0, o)), (2, (0, x))], [], w) (fun r w' => ∃ z : Int, r = [(0, z)] ∧ (0 ≤ z ∧ z ≤ 10) ∧ e_fr (mOt t) w w' ∧ e_Has mTy w' ∧ (w 276 5 ≤ w' 276 5 ∧ w' 276 5 ≤ w 276 5 + 1) ∧ mOr w' (w 275 40) ∧ (∀ b, 0 ≤ b → b ≤ 3 → w' 276 (36 * b + 20) = 0 ∨ w' 276 (36 * b + 20) = w 276 (36 * b + 20)) ∧ w' 275 102 = 0 ∧ (0 ≤ w' 276 (1260 * t + 424) → w' 276 (1260 * t + 425) < w 338 a) ∧ ((w' 275 100 = w 275 100 ∧ w' 276 (1260 * t + 416) = w 276 (1260 * t + 416)) ∨ (z = 0 ∧ w' 275 100 = 1 ∧ w' 276 (1260 * t + 416) = 5))) := by
  obtain ⟨d, rfl⟩ : ∃ e, d = e + 1 := ⟨d - 1, by omega⟩
  have hpp := e_Has.get hT (c := 275) (k := 40) (lo := 0) (hi := 32) (mt_o rfl) (by decide)
  have hrn := e_Has.get hT (c := 338) (k := a) (lo := 0) (hi := 32) (mt_o rfl) (by decide)
  refine e_Ok.ps1 (x := (0, o)) (q := 1) 1 rfl ?_
  have hs2 : ∀ x : Int, 35 ≤ x ∧ x ≤ 44 ∧ x ≠ 38 ∧ x ≠ 39 ∧ x ≠ 40 ∧ x ≠ 41 → (x = 35) ∨ (x = 36) ∨ (x = 37) ∨ (x = 42) ∨ (x = 43) ∨ (x = 44) := fun x h => by omega
  obtain h1 | h1 | h1 | h1 | h1 | h1 := hs2 (o) (by omega)
  · refine e_Ok.sw (tg := 56) rfl (by rw [h1]; rfl) ?_
    have hD : D = 2 := by omega
    refine e_Ok.run (t' := (57, [(0, (1, 275)), (1, (0, o)), (2, (0, x))], [(1, 275)], w)) 1 rfl ?_
    refine e_Ok.callV rfl (e_dq hd rfl) rfl rfl rfl rfl (c_364 hT (e := D) (u := D - 1) h102 (by omega) (by omega) (by have q : w 345 (D - 1) = w 345 (D - 1) := rfl; have q2 := (hst (D - 1) (by omega) (by omega)); omega)) (fun r3 w4 h5 => ?_)
    obtain ⟨rfl, hw4⟩ := h5
    generalize hz6 : w 345 (D - 1) = z6
    have z6r : z6 = w 345 (D - 1) := Eq.trans hz6.symm rfl
    have z6b : -2147483648 ≤ z6 ∧ z6 ≤ 2147483647 := by rw [← hz6]; exact (by have q : w 345 (D - 1) = w 345 (D - 1) := rfl; have q2 := (hst (D - 1) (by omega) (by omega)); omega)
    have hT8 : e_Has mTy w4 := e_Has.ups hT hw4 (mt_o rfl)
    refine e_Ok.nrm (q := 60) (st' := [(0, z6)]) rfl rfl ?_
    refine e_Ok.run (t' := (62, [(3, (0, z6)), (0, (1, 275)), (1, (0, o)), (2, (0, x))], [(1, 275)], w4)) 2 rfl ?_
    refine e_Ok.callV rfl (e_dq hd rfl) rfl rfl rfl rfl (c_364 hT8 (e := D - 1) (u := D - 2) (e_ue hw4) (by omega) (by omega) (by have q : w4 345 (D - 2) = w 345 (D - 2) := (e_uq hw4 (Or.inl (by first | decide | omega)) rfl); have q2 := (hst (D - 2) (by omega) (by omega)); omega)) (fun r9 w10 h11 => ?_)
    obtain ⟨rfl, hw10⟩ := h11
    generalize hz12 : w4 345 (D - 2) = z12
    have z12r : z12 = w 345 (D - 2) := Eq.trans hz12.symm (e_uq hw4 (Or.inl (by first | decide | omega)) rfl)
    have z12b : -2147483648 ≤ z12 ∧ z12 ≤ 2147483647 := by rw [← hz12]; exact (by have q : w4 345 (D - 2) = w 345 (D - 2) := (e_uq hw4 (Or.inl (by first | decide | omega)) rfl); have q2 := (hst (D - 2) (by omega) (by omega)); omega)
    have f13 : e_fr (mOt t) w w10 := e_fr.up (show e_fr (mOt t) w w4 from e_fr.up (e_fr.refl w) hw4 (by unfold mOt mGr; omega)) hw10 (by unfold mOt mGr; omega)
    have hT14 : e_Has mTy w10 := e_Has.ups hT8 hw10 (mt_o rfl)
    refine e_Ok.nrm (q := 65) (st' := [(0, z12)]) rfl rfl ?_
    refine e_Ok.run (t' := (74, [(4, (0, z12)), (3, (0, z6)), (0, (1, 275)), (1, (0, o)), (2, (0, x))], [(4, 63), (4, 0), (4, z12)], w10)) 5 rfl ?_
    refine e_Ok.callS rfl (e_dq hd rfl) rfl rfl (c_266) (fun r15 w16 h17 => ?_)
    obtain ⟨z18, rfl, rfl, q19⟩ := h17
    obtain ⟨rfl, q19⟩ | ⟨rfl, q19⟩ := q19
    · refine e_Ok.nrm (q := 77) (st' := [(0, 1)]) rfl rfl ?_
      refine e_Ok.if1 rfl (fun h20 => ?_) (fun h20 => ?_)
      · replace h20 : (1 : Int) ≠ 0 := h20
        refine e_Ok.ps3 (x := (0, z6)) (y := (0, z12)) (z := (1, 275)) (q := 86) 3 rfl ?_
        refine e_Ok.callV rfl (e_dq hd rfl) rfl rfl rfl rfl (c_323 (e_dq hd rfl) hT14 (mAc.fr' (fun k q => by revert q; unfold mOt mGr; omega) f13 hA) (by omega) (by omega)) (fun r21 w22 h23 => ?_)
        obtain ⟨rfl, q24, q24T⟩ := h23
        refine e_Ok.nrm (q := 89) (st' := []) rfl rfl ?_
        refine e_Ok.ps1 (x := (0, 0)) (q := 90) 1 rfl ?_
        refine e_Ok.rets rfl rfl ?_
        have e26 : w22 276 5 = w 276 5 := ((q24 276 5 no_86_0).trans (e_uq hw10 (Or.inl (by omega)) (e_uq hw4 (Or.inl (by omega)) rfl)))
        have ew8 : w22 276 (1260 * t + 424) = w 276 (1260 * t + 424) := ((q24 276 (1260 * t + 424) (by first | exact no_86_1 (by omega) | (unfold mO; omega))).trans (e_uq hw10 (Or.inl (by omega)) (e_uq hw4 (Or.inl (by omega)) rfl)))
        have ew9 : w22 276 (1260 * t + 425) = w 276 (1260 * t + 425) := ((q24 276 (1260 * t + 425) (by first | exact no_86_2 (by omega) | (unfold mO; omega))).trans (e_uq hw10 (Or.inl (by omega)) (e_uq hw4 (Or.inl (by omega)) rfl)))
        have edp : w22 275 102 = D - 2 := ((q24 275 102 no_86_3).trans (e_ue hw10))
        exact ⟨_, rfl, by omega, (show e_fr (mOt t) w w22 from e_fr.trans f13 (e_fr.mono q24 (fun c k q => by first | exact su_86_21 q | (unfold mO at q; unfold mOt mGr; omega)))), q24T, by omega, (mOr.fr hOr (by omega) (e_Has.orn hT) (e_Has.orw hT (by omega)) (fun k q => by unfold orK at q; exact ((q24 276 k (by unfold mO; omega)).trans (e_uq hw10 (Or.inl (by omega)) (e_uq hw4 (Or.inl (by omega)) rfl))))), (fun b g1 g2 => Or.inr ((q24 276 (36 * b + 20) (by first | exact no_86_4 (by omega) | (unfold mO; omega))).trans (e_uq hw10 (Or.inl (by omega)) (e_uq hw4 (Or.inl (by omega)) rfl)))), by omega, (fun e => by have := hW (by omega); omega), Or.inl ⟨((q24 275 100 no_86_3).trans (e_uq hw10 (Or.inr (by omega)) (e_uq hw4 (Or.inr (by omega)) rfl))), ((q24 276 (1260 * t + 416) (by first | exact no_86_5 (by omega) | (unfold mO; omega))).trans (e_uq hw10 (Or.inl (by omega)) (e_uq hw4 (Or.inl (by omega)) rfl)))⟩⟩
      · replace h20 : (1 : Int) = 0 := Classical.not_not.mp (show ¬ ((1 : Int) ≠ 0) from h20)
        exfalso; omega
    · refine e_Ok.nrm (q := 77) (st' := [(0, 0)]) rfl rfl ?_
      refine e_Ok.if1 rfl (fun h27 => ?_) (fun h27 => ?_)
      · replace h27 : (0 : Int) ≠ 0 := h27
        exfalso; omega
      · replace h27 : (0 : Int) = 0 := Classical.not_not.mp (show ¬ ((0 : Int) ≠ 0) from h27)
        refine e_Ok.ps1 (x := (0, 2)) (q := 81) 1 rfl ?_
        refine e_Ok.rets rfl rfl ?_
        have e28 : w10 276 5 = w 276 5 := (e_uq hw10 (Or.inl (by omega)) (e_uq hw4 (Or.inl (by omega)) rfl))
        have ew8 : w10 276 (1260 * t + 424) = w 276 (1260 * t + 424) := (e_uq hw10 (Or.inl (by omega)) (e_uq hw4 (Or.inl (by omega)) rfl))
        have ew9 : w10 276 (1260 * t + 425) = w 276 (1260 * t + 425) := (e_uq hw10 (Or.inl (by omega)) (e_uq hw4 (Or.inl (by omega)) rfl))
        have edp : w10 275 102 = D - 2 := (e_ue hw10)
        exact ⟨_, rfl, by omega, f13, hT14, by omega, (mOr.fr hOr (by omega) (e_Has.orn hT) (e_Has.orw hT (by omega)) (fun k q => by unfold orK at q; exact (e_uq hw10 (Or.inl (by omega)) (e_uq hw4 (Or.inl (by omega)) rfl)))), (fun b g1 g2 => Or.inr (e_uq hw10 (Or.inl (by omega)) (e_uq hw4 (Or.inl (by omega)) rfl))), by omega, (fun e => by have := hW (by omega); omega), Or.inl ⟨(e_uq hw10 (Or.inr (by omega)) (e_uq hw4 (Or.inr (by omega)) rfl)), (e_uq hw10 (Or.inl (by omega)) (e_uq hw4 (Or.inl (by omega)) rfl))⟩⟩
  · refine e_Ok.sw (tg := 91) rfl (by rw [h1]; rfl) ?_
    have hD : D = 1 := by omega
    refine e_Ok.run (t' := (93, [(0, (1, 275)), (1, (0, o)), (2, (0, x))], [(1, 275), (1, 275)], w)) 2 rfl ?_
    refine e_Ok.callV rfl (e_dq hd rfl) rfl rfl rfl rfl (c_364 hT (e := D) (u := D - 1) h102 (by omega) (by omega) (by have q : w 345 (D - 1) = w 345 (D - 1) := rfl; have q2 := (hst (D - 1) (by omega) (by omega)); omega)) (fun r29 w30 h31 => ?_)
    obtain ⟨rfl, hw30⟩ := h31
    generalize hz32 : w 345 (D - 1) = z32
    have z32r : z32 = w 345 (D - 1) := Eq.trans hz32.symm rfl
    have z32b : -2147483648 ≤ z32 ∧ z32 ≤ 2147483647 := by rw [← hz32]; exact (by have q : w 345 (D - 1) = w 345 (D - 1) := rfl; have q2 := (hst (D - 1) (by omega) (by omega)); omega)
    have hT34 : e_Has mTy w30 := e_Has.ups hT hw30 (mt_o rfl)
    refine e_Ok.nrm (q := 96) (st' := [(0, z32), (1, 275)]) rfl rfl ?_
    refine e_Ok.callV rfl (e_dq hd rfl) rfl rfl rfl rfl (c_379 (e_dq hd rfl) hT34 (by omega) (e_uq hw30 (Or.inr (by omega)) h96) (e_uq hw30 (Or.inr (by omega)) h97) (by omega)) (fun r35 w36 h37 => ?_)
    obtain ⟨z38, rfl, q40, q40T, q40k⟩ := h37
    have z38b : 0 ≤ z38 ∧ z38 ≤ 9 := by omega
    refine e_Ok.nrm (q := 99) (st' := [(0, z38)]) rfl rfl ?_
    refine e_Ok.rets rfl rfl ?_
    have e42 : w36 276 5 = w 276 5 := ((q40 276 5 (by first | exact no_86_6 (by omega) | (unfold mTk; omega))).trans (e_uq hw30 (Or.inl (by omega)) rfl))
    have ew8 : w36 276 (1260 * t + 424) = w 276 (1260 * t + 424) := ((q40 276 (1260 * t + 424) (by first | exact no_86_7 (by omega) | (unfold mTk; omega))).trans (e_uq hw30 (Or.inl (by omega)) rfl))
    have ew9 : w36 276 (1260 * t + 425) = w 276 (1260 * t + 425) := ((q40 276 (1260 * t + 425) (by first | exact no_86_8 (by omega) | (unfold mTk; omega))).trans (e_uq hw30 (Or.inl (by omega)) rfl))
    have edp : w36 275 102 = D - 1 := ((q40 275 102 (by first | exact no_86_9 | (unfold mTk; omega))).trans (e_ue hw30))
    exact ⟨_, rfl, by omega, (show e_fr (mOt t) w w36 from e_fr.trans (show e_fr (mOt t) w w30 from e_fr.up (e_fr.refl w) hw30 (by unfold mOt mGr; omega)) (e_fr.mono q40 (fun c k q => by first | exact su_86_22 q | (unfold mTk at q; unfold mOt mGr; omega)))), q40T, by omega, (mOr.fr hOr (by omega) (e_Has.orn hT) (e_Has.orw hT (by omega)) (fun k q => by unfold orK at q; exact ((q40 276 k (by unfold mTk; omega)).trans (e_uq hw30 (Or.inl (by omega)) rfl)))), (fun b g1 g2 => Or.inr ((q40 276 (36 * b + 20) (by first | exact no_86_10 (by omega) (by omega) | (unfold mTk; omega))).trans (e_uq hw30 (Or.inl (by omega)) rfl))), by omega, (fun e => by have := hW (by omega); omega), q40k.elim (fun h => Or.inl ⟨h.2.1.trans (e_uq hw30 (Or.inr (by omega)) rfl), h.2.2.1.trans (e_uq hw30 (Or.inl (by omega)) rfl)⟩) (fun h => h.elim (fun h => Or.inl ⟨h.2.1.trans (e_uq hw30 (Or.inr (by omega)) rfl), h.2.2.trans (e_uq hw30 (Or.inl (by omega)) rfl)⟩) (fun h => Or.inr ⟨h.1, h.2.1, h.2.2⟩))⟩
  · refine e_Ok.sw (tg := 100) rfl (by rw [h1]; rfl) ?_
    have hD : D = 1 := by omega
    refine e_Ok.run (t' := (101, [(0, (1, 275)), (1, (0, o)), (2, (0, x))], [(1, 275)], w)) 1 rfl ?_
    refine e_Ok.callV rfl (e_dq hd rfl) rfl rfl rfl rfl (c_364 hT (e := D) (u := D - 1) h102 (by omega) (by omega) (by have q : w 345 (D - 1) = w 345 (D - 1) := rfl; have q2 := (hst (D - 1) (by omega) (by omega)); omega)) (fun r43 w44 h45 => ?_)
    obtain ⟨rfl, hw44⟩ := h45
    generalize hz46 : w 345 (D - 1) = z46
    have z46r : z46 = w 345 (D - 1) := Eq.trans hz46.symm rfl
    have z46b : -2147483648 ≤ z46 ∧ z46 ≤ 2147483647 := by rw [← hz46]; exact (by have q : w 345 (D - 1) = w 345 (D - 1) := rfl; have q2 := (hst (D - 1) (by omega) (by omega)); omega)
    have f47 : e_fr (mOt t) w w44 := e_fr.up (e_fr.refl w) hw44 (by unfold mOt mGr; omega)
    have hT48 : e_Has mTy w44 := e_Has.ups hT hw44 (mt_o rfl)
    refine e_Ok.nrm (q := 104) (st' := [(0, z46)]) rfl rfl ?_
    refine e_Ok.run (t' := (113, [(5, (0, z46)), (0, (1, 275)), (1, (0, o)), (2, (0, x))], [(4, 7), (4, 0), (4, z46)], w44)) 5 rfl ?_
    refine e_Ok.callS rfl (e_dq hd rfl) rfl rfl (c_266) (fun r49 w50 h51 => ?_)
    obtain ⟨z52, rfl, rfl, q53⟩ := h51
    obtain ⟨rfl, q53⟩ | ⟨rfl, q53⟩ := q53
    · refine e_Ok.nrm (q := 116) (st' := [(0, 1)]) rfl rfl ?_
      refine e_Ok.if1 rfl (fun h54 => ?_) (fun h54 => ?_)
      · replace h54 : (1 : Int) = 0 := h54
        exfalso; omega
      · replace h54 : (1 : Int) ≠ 0 := (show ¬ ((1 : Int) = 0) from h54)
        refine e_Ok.ps1 (x := (1, 275)) (q := 120) 1 rfl ?_
        refine e_Ok.getr (z := 276) rfl (el_o rfl) rfl (ef_o rfl) (e_uq hw44 (Or.inr (by omega)) (e_Has.eq hT (mt_o rfl))) ⟨by decide, by decide⟩ ?_
        refine e_Ok.ps2 (x := (0, z46)) (y := (0, 20868)) (q := 128) 2 rfl ?_
        refine e_Ok.add (z := z46 + 20868) rfl (Int.add_comm _ _) (by omega) ?_
        have h55 := (e_Has.get hT (c := 276) (k := z46 + 20868) (lo := (-1)) (hi := 15) (nR_LOCK (l := z46) (by omega)) (by decide))
        refine e_Ok.ald (z := w 276 (z46 + 20868)) rfl (el_o rfl) rfl (by omega) (e_uq hw44 (Or.inl (by omega)) rfl) (e_bq h55 (by decide) (by decide)) ?_
        refine e_Ok.ps1 (x := (1, 275)) (q := 131) 1 rfl ?_
        refine e_Ok.getf (z := t) rfl (el_o rfl) rfl (ef_o rfl) (e_uq hw44 (Or.inr (by omega)) h96) (by omega) ?_
        refine e_Ok.if2 rfl (fun h56 => ?_) (fun h56 => ?_)
        · replace h56 : (w 276 (z46 + 20868) : Int) = t := h56
          refine e_Ok.ps2 (x := (0, z46)) (y := (1, 275)) (q := 143) 2 rfl ?_
          refine e_Ok.callV rfl (e_dq hd rfl) rfl rfl rfl rfl (c_360 (e_dq hd rfl) hT48 (by omega)) (fun r57 w58 h59 => ?_)
          obtain ⟨rfl, q60, q60T⟩ := h59
          refine e_Ok.nrm (q := 146) (st' := []) rfl rfl ?_
          refine e_Ok.ps1 (x := (0, 0)) (q := 147) 1 rfl ?_
          refine e_Ok.rets rfl rfl ?_
          have e62 : w58 276 5 = w 276 5 := ((q60 276 5 no_86_11).trans (e_uq hw44 (Or.inl (by omega)) rfl))
          have ew8 : w58 276 (1260 * t + 424) = w 276 (1260 * t + 424) := ((q60 276 (1260 * t + 424) (by first | exact no_86_12 (by omega) | (unfold mLk; omega))).trans (e_uq hw44 (Or.inl (by omega)) rfl))
          have ew9 : w58 276 (1260 * t + 425) = w 276 (1260 * t + 425) := ((q60 276 (1260 * t + 425) (by first | exact no_86_13 (by omega) | (unfold mLk; omega))).trans (e_uq hw44 (Or.inl (by omega)) rfl))
          have edp : w58 275 102 = D - 1 := ((q60 275 102 no_86_14).trans (e_ue hw44))
          exact ⟨_, rfl, by omega, (show e_fr (mOt t) w w58 from e_fr.trans f47 (e_fr.mono q60 (fun c k q => by first | exact su_86_23 q | (unfold mLk at q; unfold mOt mGr; omega)))), q60T, by omega, (mOr.fr hOr (by omega) (e_Has.orn hT) (e_Has.orw hT (by omega)) (fun k q => by unfold orK at q; exact ((q60 276 k (by unfold mLk; omega)).trans (e_uq hw44 (Or.inl (by omega)) rfl)))), (fun b g1 g2 => Or.inr ((q60 276 (36 * b + 20) (by first | exact no_86_15 (by omega) | (unfold mLk; omega))).trans (e_uq hw44 (Or.inl (by omega)) rfl))), by omega, (fun e => by have := hW (by omega); omega), Or.inl ⟨((q60 275 100 no_86_14).trans (e_uq hw44 (Or.inr (by omega)) rfl)), ((q60 276 (1260 * t + 416) (by first | exact no_86_16 (by omega) | (unfold mLk; omega))).trans (e_uq hw44 (Or.inl (by omega)) rfl))⟩⟩
        · replace h56 : (w 276 (z46 + 20868) : Int) ≠ t := (show ¬ ((w 276 (z46 + 20868) : Int) = t) from h56)
          refine e_Ok.ps1 (x := (0, 9)) (q := 139) 1 rfl ?_
          refine e_Ok.rets rfl rfl ?_
          have e63 : w44 276 5 = w 276 5 := (e_uq hw44 (Or.inl (by omega)) rfl)
          have ew8 : w44 276 (1260 * t + 424) = w 276 (1260 * t + 424) := (e_uq hw44 (Or.inl (by omega)) rfl)
          have ew9 : w44 276 (1260 * t + 425) = w 276 (1260 * t + 425) := (e_uq hw44 (Or.inl (by omega)) rfl)
          have edp : w44 275 102 = D - 1 := (e_ue hw44)
          exact ⟨_, rfl, by omega, f47, hT48, by omega, (mOr.fr hOr (by omega) (e_Has.orn hT) (e_Has.orw hT (by omega)) (fun k q => by unfold orK at q; exact (e_uq hw44 (Or.inl (by omega)) rfl))), (fun b g1 g2 => Or.inr (e_uq hw44 (Or.inl (by omega)) rfl)), by omega, (fun e => by have := hW (by omega); omega), Or.inl ⟨(e_uq hw44 (Or.inr (by omega)) rfl), (e_uq hw44 (Or.inl (by omega)) rfl)⟩⟩
    · refine e_Ok.nrm (q := 116) (st' := [(0, 0)]) rfl rfl ?_
      refine e_Ok.if1 rfl (fun h64 => ?_) (fun h64 => ?_)
      · replace h64 : (0 : Int) = 0 := h64
        refine e_Ok.ps1 (x := (0, 9)) (q := 139) 1 rfl ?_
        refine e_Ok.rets rfl rfl ?_
        have e65 : w44 276 5 = w 276 5 := (e_uq hw44 (Or.inl (by omega)) rfl)
        have ew8 : w44 276 (1260 * t + 424) = w 276 (1260 * t + 424) := (e_uq hw44 (Or.inl (by omega)) rfl)
        have ew9 : w44 276 (1260 * t + 425) = w 276 (1260 * t + 425) := (e_uq hw44 (Or.inl (by omega)) rfl)
        have edp : w44 275 102 = D - 1 := (e_ue hw44)
        exact ⟨_, rfl, by omega, f47, hT48, by omega, (mOr.fr hOr (by omega) (e_Has.orn hT) (e_Has.orw hT (by omega)) (fun k q => by unfold orK at q; exact (e_uq hw44 (Or.inl (by omega)) rfl))), (fun b g1 g2 => Or.inr (e_uq hw44 (Or.inl (by omega)) rfl)), by omega, (fun e => by have := hW (by omega); omega), Or.inl ⟨(e_uq hw44 (Or.inr (by omega)) rfl), (e_uq hw44 (Or.inl (by omega)) rfl)⟩⟩
      · replace h64 : (0 : Int) ≠ 0 := (show ¬ ((0 : Int) = 0) from h64)
        exfalso; omega
  · refine e_Ok.sw (tg := 251) rfl (by rw [h1]; rfl) ?_
    have hD : D = 0 := by omega
    refine e_Ok.run (t' := (253, [(0, (1, 275)), (1, (0, o)), (2, (0, x))], [(1, 275), (1, 275)], w)) 2 rfl ?_
    refine e_Ok.getf (z := a) rfl (el_o rfl) rfl (ef_o rfl) h98 (by omega) ?_
    refine e_Ok.callV rfl (e_dq hd rfl) rfl rfl rfl rfl (c_396 (e_dq hd rfl) hT (by omega) hOr (by omega)) (fun r66 w67 h68 => ?_)
    obtain ⟨z69, rfl, q70z, q70, q70T, q70n, q70o, q70f⟩ := h68
    have f71 : e_fr (mOt t) w w67 := e_fr.trans (e_fr.refl w) (e_fr.mono q70 (fun c k q => by exact Or.inr (Or.inr (Or.inr (Or.inl q)))))
    refine e_Ok.nrm (q := 259) (st' := [(0, z69)]) rfl rfl ?_
    refine e_Ok.if1 rfl (fun h72 => ?_) (fun h72 => ?_)
    · replace h72 : (z69 : Int) = 0 := h72
      refine e_Ok.ps1 (x := (0, 7)) (q := 268) 1 rfl ?_
      refine e_Ok.rets rfl rfl ?_
      have e73 : w67 276 5 = w67 276 5 := rfl
      have ew8 : w67 276 (1260 * t + 424) = w 276 (1260 * t + 424) := ((q70 276 (1260 * t + 424) (by first | exact no_86_17 (by omega) | (unfold mGr; omega))).trans rfl)
      have ew9 : w67 276 (1260 * t + 425) = w 276 (1260 * t + 425) := ((q70 276 (1260 * t + 425) (by first | exact no_86_18 (by omega) | (unfold mGr; omega))).trans rfl)
      have edp : w67 275 102 = D := ((q70 275 102 no_86_19).trans h102)
      exact ⟨_, rfl, by omega, f71, q70T, by omega, q70o, q70f, by omega, (fun e => by have := hW (by omega); omega), Or.inl ⟨((q70 275 100 no_86_19).trans rfl), ((q70 276 (1260 * t + 416) (by first | exact no_86_20 (by omega) | (unfold mGr; omega))).trans rfl)⟩⟩
    · replace h72 : (z69 : Int) ≠ 0 := (show ¬ ((z69 : Int) = 0) from h72)
      refine e_Ok.ps1 (x := (0, 0)) (q := 268) 2 rfl ?_
      refine e_Ok.rets rfl rfl ?_
      have e74 : w67 276 5 = w67 276 5 := rfl
      have ew8 : w67 276 (1260 * t + 424) = w 276 (1260 * t + 424) := ((q70 276 (1260 * t + 424) (by first | exact no_86_17 (by omega) | (unfold mGr; omega))).trans rfl)
      have ew9 : w67 276 (1260 * t + 425) = w 276 (1260 * t + 425) := ((q70 276 (1260 * t + 425) (by first | exact no_86_18 (by omega) | (unfold mGr; omega))).trans rfl)
      have edp : w67 275 102 = D := ((q70 275 102 no_86_19).trans h102)
      exact ⟨_, rfl, by omega, f71, q70T, by omega, q70o, q70f, by omega, (fun e => by have := hW (by omega); omega), Or.inl ⟨((q70 275 100 no_86_19).trans rfl), ((q70 276 (1260 * t + 416) (by first | exact no_86_20 (by omega) | (unfold mGr; omega))).trans rfl)⟩⟩
  · refine e_Ok.sw (tg := 269) rfl (by rw [h1]; rfl) ?_
    have hD : D = 0 := by omega
    refine e_Ok.run (t' := (271, [(0, (1, 275)), (1, (0, o)), (2, (0, x))], [(1, 275), (1, 275)], w)) 2 rfl ?_
    refine e_Ok.getf (z := a) rfl (el_o rfl) rfl (ef_o rfl) h98 (by omega) ?_
    refine e_Ok.callV rfl (e_dq hd rfl) rfl rfl rfl rfl (c_397 (e_dq hd rfl) hT (by omega) hOr (by omega)) (fun r75 w76 h77 => ?_)
    obtain ⟨z78, rfl, q79z, q79, q79T, q79n, q79o, q79f⟩ := h77
    have f80 : e_fr (mOt t) w w76 := e_fr.trans (e_fr.refl w) (e_fr.mono q79 (fun c k q => by exact Or.inr (Or.inr (Or.inr (Or.inl q)))))
    refine e_Ok.nrm (q := 277) (st' := [(0, z78)]) rfl rfl ?_
    refine e_Ok.if1 rfl (fun h81 => ?_) (fun h81 => ?_)
    · replace h81 : (z78 : Int) = 0 := h81
      refine e_Ok.ps1 (x := (0, 7)) (q := 286) 1 rfl ?_
      refine e_Ok.rets rfl rfl ?_
      have e82 : w76 276 5 = w76 276 5 := rfl
      have ew8 : w76 276 (1260 * t + 424) = w 276 (1260 * t + 424) := ((q79 276 (1260 * t + 424) (by first | exact no_86_17 (by omega) | (unfold mGr; omega))).trans rfl)
      have ew9 : w76 276 (1260 * t + 425) = w 276 (1260 * t + 425) := ((q79 276 (1260 * t + 425) (by first | exact no_86_18 (by omega) | (unfold mGr; omega))).trans rfl)
      have edp : w76 275 102 = D := ((q79 275 102 no_86_19).trans h102)
      exact ⟨_, rfl, by omega, f80, q79T, by omega, q79o, q79f, by omega, (fun e => by have := hW (by omega); omega), Or.inl ⟨((q79 275 100 no_86_19).trans rfl), ((q79 276 (1260 * t + 416) (by first | exact no_86_20 (by omega) | (unfold mGr; omega))).trans rfl)⟩⟩
    · replace h81 : (z78 : Int) ≠ 0 := (show ¬ ((z78 : Int) = 0) from h81)
      refine e_Ok.ps1 (x := (0, 0)) (q := 286) 2 rfl ?_
      refine e_Ok.rets rfl rfl ?_
      have e83 : w76 276 5 = w76 276 5 := rfl
      have ew8 : w76 276 (1260 * t + 424) = w 276 (1260 * t + 424) := ((q79 276 (1260 * t + 424) (by first | exact no_86_17 (by omega) | (unfold mGr; omega))).trans rfl)
      have ew9 : w76 276 (1260 * t + 425) = w 276 (1260 * t + 425) := ((q79 276 (1260 * t + 425) (by first | exact no_86_18 (by omega) | (unfold mGr; omega))).trans rfl)
      have edp : w76 275 102 = D := ((q79 275 102 no_86_19).trans h102)
      exact ⟨_, rfl, by omega, f80, q79T, by omega, q79o, q79f, by omega, (fun e => by have := hW (by omega); omega), Or.inl ⟨((q79 275 100 no_86_19).trans rfl), ((q79 276 (1260 * t + 416) (by first | exact no_86_20 (by omega) | (unfold mGr; omega))).trans rfl)⟩⟩
  · refine e_Ok.sw (tg := 167) rfl (by rw [h1]; rfl) ?_
    have hD : D = 1 := by omega
    refine e_Ok.run (t' := (168, [(0, (1, 275)), (1, (0, o)), (2, (0, x))], [(1, 275)], w)) 1 rfl ?_
    refine e_Ok.callV rfl (e_dq hd rfl) rfl rfl rfl rfl (c_364 hT (e := D) (u := D - 1) h102 (by omega) (by omega) (by have q : w 345 (D - 1) = w 345 (D - 1) := rfl; have q2 := (hst (D - 1) (by omega) (by omega)); omega)) (fun r84 w85 h86 => ?_)
    obtain ⟨rfl, hw85⟩ := h86
    generalize hz87 : w 345 (D - 1) = z87
    have z87r : z87 = w 345 (D - 1) := Eq.trans hz87.symm rfl
    have z87b : -2147483648 ≤ z87 ∧ z87 ≤ 2147483647 := by rw [← hz87]; exact (by have q : w 345 (D - 1) = w 345 (D - 1) := rfl; have q2 := (hst (D - 1) (by omega) (by omega)); omega)
    have f88 : e_fr (mOt t) w w85 := e_fr.up (e_fr.refl w) hw85 (by unfold mOt mGr; omega)
    have hT89 : e_Has mTy w85 := e_Has.ups hT hw85 (mt_o rfl)
    refine e_Ok.nrm (q := 171) (st' := [(0, z87)]) rfl rfl ?_
    refine e_Ok.run (t' := (182, [(6, (0, z87)), (0, (1, 275)), (1, (0, o)), (2, (0, x))], [(4, 63), (4, (-1)), (4, z87)], w85)) 5 rfl ?_
    refine e_Ok.callS rfl (e_dq hd rfl) rfl rfl (c_266) (fun r90 w91 h92 => ?_)
    obtain ⟨z93, rfl, rfl, q94⟩ := h92
    obtain ⟨rfl, q94⟩ | ⟨rfl, q94⟩ := q94
    · refine e_Ok.nrm (q := 185) (st' := [(0, 1)]) rfl rfl ?_
      refine e_Ok.if1 rfl (fun h95 => ?_) (fun h95 => ?_)
      · replace h95 : (1 : Int) ≠ 0 := h95
        have hxx := hx (by omega)
        refine e_Ok.ps1 (x := (1, 275)) (q := 191) 1 rfl ?_
        refine e_Ok.getr (z := 276) rfl (el_o rfl) rfl (ef_o rfl) (e_uq hw85 (Or.inr (by omega)) (e_Has.eq hT (mt_o rfl))) ⟨by decide, by decide⟩ ?_
        refine e_Ok.ps1 (x := (1, 275)) (q := 195) 1 rfl ?_
        refine e_Ok.getf (z := 1260 * t + 416) rfl (el_o rfl) rfl (ef_o rfl) (e_uq hw85 (Or.inr (by omega)) h97) (by omega) ?_
        refine e_Ok.ps1 (x := (0, 8)) (q := 200) 1 rfl ?_
        refine e_Ok.add (z := 1260 * t + 424) rfl (e_adl (by decide)) (by omega) ?_
        refine e_Ok.ps1 (x := (0, z87)) (q := 203) 1 rfl ?_
        refine e_Ok.ast rfl (el_o rfl) rfl rfl (by omega) ?_
        generalize hw101 : e_up w85 276 (1260 * t + 424) z87 = w101
        have hT104 : e_Has mTy w101 := e_Has.upr hT89 hw101 (nR_WATCHED (t := t) (by omega)) (by omega)
        refine e_Ok.ps1 (x := (1, 275)) (q := 205) 1 rfl ?_
        refine e_Ok.getr (z := 276) rfl (el_o rfl) rfl (ef_o rfl) (e_uq hw101 (Or.inl (by decide)) (e_uq hw85 (Or.inr (by omega)) (e_Has.eq hT (mt_o rfl)))) ⟨by decide, by decide⟩ ?_
        refine e_Ok.ps1 (x := (1, 275)) (q := 209) 1 rfl ?_
        refine e_Ok.getf (z := 1260 * t + 416) rfl (el_o rfl) rfl (ef_o rfl) (e_uq hw101 (Or.inl (by decide)) (e_uq hw85 (Or.inr (by omega)) h97)) (by omega) ?_
        refine e_Ok.ps1 (x := (0, 9)) (q := 214) 1 rfl ?_
        refine e_Ok.add (z := 1260 * t + 425) rfl (e_adl (by decide)) (by omega) ?_
        refine e_Ok.ps1 (x := (0, x)) (q := 216) 1 rfl ?_
        refine e_Ok.ast rfl (el_o rfl) rfl rfl (by omega) ?_
        generalize hw105 : e_up w101 276 (1260 * t + 425) x = w105
        have f106 : e_fr (mOt t) w w105 := e_fr.up (show e_fr (mOt t) w w101 from e_fr.up f88 hw101 (by first | exact Or.inr (Or.inr (Or.inr (Or.inr ⟨rfl, Or.inr (Or.inr (Or.inr (Or.inr (Or.inr (Or.inr (Or.inr (Or.inl (by omega))))))))⟩))) | (unfold mOt mGr; omega))) hw105 (by first | exact Or.inr (Or.inr (Or.inr (Or.inr ⟨rfl, Or.inr (Or.inr (Or.inr (Or.inr (Or.inr (Or.inr (Or.inr (Or.inr (Or.inl (by omega)))))))))⟩))) | (unfold mOt mGr; omega))
        have hT107 : e_Has mTy w105 := e_Has.upr hT104 hw105 (nR_WATCHER (t := t) (by omega)) (by omega)
        refine e_Ok.ps1 (x := (1, 275)) (q := 218) 1 rfl ?_
        refine e_Ok.getr (z := 276) rfl (el_o rfl) rfl (ef_o rfl) (e_uq hw105 (Or.inl (by decide)) (e_uq hw101 (Or.inl (by decide)) (e_uq hw85 (Or.inr (by omega)) (e_Has.eq hT (mt_o rfl))))) ⟨by decide, by decide⟩ ?_
        refine e_Ok.ps1 (x := (1, 275)) (q := 222) 1 rfl ?_
        refine e_Ok.getf (z := 1260 * t + 416) rfl (el_o rfl) rfl (ef_o rfl) (e_uq hw105 (Or.inl (by decide)) (e_uq hw101 (Or.inl (by decide)) (e_uq hw85 (Or.inr (by omega)) h97))) (by omega) ?_
        refine e_Ok.ps1 (x := (0, 10)) (q := 227) 1 rfl ?_
        refine e_Ok.add (z := 1260 * t + 426) rfl (e_adl (by decide)) (by omega) ?_
        refine e_Ok.ps1 (x := (0, z87)) (q := 230) 1 rfl ?_
        refine e_Ok.if1 rfl (fun h108 => ?_) (fun h108 => ?_)
        · replace h108 : (z87 : Int) ≥ 0 := h108
          refine e_Ok.ps1 (x := (1, 275)) (q := 238) 1 rfl ?_
          refine e_Ok.getr (z := 276) rfl (el_o rfl) rfl (ef_o rfl) (e_uq hw105 (Or.inl (by decide)) (e_uq hw101 (Or.inl (by decide)) (e_uq hw85 (Or.inr (by omega)) (e_Has.eq hT (mt_o rfl))))) ⟨by decide, by decide⟩ ?_
          refine e_Ok.ps2 (x := (0, z87)) (y := (0, 352)) (q := 246) 2 rfl ?_
          refine e_Ok.add (z := z87 + 352) rfl (Int.add_comm _ _) (by omega) ?_
          have h109 := (e_Has.get hT (c := 276) (k := z87 + 352) (lo := (-2147483648)) (hi := 2147483647) (nR_RISES (p := z87) (by omega)) (by decide))
          refine e_Ok.ald (z := w 276 (z87 + 352)) rfl (el_o rfl) rfl (by omega) (e_uq hw105 (Or.inr (by omega)) (e_uq hw101 (Or.inr (by omega)) (e_uq hw85 (Or.inl (by omega)) rfl))) (e_bq h109 (by decide) (by decide)) ?_
          refine e_Ok.ast rfl (el_o rfl) rfl rfl (by omega) ?_
          generalize hw110 : e_up w105 276 (1260 * t + 426) (w 276 (z87 + 352)) = w110
          have hT112 : e_Has mTy w110 := e_Has.upr hT107 hw110 (nR_KEPT (t := t) (by omega)) (by omega)
          refine e_Ok.ps1 (x := (0, 0)) (q := 250) 1 rfl ?_
          refine e_Ok.rets rfl rfl ?_
          have e113 : w110 276 5 = w 276 5 := (e_uq hw110 (Or.inr (by omega)) (e_uq hw105 (Or.inr (by omega)) (e_uq hw101 (Or.inr (by omega)) (e_uq hw85 (Or.inl (by omega)) rfl))))
          have ew8 : w110 276 (1260 * t + 424) = z87 := (e_uq hw110 (Or.inr (e_neo (by decide))) (e_uq hw105 (Or.inr (e_neo (by decide))) (e_ue hw101)))
          have ew9 : w110 276 (1260 * t + 425) = x := (e_uq hw110 (Or.inr (e_neo (by decide))) (e_ue hw105))
          have edp : w110 275 102 = D - 1 := (e_uq hw110 (Or.inl (by decide)) (e_uq hw105 (Or.inl (by decide)) (e_uq hw101 (Or.inl (by decide)) (e_ue hw85))))
          exact ⟨_, rfl, by omega, (show e_fr (mOt t) w w110 from e_fr.up f106 hw110 (by first | exact Or.inr (Or.inr (Or.inr (Or.inr ⟨rfl, Or.inr (Or.inr (Or.inr (Or.inr (Or.inr (Or.inr (Or.inr (Or.inr (Or.inr (by omega)))))))))⟩))) | (unfold mOt mGr; omega))), hT112, by omega, (mOr.fr hOr (by omega) (e_Has.orn hT) (e_Has.orw hT (by omega)) (fun k q => by unfold orK at q; exact (e_uq hw110 (Or.inr (by omega)) (e_uq hw105 (Or.inr (by omega)) (e_uq hw101 (Or.inr (by omega)) (e_uq hw85 (Or.inl (by omega)) rfl)))))), (fun b g1 g2 => Or.inr (e_uq hw110 (Or.inr (by omega)) (e_uq hw105 (Or.inr (by omega)) (e_uq hw101 (Or.inr (by omega)) (e_uq hw85 (Or.inl (by omega)) rfl))))), by omega, (fun e => by have := hx (by omega); omega), Or.inl ⟨(e_uq hw110 (Or.inl (by omega)) (e_uq hw105 (Or.inl (by omega)) (e_uq hw101 (Or.inl (by omega)) (e_uq hw85 (Or.inr (by omega)) rfl)))), (e_uq hw110 (Or.inr (by omega)) (e_uq hw105 (Or.inr (by omega)) (e_uq hw101 (Or.inr (by omega)) (e_uq hw85 (Or.inl (by omega)) rfl))))⟩⟩
        · replace h108 : (z87 : Int) < 0 := Int.not_le.mp (show ¬ ((z87 : Int) ≥ 0) from h108)
          refine e_Ok.ps1 (x := (0, 0)) (q := 248) 2 rfl ?_
          refine e_Ok.ast rfl (el_o rfl) rfl rfl (by omega) ?_
          generalize hw114 : e_up w105 276 (1260 * t + 426) 0 = w114
          have hT116 : e_Has mTy w114 := e_Has.upr hT107 hw114 (nR_KEPT (t := t) (by omega)) (by omega)
          refine e_Ok.ps1 (x := (0, 0)) (q := 250) 1 rfl ?_
          refine e_Ok.rets rfl rfl ?_
          have e117 : w114 276 5 = w 276 5 := (e_uq hw114 (Or.inr (by omega)) (e_uq hw105 (Or.inr (by omega)) (e_uq hw101 (Or.inr (by omega)) (e_uq hw85 (Or.inl (by omega)) rfl))))
          have ew8 : w114 276 (1260 * t + 424) = z87 := (e_uq hw114 (Or.inr (e_neo (by decide))) (e_uq hw105 (Or.inr (e_neo (by decide))) (e_ue hw101)))
          have ew9 : w114 276 (1260 * t + 425) = x := (e_uq hw114 (Or.inr (e_neo (by decide))) (e_ue hw105))
          have edp : w114 275 102 = D - 1 := (e_uq hw114 (Or.inl (by decide)) (e_uq hw105 (Or.inl (by decide)) (e_uq hw101 (Or.inl (by decide)) (e_ue hw85))))
          exact ⟨_, rfl, by omega, (show e_fr (mOt t) w w114 from e_fr.up f106 hw114 (by first | exact Or.inr (Or.inr (Or.inr (Or.inr ⟨rfl, Or.inr (Or.inr (Or.inr (Or.inr (Or.inr (Or.inr (Or.inr (Or.inr (Or.inr (by omega)))))))))⟩))) | (unfold mOt mGr; omega))), hT116, by omega, (mOr.fr hOr (by omega) (e_Has.orn hT) (e_Has.orw hT (by omega)) (fun k q => by unfold orK at q; exact (e_uq hw114 (Or.inr (by omega)) (e_uq hw105 (Or.inr (by omega)) (e_uq hw101 (Or.inr (by omega)) (e_uq hw85 (Or.inl (by omega)) rfl)))))), (fun b g1 g2 => Or.inr (e_uq hw114 (Or.inr (by omega)) (e_uq hw105 (Or.inr (by omega)) (e_uq hw101 (Or.inr (by omega)) (e_uq hw85 (Or.inl (by omega)) rfl))))), by omega, (fun e => by have := hx (by omega); omega), Or.inl ⟨(e_uq hw114 (Or.inl (by omega)) (e_uq hw105 (Or.inl (by omega)) (e_uq hw101 (Or.inl (by omega)) (e_uq hw85 (Or.inr (by omega)) rfl)))), (e_uq hw114 (Or.inr (by omega)) (e_uq hw105 (Or.inr (by omega)) (e_uq hw101 (Or.inr (by omega)) (e_uq hw85 (Or.inl (by omega)) rfl))))⟩⟩
      · replace h95 : (1 : Int) = 0 := Classical.not_not.mp (show ¬ ((1 : Int) ≠ 0) from h95)
        exfalso; omega
    · refine e_Ok.nrm (q := 185) (st' := [(0, 0)]) rfl rfl ?_
      refine e_Ok.if1 rfl (fun h118 => ?_) (fun h118 => ?_)
      · replace h118 : (0 : Int) ≠ 0 := h118
        exfalso; omega
      · replace h118 : (0 : Int) = 0 := Classical.not_not.mp (show ¬ ((0 : Int) ≠ 0) from h118)
        refine e_Ok.ps1 (x := (0, 2)) (q := 189) 1 rfl ?_
        refine e_Ok.rets rfl rfl ?_
        have e119 : w85 276 5 = w 276 5 := (e_uq hw85 (Or.inl (by omega)) rfl)
        have ew8 : w85 276 (1260 * t + 424) = w 276 (1260 * t + 424) := (e_uq hw85 (Or.inl (by omega)) rfl)
        have ew9 : w85 276 (1260 * t + 425) = w 276 (1260 * t + 425) := (e_uq hw85 (Or.inl (by omega)) rfl)
        have edp : w85 275 102 = D - 1 := (e_ue hw85)
        exact ⟨_, rfl, by omega, f88, hT89, by omega, (mOr.fr hOr (by omega) (e_Has.orn hT) (e_Has.orw hT (by omega)) (fun k q => by unfold orK at q; exact (e_uq hw85 (Or.inl (by omega)) rfl))), (fun b g1 g2 => Or.inr (e_uq hw85 (Or.inl (by omega)) rfl)), by omega, (fun e => by have := hW (by omega); omega), Or.inl ⟨(e_uq hw85 (Or.inr (by omega)) rfl), (e_uq hw85 (Or.inl (by omega)) rfl)⟩⟩
end
end
