-- part 55
section
noncomputable section
/-- arms' states and ways: unchanged, or stopped in a move -/
def sRel (w w' : eW) : Prop := ∀ b, 0 ≤ b → b ≤ 3 → (w' 276 (36 * b + 16) = w 276 (36 * b + 16) ∧ w' 276 (36 * b + 22) = w 276 (36 * b + 22)) ∨ (w 276 (36 * b + 16) = 1 ∧ w' 276 (36 * b + 16) = 2 ∧ w' 276 (36 * b + 22) = 0)
def mSt (c k : Int) : Prop := c = 276 ∧ (16 ≤ k ∧ k < 160 ∧ ((k - 16) % 36 = 4 ∨ (k - 16) % 36 = 5))
def mBM (c k : Int) : Prop := c = 276 ∧ (k = 5 ∨ 25060 ≤ k ∨ (16 ≤ k ∧ k < 160 ∧ ((k - 16) % 36 = 6 ∨ (k - 16) % 36 = 9)) ∨ (416 ≤ k ∧ k < 20576 ∧ ((k - 416) % 1260 = 7)))
def mBr (c k : Int) : Prop := c = 276 ∧ (k = 5 ∨ 25060 ≤ k ∨ (16 ≤ k ∧ k < 160 ∧ ((k - 16) % 36 = 6 ∨ (k - 16) % 36 = 9)) ∨ (416 ≤ k ∧ k < 20576 ∧ ((k - 416) % 1260 = 7)) ∨ (16 ≤ k ∧ k < 160 ∧ ((k - 16) % 36 = 0)))
def mTr (c k : Int) : Prop := c = 276 ∧ ((1 ≤ k ∧ k ≤ 5) ∨ 25060 ≤ k ∨ (16 ≤ k ∧ k < 160 ∧ ((k - 16) % 36 = 6 ∨ (k - 16) % 36 = 9 ∨ (k - 16) % 36 = 0 ∨ (22 ≤ (k - 16) % 36 ∧ (k - 16) % 36 ≤ 27))) ∨ (416 ≤ k ∧ k < 20576 ∧ ((k - 416) % 1260 = 7)))
def mIn (c k : Int) : Prop := c = 276 ∧ 20836 ≤ k ∧ k ≤ 20867
def mPa (p c k : Int) : Prop := c = 276 ∧ 4 * p + 20576 ≤ k ∧ k ≤ 4 * p + 20579
theorem no_55_0 {k : Int} : ¬ mSt 275 k := by unfold mSt; omega
theorem c_390 {d : Nat} (hd : 21 ≤ d) {w : eW} (hT : e_Has mTy w) {a : Int} : e_Ok 20 elay ecode eI d 390 (0, [(0, (1, 275)), (1, (0, a))], [], w) (fun r w' => r = [] ∧ e_fr mSt w w' ∧ e_Has mTy w' ∧ (∀ b, 0 ≤ b → b < w 275 10 → w' 276 (36 * b + 20) = 0) ∧ ∀ b, 0 ≤ b → b ≤ 3 → w' 276 (36 * b + 20) = 0 ∨ w' 276 (36 * b + 20) = w 276 (36 * b + 20)) := by
  obtain ⟨d, rfl⟩ : ∃ e, d = e + 1 := ⟨d - 1, by omega⟩
  refine e_Ok.run (t' := (2, [(2, (0, 0)), (0, (1, 275)), (1, (0, a))], [], w)) 2 rfl ?_
  have hL1 : ∀ (nn : Nat) (y2 : Int) (v1 : eW), e_fr mSt w v1 ∧ e_Has mTy v1 ∧ (0 ≤ y2 ∧ y2 ≤ 4) ∧ (∀ b, 0 ≤ b → b < y2 → v1 276 (36 * b + 20) = 0) ∧ (∀ b, 0 ≤ b → b ≤ 3 → v1 276 (36 * b + 20) = 0 ∨ v1 276 (36 * b + 20) = w 276 (36 * b + 20)) → 5 - y2 < nn → e_Ok 20 elay ecode eI (d + 1) 390 (2, [(0, (1, 275)), (1, (0, a)), (2, (0, y2))], [], v1) (fun r w' => r = [] ∧ e_fr mSt w w' ∧ e_Has mTy w' ∧ (∀ b, 0 ≤ b → b < w 275 10 → w' 276 (36 * b + 20) = 0) ∧ ∀ b, 0 ≤ b → b ≤ 3 → w' 276 (36 * b + 20) = 0 ∨ w' 276 (36 * b + 20) = w 276 (36 * b + 20)) := by
    intro nn
    induction nn with
    | zero => intro y2 v1 hj hm; obtain ⟨j3, j4, j5, j6, j7⟩ := hj; exfalso; omega
    | succ nn ih2 =>
      intro y2 v1 hj hm
      obtain ⟨j3, j4, j5, j6, j7⟩ := hj
      refine e_Ok.run (t' := (4, [(0, (1, 275)), (1, (0, a)), (2, (0, y2))], [(1, 275), (0, y2)], v1)) 2 rfl ?_
      have h8 := (e_Has.get hT (c := 275) (k := 10) (lo := 0) (hi := 4) (mt_o rfl) (by decide))
      refine e_Ok.getf (z := w 275 10) rfl (el_o rfl) rfl (ef_o rfl) ((j3 275 10 no_55_0).trans rfl) (e_bq h8 (by decide) (by decide)) ?_
      refine e_Ok.if2 rfl (fun h9 => ?_) (fun h9 => ?_)
      · replace h9 : (y2 : Int) ≥ w 275 10 := h9
        refine e_Ok.rets rfl rfl ?_
        exact ⟨rfl, j3, j4, fun b g1 g2 => j6 b g1 (by omega), j7⟩
      · replace h9 : (y2 : Int) < w 275 10 := Int.not_le.mp (show ¬ ((y2 : Int) ≥ w 275 10) from h9)
        refine e_Ok.ps1 (x := (1, 275)) (q := 11) 1 rfl ?_
        refine e_Ok.getr (z := 276) rfl (el_o rfl) rfl (ef_o rfl) ((j3 275 0 no_55_0).trans (e_Has.eq hT (mt_o rfl))) ⟨by decide, by decide⟩ ?_
        refine e_Ok.ps1 (x := (0, y2)) (q := 15) 1 rfl ?_
        refine e_Ok.callS rfl (e_dq hd rfl) rfl rfl (c_268 (by omega)) (fun r10 w11 h12 => ?_)
        obtain ⟨rfl, rfl⟩ := h12
        refine e_Ok.nrm (q := 18) (st' := [(0, 36 * y2 + 16), (1, 276)]) rfl rfl ?_
        refine e_Ok.ps1 (x := (0, 4)) (q := 19) 1 rfl ?_
        refine e_Ok.add (z := 36 * y2 + 20) rfl (e_adl (by decide)) (by omega) ?_
        refine e_Ok.ps1 (x := (0, 0)) (q := 21) 1 rfl ?_
        refine e_Ok.ast rfl (el_o rfl) rfl rfl (by omega) ?_
        generalize hw13 : e_up v1 276 (36 * y2 + 20) 0 = w13
        have f14 : e_fr mSt w w13 := e_fr.up j3 hw13 (by unfold mSt; omega)
        have hT15 : e_Has mTy w13 := e_Has.upr j4 hw13 (nR_FRESH (a := y2) (by omega)) (by omega)
        refine e_Ok.ps1 (x := (1, 275)) (q := 23) 1 rfl ?_
        refine e_Ok.getr (z := 276) rfl (el_o rfl) rfl (ef_o rfl) (e_uq hw13 (Or.inl (by decide)) ((j3 275 0 no_55_0).trans (e_Has.eq hT (mt_o rfl)))) ⟨by decide, by decide⟩ ?_
        refine e_Ok.ps1 (x := (0, y2)) (q := 27) 1 rfl ?_
        refine e_Ok.callS rfl (e_dq hd rfl) rfl rfl (c_268 (by omega)) (fun r16 w17 h18 => ?_)
        obtain ⟨rfl, rfl⟩ := h18
        refine e_Ok.nrm (q := 30) (st' := [(0, 36 * y2 + 16), (1, 276)]) rfl rfl ?_
        refine e_Ok.ps1 (x := (0, 5)) (q := 31) 1 rfl ?_
        refine e_Ok.add (z := 36 * y2 + 21) rfl (e_adl (by decide)) (by omega) ?_
        refine e_Ok.ps2 (x := (0, a)) (y := (0, y2)) (q := 34) 2 rfl ?_
        refine e_Ok.if2 rfl (fun h19 => ?_) (fun h19 => ?_)
        · replace h19 : (y2 : Int) ≠ a := h19
          refine e_Ok.ps1 (x := (0, 0)) (q := 52) 1 rfl ?_
          refine e_Ok.ast rfl (el_o rfl) rfl rfl (by omega) ?_
          generalize hw20 : e_up w13 276 (36 * y2 + 21) 0 = w20
          have hT22 : e_Has mTy w20 := e_Has.upr hT15 hw20 (nR_BUT_OWN (a := y2) (by omega)) (by omega)
          refine e_Ok.inc (z := y2 + 1) rfl rfl (by first | with_reducible rfl | omega) (by omega) ?_
          show e_Ok 20 elay ecode eI (d + 1) 390 (56, [(2, (0, y2 + 1)), (0, (1, 275)), (1, (0, a))], [], w20) _
          refine e_Ok.ps0 (q := 2) 1 rfl ?_
          refine e_Ok.sub eAlk (e_sub_of rfl ?_) (ih2 (y2 + 1) w20 ⟨(show e_fr mSt w w20 from e_fr.up f14 hw20 (by unfold mSt; omega)), hT22, by omega, (fun b g1 g2 => Decidable.byCases (p := b = y2) (fun e => by rw [e]; exact (e_uq hw20 (Or.inr (by omega)) (e_ue hw13))) (fun e => Eq.trans (e_uq hw20 (Or.inr (by omega)) (e_uq hw13 (Or.inr (by omega)) rfl)) (j6 b g1 (by omega)))), (fun b g1 g2 => Decidable.byCases (p := b = y2) (fun e => Or.inl (by rw [e]; exact (e_uq hw20 (Or.inr (by omega)) (e_ue hw13)))) (fun e => by rw [show w20 276 (36 * b + 20) = v1 276 (36 * b + 20) from (e_uq hw20 (Or.inr (by omega)) (e_uq hw13 (Or.inr (by omega)) rfl))]; exact j7 b g1 g2))⟩ (by omega))
          exact ⟨rfl, rfl, rfl, trivial⟩
        · replace h19 : (y2 : Int) = a := Classical.not_not.mp (show ¬ ((y2 : Int) ≠ a) from h19)
          refine e_Ok.ps1 (x := (1, 275)) (q := 38) 1 rfl ?_
          refine e_Ok.getr (z := 276) rfl (el_o rfl) rfl (ef_o rfl) (e_uq hw13 (Or.inl (by decide)) ((j3 275 0 no_55_0).trans (e_Has.eq hT (mt_o rfl)))) ⟨by decide, by decide⟩ ?_
          refine e_Ok.ps1 (x := (0, y2)) (q := 42) 1 rfl ?_
          refine e_Ok.callS rfl (e_dq hd rfl) rfl rfl (c_268 (by omega)) (fun r23 w24 h25 => ?_)
          obtain ⟨rfl, rfl⟩ := h25
          refine e_Ok.nrm (q := 45) (st' := [(0, 36 * y2 + 16), (1, 276), (0, 36 * y2 + 21), (1, 276)]) rfl rfl ?_
          refine e_Ok.ps1 (x := (0, 5)) (q := 46) 1 rfl ?_
          refine e_Ok.add (z := 36 * y2 + 21) rfl (e_adl (by decide)) (by omega) ?_
          have h26 := (e_Has.get j4 (c := 276) (k := 36 * y2 + 21) (lo := 0) (hi := 1) (nR_BUT_OWN (a := y2) (by omega)) (by decide))
          refine e_Ok.ald (z := v1 276 (36 * y2 + 21)) rfl (el_o rfl) rfl (by omega) (e_uq hw13 (Or.inr (e_neo (by decide))) rfl) (e_bq h26 (by decide) (by decide)) ?_
          refine e_Ok.ps0 (q := 52) 1 rfl ?_
          refine e_Ok.ast rfl (el_o rfl) rfl rfl (by omega) ?_
          generalize hw27 : e_up w13 276 (36 * y2 + 21) (v1 276 (36 * y2 + 21)) = w27
          have hT29 : e_Has mTy w27 := e_Has.upr hT15 hw27 (nR_BUT_OWN (a := y2) (by omega)) (by omega)
          refine e_Ok.inc (z := y2 + 1) rfl rfl (by first | with_reducible rfl | omega) (by omega) ?_
          show e_Ok 20 elay ecode eI (d + 1) 390 (56, [(2, (0, y2 + 1)), (0, (1, 275)), (1, (0, a))], [], w27) _
          refine e_Ok.ps0 (q := 2) 1 rfl ?_
          refine e_Ok.sub eAlk (e_sub_of rfl ?_) (ih2 (y2 + 1) w27 ⟨(show e_fr mSt w w27 from e_fr.up f14 hw27 (by unfold mSt; omega)), hT29, by omega, (fun b g1 g2 => Decidable.byCases (p := b = y2) (fun e => by rw [e]; exact (e_uq hw27 (Or.inr (by omega)) (e_ue hw13))) (fun e => Eq.trans (e_uq hw27 (Or.inr (by omega)) (e_uq hw13 (Or.inr (by omega)) rfl)) (j6 b g1 (by omega)))), (fun b g1 g2 => Decidable.byCases (p := b = y2) (fun e => Or.inl (by rw [e]; exact (e_uq hw27 (Or.inr (by omega)) (e_ue hw13)))) (fun e => by rw [show w27 276 (36 * b + 20) = v1 276 (36 * b + 20) from (e_uq hw27 (Or.inr (by omega)) (e_uq hw13 (Or.inr (by omega)) rfl))]; exact j7 b g1 g2))⟩ (by omega))
          exact ⟨rfl, rfl, rfl, trivial⟩
  refine e_Ok.sub eAlk (e_sub_of rfl ?_) (hL1 (5 + 1 : Int).toNat 0 w ⟨(e_fr.refl w), hT, by omega, (fun b g1 g2 => by omega), (fun b g1 g2 => Or.inr rfl)⟩ (by omega))
  exact ⟨rfl, rfl, rfl, trivial⟩
theorem no_55_1 {k : Int} : ¬ mE 275 k := by unfold mE; omega
theorem no_55_2 {a : Int} (ha : 0 ≤ a ∧ a ≤ 3) : ¬ mE 276 (36 * a + 25) := by unfold mE; omega
theorem no_55_3 {b : Int} (hb : 0 ≤ b ∧ b ≤ 3) : ¬ mE 276 (36 * b + 22) := by unfold mE; omega
theorem su_55_8 {c k : Int} (q : mE c k) : mBM c k := by
  unfold mE at q
  rcases q with ⟨q, (q | q)⟩
  · exact ⟨(by omega), Or.inl (by omega)⟩
  · exact ⟨(by omega), Or.inr (Or.inl (by omega))⟩
theorem c_383 {d : Nat} (hd : 21 ≤ d) {w : eW} (hT : e_Has mTy w) {a : Int} (ha : 0 ≤ a ∧ a ≤ 3) (hE : w 276 5 ≤ 2147483646) : e_Ok 20 elay ecode eI d 383 (0, [(0, (1, 275)), (1, (0, a))], [], w) (fun r w' => r = [] ∧ e_fr mBM w w' ∧ e_Has mTy w' ∧ w 276 5 ≤ w' 276 5 ∧ w' 276 5 ≤ w 276 5 + 1 ∧ (w 276 (36 * a + 16) = 1 → w' 276 (36 * a + 22) = 0) ∧ (∀ b, 0 ≤ b → b ≤ 3 → (w 276 (36 * a + 16) ≠ 1 ∨ b ≠ a) → w' 276 (36 * b + 22) = w 276 (36 * b + 22))) := by
  obtain ⟨d, rfl⟩ : ∃ e, d = e + 1 := ⟨d - 1, by omega⟩
  refine e_Ok.ps1 (x := (0, a)) (q := 1) 1 rfl ?_
  refine e_Ok.callS rfl (e_dq hd rfl) rfl rfl (c_268 (by omega)) (fun r1 w2 h3 => ?_)
  obtain ⟨rfl, rfl⟩ := h3
  refine e_Ok.nrm (q := 4) (st' := [(0, 36 * a + 16)]) rfl rfl ?_
  refine e_Ok.run (t' := (6, [(2, (0, 36 * a + 16)), (0, (1, 275)), (1, (0, a))], [(1, 275)], w)) 2 rfl ?_
  refine e_Ok.getr (z := 276) rfl (el_o rfl) rfl (ef_o rfl) (e_Has.eq hT (mt_o rfl)) ⟨by decide, by decide⟩ ?_
  refine e_Ok.ps2 (x := (0, 0)) (y := (0, 36 * a + 16)) (q := 11) 2 rfl ?_
  refine e_Ok.add (z := 36 * a + 16) rfl (e_adl (by decide)) (by omega) ?_
  have h4 := (e_Has.get hT (c := 276) (k := 36 * a + 16) (lo := 0) (hi := 2) (nR_STATE (a := a) (by omega)) (by decide))
  refine e_Ok.ald (z := w 276 (36 * a + 16)) rfl (el_o rfl) rfl (by omega) rfl (e_bq h4 (by decide) (by decide)) ?_
  refine e_Ok.ps1 (x := (0, 1)) (q := 14) 1 rfl ?_
  refine e_Ok.if2 rfl (fun h5 => ?_) (fun h5 => ?_)
  · replace h5 : (w 276 (36 * a + 16) : Int) ≠ 1 := h5
    refine e_Ok.rets rfl rfl ?_
    have e6 : w 276 5 = w 276 5 := rfl
    exact ⟨rfl, (e_fr.refl w), hT, by omega, by omega, (fun e => absurd e (by omega)), (fun b g1 g2 g3 => rfl)⟩
  · replace h5 : (w 276 (36 * a + 16) : Int) = 1 := Classical.not_not.mp (show ¬ ((w 276 (36 * a + 16) : Int) ≠ 1) from h5)
    refine e_Ok.ps4 (x := (0, 0)) (y := (0, a)) (z := (0, 9)) (u := (1, 275)) (q := 22) 4 rfl ?_
    refine e_Ok.callV rfl (e_dq hd rfl) rfl rfl rfl rfl (c_319 hT (by omega) (by omega) (by omega) (by omega)) (fun r7 w8 h9 => ?_)
    obtain ⟨rfl, q10, q10T, q10n⟩ := h9
    have f11 : e_fr mBM w w8 := e_fr.trans (e_fr.refl w) (e_fr.mono q10 (fun c k q => su_55_8 q))
    refine e_Ok.nrm (q := 25) (st' := []) rfl rfl ?_
    refine e_Ok.ps1 (x := (1, 275)) (q := 26) 1 rfl ?_
    refine e_Ok.getr (z := 276) rfl (el_o rfl) rfl (ef_o rfl) ((q10 275 0 no_55_1).trans (e_Has.eq hT (mt_o rfl))) ⟨by decide, by decide⟩ ?_
    refine e_Ok.ps2 (x := (0, 9)) (y := (0, 36 * a + 16)) (q := 32) 2 rfl ?_
    refine e_Ok.add (z := 36 * a + 25) rfl (e_adl (by decide)) (by omega) ?_
    have h12 := (e_Has.get hT (c := 276) (k := 36 * a + 25) (lo := (-1)) (hi := 15) (nR_MOVER (a := a) (by omega)) (by decide))
    refine e_Ok.ald (z := w 276 (36 * a + 25)) rfl (el_o rfl) rfl (by omega) ((q10 276 (36 * a + 25) (by first | exact no_55_2 (by omega) | (unfold mE; omega))).trans rfl) (e_bq h12 (by decide) (by decide)) ?_
    refine e_Ok.if1 rfl (fun h13 => ?_) (fun h13 => ?_)
    · replace h13 : (w 276 (36 * a + 25) : Int) < 0 := h13
      refine e_Ok.ps1 (x := (1, 275)) (q := 59) 1 rfl ?_
      refine e_Ok.getr (z := 276) rfl (el_o rfl) rfl (ef_o rfl) ((q10 275 0 no_55_1).trans (e_Has.eq hT (mt_o rfl))) ⟨by decide, by decide⟩ ?_
      refine e_Ok.ps2 (x := (0, 9)) (y := (0, 36 * a + 16)) (q := 65) 2 rfl ?_
      refine e_Ok.add (z := 36 * a + 25) rfl (e_adl (by decide)) (by omega) ?_
      refine e_Ok.ps1 (x := (0, (-1))) (q := 67) 1 rfl ?_
      refine e_Ok.ast rfl (el_o rfl) rfl rfl (by omega) ?_
      generalize hw14 : e_up w8 276 (36 * a + 25) (-1) = w14
      have hT16 : e_Has mTy w14 := e_Has.upr q10T hw14 (nR_MOVER (a := a) (by omega)) (by omega)
      refine e_Ok.ps1 (x := (1, 275)) (q := 69) 1 rfl ?_
      refine e_Ok.getr (z := 276) rfl (el_o rfl) rfl (ef_o rfl) (e_uq hw14 (Or.inl (by decide)) ((q10 275 0 no_55_1).trans (e_Has.eq hT (mt_o rfl)))) ⟨by decide, by decide⟩ ?_
      refine e_Ok.ps2 (x := (0, 6)) (y := (0, 36 * a + 16)) (q := 75) 2 rfl ?_
      refine e_Ok.add (z := 36 * a + 22) rfl (e_adl (by decide)) (by omega) ?_
      refine e_Ok.ps1 (x := (0, 0)) (q := 77) 1 rfl ?_
      refine e_Ok.ast rfl (el_o rfl) rfl rfl (by omega) ?_
      generalize hw17 : e_up w14 276 (36 * a + 22) 0 = w17
      have hT19 : e_Has mTy w17 := e_Has.upr hT16 hw17 (nR_TRAVELS (a := a) (by omega)) (by omega)
      refine e_Ok.rets rfl rfl ?_
      have e20 : w17 276 5 = w8 276 5 := (e_uq hw17 (Or.inr (by omega)) (e_uq hw14 (Or.inr (by omega)) rfl))
      exact ⟨rfl, (show e_fr mBM w w17 from e_fr.up (show e_fr mBM w w14 from e_fr.up f11 hw14 (by first | exact ⟨rfl, Or.inr (Or.inr (Or.inl ⟨(by omega), ⟨(by omega), Or.inr (by omega)⟩⟩))⟩ | (unfold mBM; omega))) hw17 (by first | exact ⟨rfl, Or.inr (Or.inr (Or.inl ⟨(by omega), ⟨(by omega), Or.inl (by omega)⟩⟩))⟩ | (unfold mBM; omega))), hT19, by omega, by omega, (fun e => (e_ue hw17)), (fun b g1 g2 g3 => (e_uq hw17 (Or.inr (by omega)) (e_uq hw14 (Or.inr (by omega)) ((q10 276 (36 * b + 22) (by first | exact no_55_3 (by omega) | (unfold mE; omega))).trans rfl))))⟩
    · replace h13 : (w 276 (36 * a + 25) : Int) ≥ 0 := Int.not_lt.mp (show ¬ ((w 276 (36 * a + 25) : Int) < 0) from h13)
      refine e_Ok.ps1 (x := (1, 275)) (q := 38) 1 rfl ?_
      refine e_Ok.getr (z := 276) rfl (el_o rfl) rfl (ef_o rfl) ((q10 275 0 no_55_1).trans (e_Has.eq hT (mt_o rfl))) ⟨by decide, by decide⟩ ?_
      refine e_Ok.ps1 (x := (1, 275)) (q := 42) 1 rfl ?_
      refine e_Ok.getr (z := 276) rfl (el_o rfl) rfl (ef_o rfl) ((q10 275 0 no_55_1).trans (e_Has.eq hT (mt_o rfl))) ⟨by decide, by decide⟩ ?_
      refine e_Ok.ps2 (x := (0, 9)) (y := (0, 36 * a + 16)) (q := 48) 2 rfl ?_
      refine e_Ok.add (z := 36 * a + 25) rfl (e_adl (by decide)) (by omega) ?_
      refine e_Ok.ald (z := w 276 (36 * a + 25)) rfl (el_o rfl) rfl (by omega) ((q10 276 (36 * a + 25) (by first | exact no_55_2 (by omega) | (unfold mE; omega))).trans rfl) (by omega) ?_
      refine e_Ok.callS rfl (e_dq hd rfl) rfl rfl (c_269 (by omega)) (fun r21 w22 h23 => ?_)
      obtain ⟨rfl, rfl⟩ := h23
      refine e_Ok.nrm (q := 53) (st' := [(0, 1260 * w 276 (36 * a + 25) + 416), (1, 276)]) rfl rfl ?_
      refine e_Ok.ps1 (x := (0, 7)) (q := 55) 1 rfl ?_
      refine e_Ok.add (z := 1260 * w 276 (36 * a + 25) + 423) rfl (e_adl (by decide)) (by omega) ?_
      refine e_Ok.ps1 (x := (0, 1)) (q := 57) 1 rfl ?_
      refine e_Ok.ast rfl (el_o rfl) rfl rfl (by omega) ?_
      generalize hw24 : e_up w8 276 (1260 * w 276 (36 * a + 25) + 423) 1 = w24
      have hT26 : e_Has mTy w24 := e_Has.upr q10T hw24 (nR_BROKEN (t := w 276 (36 * a + 25)) (by omega)) (by omega)
      refine e_Ok.ps1 (x := (1, 275)) (q := 59) 1 rfl ?_
      refine e_Ok.getr (z := 276) rfl (el_o rfl) rfl (ef_o rfl) (e_uq hw24 (Or.inl (by decide)) ((q10 275 0 no_55_1).trans (e_Has.eq hT (mt_o rfl)))) ⟨by decide, by decide⟩ ?_
      refine e_Ok.ps2 (x := (0, 9)) (y := (0, 36 * a + 16)) (q := 65) 2 rfl ?_
      refine e_Ok.add (z := 36 * a + 25) rfl (e_adl (by decide)) (by omega) ?_
      refine e_Ok.ps1 (x := (0, (-1))) (q := 67) 1 rfl ?_
      refine e_Ok.ast rfl (el_o rfl) rfl rfl (by omega) ?_
      generalize hw27 : e_up w24 276 (36 * a + 25) (-1) = w27
      have hT29 : e_Has mTy w27 := e_Has.upr hT26 hw27 (nR_MOVER (a := a) (by omega)) (by omega)
      refine e_Ok.ps1 (x := (1, 275)) (q := 69) 1 rfl ?_
      refine e_Ok.getr (z := 276) rfl (el_o rfl) rfl (ef_o rfl) (e_uq hw27 (Or.inl (by decide)) (e_uq hw24 (Or.inl (by decide)) ((q10 275 0 no_55_1).trans (e_Has.eq hT (mt_o rfl))))) ⟨by decide, by decide⟩ ?_
      refine e_Ok.ps2 (x := (0, 6)) (y := (0, 36 * a + 16)) (q := 75) 2 rfl ?_
      refine e_Ok.add (z := 36 * a + 22) rfl (e_adl (by decide)) (by omega) ?_
      refine e_Ok.ps1 (x := (0, 0)) (q := 77) 1 rfl ?_
      refine e_Ok.ast rfl (el_o rfl) rfl rfl (by omega) ?_
      generalize hw30 : e_up w27 276 (36 * a + 22) 0 = w30
      have hT32 : e_Has mTy w30 := e_Has.upr hT29 hw30 (nR_TRAVELS (a := a) (by omega)) (by omega)
      refine e_Ok.rets rfl rfl ?_
      have e33 : w30 276 5 = w8 276 5 := (e_uq hw30 (Or.inr (by omega)) (e_uq hw27 (Or.inr (by omega)) (e_uq hw24 (Or.inr (by omega)) rfl)))
      exact ⟨rfl, (show e_fr mBM w w30 from e_fr.up (show e_fr mBM w w27 from e_fr.up (show e_fr mBM w w24 from e_fr.up f11 hw24 (by first | exact ⟨rfl, Or.inr (Or.inl (by omega))⟩ | (unfold mBM; omega))) hw27 (by first | exact ⟨rfl, Or.inr (Or.inr (Or.inl ⟨(by omega), ⟨(by omega), Or.inr (by omega)⟩⟩))⟩ | (unfold mBM; omega))) hw30 (by first | exact ⟨rfl, Or.inr (Or.inr (Or.inl ⟨(by omega), ⟨(by omega), Or.inl (by omega)⟩⟩))⟩ | (unfold mBM; omega))), hT32, by omega, by omega, (fun e => (e_ue hw30)), (fun b g1 g2 g3 => (e_uq hw30 (Or.inr (by omega)) (e_uq hw27 (Or.inr (by omega)) (e_uq hw24 (Or.inr (by omega)) ((q10 276 (36 * b + 22) (by first | exact no_55_3 (by omega) | (unfold mE; omega))).trans rfl)))))⟩
theorem no_55_4 {k : Int} : ¬ mBM 275 k := by unfold mBM; omega
theorem no_55_5 {b : Int} (hb : 0 ≤ b ∧ b ≤ 3) : ¬ mBM 276 (36 * b + 16) := by unfold mBM; omega
theorem su_55_9 {c k : Int} (q : mBM c k) : mBr c k := by
  unfold mBM at q
  rcases q with ⟨q, (q | q | ⟨q, (⟨q, (q | q)⟩)⟩ | ⟨q, ⟨q, q⟩⟩)⟩
  · exact ⟨(by omega), Or.inl (by omega)⟩
  · exact ⟨(by omega), Or.inr (Or.inl (by omega))⟩
  · exact ⟨(by omega), Or.inr (Or.inr (Or.inl ⟨(by omega), ⟨(by omega), Or.inl (by omega)⟩⟩))⟩
  · unfold mBr; omega
  · exact ⟨(by omega), Or.inr (Or.inr (Or.inr (Or.inl ⟨(by omega), ⟨(by omega), (by omega)⟩⟩)))⟩
theorem c_384 {d : Nat} (hd : 22 ≤ d) {w : eW} (hT : e_Has mTy w) {a : Int} (ha : 0 ≤ a ∧ a ≤ 3) (hE : w 276 5 ≤ 2147483646) : e_Ok 20 elay ecode eI d 384 (0, [(0, (1, 275)), (1, (0, a))], [], w) (fun r w' => r = [] ∧ e_fr mBr w w' ∧ e_Has mTy w' ∧ (w 276 5 ≤ w' 276 5 ∧ w' 276 5 ≤ w 276 5 + 1) ∧ sRel w w') := by
  obtain ⟨d, rfl⟩ : ∃ e, d = e + 1 := ⟨d - 1, by omega⟩
  refine e_Ok.ps1 (x := (1, 275)) (q := 1) 1 rfl ?_
  refine e_Ok.getr (z := 276) rfl (el_o rfl) rfl (ef_o rfl) (e_Has.eq hT (mt_o rfl)) ⟨by decide, by decide⟩ ?_
  refine e_Ok.ps1 (x := (0, a)) (q := 5) 1 rfl ?_
  refine e_Ok.callS rfl (e_dq hd rfl) rfl rfl (c_268 (by omega)) (fun r1 w2 h3 => ?_)
  obtain ⟨rfl, rfl⟩ := h3
  refine e_Ok.nrm (q := 8) (st' := [(0, 36 * a + 16), (1, 276)]) rfl rfl ?_
  refine e_Ok.ps1 (x := (0, 0)) (q := 9) 1 rfl ?_
  refine e_Ok.add (z := 36 * a + 16) rfl (e_adl (by decide)) (by omega) ?_
  have h4 := (e_Has.get hT (c := 276) (k := 36 * a + 16) (lo := 0) (hi := 2) (nR_STATE (a := a) (by omega)) (by decide))
  refine e_Ok.ald (z := w 276 (36 * a + 16)) rfl (el_o rfl) rfl (by omega) rfl (e_bq h4 (by decide) (by decide)) ?_
  refine e_Ok.ps1 (x := (0, 1)) (q := 12) 1 rfl ?_
  refine e_Ok.if2 rfl (fun h5 => ?_) (fun h5 => ?_)
  · replace h5 : (w 276 (36 * a + 16) : Int) ≠ 1 := h5
    refine e_Ok.rets rfl rfl ?_
    have e6 : w 276 5 = w 276 5 := rfl
    have e7 : w 276 (36 * a + 16) = w 276 (36 * a + 16) := rfl
    exact ⟨rfl, (e_fr.refl w), hT, by omega, fun b g1 g2 => Or.inl ⟨rfl, rfl⟩⟩
  · replace h5 : (w 276 (36 * a + 16) : Int) = 1 := Classical.not_not.mp (show ¬ ((w 276 (36 * a + 16) : Int) ≠ 1) from h5)
    refine e_Ok.ps2 (x := (0, a)) (y := (1, 275)) (q := 17) 2 rfl ?_
    refine e_Ok.callV rfl (e_dq hd rfl) rfl rfl rfl rfl (c_383 (e_dq hd rfl) hT (by omega) (by omega)) (fun r8 w9 h10 => ?_)
    obtain ⟨rfl, q11, q11T, q11n, q11m, q11a, q11b⟩ := h10
    refine e_Ok.nrm (q := 20) (st' := []) rfl rfl ?_
    refine e_Ok.ps1 (x := (1, 275)) (q := 21) 1 rfl ?_
    refine e_Ok.getr (z := 276) rfl (el_o rfl) rfl (ef_o rfl) ((q11 275 0 no_55_4).trans (e_Has.eq hT (mt_o rfl))) ⟨by decide, by decide⟩ ?_
    refine e_Ok.ps1 (x := (0, a)) (q := 25) 1 rfl ?_
    refine e_Ok.callS rfl (e_dq hd rfl) rfl rfl (c_268 (by omega)) (fun r13 w14 h15 => ?_)
    obtain ⟨rfl, rfl⟩ := h15
    refine e_Ok.nrm (q := 28) (st' := [(0, 36 * a + 16), (1, 276)]) rfl rfl ?_
    refine e_Ok.ps1 (x := (0, 0)) (q := 29) 1 rfl ?_
    refine e_Ok.add (z := 36 * a + 16) rfl (e_adl (by decide)) (by omega) ?_
    refine e_Ok.ps1 (x := (0, 2)) (q := 31) 1 rfl ?_
    refine e_Ok.ast rfl (el_o rfl) rfl rfl (by omega) ?_
    generalize hw16 : e_up w9 276 (36 * a + 16) 2 = w16
    have hT18 : e_Has mTy w16 := e_Has.upr q11T hw16 (nR_STATE (a := a) (by omega)) (by omega)
    refine e_Ok.rets rfl rfl ?_
    have e19 : w16 276 5 = w9 276 5 := (e_uq hw16 (Or.inr (by omega)) rfl)
    have e20 : w16 276 (36 * a + 16) = 2 := (e_ue hw16)
    exact ⟨rfl, (show e_fr mBr w w16 from e_fr.up (show e_fr mBr w w9 from e_fr.trans (e_fr.refl w) (e_fr.mono q11 (fun c k q => su_55_9 q))) hw16 (by first | exact ⟨rfl, Or.inr (Or.inr (Or.inr (Or.inr ⟨(by omega), ⟨(by omega), (by omega)⟩⟩)))⟩ | (unfold mBr; omega))), hT18, by omega, fun b g1 g2 => Decidable.byCases (p := b = a) (fun e => Or.inr (by rw [e]; exact ⟨by omega, (e_ue hw16), Eq.trans (e_uq hw16 (Or.inr (by omega)) rfl) (q11a (by omega))⟩)) (fun e => Or.inl ⟨(e_uq hw16 (Or.inr (by omega)) ((q11 276 (36 * b + 16) (by first | exact no_55_5 (by omega) | (unfold mBM; omega))).trans rfl)), Eq.trans (e_uq hw16 (Or.inr (by omega)) rfl) (q11b b g1 g2 (Or.inr e))⟩)⟩
theorem c_399 {d : Nat} {w : eW} (hT : e_Has mTy w) {a : Int} (ha : 0 ≤ a ∧ a ≤ 7) : e_Ok 20 elay ecode eI d 399 (0, [(0, (1, 275)), (1, (0, a))], [], w) (fun r w' => ∃ z : Int, r = [(0, z)] ∧ w = w' ∧ 0 ≤ z ∧ z ≤ 1) := by
  refine e_Ok.ps3 (x := (0, a)) (y := (0, 4)) (z := (0, 20836)) (q := 5) 3 rfl ?_
  refine e_Ok.mul (z := 4 * a) rfl rfl (by omega) ?_
  refine e_Ok.add (z := 4 * a + 20836) rfl (Int.add_comm _ _) (by omega) ?_
  refine e_Ok.run (t' := (9, [(2, (0, 4 * a + 20836)), (0, (1, 275)), (1, (0, a))], [(1, 275)], w)) 2 rfl ?_
  refine e_Ok.getr (z := 276) rfl (el_o rfl) rfl (ef_o rfl) (e_Has.eq hT (mt_o rfl)) ⟨by decide, by decide⟩ ?_
  refine e_Ok.ps1 (x := (0, 4 * a + 20836)) (q := 13) 1 rfl ?_
  have h1 := (e_Has.get hT (c := 276) (k := 4 * a + 20836) (lo := 0) (hi := 1) (nR_INPUT (i := a) (f := 0) (by omega) (by decide)) (by decide))
  refine e_Ok.ald (z := w 276 (4 * a + 20836)) rfl (el_o rfl) rfl (by omega) rfl (e_bq h1 (by decide) (by decide)) ?_
  refine e_Ok.ps1 (x := (0, 1)) (q := 15) 1 rfl ?_
  refine e_Ok.if2 rfl (fun h2 => ?_) (fun h2 => ?_)
  · replace h2 : (w 276 (4 * a + 20836) : Int) ≠ 1 := h2
    refine e_Ok.ps1 (x := (0, 0)) (q := 46) 1 rfl ?_
    refine e_Ok.rets rfl rfl ?_
    exact ⟨_, rfl, rfl, by omega, by omega⟩
  · replace h2 : (w 276 (4 * a + 20836) : Int) = 1 := Classical.not_not.mp (show ¬ ((w 276 (4 * a + 20836) : Int) ≠ 1) from h2)
    refine e_Ok.ps1 (x := (1, 275)) (q := 19) 1 rfl ?_
    refine e_Ok.getr (z := 276) rfl (el_o rfl) rfl (ef_o rfl) (e_Has.eq hT (mt_o rfl)) ⟨by decide, by decide⟩ ?_
    refine e_Ok.ps2 (x := (0, 1)) (y := (0, 4 * a + 20836)) (q := 24) 2 rfl ?_
    refine e_Ok.add (z := 4 * a + 20837) rfl (e_adl (by decide)) (by omega) ?_
    have h3 := (e_Has.get hT (c := 276) (k := 4 * a + 20837) (lo := 0) (hi := 1) (nR_INPUT (i := a) (f := 1) (by omega) (by decide)) (by decide))
    refine e_Ok.ald (z := w 276 (4 * a + 20837)) rfl (el_o rfl) rfl (by omega) rfl (e_bq h3 (by decide) (by decide)) ?_
    refine e_Ok.ps1 (x := (0, 1)) (q := 27) 1 rfl ?_
    refine e_Ok.if2 rfl (fun h4 => ?_) (fun h4 => ?_)
    · replace h4 : (w 276 (4 * a + 20837) : Int) ≠ 1 := h4
      refine e_Ok.ps1 (x := (0, 0)) (q := 46) 1 rfl ?_
      refine e_Ok.rets rfl rfl ?_
      exact ⟨_, rfl, rfl, by omega, by omega⟩
    · replace h4 : (w 276 (4 * a + 20837) : Int) = 1 := Classical.not_not.mp (show ¬ ((w 276 (4 * a + 20837) : Int) ≠ 1) from h4)
      refine e_Ok.ps1 (x := (1, 275)) (q := 31) 1 rfl ?_
      refine e_Ok.getr (z := 276) rfl (el_o rfl) rfl (ef_o rfl) (e_Has.eq hT (mt_o rfl)) ⟨by decide, by decide⟩ ?_
      refine e_Ok.ps2 (x := (0, 3)) (y := (0, 4 * a + 20836)) (q := 36) 2 rfl ?_
      refine e_Ok.add (z := 4 * a + 20839) rfl (e_adl (by decide)) (by omega) ?_
      have h5 := (e_Has.get hT (c := 276) (k := 4 * a + 20839) (lo := 0) (hi := 1) (nR_INPUT (i := a) (f := 3) (by omega) (by decide)) (by decide))
      refine e_Ok.ald (z := w 276 (4 * a + 20839)) rfl (el_o rfl) rfl (by omega) rfl (e_bq h5 (by decide) (by decide)) ?_
      have hJ8 : ∀ m7 : Int, 0 ≤ m7 ∧ m7 ≤ 1 → e_Ok 20 elay ecode eI d 399 (46, [(2, (0, 4 * a + 20836)), (0, (1, 275)), (1, (0, a))], [(0, m7)], w) (fun r w' => ∃ z : Int, r = [(0, z)] ∧ w = w' ∧ 0 ≤ z ∧ z ≤ 1) := by
        intro m7 m7r
        refine e_Ok.retb rfl (by omega) ?_
        exact ⟨_, rfl, rfl, by omega, by omega⟩
      refine e_Ok.if1 rfl (fun h6 => ?_) (fun h6 => ?_)
      · exact e_Ok.run 1 rfl (hJ8 0 (by omega))
      · exact e_Ok.run 2 rfl (hJ8 1 (by omega))
theorem c_400 {d : Nat} (hd : 21 ≤ d) {w : eW} (hT : e_Has mTy w) : e_Ok 20 elay ecode eI d 400 (0, [(0, (1, 275))], [], w) (fun r w' => ∃ z : Int, r = [(0, z)] ∧ w = w' ∧ -1 ≤ z ∧ z ≤ 7) := by
  obtain ⟨d, rfl⟩ : ∃ e, d = e + 1 := ⟨d - 1, by omega⟩
  refine e_Ok.run (t' := (2, [(1, (0, 0)), (0, (1, 275))], [], w)) 2 rfl ?_
  have hL1 : ∀ (nn : Nat) (y1 : Int), 0 ≤ y1 ∧ y1 ≤ 8 → 9 - y1 < nn → e_Ok 20 elay ecode eI (d + 1) 400 (2, [(0, (1, 275)), (1, (0, y1))], [], w) (fun r w' => ∃ z : Int, r = [(0, z)] ∧ w = w' ∧ -1 ≤ z ∧ z ≤ 7) := by
    intro nn
    induction nn with
    | zero => intro y1 hj hm; obtain j3 := hj; exfalso; omega
    | succ nn ih2 =>
      intro y1 hj hm
      obtain j3 := hj
      refine e_Ok.run (t' := (4, [(0, (1, 275)), (1, (0, y1))], [(1, 275), (0, y1)], w)) 2 rfl ?_
      have h4 := (e_Has.get hT (c := 275) (k := 49) (lo := 0) (hi := 8) (mt_o rfl) (by decide))
      refine e_Ok.getf (z := w 275 49) rfl (el_o rfl) rfl (ef_o rfl) rfl (e_bq h4 (by decide) (by decide)) ?_
      refine e_Ok.if2 rfl (fun h5 => ?_) (fun h5 => ?_)
      · replace h5 : (y1 : Int) ≥ w 275 49 := h5
        refine e_Ok.ps1 (x := (0, (-1))) (q := 27) 1 rfl ?_
        refine e_Ok.rets rfl rfl ?_
        exact ⟨_, rfl, rfl, by omega, by omega⟩
      · replace h5 : (y1 : Int) < w 275 49 := Int.not_le.mp (show ¬ ((y1 : Int) ≥ w 275 49) from h5)
        refine e_Ok.ps2 (x := (0, y1)) (y := (1, 275)) (q := 12) 2 rfl ?_
        refine e_Ok.callV rfl (e_dq hd rfl) rfl rfl rfl rfl (c_399 hT (by omega)) (fun r6 w7 h8 => ?_)
        obtain ⟨z9, rfl, rfl, q10a, q10b⟩ := h8
        refine e_Ok.nrm (q := 15) (st' := [(0, z9)]) rfl rfl ?_
        refine e_Ok.if1 rfl (fun h11 => ?_) (fun h11 => ?_)
        · replace h11 : (z9 : Int) ≠ 0 := h11
          refine e_Ok.inc (z := y1 + 1) rfl rfl (by first | with_reducible rfl | omega) (by omega) ?_
          show e_Ok 20 elay ecode eI (d + 1) 400 (23, [(1, (0, y1 + 1)), (0, (1, 275))], [], w) _
          refine e_Ok.ps0 (q := 2) 1 rfl ?_
          refine e_Ok.sub eAlk (e_sub_of rfl ?_) (ih2 (y1 + 1) (by omega) (by omega))
          exact ⟨rfl, rfl, trivial⟩
        · replace h11 : (z9 : Int) = 0 := Classical.not_not.mp (show ¬ ((z9 : Int) ≠ 0) from h11)
          refine e_Ok.ps1 (x := (0, y1)) (q := 19) 1 rfl ?_
          refine e_Ok.rets rfl rfl ?_
          exact ⟨_, rfl, rfl, by omega, by omega⟩
  refine e_Ok.sub eAlk (e_sub_of rfl ?_) (hL1 (9 + 1 : Int).toNat 0 (by omega) (by omega))
  exact ⟨rfl, rfl, trivial⟩
theorem no_55_6 {k : Int} : ¬ mIn 275 k := by unfold mIn; omega
theorem no_55_7 {k : Int} : ¬ mIn 316 k := by unfold mIn; omega
theorem c_401 {d : Nat} {w : eW} (hT : e_Has mTy w) : e_Ok 20 elay ecode eI d 401 (0, [(0, (1, 275))], [], w) (fun r w' => r = [] ∧ e_fr mIn w w' ∧ e_Has mTy w') := by
  refine e_Ok.run (t' := (2, [(1, (0, 0)), (0, (1, 275))], [], w)) 2 rfl ?_
  have hL1 : ∀ (nn : Nat) (y1 : Int) (v1 : eW), e_fr mIn w v1 ∧ e_Has mTy v1 ∧ (0 ≤ y1 ∧ y1 ≤ 8) → 9 - y1 < nn → e_Ok 20 elay ecode eI d 401 (2, [(0, (1, 275)), (1, (0, y1))], [], v1) (fun r w' => r = [] ∧ e_fr mIn w w' ∧ e_Has mTy w') := by
    intro nn
    induction nn with
    | zero => intro y1 v1 hj hm; obtain ⟨j3, j4, j5⟩ := hj; exfalso; omega
    | succ nn ih2 =>
      intro y1 v1 hj hm
      obtain ⟨j3, j4, j5⟩ := hj
      refine e_Ok.run (t' := (4, [(0, (1, 275)), (1, (0, y1))], [(1, 275), (0, y1)], v1)) 2 rfl ?_
      have h6 := (e_Has.get hT (c := 275) (k := 49) (lo := 0) (hi := 8) (mt_o rfl) (by decide))
      refine e_Ok.getf (z := w 275 49) rfl (el_o rfl) rfl (ef_o rfl) ((j3 275 49 no_55_6).trans rfl) (e_bq h6 (by decide) (by decide)) ?_
      refine e_Ok.if2 rfl (fun h7 => ?_) (fun h7 => ?_)
      · replace h7 : (y1 : Int) ≥ w 275 49 := h7
        refine e_Ok.rets rfl rfl ?_
        exact ⟨rfl, j3, j4⟩
      · replace h7 : (y1 : Int) < w 275 49 := Int.not_le.mp (show ¬ ((y1 : Int) ≥ w 275 49) from h7)
        refine e_Ok.ps3 (x := (0, y1)) (y := (0, 4)) (z := (0, 20836)) (q := 15) 3 rfl ?_
        refine e_Ok.mul (z := 4 * y1) rfl rfl (by omega) ?_
        refine e_Ok.add (z := 4 * y1 + 20836) rfl (Int.add_comm _ _) (by omega) ?_
        refine e_Ok.run (t' := (19, [(2, (0, 4 * y1 + 20836)), (0, (1, 275)), (1, (0, y1))], [(1, 275)], v1)) 2 rfl ?_
        refine e_Ok.getr (z := 276) rfl (el_o rfl) rfl (ef_o rfl) ((j3 275 0 no_55_6).trans (e_Has.eq hT (mt_o rfl))) ⟨by decide, by decide⟩ ?_
        refine e_Ok.ps2 (x := (0, 2)) (y := (0, 4 * y1 + 20836)) (q := 24) 2 rfl ?_
        refine e_Ok.add (z := 4 * y1 + 20838) rfl (e_adl (by decide)) (by omega) ?_
        refine e_Ok.ps1 (x := (1, 275)) (q := 26) 1 rfl ?_
        refine e_Ok.getr (z := 276) rfl (el_o rfl) rfl (ef_o rfl) ((j3 275 0 no_55_6).trans (e_Has.eq hT (mt_o rfl))) ⟨by decide, by decide⟩ ?_
        refine e_Ok.ps1 (x := (0, 4 * y1 + 20836)) (q := 30) 1 rfl ?_
        have h8 := (e_Has.get j4 (c := 276) (k := 4 * y1 + 20836) (lo := 0) (hi := 1) (nR_INPUT (i := y1) (f := 0) (by omega) (by decide)) (by decide))
        refine e_Ok.ald (z := v1 276 (4 * y1 + 20836)) rfl (el_o rfl) rfl (by omega) rfl (e_bq h8 (by decide) (by decide)) ?_
        refine e_Ok.ps1 (x := (1, 275)) (q := 32) 1 rfl ?_
        refine e_Ok.getr (z := 276) rfl (el_o rfl) rfl (ef_o rfl) ((j3 275 0 no_55_6).trans (e_Has.eq hT (mt_o rfl))) ⟨by decide, by decide⟩ ?_
        refine e_Ok.ps2 (x := (0, 1)) (y := (0, 4 * y1 + 20836)) (q := 37) 2 rfl ?_
        refine e_Ok.add (z := 4 * y1 + 20837) rfl (e_adl (by decide)) (by omega) ?_
        have h9 := (e_Has.get j4 (c := 276) (k := 4 * y1 + 20837) (lo := 0) (hi := 1) (nR_INPUT (i := y1) (f := 1) (by omega) (by decide)) (by decide))
        refine e_Ok.ald (z := v1 276 (4 * y1 + 20837)) rfl (el_o rfl) rfl (by omega) rfl (e_bq h9 (by decide) (by decide)) ?_
        refine e_Ok.if2 rfl (fun h10 => ?_) (fun h10 => ?_)
        · replace h10 : (v1 276 (4 * y1 + 20836) : Int) = v1 276 (4 * y1 + 20837) := h10
          refine e_Ok.ps1 (x := (0, 0)) (q := 56) 1 rfl ?_
          refine e_Ok.ast rfl (el_o rfl) rfl rfl (by omega) ?_
          generalize hw11 : e_up v1 276 (4 * y1 + 20838) 0 = w11
          have hT13 : e_Has mTy w11 := e_Has.upr j4 hw11 (nR_INPUT2 (i := y1) (by omega)) (by omega)
          refine e_Ok.ps1 (x := (1, 275)) (q := 58) 1 rfl ?_
          refine e_Ok.getr (z := 276) rfl (el_o rfl) rfl (ef_o rfl) (e_uq hw11 (Or.inl (by decide)) ((j3 275 0 no_55_6).trans (e_Has.eq hT (mt_o rfl)))) ⟨by decide, by decide⟩ ?_
          refine e_Ok.ps2 (x := (0, 3)) (y := (0, 4 * y1 + 20836)) (q := 63) 2 rfl ?_
          refine e_Ok.add (z := 4 * y1 + 20839) rfl (e_adl (by decide)) (by omega) ?_
          refine e_Ok.ps1 (x := (1, 275)) (q := 65) 1 rfl ?_
          refine e_Ok.getr (z := 276) rfl (el_o rfl) rfl (ef_o rfl) (e_uq hw11 (Or.inl (by decide)) ((j3 275 0 no_55_6).trans (e_Has.eq hT (mt_o rfl)))) ⟨by decide, by decide⟩ ?_
          refine e_Ok.ps2 (x := (0, 2)) (y := (0, 4 * y1 + 20836)) (q := 70) 2 rfl ?_
          refine e_Ok.add (z := 4 * y1 + 20838) rfl (e_adl (by decide)) (by omega) ?_
          refine e_Ok.ald (z := 0) rfl (el_o rfl) rfl (by omega) (e_ue hw11) (by omega) ?_
          refine e_Ok.ps1 (x := (1, 275)) (q := 73) 1 rfl ?_
          refine e_Ok.getr (z := 316) rfl (el_o rfl) rfl (ef_o rfl) (e_uq hw11 (Or.inl (by decide)) ((j3 275 50 no_55_6).trans (e_Has.eq hT (mt_o rfl)))) ⟨by decide, by decide⟩ ?_
          refine e_Ok.ps1 (x := (0, y1)) (q := 77) 1 rfl ?_
          have h14 := (e_Has.get hT (c := 316) (k := y1) (lo := 0) (hi := 1000) (mt_o rfl) (by decide))
          refine e_Ok.ald (z := w 316 y1) rfl (el_o rfl) rfl (by omega) (e_uq hw11 (Or.inl (by decide)) ((j3 316 y1 no_55_7).trans rfl)) (e_bq h14 (by decide) (by decide)) ?_
          refine e_Ok.if2 rfl (fun h15 => ?_) (fun h15 => ?_)
          · replace h15 : (0 : Int) ≤ w 316 y1 := h15
            refine e_Ok.ps1 (x := (1, 275)) (q := 86) 1 rfl ?_
            refine e_Ok.getr (z := 276) rfl (el_o rfl) rfl (ef_o rfl) (e_uq hw11 (Or.inl (by decide)) ((j3 275 0 no_55_6).trans (e_Has.eq hT (mt_o rfl)))) ⟨by decide, by decide⟩ ?_
            refine e_Ok.ps2 (x := (0, 3)) (y := (0, 4 * y1 + 20836)) (q := 91) 2 rfl ?_
            refine e_Ok.add (z := 4 * y1 + 20839) rfl (e_adl (by decide)) (by omega) ?_
            have h16 := (e_Has.get j4 (c := 276) (k := 4 * y1 + 20839) (lo := 0) (hi := 1) (nR_INPUT (i := y1) (f := 3) (by omega) (by decide)) (by decide))
            refine e_Ok.ald (z := v1 276 (4 * y1 + 20839)) rfl (el_o rfl) rfl (by omega) (e_uq hw11 (Or.inr (e_neo (by decide))) rfl) (e_bq h16 (by decide) (by decide)) ?_
            refine e_Ok.ast rfl (el_o rfl) rfl rfl (by omega) ?_
            generalize hw17 : e_up w11 276 (4 * y1 + 20839) (v1 276 (4 * y1 + 20839)) = w17
            have hT19 : e_Has mTy w17 := e_Has.upr hT13 hw17 (nR_INPUT (i := y1) (f := 3) (by omega) (by decide)) (by omega)
            refine e_Ok.inc (z := y1 + 1) rfl rfl (by first | with_reducible rfl | omega) (by omega) ?_
            show e_Ok 20 elay ecode eI d 401 (97, [(1, (0, y1 + 1)), (2, (0, 4 * y1 + 20836)), (0, (1, 275))], [], w17) _
            refine e_Ok.ps0 (q := 2) 1 rfl ?_
            refine e_Ok.sub eAlk (e_sub_of rfl ?_) (ih2 (y1 + 1) w17 ⟨(show e_fr mIn w w17 from e_fr.up (show e_fr mIn w w11 from e_fr.up j3 hw11 (by unfold mIn; omega)) hw17 (by unfold mIn; omega)), hT19, by omega⟩ (by omega))
            exact ⟨rfl, rfl, trivial⟩
          · replace h15 : (0 : Int) > w 316 y1 := Int.not_le.mp (show ¬ ((0 : Int) ≤ w 316 y1) from h15)
            exfalso; omega
        · replace h10 : (v1 276 (4 * y1 + 20836) : Int) ≠ v1 276 (4 * y1 + 20837) := (show ¬ ((v1 276 (4 * y1 + 20836) : Int) = v1 276 (4 * y1 + 20837)) from h10)
          refine e_Ok.ps1 (x := (1, 275)) (q := 43) 1 rfl ?_
          refine e_Ok.getr (z := 276) rfl (el_o rfl) rfl (ef_o rfl) ((j3 275 0 no_55_6).trans (e_Has.eq hT (mt_o rfl))) ⟨by decide, by decide⟩ ?_
          refine e_Ok.ps2 (x := (0, 2)) (y := (0, 4 * y1 + 20836)) (q := 48) 2 rfl ?_
          refine e_Ok.add (z := 4 * y1 + 20838) rfl (e_adl (by decide)) (by omega) ?_
          have h20 := (e_Has.get j4 (c := 276) (k := 4 * y1 + 20838) (lo := (-2147483648)) (hi := 2147483647) (nR_INPUT2 (i := y1) (by omega)) (by decide))
          refine e_Ok.ald (z := v1 276 (4 * y1 + 20838)) rfl (el_o rfl) rfl (by omega) rfl (e_bq h20 (by decide) (by decide)) ?_
          refine e_Ok.ps1 (x := (0, 1)) (q := 51) 1 rfl ?_
          refine e_Ok.any rfl (eF_add_any _ _) (fun z21 z21a z21b => ?_)
          refine e_Ok.ps0 (q := 56) 1 rfl ?_
          refine e_Ok.ast rfl (el_o rfl) rfl rfl (by omega) ?_
          generalize hw22 : e_up v1 276 (4 * y1 + 20838) z21 = w22
          have f23 : e_fr mIn w w22 := e_fr.up j3 hw22 (by unfold mIn; omega)
          have hT24 : e_Has mTy w22 := e_Has.upr j4 hw22 (nR_INPUT2 (i := y1) (by omega)) (by omega)
          refine e_Ok.ps1 (x := (1, 275)) (q := 58) 1 rfl ?_
          refine e_Ok.getr (z := 276) rfl (el_o rfl) rfl (ef_o rfl) (e_uq hw22 (Or.inl (by decide)) ((j3 275 0 no_55_6).trans (e_Has.eq hT (mt_o rfl)))) ⟨by decide, by decide⟩ ?_
          refine e_Ok.ps2 (x := (0, 3)) (y := (0, 4 * y1 + 20836)) (q := 63) 2 rfl ?_
          refine e_Ok.add (z := 4 * y1 + 20839) rfl (e_adl (by decide)) (by omega) ?_
          refine e_Ok.ps1 (x := (1, 275)) (q := 65) 1 rfl ?_
          refine e_Ok.getr (z := 276) rfl (el_o rfl) rfl (ef_o rfl) (e_uq hw22 (Or.inl (by decide)) ((j3 275 0 no_55_6).trans (e_Has.eq hT (mt_o rfl)))) ⟨by decide, by decide⟩ ?_
          refine e_Ok.ps2 (x := (0, 2)) (y := (0, 4 * y1 + 20836)) (q := 70) 2 rfl ?_
          refine e_Ok.add (z := 4 * y1 + 20838) rfl (e_adl (by decide)) (by omega) ?_
          refine e_Ok.ald (z := z21) rfl (el_o rfl) rfl (by omega) (e_ue hw22) (by omega) ?_
          refine e_Ok.ps1 (x := (1, 275)) (q := 73) 1 rfl ?_
          refine e_Ok.getr (z := 316) rfl (el_o rfl) rfl (ef_o rfl) (e_uq hw22 (Or.inl (by decide)) ((j3 275 50 no_55_6).trans (e_Has.eq hT (mt_o rfl)))) ⟨by decide, by decide⟩ ?_
          refine e_Ok.ps1 (x := (0, y1)) (q := 77) 1 rfl ?_
          have h25 := (e_Has.get hT (c := 316) (k := y1) (lo := 0) (hi := 1000) (mt_o rfl) (by decide))
          refine e_Ok.ald (z := w 316 y1) rfl (el_o rfl) rfl (by omega) (e_uq hw22 (Or.inl (by decide)) ((j3 316 y1 no_55_7).trans rfl)) (e_bq h25 (by decide) (by decide)) ?_
          refine e_Ok.if2 rfl (fun h26 => ?_) (fun h26 => ?_)
          · replace h26 : (z21 : Int) ≤ w 316 y1 := h26
            refine e_Ok.ps1 (x := (1, 275)) (q := 86) 1 rfl ?_
            refine e_Ok.getr (z := 276) rfl (el_o rfl) rfl (ef_o rfl) (e_uq hw22 (Or.inl (by decide)) ((j3 275 0 no_55_6).trans (e_Has.eq hT (mt_o rfl)))) ⟨by decide, by decide⟩ ?_
            refine e_Ok.ps2 (x := (0, 3)) (y := (0, 4 * y1 + 20836)) (q := 91) 2 rfl ?_
            refine e_Ok.add (z := 4 * y1 + 20839) rfl (e_adl (by decide)) (by omega) ?_
            have h27 := (e_Has.get j4 (c := 276) (k := 4 * y1 + 20839) (lo := 0) (hi := 1) (nR_INPUT (i := y1) (f := 3) (by omega) (by decide)) (by decide))
            refine e_Ok.ald (z := v1 276 (4 * y1 + 20839)) rfl (el_o rfl) rfl (by omega) (e_uq hw22 (Or.inr (e_neo (by decide))) rfl) (e_bq h27 (by decide) (by decide)) ?_
            refine e_Ok.ast rfl (el_o rfl) rfl rfl (by omega) ?_
            generalize hw28 : e_up w22 276 (4 * y1 + 20839) (v1 276 (4 * y1 + 20839)) = w28
            have hT30 : e_Has mTy w28 := e_Has.upr hT24 hw28 (nR_INPUT (i := y1) (f := 3) (by omega) (by decide)) (by omega)
            refine e_Ok.inc (z := y1 + 1) rfl rfl (by first | with_reducible rfl | omega) (by omega) ?_
            show e_Ok 20 elay ecode eI d 401 (97, [(1, (0, y1 + 1)), (2, (0, 4 * y1 + 20836)), (0, (1, 275))], [], w28) _
            refine e_Ok.ps0 (q := 2) 1 rfl ?_
            refine e_Ok.sub eAlk (e_sub_of rfl ?_) (ih2 (y1 + 1) w28 ⟨(show e_fr mIn w w28 from e_fr.up f23 hw28 (by unfold mIn; omega)), hT30, by omega⟩ (by omega))
            exact ⟨rfl, rfl, trivial⟩
          · replace h26 : (z21 : Int) > w 316 y1 := Int.not_le.mp (show ¬ ((z21 : Int) ≤ w 316 y1) from h26)
            refine e_Ok.ps1 (x := (0, 1)) (q := 93) 2 rfl ?_
            refine e_Ok.ast rfl (el_o rfl) rfl rfl (by omega) ?_
            generalize hw31 : e_up w22 276 (4 * y1 + 20839) 1 = w31
            have hT33 : e_Has mTy w31 := e_Has.upr hT24 hw31 (nR_INPUT (i := y1) (f := 3) (by omega) (by decide)) (by omega)
            refine e_Ok.inc (z := y1 + 1) rfl rfl (by first | with_reducible rfl | omega) (by omega) ?_
            show e_Ok 20 elay ecode eI d 401 (97, [(1, (0, y1 + 1)), (2, (0, 4 * y1 + 20836)), (0, (1, 275))], [], w31) _
            refine e_Ok.ps0 (q := 2) 1 rfl ?_
            refine e_Ok.sub eAlk (e_sub_of rfl ?_) (ih2 (y1 + 1) w31 ⟨(show e_fr mIn w w31 from e_fr.up f23 hw31 (by unfold mIn; omega)), hT33, by omega⟩ (by omega))
            exact ⟨rfl, rfl, trivial⟩
  refine e_Ok.sub eAlk (e_sub_of rfl ?_) (hL1 (9 + 1 : Int).toNat 0 w ⟨(e_fr.refl w), hT, by omega⟩ (by omega))
  exact ⟨rfl, rfl, trivial⟩
theorem c_394 {d : Nat} (hd : 21 ≤ d) {w : eW} (hT : e_Has mTy w) {p x y : Int} (hp : 0 ≤ p ∧ p ≤ 31) (hx : -2147483648 ≤ x ∧ x ≤ 2147483647) (hy : -2147483648 ≤ y ∧ y ≤ 2147483647) : e_Ok 20 elay ecode eI d 394 (0, [(0, (1, 275)), (1, (0, p)), (2, (0, x)), (3, (0, y))], [], w) (fun r w' => r = [] ∧ e_fr (mPa p) w w' ∧ e_Has mTy w' ∧ w' 276 (4 * p + 20576) = 8) := by
  obtain ⟨d, rfl⟩ : ∃ e, d = e + 1 := ⟨d - 1, by omega⟩
  refine e_Ok.ps1 (x := (1, 275)) (q := 1) 1 rfl ?_
  refine e_Ok.getr (z := 276) rfl (el_o rfl) rfl (ef_o rfl) (e_Has.eq hT (mt_o rfl)) ⟨by decide, by decide⟩ ?_
  refine e_Ok.ps1 (x := (0, p)) (q := 5) 1 rfl ?_
  refine e_Ok.callS rfl (e_dq hd rfl) rfl rfl (c_392 (by omega)) (fun r1 w2 h3 => ?_)
  obtain ⟨rfl, rfl⟩ := h3
  refine e_Ok.nrm (q := 8) (st' := [(0, 4 * p + 20576), (1, 276)]) rfl rfl ?_
  refine e_Ok.ps1 (x := (0, 8)) (q := 10) 1 rfl ?_
  refine e_Ok.ast rfl (el_o rfl) rfl rfl (by omega) ?_
  generalize hw4 : e_up w 276 (4 * p + 20576) 8 = w4
  have hT6 : e_Has mTy w4 := e_Has.upr hT hw4 (nR_WHERE (p := p) (by omega)) (by omega)
  refine e_Ok.ps1 (x := (1, 275)) (q := 12) 1 rfl ?_
  refine e_Ok.getr (z := 276) rfl (el_o rfl) rfl (ef_o rfl) (e_uq hw4 (Or.inl (by decide)) (e_Has.eq hT (mt_o rfl))) ⟨by decide, by decide⟩ ?_
  refine e_Ok.ps1 (x := (0, p)) (q := 16) 1 rfl ?_
  refine e_Ok.callS rfl (e_dq hd rfl) rfl rfl (c_392 (by omega)) (fun r7 w8 h9 => ?_)
  obtain ⟨rfl, rfl⟩ := h9
  refine e_Ok.nrm (q := 19) (st' := [(0, 4 * p + 20576), (1, 276)]) rfl rfl ?_
  refine e_Ok.ps1 (x := (0, 1)) (q := 20) 1 rfl ?_
  refine e_Ok.add (z := 4 * p + 20577) rfl (e_adl (by decide)) (by omega) ?_
  refine e_Ok.ps1 (x := (0, x)) (q := 22) 1 rfl ?_
  refine e_Ok.ast rfl (el_o rfl) rfl rfl (by omega) ?_
  generalize hw10 : e_up w4 276 (4 * p + 20577) x = w10
  have hT12 : e_Has mTy w10 := e_Has.upr hT6 hw10 (nR_PART1 (p := p) (by omega)) (by omega)
  refine e_Ok.ps1 (x := (1, 275)) (q := 24) 1 rfl ?_
  refine e_Ok.getr (z := 276) rfl (el_o rfl) rfl (ef_o rfl) (e_uq hw10 (Or.inl (by decide)) (e_uq hw4 (Or.inl (by decide)) (e_Has.eq hT (mt_o rfl)))) ⟨by decide, by decide⟩ ?_
  refine e_Ok.ps1 (x := (0, p)) (q := 28) 1 rfl ?_
  refine e_Ok.callS rfl (e_dq hd rfl) rfl rfl (c_392 (by omega)) (fun r13 w14 h15 => ?_)
  obtain ⟨rfl, rfl⟩ := h15
  refine e_Ok.nrm (q := 31) (st' := [(0, 4 * p + 20576), (1, 276)]) rfl rfl ?_
  refine e_Ok.ps1 (x := (0, 2)) (q := 32) 1 rfl ?_
  refine e_Ok.add (z := 4 * p + 20578) rfl (e_adl (by decide)) (by omega) ?_
  refine e_Ok.ps1 (x := (0, y)) (q := 34) 1 rfl ?_
  refine e_Ok.ast rfl (el_o rfl) rfl rfl (by omega) ?_
  generalize hw16 : e_up w10 276 (4 * p + 20578) y = w16
  have hT18 : e_Has mTy w16 := e_Has.upr hT12 hw16 (nR_PART2 (p := p) (by omega)) (by omega)
  refine e_Ok.ps1 (x := (1, 275)) (q := 36) 1 rfl ?_
  refine e_Ok.getr (z := 276) rfl (el_o rfl) rfl (ef_o rfl) (e_uq hw16 (Or.inl (by decide)) (e_uq hw10 (Or.inl (by decide)) (e_uq hw4 (Or.inl (by decide)) (e_Has.eq hT (mt_o rfl))))) ⟨by decide, by decide⟩ ?_
  refine e_Ok.ps1 (x := (0, p)) (q := 40) 1 rfl ?_
  refine e_Ok.callS rfl (e_dq hd rfl) rfl rfl (c_392 (by omega)) (fun r19 w20 h21 => ?_)
  obtain ⟨rfl, rfl⟩ := h21
  refine e_Ok.nrm (q := 43) (st' := [(0, 4 * p + 20576), (1, 276)]) rfl rfl ?_
  refine e_Ok.ps1 (x := (0, 3)) (q := 44) 1 rfl ?_
  refine e_Ok.add (z := 4 * p + 20579) rfl (e_adl (by decide)) (by omega) ?_
  refine e_Ok.ps1 (x := (0, 0)) (q := 46) 1 rfl ?_
  refine e_Ok.ast rfl (el_o rfl) rfl rfl (by omega) ?_
  generalize hw22 : e_up w16 276 (4 * p + 20579) 0 = w22
  have hT24 : e_Has mTy w22 := e_Has.upr hT18 hw22 (nR_PART3 (p := p) (by omega)) (by omega)
  refine e_Ok.rets rfl rfl ?_
  exact ⟨rfl, (show e_fr (mPa p) w w22 from e_fr.up (show e_fr (mPa p) w w16 from e_fr.up (show e_fr (mPa p) w w10 from e_fr.up (show e_fr (mPa p) w w4 from e_fr.up (e_fr.refl w) hw4 (by first | exact ⟨rfl, ⟨(by omega), (by omega)⟩⟩ | (unfold mPa; omega))) hw10 (by first | exact ⟨rfl, ⟨(by omega), (by omega)⟩⟩ | (unfold mPa; omega))) hw16 (by first | exact ⟨rfl, ⟨(by omega), (by omega)⟩⟩ | (unfold mPa; omega))) hw22 (by first | exact ⟨rfl, ⟨(by omega), (by omega)⟩⟩ | (unfold mPa; omega))), hT24, (e_uq hw22 (Or.inr (by omega)) (e_uq hw16 (Or.inr (by omega)) (e_uq hw10 (Or.inr (by omega)) (e_ue hw4))))⟩
theorem c_324 {d : Nat} (hd : 21 ≤ d) {w : eW} {a : Int} : e_Ok 20 elay ecode eI d 324 (0, [(0, (0, a))], [], w) (fun r w' => ∃ z : Int, r = [(0, z)] ∧ w = w' ∧ ((z = 1 ∧ ((97 ≤ a ∧ a ≤ 122) ∨ (65 ≤ a ∧ a ≤ 90))) ∨ (z = 0 ∧ ¬ ((97 ≤ a ∧ a ≤ 122) ∨ (65 ≤ a ∧ a ≤ 90))))) := by
  obtain ⟨d, rfl⟩ : ∃ e, d = e + 1 := ⟨d - 1, by omega⟩
  refine e_Ok.ps3 (x := (4, 122)) (y := (4, 97)) (z := (4, a)) (q := 8) 4 rfl ?_
  refine e_Ok.callS rfl (e_dq hd rfl) rfl rfl (c_266) (fun r1 w2 h3 => ?_)
  obtain ⟨z4, rfl, rfl, q5⟩ := h3
  obtain ⟨rfl, q5⟩ | ⟨rfl, q5⟩ := q5
  · refine e_Ok.nrm (q := 11) (st' := [(0, 1)]) rfl rfl ?_
    refine e_Ok.if1 rfl (fun h6 => ?_) (fun h6 => ?_)
    · replace h6 : (1 : Int) ≠ 0 := h6
      refine e_Ok.ps1 (x := (0, 1)) (q := 33) 2 rfl ?_
      refine e_Ok.rets rfl rfl ?_
      exact ⟨_, rfl, rfl, Or.inl ⟨rfl, by omega⟩⟩
    · replace h6 : (1 : Int) = 0 := Classical.not_not.mp (show ¬ ((1 : Int) ≠ 0) from h6)
      exfalso; omega
  · refine e_Ok.nrm (q := 11) (st' := [(0, 0)]) rfl rfl ?_
    refine e_Ok.if1 rfl (fun h7 => ?_) (fun h7 => ?_)
    · replace h7 : (0 : Int) ≠ 0 := h7
      exfalso; omega
    · replace h7 : (0 : Int) = 0 := Classical.not_not.mp (show ¬ ((0 : Int) ≠ 0) from h7)
      refine e_Ok.ps3 (x := (4, 90)) (y := (4, 65)) (z := (4, a)) (q := 22) 4 rfl ?_
      refine e_Ok.callS rfl (e_dq hd rfl) rfl rfl (c_266) (fun r8 w9 h10 => ?_)
      obtain ⟨z11, rfl, rfl, q12⟩ := h10
      obtain ⟨rfl, q12⟩ | ⟨rfl, q12⟩ := q12
      · refine e_Ok.nrm (q := 25) (st' := [(0, 1)]) rfl rfl ?_
        refine e_Ok.if1 rfl (fun h13 => ?_) (fun h13 => ?_)
        · replace h13 : (1 : Int) = 0 := h13
          exfalso; omega
        · replace h13 : (1 : Int) ≠ 0 := (show ¬ ((1 : Int) = 0) from h13)
          refine e_Ok.ps1 (x := (0, 1)) (q := 33) 2 rfl ?_
          refine e_Ok.rets rfl rfl ?_
          exact ⟨_, rfl, rfl, Or.inl ⟨rfl, by omega⟩⟩
      · refine e_Ok.nrm (q := 25) (st' := [(0, 0)]) rfl rfl ?_
        refine e_Ok.if1 rfl (fun h14 => ?_) (fun h14 => ?_)
        · replace h14 : (0 : Int) = 0 := h14
          refine e_Ok.ps1 (x := (0, 0)) (q := 33) 1 rfl ?_
          refine e_Ok.rets rfl rfl ?_
          exact ⟨_, rfl, rfl, Or.inr ⟨rfl, by omega⟩⟩
        · replace h14 : (0 : Int) ≠ 0 := (show ¬ ((0 : Int) = 0) from h14)
          exfalso; omega
theorem c_325 {d : Nat} (hd : 21 ≤ d) {w : eW} {a : Int} : e_Ok 20 elay ecode eI d 325 (0, [(0, (0, a))], [], w) (fun r w' => ∃ z : Int, r = [(0, z)] ∧ w = w' ∧ ((z = 1 ∧ (48 ≤ a ∧ a ≤ 57)) ∨ (z = 0 ∧ ¬ (48 ≤ a ∧ a ≤ 57)))) := by
  obtain ⟨d, rfl⟩ : ∃ e, d = e + 1 := ⟨d - 1, by omega⟩
  refine e_Ok.ps3 (x := (4, 57)) (y := (4, 48)) (z := (4, a)) (q := 8) 4 rfl ?_
  refine e_Ok.callS rfl (e_dq hd rfl) rfl rfl (c_266) (fun r1 w2 h3 => ?_)
  obtain ⟨z4, rfl, rfl, q5⟩ := h3
  obtain ⟨rfl, q5⟩ | ⟨rfl, q5⟩ := q5
  · refine e_Ok.nrm (q := 11) (st' := [(0, 1)]) rfl rfl ?_
    refine e_Ok.rets rfl rfl ?_
    exact ⟨_, rfl, rfl, Or.inl ⟨rfl, by omega⟩⟩
  · refine e_Ok.nrm (q := 11) (st' := [(0, 0)]) rfl rfl ?_
    refine e_Ok.rets rfl rfl ?_
    exact ⟨_, rfl, rfl, Or.inr ⟨rfl, by omega⟩⟩
theorem c_424 {d : Nat} (hd : 21 ≤ d) {w : eW} {a : Int} : e_Ok 20 elay ecode eI d 424 (0, [(0, (1, 275)), (1, (0, a))], [], w) (fun r w' => ∃ z : Int, r = [(0, z)] ∧ w = w' ∧ ((z = 1 ∧ (0 ≤ a ∧ a ≤ 63)) ∨ (z = 0 ∧ ¬ (0 ≤ a ∧ a ≤ 63)))) := by
  obtain ⟨d, rfl⟩ : ∃ e, d = e + 1 := ⟨d - 1, by omega⟩
  refine e_Ok.ps3 (x := (4, 63)) (y := (4, 0)) (z := (4, a)) (q := 6) 4 rfl ?_
  refine e_Ok.callS rfl (e_dq hd rfl) rfl rfl (c_266) (fun r1 w2 h3 => ?_)
  obtain ⟨z4, rfl, rfl, q5⟩ := h3
  obtain ⟨rfl, q5⟩ | ⟨rfl, q5⟩ := q5
  · refine e_Ok.nrm (q := 9) (st' := [(0, 1)]) rfl rfl ?_
    refine e_Ok.rets rfl rfl ?_
    exact ⟨_, rfl, rfl, Or.inl ⟨rfl, by omega⟩⟩
  · refine e_Ok.nrm (q := 9) (st' := [(0, 0)]) rfl rfl ?_
    refine e_Ok.rets rfl rfl ?_
    exact ⟨_, rfl, rfl, Or.inr ⟨rfl, by omega⟩⟩
theorem c_387 {d : Nat} {w : eW} {s g : Int} (hs : -2000 ≤ s ∧ s ≤ 2000) (hg : 0 ≤ g ∧ g ≤ 2000) : e_Ok 20 elay ecode eI d 387 (0, [(0, (0, s)), (1, (0, g))], [], w) (fun r w' => ∃ z : Int, r = [(0, z)] ∧ w = w' ∧ ((g < s ∧ z = s - g) ∨ (s < -g ∧ z = s + g) ∨ (-g ≤ s ∧ s ≤ g ∧ z = 0))) := by
  refine e_Ok.ps2 (x := (0, g)) (y := (0, s)) (q := 2) 2 rfl ?_
  refine e_Ok.if2 rfl (fun h1 => ?_) (fun h1 => ?_)
  · replace h1 : (s : Int) ≤ g := h1
    refine e_Ok.ps2 (x := (0, g)) (y := (0, s)) (q := 13) 2 rfl ?_
    refine e_Ok.neg (z := -g) rfl (by omega) (by omega) ?_
    refine e_Ok.if2 rfl (fun h2 => ?_) (fun h2 => ?_)
    · replace h2 : (s : Int) ≥ -g := h2
      refine e_Ok.ps1 (x := (0, 0)) (q := 24) 1 rfl ?_
      refine e_Ok.rets rfl rfl ?_
      exact ⟨_, rfl, rfl, by omega⟩
    · replace h2 : (s : Int) < -g := Int.not_le.mp (show ¬ ((s : Int) ≥ -g) from h2)
      refine e_Ok.ps2 (x := (0, g)) (y := (0, s)) (q := 19) 2 rfl ?_
      refine e_Ok.add (z := s + g) rfl rfl (by omega) ?_
      refine e_Ok.ps0 (q := 24) 1 rfl ?_
      refine e_Ok.rets rfl rfl ?_
      exact ⟨_, rfl, rfl, by omega⟩
  · replace h1 : (s : Int) > g := Int.not_le.mp (show ¬ ((s : Int) ≤ g) from h1)
    refine e_Ok.ps2 (x := (0, g)) (y := (0, s)) (q := 7) 2 rfl ?_
    refine e_Ok.sub' (z := s - g) rfl rfl (by omega) ?_
    refine e_Ok.ps0 (q := 24) 1 rfl ?_
    refine e_Ok.rets rfl rfl ?_
    exact ⟨_, rfl, rfl, by omega⟩
end
end
-- part 56
section
noncomputable section
def mLk (c k : Int) : Prop := c = 276 ∧ 20868 ≤ k ∧ k ≤ 20875
theorem no_56_0 {k : Int} : ¬ mTr 275 k := by unfold mTr; omega
theorem no_56_1 {k : Int} : ¬ mBM 275 k := by unfold mBM; omega
theorem no_56_2 {b : Int} (hb : 0 ≤ b ∧ b ≤ 3) : ¬ mBM 276 (36 * b + 16) := by unfold mBM; omega
theorem no_56_3 {b : Int} {j : Int} (hb : 0 ≤ b ∧ b ≤ 3) (hj : 0 ≤ j ∧ j ≤ 5) : ¬ mBM 276 (36 * b + j + 38) := by unfold mBM; omega
theorem no_56_4 : ¬ mBM 276 1 := by unfold mBM; omega
theorem no_56_5 : ¬ mE 276 1 := by unfold mE; omega
theorem no_56_6 {b : Int} (hb : 0 ≤ b ∧ b ≤ 3) : ¬ mE 276 (36 * b + 16) := by unfold mE; omega
theorem no_56_7 {b : Int} (hb : 0 ≤ b ∧ b ≤ 3) : ¬ mE 276 (36 * b + 22) := by unfold mE; omega
theorem su_56_9 {c k : Int} (q : mE c k) : mTr c k := by
  unfold mE at q
  rcases q with ⟨q, (q | q)⟩
  · exact ⟨(by omega), Or.inl ⟨(by omega), (by omega)⟩⟩
  · exact ⟨(by omega), Or.inr (Or.inl (by omega))⟩
theorem su_56_10 {c k : Int} (q : mBM c k) : mTr c k := by
  unfold mBM at q
  rcases q with ⟨q, (q | q | ⟨q, (⟨q, (q | q)⟩)⟩ | ⟨q, ⟨q, q⟩⟩)⟩
  · exact ⟨(by omega), Or.inl ⟨(by omega), (by omega)⟩⟩
  · exact ⟨(by omega), Or.inr (Or.inl (by omega))⟩
  · exact ⟨(by omega), Or.inr (Or.inr (Or.inl ⟨(by omega), ⟨(by omega), Or.inl (by omega)⟩⟩))⟩
  · unfold mTr; omega
  · exact ⟨(by omega), Or.inr (Or.inr (Or.inr ⟨(by omega), ⟨(by omega), (by omega)⟩⟩))⟩
set_option maxHeartbeats 4000000 in
theorem c_385 {d : Nat} (hd : 22 ≤ d) {w : eW} (hT : e_Has mTy w) {a n : Int} (ha : 0 ≤ a ∧ a ≤ 4) (hn : -2147483648 ≤ n ∧ n ≤ 2147483647) (hE : w 276 5 ≤ 2147483600) : e_Ok 20 elay ecode eI d 385 (0, [(0, (1, 275)), (1, (0, a)), (2, (0, n))], [], w) (fun r w' => r = [] ∧ e_fr mTr w w' ∧ e_Has mTy w' ∧ (w 276 5 ≤ w' 276 5 ∧ w' 276 5 ≤ w 276 5 + 5) ∧ w' 276 1 = 0 ∧ (∀ b, 0 ≤ b → b < w 275 10 → w' 276 (36 * b + 16) = 0 ∧ ∀ j, 0 ≤ j → j ≤ 5 → w' 276 (36 * b + j + 38) = 0) ∧ (∀ b, 0 ≤ b → b < w 275 10 → (w 276 (36 * b + 16) = 1 ∨ w 276 (36 * b + 22) = 0) → w' 276 (36 * b + 22) = 0) ∧ (∀ b, w 275 10 ≤ b → b ≤ 3 → w' 276 (36 * b + 16) = w 276 (36 * b + 16) ∧ w' 276 (36 * b + 22) = w 276 (36 * b + 22))) := by
  obtain ⟨d, rfl⟩ : ∃ e, d = e + 1 := ⟨d - 1, by omega⟩
  have har := e_Has.get hT (c := 275) (k := 10) (lo := 0) (hi := 4) (mt_o rfl) (by decide)
  refine e_Ok.ps1 (x := (1, 275)) (q := 1) 1 rfl ?_
  refine e_Ok.getr (z := 276) rfl (el_o rfl) rfl (ef_o rfl) (e_Has.eq hT (mt_o rfl)) ⟨by decide, by decide⟩ ?_
  refine e_Ok.ps2 (x := (0, 0)) (y := (0, 1)) (q := 6) 2 rfl ?_
  refine e_Ok.ast rfl (el_o rfl) rfl rfl (by omega) ?_
  generalize hw1 : e_up w 276 1 0 = w1
  have hT3 : e_Has mTy w1 := e_Has.upr hT hw1 (mt_o rfl) (by omega)
  refine e_Ok.ps1 (x := (1, 275)) (q := 8) 1 rfl ?_
  refine e_Ok.getr (z := 276) rfl (el_o rfl) rfl (ef_o rfl) (e_uq hw1 (Or.inl (by decide)) (e_Has.eq hT (mt_o rfl))) ⟨by decide, by decide⟩ ?_
  refine e_Ok.ps2 (x := (0, a)) (y := (0, 2)) (q := 13) 2 rfl ?_
  refine e_Ok.ast rfl (el_o rfl) rfl rfl (by omega) ?_
  generalize hw4 : e_up w1 276 2 a = w4
  have hT6 : e_Has mTy w4 := e_Has.upr hT3 hw4 (mt_o rfl) (by omega)
  refine e_Ok.ps1 (x := (1, 275)) (q := 15) 1 rfl ?_
  refine e_Ok.getr (z := 276) rfl (el_o rfl) rfl (ef_o rfl) (e_uq hw4 (Or.inl (by decide)) (e_uq hw1 (Or.inl (by decide)) (e_Has.eq hT (mt_o rfl)))) ⟨by decide, by decide⟩ ?_
  refine e_Ok.ps2 (x := (0, n)) (y := (0, 3)) (q := 20) 2 rfl ?_
  refine e_Ok.ast rfl (el_o rfl) rfl rfl (by omega) ?_
  generalize hw7 : e_up w4 276 3 n = w7
  have hT9 : e_Has mTy w7 := e_Has.upr hT6 hw7 (mt_o rfl) (by omega)
  refine e_Ok.ps1 (x := (1, 275)) (q := 22) 1 rfl ?_
  refine e_Ok.getr (z := 276) rfl (el_o rfl) rfl (ef_o rfl) (e_uq hw7 (Or.inl (by decide)) (e_uq hw4 (Or.inl (by decide)) (e_uq hw1 (Or.inl (by decide)) (e_Has.eq hT (mt_o rfl))))) ⟨by decide, by decide⟩ ?_
  refine e_Ok.ps2 (x := (1, 275)) (y := (0, 4)) (q := 27) 2 rfl ?_
  refine e_Ok.getr (z := 276) rfl (el_o rfl) rfl (ef_o rfl) (e_uq hw7 (Or.inl (by decide)) (e_uq hw4 (Or.inl (by decide)) (e_uq hw1 (Or.inl (by decide)) (e_Has.eq hT (mt_o rfl))))) ⟨by decide, by decide⟩ ?_
  refine e_Ok.ps1 (x := (0, 0)) (q := 31) 1 rfl ?_
  have h10 := (e_Has.get hT (c := 276) (k := 0) (lo := 0) (hi := 6000) (mt_o rfl) (by decide))
  refine e_Ok.ald (z := w 276 0) rfl (el_o rfl) rfl (by omega) (e_uq hw7 (Or.inr (by decide)) (e_uq hw4 (Or.inr (by decide)) (e_uq hw1 (Or.inr (by decide)) rfl))) (e_bq h10 (by decide) (by decide)) ?_
  refine e_Ok.ast rfl (el_o rfl) rfl rfl (by omega) ?_
  generalize hw11 : e_up w7 276 4 (w 276 0) = w11
  have hT13 : e_Has mTy w11 := e_Has.upr hT9 hw11 (mt_o rfl) (by omega)
  refine e_Ok.ps4 (x := (0, n)) (y := (0, a)) (z := (0, 2)) (u := (1, 275)) (q := 37) 4 rfl ?_
  have e17 : w11 276 5 = w 276 5 := (e_uq hw11 (Or.inr (by decide)) (e_uq hw7 (Or.inr (by decide)) (e_uq hw4 (Or.inr (by decide)) (e_uq hw1 (Or.inr (by decide)) rfl))))
  refine e_Ok.callV rfl (e_dq hd rfl) rfl rfl rfl rfl (c_319 hT13 (by omega) (by omega) (by omega) (by omega)) (fun r14 w15 h16 => ?_)
  obtain ⟨rfl, q18, q18T, q18n⟩ := h16
  refine e_Ok.nrm (q := 40) (st' := []) rfl rfl ?_
  refine e_Ok.run (t' := (42, [(3, (0, 0)), (0, (1, 275)), (1, (0, a)), (2, (0, n))], [], w15)) 2 rfl ?_
  have hL20 : ∀ (nn : Nat) (y3 : Int) (v1 : eW), e_fr mTr w v1 ∧ e_Has mTy v1 ∧ (0 ≤ y3 ∧ y3 ≤ 4 ∧ y3 ≤ w 275 10) ∧ (∀ b, 0 ≤ b → b < y3 → v1 276 (36 * b + 16) = 0 ∧ ∀ j, 0 ≤ j → j ≤ 5 → v1 276 (36 * b + j + 38) = 0) ∧ (w 276 5 ≤ v1 276 5 ∧ v1 276 5 ≤ w 276 5 + 1 + y3) ∧ v1 276 1 = 0 ∧ (∀ b, 0 ≤ b → b < y3 → (w 276 (36 * b + 16) = 1 ∨ w 276 (36 * b + 22) = 0) → v1 276 (36 * b + 22) = 0) ∧ (∀ b, y3 ≤ b → b ≤ 3 → v1 276 (36 * b + 16) = w 276 (36 * b + 16) ∧ v1 276 (36 * b + 22) = w 276 (36 * b + 22)) → 5 - y3 < nn → e_Ok 20 elay ecode eI (d + 1) 385 (42, [(0, (1, 275)), (3, (0, y3))], [], v1) (fun r w' => r = [] ∧ e_fr mTr w w' ∧ e_Has mTy w' ∧ (w 276 5 ≤ w' 276 5 ∧ w' 276 5 ≤ w 276 5 + 5) ∧ w' 276 1 = 0 ∧ (∀ b, 0 ≤ b → b < w 275 10 → w' 276 (36 * b + 16) = 0 ∧ ∀ j, 0 ≤ j → j ≤ 5 → w' 276 (36 * b + j + 38) = 0) ∧ (∀ b, 0 ≤ b → b < w 275 10 → (w 276 (36 * b + 16) = 1 ∨ w 276 (36 * b + 22) = 0) → w' 276 (36 * b + 22) = 0) ∧ (∀ b, w 275 10 ≤ b → b ≤ 3 → w' 276 (36 * b + 16) = w 276 (36 * b + 16) ∧ w' 276 (36 * b + 22) = w 276 (36 * b + 22))) := by
    intro nn
    induction nn with
    | zero => intro y3 v1 hj hm; obtain ⟨j22, j23, j24, j25, j26, j27, j28, j29⟩ := hj; exfalso; omega
    | succ nn ih21 =>
      intro y3 v1 hj hm
      obtain ⟨j22, j23, j24, j25, j26, j27, j28, j29⟩ := hj
      refine e_Ok.run (t' := (44, [(0, (1, 275)), (3, (0, y3))], [(1, 275), (0, y3)], v1)) 2 rfl ?_
      refine e_Ok.getf (z := w 275 10) rfl (el_o rfl) rfl (ef_o rfl) ((j22 275 10 no_56_0).trans rfl) (by omega) ?_
      refine e_Ok.if2 rfl (fun h30 => ?_) (fun h30 => ?_)
      · replace h30 : (y3 : Int) ≥ w 275 10 := h30
        refine e_Ok.rets rfl rfl ?_
        exact ⟨rfl, j22, j23, by omega, j27, fun b g1 g2 => j25 b g1 (by omega), fun b g1 g2 => j28 b g1 (by omega), fun b g1 g2 => j29 b (by omega) g2⟩
      · replace h30 : (y3 : Int) < w 275 10 := Int.not_le.mp (show ¬ ((y3 : Int) ≥ w 275 10) from h30)
        refine e_Ok.ps1 (x := (0, y3)) (q := 51) 1 rfl ?_
        refine e_Ok.callS rfl (e_dq hd rfl) rfl rfl (c_268 (by omega)) (fun r31 w32 h33 => ?_)
        obtain ⟨rfl, rfl⟩ := h33
        refine e_Ok.nrm (q := 54) (st' := [(0, 36 * y3 + 16)]) rfl rfl ?_
        refine e_Ok.run (t' := (58, [(4, (0, 36 * y3 + 16)), (0, (1, 275)), (3, (0, y3))], [(0, y3), (1, 275)], v1)) 3 rfl ?_
        refine e_Ok.callV rfl (e_dq hd rfl) rfl rfl rfl rfl (c_383 (e_dq hd rfl) j23 (by omega) (by omega)) (fun r34 w35 h36 => ?_)
        obtain ⟨rfl, q37, q37T, q37n, q37m, q37a, q37b⟩ := h36
        refine e_Ok.nrm (q := 61) (st' := []) rfl rfl ?_
        refine e_Ok.ps1 (x := (1, 275)) (q := 62) 1 rfl ?_
        refine e_Ok.getr (z := 276) rfl (el_o rfl) rfl (ef_o rfl) ((q37 275 0 no_56_1).trans ((j22 275 0 no_56_0).trans (e_Has.eq hT (mt_o rfl)))) ⟨by decide, by decide⟩ ?_
        refine e_Ok.ps2 (x := (0, 0)) (y := (0, 36 * y3 + 16)) (q := 68) 2 rfl ?_
        refine e_Ok.add (z := 36 * y3 + 16) rfl (e_adl (by decide)) (by omega) ?_
        refine e_Ok.ps1 (x := (0, 0)) (q := 70) 1 rfl ?_
        refine e_Ok.ast rfl (el_o rfl) rfl rfl (by omega) ?_
        generalize hw39 : e_up w35 276 (36 * y3 + 16) 0 = w39
        have hT41 : e_Has mTy w39 := e_Has.upr q37T hw39 (nR_STATE (a := y3) (by omega)) (by omega)
        refine e_Ok.run (t' := (74, [(5, (0, 0)), (4, (0, 36 * y3 + 16)), (0, (1, 275)), (3, (0, y3))], [], w39)) 2 rfl ?_
        have hL42 : ∀ (nn : Nat) (y5 : Int) (v2 : eW), e_fr mTr w v2 ∧ e_Has mTy v2 ∧ (0 ≤ y5 ∧ y5 ≤ 6) ∧ (∀ b, 0 ≤ b → b < y3 → v2 276 (36 * b + 16) = 0 ∧ ∀ j, 0 ≤ j → j ≤ 5 → v2 276 (36 * b + j + 38) = 0) ∧ v2 276 (36 * y3 + 16) = 0 ∧ (∀ j, 0 ≤ j → j < y5 → v2 276 (36 * y3 + j + 38) = 0) ∧ (w 276 5 ≤ v2 276 5 ∧ v2 276 5 ≤ w 276 5 + 2 + y3) ∧ v2 276 1 = 0 ∧ (∀ b, 0 ≤ b → b < y3 + 1 → (w 276 (36 * b + 16) = 1 ∨ w 276 (36 * b + 22) = 0) → v2 276 (36 * b + 22) = 0) ∧ (∀ b, y3 + 1 ≤ b → b ≤ 3 → v2 276 (36 * b + 16) = w 276 (36 * b + 16) ∧ v2 276 (36 * b + 22) = w 276 (36 * b + 22)) → 6 - y5 < nn → e_Ok 20 elay ecode eI (d + 1) 385 (74, [(0, (1, 275)), (3, (0, y3)), (4, (0, 36 * y3 + 16)), (5, (0, y5))], [], v2) (fun r w' => r = [] ∧ e_fr mTr w w' ∧ e_Has mTy w' ∧ (w 276 5 ≤ w' 276 5 ∧ w' 276 5 ≤ w 276 5 + 5) ∧ w' 276 1 = 0 ∧ (∀ b, 0 ≤ b → b < w 275 10 → w' 276 (36 * b + 16) = 0 ∧ ∀ j, 0 ≤ j → j ≤ 5 → w' 276 (36 * b + j + 38) = 0) ∧ (∀ b, 0 ≤ b → b < w 275 10 → (w 276 (36 * b + 16) = 1 ∨ w 276 (36 * b + 22) = 0) → w' 276 (36 * b + 22) = 0) ∧ (∀ b, w 275 10 ≤ b → b ≤ 3 → w' 276 (36 * b + 16) = w 276 (36 * b + 16) ∧ w' 276 (36 * b + 22) = w 276 (36 * b + 22))) := by
          intro nn
          induction nn with
          | zero => intro y5 v2 hj hm; obtain ⟨j44, j45, j46, j47, j48, j49, j50, j51, j52, j53⟩ := hj; exfalso; omega
          | succ nn ih43 =>
            intro y5 v2 hj hm
            obtain ⟨j44, j45, j46, j47, j48, j49, j50, j51, j52, j53⟩ := hj
            refine e_Ok.run (t' := (78, [(0, (1, 275)), (3, (0, y3)), (4, (0, 36 * y3 + 16)), (5, (0, y5))], [(0, 6), (0, y5)], v2)) 2 rfl ?_
            refine e_Ok.if2 rfl (fun h54 => ?_) (fun h54 => ?_)
            · replace h54 : (y5 : Int) ≥ 6 := h54
              refine e_Ok.inc (z := y3 + 1) rfl rfl (by first | with_reducible rfl | omega) (by omega) ?_
              show e_Ok 20 elay ecode eI (d + 1) 385 (104, [(3, (0, y3 + 1)), (0, (1, 275)), (4, (0, 36 * y3 + 16)), (5, (0, y5))], [], v2) _
              refine e_Ok.ps0 (q := 42) 1 rfl ?_
              refine e_Ok.sub eAlk (e_sub_of rfl ?_) (ih21 (y3 + 1) v2 ⟨j44, j45, by omega, (fun b g1 g2 => Decidable.byCases (p := b = y3) (fun e => by subst e; exact ⟨j48, fun j g3 g4 => j49 j g3 (by omega)⟩) (fun e => j47 b g1 (by omega))), by omega, j51, j52, j53⟩ (by omega))
              exact ⟨rfl, rfl, trivial⟩
            · replace h54 : (y5 : Int) < 6 := Int.not_le.mp (show ¬ ((y5 : Int) ≥ 6) from h54)
              refine e_Ok.ps1 (x := (1, 275)) (q := 82) 1 rfl ?_
              refine e_Ok.getr (z := 276) rfl (el_o rfl) rfl (ef_o rfl) ((j44 275 0 no_56_0).trans (e_Has.eq hT (mt_o rfl))) ⟨by decide, by decide⟩ ?_
              refine e_Ok.ps2 (x := (0, 22)) (y := (0, 36 * y3 + 16)) (q := 89) 2 rfl ?_
              refine e_Ok.add (z := 36 * y3 + 38) rfl (e_adl (by decide)) (by omega) ?_
              refine e_Ok.ps1 (x := (0, y5)) (q := 92) 1 rfl ?_
              refine e_Ok.add (z := 36 * y3 + y5 + 38) rfl (by omega) (by omega) ?_
              refine e_Ok.ps1 (x := (0, 0)) (q := 94) 1 rfl ?_
              refine e_Ok.ast rfl (el_o rfl) rfl rfl (by omega) ?_
              generalize hw55 : e_up v2 276 (36 * y3 + y5 + 38) 0 = w55
              have hT57 : e_Has mTy w55 := e_Has.upr j45 hw55 (nR_STEP (a := y3) (j := y5) (by omega) (by omega)) (by omega)
              refine e_Ok.inc (z := y5 + 1) rfl rfl (by first | with_reducible rfl | omega) (by omega) ?_
              show e_Ok 20 elay ecode eI (d + 1) 385 (98, [(5, (0, y5 + 1)), (0, (1, 275)), (3, (0, y3)), (4, (0, 36 * y3 + 16))], [], w55) _
              refine e_Ok.ps0 (q := 74) 1 rfl ?_
              refine e_Ok.sub eAlk (e_sub_of rfl ?_) (ih43 (y5 + 1) w55 ⟨(show e_fr mTr w w55 from e_fr.up j44 hw55 (by unfold mTr; omega)), hT57, by omega, (fun b g1 g2 => ⟨Eq.trans (e_uq hw55 (Or.inr (by omega)) rfl) (j47 b g1 g2).1, fun j g3 g4 => Eq.trans (e_uq hw55 (Or.inr (by omega)) rfl) ((j47 b g1 g2).2 j g3 g4)⟩), (Eq.trans (e_uq hw55 (Or.inr (by omega)) rfl) j48), (fun j g3 g4 => Decidable.byCases (p := j = y5) (fun e => by rw [e, ← hw55]; exact e_up_eq _ _ _ _) (fun e => Eq.trans (e_uq hw55 (Or.inr (by omega)) rfl) (j49 j g3 (by omega)))), by have := (show w55 276 5 = v2 276 5 from (e_uq hw55 (Or.inr (by omega)) rfl)); omega, (Eq.trans (e_uq hw55 (Or.inr (by omega)) rfl) j51), (fun b g1 g2 g3 => Eq.trans (e_uq hw55 (Or.inr (by omega)) rfl) (j52 b g1 g2 g3)), (fun b g1 g2 => ⟨Eq.trans (e_uq hw55 (Or.inr (by omega)) rfl) (j53 b g1 g2).1, Eq.trans (e_uq hw55 (Or.inr (by omega)) rfl) (j53 b g1 g2).2⟩)⟩ (by omega))
              exact ⟨rfl, rfl, rfl, rfl, trivial⟩
        refine e_Ok.sub eAlk (e_sub_of rfl ?_) (hL42 (6 + 1 : Int).toNat 0 w39 ⟨(show e_fr mTr w w39 from e_fr.up (show e_fr mTr w w35 from e_fr.trans j22 (e_fr.mono q37 (fun c k q => su_56_10 q))) hw39 (by unfold mTr; omega)), hT41, by omega, (fun b g1 g2 => ⟨Eq.trans (e_uq hw39 (Or.inr (by omega)) ((q37 276 (36 * b + 16) (by first | exact no_56_2 (by omega) | (unfold mBM; omega))).trans rfl)) (j25 b g1 g2).1, fun j g3 g4 => Eq.trans (e_uq hw39 (Or.inr (by omega)) ((q37 276 (36 * b + j + 38) (by first | exact no_56_3 (by omega) (by omega) | (unfold mBM; omega))).trans rfl)) ((j25 b g1 g2).2 j g3 g4)⟩), (e_ue hw39), (fun j g3 g4 => by omega), by have := (show w39 276 5 = w35 276 5 from (e_uq hw39 (Or.inr (by omega)) rfl)); omega, (Eq.trans (e_uq hw39 (Or.inr (by omega)) ((q37 276 1 no_56_4).trans rfl)) j27), (fun b g1 g2 g3 => Eq.trans (e_uq hw39 (Or.inr (by omega)) rfl) (Decidable.byCases (p := b = y3) (fun e => by have e1 := q37a; have e2 := q37b b (by omega) (by omega); have e3 := j29 b (by omega) (by omega); rw [← e] at e1 e2; omega) (fun e => ((q37b b (by omega) (by omega) (Or.inr e)).trans (j28 b g1 (by omega) g3))))), (fun b g1 g2 => ⟨Eq.trans (e_uq hw39 (Or.inr (by omega)) ((q37 276 (36 * b + 16) (by first | exact no_56_2 (by omega) | (unfold mBM; omega))).trans rfl)) (j29 b (by omega) g2).1, Eq.trans (e_uq hw39 (Or.inr (by omega)) rfl) ((q37b b (by omega) g2 (Or.inr (by omega))).trans (j29 b (by omega) g2).2)⟩)⟩ (by omega))
        exact ⟨rfl, rfl, rfl, rfl, trivial⟩
  refine e_Ok.sub eAlk (e_sub_of rfl ?_) (hL20 (5 + 1 : Int).toNat 0 w15 ⟨(show e_fr mTr w w15 from e_fr.trans (show e_fr mTr w w11 from e_fr.up (show e_fr mTr w w7 from e_fr.up (show e_fr mTr w w4 from e_fr.up (show e_fr mTr w w1 from e_fr.up (e_fr.refl w) hw1 (by first | exact ⟨rfl, Or.inl ⟨(by decide), (by decide)⟩⟩ | (unfold mTr; omega))) hw4 (by first | exact ⟨rfl, Or.inl ⟨(by decide), (by decide)⟩⟩ | (unfold mTr; omega))) hw7 (by first | exact ⟨rfl, Or.inl ⟨(by decide), (by decide)⟩⟩ | (unfold mTr; omega))) hw11 (by first | exact ⟨rfl, Or.inl ⟨(by decide), (by decide)⟩⟩ | (unfold mTr; omega))) (e_fr.mono q18 (fun c k q => su_56_9 q))), q18T, by omega, (fun b g1 g2 => by omega), by have := (show w15 276 5 = w15 276 5 from rfl); omega, ((q18 276 1 no_56_5).trans (e_uq hw11 (Or.inr (by omega)) (e_uq hw7 (Or.inr (by omega)) (e_uq hw4 (Or.inr (by omega)) (e_ue hw1))))), (fun b g1 g2 => by omega), (fun b g1 g2 => ⟨((q18 276 (36 * b + 16) (by first | exact no_56_6 (by omega) | (unfold mE; omega))).trans (e_uq hw11 (Or.inr (by omega)) (e_uq hw7 (Or.inr (by omega)) (e_uq hw4 (Or.inr (by omega)) (e_uq hw1 (Or.inr (by omega)) rfl))))), ((q18 276 (36 * b + 22) (by first | exact no_56_7 (by omega) | (unfold mE; omega))).trans (e_uq hw11 (Or.inr (by omega)) (e_uq hw7 (Or.inr (by omega)) (e_uq hw4 (Or.inr (by omega)) (e_uq hw1 (Or.inr (by omega)) rfl)))))⟩)⟩ (by omega))
  exact ⟨rfl, rfl, trivial⟩
theorem c_360 {d : Nat} (hd : 21 ≤ d) {w : eW} (hT : e_Has mTy w) {l : Int} (hl : 0 ≤ l ∧ l ≤ 7) : e_Ok 20 elay ecode eI d 360 (0, [(0, (1, 275)), (1, (0, l))], [], w) (fun r w' => r = [] ∧ e_fr mLk w w' ∧ e_Has mTy w') := by
  obtain ⟨d, rfl⟩ : ∃ e, d = e + 1 := ⟨d - 1, by omega⟩
  refine e_Ok.run (t' := (4, [(3, (0, 0)), (2, (0, (-1))), (0, (1, 275)), (1, (0, l))], [], w)) 4 rfl ?_
  have hL1 : ∀ (nn : Nat) (y2 : Int) (y3 : Int), (-1 ≤ y2 ∧ y2 ≤ 15) ∧ (0 ≤ y3 ∧ y3 ≤ 16) → 17 - y3 < nn → e_Ok 20 elay ecode eI (d + 1) 360 (4, [(0, (1, 275)), (1, (0, l)), (2, (0, y2)), (3, (0, y3))], [], w) (fun r w' => r = [] ∧ e_fr mLk w w' ∧ e_Has mTy w') := by
    intro nn
    induction nn with
    | zero => intro y2 y3 hj hm; obtain ⟨j3, j4⟩ := hj; exfalso; omega
    | succ nn ih2 =>
      intro y2 y3 hj hm
      obtain ⟨j3, j4⟩ := hj
      refine e_Ok.run (t' := (7, [(0, (1, 275)), (1, (0, l)), (2, (0, y2)), (3, (0, y3))], [(0, 16), (0, y3)], w)) 2 rfl ?_
      refine e_Ok.if2 rfl (fun h5 => ?_) (fun h5 => ?_)
      · replace h5 : (y3 : Int) ≥ 16 := h5
        refine e_Ok.ps1 (x := (1, 275)) (q := 78) 1 rfl ?_
        refine e_Ok.getr (z := 276) rfl (el_o rfl) rfl (ef_o rfl) (e_Has.eq hT (mt_o rfl)) ⟨by decide, by decide⟩ ?_
        refine e_Ok.ps2 (x := (0, l)) (y := (0, 20868)) (q := 85) 2 rfl ?_
        refine e_Ok.add (z := l + 20868) rfl (Int.add_comm _ _) (by omega) ?_
        refine e_Ok.ps1 (x := (0, y2)) (q := 87) 1 rfl ?_
        refine e_Ok.ast rfl (el_o rfl) rfl rfl (by omega) ?_
        generalize hw6 : e_up w 276 (l + 20868) y2 = w6
        have hT8 : e_Has mTy w6 := e_Has.upr hT hw6 (nR_LOCK (l := l) (by omega)) (by omega)
        refine e_Ok.rets rfl rfl ?_
        exact ⟨rfl, (show e_fr mLk w w6 from e_fr.up (e_fr.refl w) hw6 (by unfold mLk; omega)), hT8⟩
      · replace h5 : (y3 : Int) < 16 := Int.not_le.mp (show ¬ ((y3 : Int) ≥ 16) from h5)
        refine e_Ok.ps1 (x := (0, y3)) (q := 11) 1 rfl ?_
        refine e_Ok.callS rfl (e_dq hd rfl) rfl rfl (c_269 (by omega)) (fun r9 w10 h11 => ?_)
        obtain ⟨rfl, rfl⟩ := h11
        refine e_Ok.nrm (q := 14) (st' := [(0, 1260 * y3 + 416)]) rfl rfl ?_
        refine e_Ok.run (t' := (17, [(4, (0, 1260 * y3 + 416)), (0, (1, 275)), (1, (0, l)), (2, (0, y2)), (3, (0, y3))], [(1, 275)], w)) 2 rfl ?_
        refine e_Ok.getr (z := 276) rfl (el_o rfl) rfl (ef_o rfl) (e_Has.eq hT (mt_o rfl)) ⟨by decide, by decide⟩ ?_
        refine e_Ok.ps1 (x := (0, 1260 * y3 + 416)) (q := 22) 1 rfl ?_
        have h12 := (e_Has.get hT (c := 276) (k := 1260 * y3 + 416) (lo := 0) (hi := 7) (nR_TSTATE (t := y3) (by omega)) (by decide))
        refine e_Ok.ald (z := w 276 (1260 * y3 + 416)) rfl (el_o rfl) rfl (by omega) rfl (e_bq h12 (by decide) (by decide)) ?_
        refine e_Ok.ps1 (x := (0, 5)) (q := 24) 1 rfl ?_
        refine e_Ok.if2 rfl (fun h13 => ?_) (fun h13 => ?_)
        · replace h13 : (w 276 (1260 * y3 + 416) : Int) ≠ 5 := h13
          refine e_Ok.inc (z := y3 + 1) rfl rfl (by first | with_reducible rfl | omega) (by omega) ?_
          show e_Ok 20 elay ecode eI (d + 1) 360 (74, [(3, (0, y3 + 1)), (4, (0, 1260 * y3 + 416)), (0, (1, 275)), (1, (0, l)), (2, (0, y2))], [], w) _
          refine e_Ok.ps0 (q := 4) 1 rfl ?_
          refine e_Ok.sub eAlk (e_sub_of rfl ?_) (ih2 y2 (y3 + 1) ⟨by omega, by omega⟩ (by omega))
          exact ⟨rfl, rfl, rfl, rfl, trivial⟩
        · replace h13 : (w 276 (1260 * y3 + 416) : Int) = 5 := Classical.not_not.mp (show ¬ ((w 276 (1260 * y3 + 416) : Int) ≠ 5) from h13)
          refine e_Ok.ps1 (x := (1, 275)) (q := 28) 1 rfl ?_
          refine e_Ok.getr (z := 276) rfl (el_o rfl) rfl (ef_o rfl) (e_Has.eq hT (mt_o rfl)) ⟨by decide, by decide⟩ ?_
          refine e_Ok.ps2 (x := (0, 5)) (y := (0, 1260 * y3 + 416)) (q := 34) 2 rfl ?_
          refine e_Ok.add (z := 1260 * y3 + 421) rfl (e_adl (by decide)) (by omega) ?_
          have h14 := (e_Has.get hT (c := 276) (k := 1260 * y3 + 421) (lo := 0) (hi := 7) (nR_WANT (t := y3) (by omega)) (by decide))
          refine e_Ok.ald (z := w 276 (1260 * y3 + 421)) rfl (el_o rfl) rfl (by omega) rfl (e_bq h14 (by decide) (by decide)) ?_
          refine e_Ok.ps1 (x := (0, l)) (q := 37) 1 rfl ?_
          refine e_Ok.if2 rfl (fun h15 => ?_) (fun h15 => ?_)
          · replace h15 : (w 276 (1260 * y3 + 421) : Int) ≠ l := h15
            refine e_Ok.inc (z := y3 + 1) rfl rfl (by first | with_reducible rfl | omega) (by omega) ?_
            show e_Ok 20 elay ecode eI (d + 1) 360 (74, [(3, (0, y3 + 1)), (4, (0, 1260 * y3 + 416)), (0, (1, 275)), (1, (0, l)), (2, (0, y2))], [], w) _
            refine e_Ok.ps0 (q := 4) 1 rfl ?_
            refine e_Ok.sub eAlk (e_sub_of rfl ?_) (ih2 y2 (y3 + 1) ⟨by omega, by omega⟩ (by omega))
            exact ⟨rfl, rfl, rfl, rfl, trivial⟩
          · replace h15 : (w 276 (1260 * y3 + 421) : Int) = l := Classical.not_not.mp (show ¬ ((w 276 (1260 * y3 + 421) : Int) ≠ l) from h15)
            refine e_Ok.ps1 (x := (0, y2)) (q := 41) 1 rfl ?_
            refine e_Ok.if1 rfl (fun h16 => ?_) (fun h16 => ?_)
            · replace h16 : (y2 : Int) < 0 := h16
              refine e_Ok.run (t' := (71, [(2, (0, y3)), (4, (0, 1260 * y3 + 416)), (0, (1, 275)), (1, (0, l)), (3, (0, y3))], [], w)) 2 rfl ?_
              refine e_Ok.inc (z := y3 + 1) rfl rfl (by first | with_reducible rfl | omega) (by omega) ?_
              show e_Ok 20 elay ecode eI (d + 1) 360 (74, [(3, (0, y3 + 1)), (2, (0, y3)), (4, (0, 1260 * y3 + 416)), (0, (1, 275)), (1, (0, l))], [], w) _
              refine e_Ok.ps0 (q := 4) 1 rfl ?_
              refine e_Ok.sub eAlk (e_sub_of rfl ?_) (ih2 y3 (y3 + 1) ⟨by omega, by omega⟩ (by omega))
              exact ⟨rfl, rfl, rfl, rfl, trivial⟩
            · replace h16 : (y2 : Int) ≥ 0 := Int.not_lt.mp (show ¬ ((y2 : Int) < 0) from h16)
              refine e_Ok.ps1 (x := (1, 275)) (q := 45) 1 rfl ?_
              refine e_Ok.getr (z := 276) rfl (el_o rfl) rfl (ef_o rfl) (e_Has.eq hT (mt_o rfl)) ⟨by decide, by decide⟩ ?_
              refine e_Ok.ps2 (x := (0, 6)) (y := (0, 1260 * y3 + 416)) (q := 52) 2 rfl ?_
              refine e_Ok.add (z := 1260 * y3 + 422) rfl (e_adl (by decide)) (by omega) ?_
              have h17 := (e_Has.get hT (c := 276) (k := 1260 * y3 + 422) (lo := (-2147483648)) (hi := 2147483647) (nR_ORDER_IN (t := y3) (by omega)) (by decide))
              refine e_Ok.ald (z := w 276 (1260 * y3 + 422)) rfl (el_o rfl) rfl (by omega) rfl (e_bq h17 (by decide) (by decide)) ?_
              refine e_Ok.ps1 (x := (1, 275)) (q := 55) 1 rfl ?_
              refine e_Ok.getr (z := 276) rfl (el_o rfl) rfl (ef_o rfl) (e_Has.eq hT (mt_o rfl)) ⟨by decide, by decide⟩ ?_
              refine e_Ok.ps1 (x := (0, y2)) (q := 59) 1 rfl ?_
              refine e_Ok.callS rfl (e_dq hd rfl) rfl rfl (c_269 (by omega)) (fun r18 w19 h20 => ?_)
              obtain ⟨rfl, rfl⟩ := h20
              refine e_Ok.nrm (q := 62) (st' := [(0, 1260 * y2 + 416), (1, 276), (0, w 276 (1260 * y3 + 422))]) rfl rfl ?_
              refine e_Ok.ps1 (x := (0, 6)) (q := 64) 1 rfl ?_
              refine e_Ok.add (z := 1260 * y2 + 422) rfl (e_adl (by decide)) (by omega) ?_
              have h21 := (e_Has.get hT (c := 276) (k := 1260 * y2 + 422) (lo := (-2147483648)) (hi := 2147483647) (nR_ORDER_IN (t := y2) (by omega)) (by decide))
              refine e_Ok.ald (z := w 276 (1260 * y2 + 422)) rfl (el_o rfl) rfl (by omega) rfl (e_bq h21 (by decide) (by decide)) ?_
              refine e_Ok.if2 rfl (fun h22 => ?_) (fun h22 => ?_)
              · replace h22 : (w 276 (1260 * y3 + 422) : Int) ≥ w 276 (1260 * y2 + 422) := h22
                refine e_Ok.inc (z := y3 + 1) rfl rfl (by first | with_reducible rfl | omega) (by omega) ?_
                show e_Ok 20 elay ecode eI (d + 1) 360 (74, [(3, (0, y3 + 1)), (4, (0, 1260 * y3 + 416)), (0, (1, 275)), (1, (0, l)), (2, (0, y2))], [], w) _
                refine e_Ok.ps0 (q := 4) 1 rfl ?_
                refine e_Ok.sub eAlk (e_sub_of rfl ?_) (ih2 y2 (y3 + 1) ⟨by omega, by omega⟩ (by omega))
                exact ⟨rfl, rfl, rfl, rfl, trivial⟩
              · replace h22 : (w 276 (1260 * y3 + 422) : Int) < w 276 (1260 * y2 + 422) := Int.not_le.mp (show ¬ ((w 276 (1260 * y3 + 422) : Int) ≥ w 276 (1260 * y2 + 422)) from h22)
                refine e_Ok.run (t' := (71, [(2, (0, y3)), (4, (0, 1260 * y3 + 416)), (0, (1, 275)), (1, (0, l)), (3, (0, y3))], [], w)) 2 rfl ?_
                refine e_Ok.inc (z := y3 + 1) rfl rfl (by first | with_reducible rfl | omega) (by omega) ?_
                show e_Ok 20 elay ecode eI (d + 1) 360 (74, [(3, (0, y3 + 1)), (2, (0, y3)), (4, (0, 1260 * y3 + 416)), (0, (1, 275)), (1, (0, l))], [], w) _
                refine e_Ok.ps0 (q := 4) 1 rfl ?_
                refine e_Ok.sub eAlk (e_sub_of rfl ?_) (ih2 y3 (y3 + 1) ⟨by omega, by omega⟩ (by omega))
                exact ⟨rfl, rfl, rfl, rfl, trivial⟩
  refine e_Ok.sub eAlk (e_sub_of rfl ?_) (hL1 (17 + 1 : Int).toNat (-1) 0 ⟨by omega, by omega⟩ (by omega))
  exact ⟨rfl, rfl, rfl, rfl, trivial⟩
theorem no_56_8 {k : Int} : ¬ mLk 275 k := by unfold mLk; omega
theorem c_361 {d : Nat} (hd : 22 ≤ d) {w : eW} (hT : e_Has mTy w) {t : Int} : e_Ok 20 elay ecode eI d 361 (0, [(0, (1, 275)), (1, (0, t))], [], w) (fun r w' => r = [] ∧ e_fr mLk w w' ∧ e_Has mTy w') := by
  obtain ⟨d, rfl⟩ : ∃ e, d = e + 1 := ⟨d - 1, by omega⟩
  refine e_Ok.run (t' := (2, [(2, (0, 0)), (0, (1, 275)), (1, (0, t))], [], w)) 2 rfl ?_
  have hL1 : ∀ (nn : Nat) (y2 : Int) (v1 : eW), e_fr mLk w v1 ∧ e_Has mTy v1 ∧ (0 ≤ y2 ∧ y2 ≤ 8) → 9 - y2 < nn → e_Ok 20 elay ecode eI (d + 1) 361 (2, [(0, (1, 275)), (1, (0, t)), (2, (0, y2))], [], v1) (fun r w' => r = [] ∧ e_fr mLk w w' ∧ e_Has mTy w') := by
    intro nn
    induction nn with
    | zero => intro y2 v1 hj hm; obtain ⟨j3, j4, j5⟩ := hj; exfalso; omega
    | succ nn ih2 =>
      intro y2 v1 hj hm
      obtain ⟨j3, j4, j5⟩ := hj
      refine e_Ok.run (t' := (5, [(0, (1, 275)), (1, (0, t)), (2, (0, y2))], [(0, 8), (0, y2)], v1)) 2 rfl ?_
      refine e_Ok.if2 rfl (fun h6 => ?_) (fun h6 => ?_)
      · replace h6 : (y2 : Int) ≥ 8 := h6
        refine e_Ok.rets rfl rfl ?_
        exact ⟨rfl, j3, j4⟩
      · replace h6 : (y2 : Int) < 8 := Int.not_le.mp (show ¬ ((y2 : Int) ≥ 8) from h6)
        refine e_Ok.ps1 (x := (1, 275)) (q := 9) 1 rfl ?_
        refine e_Ok.getr (z := 276) rfl (el_o rfl) rfl (ef_o rfl) ((j3 275 0 no_56_8).trans (e_Has.eq hT (mt_o rfl))) ⟨by decide, by decide⟩ ?_
        refine e_Ok.ps2 (x := (0, y2)) (y := (0, 20868)) (q := 16) 2 rfl ?_
        refine e_Ok.add (z := y2 + 20868) rfl (Int.add_comm _ _) (by omega) ?_
        have h7 := (e_Has.get j4 (c := 276) (k := y2 + 20868) (lo := (-1)) (hi := 15) (nR_LOCK (l := y2) (by omega)) (by decide))
        refine e_Ok.ald (z := v1 276 (y2 + 20868)) rfl (el_o rfl) rfl (by omega) rfl (e_bq h7 (by decide) (by decide)) ?_
        refine e_Ok.ps1 (x := (0, t)) (q := 19) 1 rfl ?_
        refine e_Ok.if2 rfl (fun h8 => ?_) (fun h8 => ?_)
        · replace h8 : (v1 276 (y2 + 20868) : Int) ≠ t := h8
          refine e_Ok.inc (z := y2 + 1) rfl rfl (by first | with_reducible rfl | omega) (by omega) ?_
          show e_Ok 20 elay ecode eI (d + 1) 361 (30, [(2, (0, y2 + 1)), (0, (1, 275)), (1, (0, t))], [], v1) _
          refine e_Ok.ps0 (q := 2) 1 rfl ?_
          refine e_Ok.sub eAlk (e_sub_of rfl ?_) (ih2 (y2 + 1) v1 ⟨j3, j4, by omega⟩ (by omega))
          exact ⟨rfl, rfl, rfl, trivial⟩
        · replace h8 : (v1 276 (y2 + 20868) : Int) = t := Classical.not_not.mp (show ¬ ((v1 276 (y2 + 20868) : Int) ≠ t) from h8)
          refine e_Ok.ps2 (x := (0, y2)) (y := (1, 275)) (q := 24) 2 rfl ?_
          refine e_Ok.callV rfl (e_dq hd rfl) rfl rfl rfl rfl (c_360 (e_dq hd rfl) j4 (by omega)) (fun r9 w10 h11 => ?_)
          obtain ⟨rfl, q12, q12T⟩ := h11
          refine e_Ok.nrm (q := 27) (st' := []) rfl rfl ?_
          refine e_Ok.inc (z := y2 + 1) rfl rfl (by first | with_reducible rfl | omega) (by omega) ?_
          show e_Ok 20 elay ecode eI (d + 1) 361 (30, [(2, (0, y2 + 1)), (0, (1, 275)), (1, (0, t))], [], w10) _
          refine e_Ok.ps0 (q := 2) 1 rfl ?_
          refine e_Ok.sub eAlk (e_sub_of rfl ?_) (ih2 (y2 + 1) w10 ⟨(show e_fr mLk w w10 from e_fr.trans j3 (e_fr.mono q12 (fun c k q => by exact q))), q12T, by omega⟩ (by omega))
          exact ⟨rfl, rfl, rfl, trivial⟩
  refine e_Ok.sub eAlk (e_sub_of rfl ?_) (hL1 (9 + 1 : Int).toNat 0 w ⟨(e_fr.refl w), hT, by omega⟩ (by omega))
  exact ⟨rfl, rfl, rfl, trivial⟩
end
end
-- part 57
section
noncomputable section
/-! a compiled program of the model that can be carried out: by places (dl: numbers on the stack, sg: inside a statement), by regions (pi: finally parts that are open, en: its end, an: its ancestors), br: what a break may leave -/
def iFT (w : eW) (a n p : Int) : Prop := p + 1 < n ∧ w 330 (10000 * a + p + 1) = w 330 (10000 * a + p)
def iS (w : eW) (a n : Int) (dl sg : Int → Int) (p : Int) : Prop := iFT w a n p ∧ dl (p + 1) = 0 ∧ sg (p + 1) = 0 ∧ sg p = 1
def insOk (w : eW) (a n nt nw : Int) (dl sg en : Int → Int) (br : Int → Int → Prop) (p : Int) : Prop :=
  ((1 ≤ w 328 (10000 * a + p) ∧ w 328 (10000 * a + p) ≤ 51 ∧ (w 328 (10000 * a + p) ≤ 24 ∨ 30 ≤ w 328 (10000 * a + p))) ∧ (-1 ≤ w 330 (10000 * a + p) ∧ w 330 (10000 * a + p) < 3 * nt) ∧ (0 ≤ dl p ∧ dl p ≤ 4100) ∧ p < en (w 330 (10000 * a + p)) ∧ (sg p = 0 ∨ sg p = 1)) ∧
  (w 328 (10000 * a + p) < 30 → sg p = 1 ∧ sg (p + 1) = 1 ∧ iFT w a n p) ∧
  (w 328 (10000 * a + p) = 1 ∨ w 328 (10000 * a + p) = 2 ∨ w 328 (10000 * a + p) = 5 ∨ w 328 (10000 * a + p) = 6 ∨ w 328 (10000 * a + p) = 7 ∨ w 328 (10000 * a + p) = 8 → dl (p + 1) = dl p + 1) ∧
  (w 328 (10000 * a + p) = 2 → 0 ≤ w 329 (10000 * a + p) ∧ w 329 (10000 * a + p) ≤ 31) ∧
  (w 328 (10000 * a + p) = 3 ∨ w 328 (10000 * a + p) = 4 ∨ w 328 (10000 * a + p) = 9 ∨ w 328 (10000 * a + p) = 21 ∨ w 328 (10000 * a + p) = 24 → 1 ≤ dl p ∧ dl (p + 1) = dl p) ∧
  (w 328 (10000 * a + p) = 22 ∨ w 328 (10000 * a + p) = 23 → 1 ≤ dl p ∧ dl (p + 1) = dl p - 1 ∧ p < w 329 (10000 * a + p) ∧ w 329 (10000 * a + p) < n ∧ dl (w 329 (10000 * a + p)) = dl p ∧ sg (w 329 (10000 * a + p)) = 1 ∧ w 330 (10000 * a + w 329 (10000 * a + p)) = w 330 (10000 * a + p)) ∧
  (10 ≤ w 328 (10000 * a + p) ∧ w 328 (10000 * a + p) ≤ 20 → 2 ≤ dl p ∧ dl (p + 1) = dl p - 1) ∧
  (w 328 (10000 * a + p) = 30 → dl p = 0 ∧ sg p = 0 ∧ p + 1 < n ∧ dl (p + 1) = 0 ∧ (w 330 (10000 * a + p + 1) = w 330 (10000 * a + p) ∨ ∃ t, 0 ≤ t ∧ t < nt ∧ w 330 (10000 * a + p + 1) = 3 * t ∧ w 331 (900 * a + t) = w 330 (10000 * a + p))) ∧
  (31 ≤ w 328 (10000 * a + p) ∧ w 328 (10000 * a + p) ≤ 44 → iS w a n dl sg p) ∧
  (w 328 (10000 * a + p) = 31 → dl p = 1 ∧ 0 ≤ w 329 (10000 * a + p) ∧ w 329 (10000 * a + p) ≤ 31) ∧
  (w 328 (10000 * a + p) = 32 → dl p = w 329 (10000 * a + p)) ∧
  (w 328 (10000 * a + p) = 33 ∨ w 328 (10000 * a + p) = 34 ∨ w 328 (10000 * a + p) = 36 ∨ w 328 (10000 * a + p) = 37 ∨ w 328 (10000 * a + p) = 40 ∨ w 328 (10000 * a + p) = 41 ∨ w 328 (10000 * a + p) = 44 ∨ w 328 (10000 * a + p) = 47 → dl p = 1) ∧
  (w 328 (10000 * a + p) = 34 → 0 ≤ w 329 (10000 * a + p) ∧ w 329 (10000 * a + p) < n ∧ dl (w 329 (10000 * a + p)) = 0 ∧ w 330 (10000 * a + w 329 (10000 * a + p)) = w 330 (10000 * a + p)) ∧
  (w 328 (10000 * a + p) = 35 → dl p = 2) ∧
  (w 328 (10000 * a + p) = 38 ∨ w 328 (10000 * a + p) = 39 ∨ w 328 (10000 * a + p) = 42 ∨ w 328 (10000 * a + p) = 43 → dl p = 0) ∧
  (w 328 (10000 * a + p) = 38 ∨ w 328 (10000 * a + p) = 39 ∨ w 328 (10000 * a + p) = 44 → 0 ≤ w 329 (10000 * a + p) ∧ w 329 (10000 * a + p) < w 338 a) ∧
  (w 328 (10000 * a + p) = 46 → 0 ≤ w 329 (10000 * a + p) ∧ w 329 (10000 * a + p) < nw ∧ br (w 330 (10000 * a + p)) (w 329 (10000 * a + p)) ∧ p < w 336 (900 * a + w 329 (10000 * a + p))) ∧
  (w 328 (10000 * a + p) = 47 → iS w a n dl sg p ∧ p < w 329 (10000 * a + p) ∧ w 329 (10000 * a + p) < n ∧ dl (w 329 (10000 * a + p)) = 0 ∧ sg (w 329 (10000 * a + p)) = 0 ∧ w 330 (10000 * a + w 329 (10000 * a + p)) = w 330 (10000 * a + p)) ∧
  (w 328 (10000 * a + p) = 48 → sg p = 0 ∧ 0 ≤ w 329 (10000 * a + p) ∧ w 329 (10000 * a + p) < n ∧ dl (w 329 (10000 * a + p)) = 0 ∧ sg (w 329 (10000 * a + p)) = 0 ∧ w 330 (10000 * a + w 329 (10000 * a + p)) = w 330 (10000 * a + p) ∧ (p < w 329 (10000 * a + p) ∨ w 328 (10000 * a + w 329 (10000 * a + p)) = 30)) ∧
  (w 328 (10000 * a + p) = 49 ∨ w 328 (10000 * a + p) = 50 ∨ w 328 (10000 * a + p) = 51 → sg p = 0 ∧ 0 ≤ w 329 (10000 * a + p) ∧ w 329 (10000 * a + p) < nt ∧ w 330 (10000 * a + p) = 3 * w 329 (10000 * a + p) + (w 328 (10000 * a + p) - 49))
/-- a place that is gone to -/
def tgt (w : eW) (a n : Int) (dl sg : Int → Int) (p r : Int) : Prop := 0 ≤ p ∧ p < n ∧ dl p = 0 ∧ sg p = 0 ∧ w 330 (10000 * a + p) = r
def tryOk (w : eW) (a n : Int) (dl sg pi en : Int → Int) (an : Int → Int → Prop) (t : Int) : Prop :=
  (-1 ≤ w 331 (900 * a + t) ∧ w 331 (900 * a + t) < 3 * t) ∧ (pi (3 * t) = pi (w 331 (900 * a + t)) ∧ pi (3 * t + 1) = pi (w 331 (900 * a + t)) ∧ pi (3 * t + 2) = pi (w 331 (900 * a + t)) + 1) ∧
  (w 332 (900 * a + t) < 0 ∨ (tgt w a n dl sg (w 332 (900 * a + t)) (3 * t + 1) ∧ en (3 * t) ≤ w 332 (900 * a + t))) ∧
  (w 333 (900 * a + t) < 0 ∨ (tgt w a n dl sg (w 333 (900 * a + t)) (3 * t + 2) ∧ en (3 * t) ≤ w 333 (900 * a + t) ∧ en (3 * t + 1) ≤ w 333 (900 * a + t))) ∧
  (tgt w a n dl sg (w 334 (900 * a + t)) (w 331 (900 * a + t)) ∧ en (3 * t) ≤ w 334 (900 * a + t) ∧ en (3 * t + 1) ≤ w 334 (900 * a + t) ∧ en (3 * t + 2) ≤ w 334 (900 * a + t) ∧ w 334 (900 * a + t) ≤ en (w 331 (900 * a + t))) ∧
  (∀ i q, 0 ≤ i → i ≤ 2 → an (3 * t + i) q → q = 3 * t + i ∨ an (w 331 (900 * a + t)) q) ∧ (∀ i q, 0 ≤ i → i ≤ 2 → an (w 331 (900 * a + t)) q → an (3 * t + i) q)
def cOk (w : eW) (a n nt nw : Int) (dl sg pi en : Int → Int) (an br : Int → Int → Prop) : Prop :=
  (0 ≤ n ∧ n ≤ 10000 ∧ 0 ≤ nt ∧ nt ≤ 900 ∧ 0 ≤ nw ∧ nw ≤ 900) ∧ (∀ p, 0 ≤ p → p < n → insOk w a n nt nw dl sg en br p) ∧ (∀ t, 0 ≤ t → t < nt → tryOk w a n dl sg pi en an t) ∧
  (pi (-1) = 0 ∧ (∀ r, -1 ≤ r → r < 3 * nt → 0 ≤ pi r ∧ pi r ≤ 30) ∧ (∀ r, an r r) ∧ (∀ q, an (-1) q → q = -1) ∧ (∀ r q, an r q → -1 ≤ r → -1 ≤ q ∧ q ≤ r) ∧ (∀ r q, an r q → -1 ≤ r → r < 3 * nt → pi q ≤ pi r)) ∧
  (∀ v, 0 ≤ v → v < nw → (-1 ≤ w 335 (900 * a + v) ∧ w 335 (900 * a + v) < 3 * nt) ∧ tgt w a n dl sg (w 336 (900 * a + v)) (w 335 (900 * a + v))) ∧
  (∀ r v, br r v → -1 ≤ r → r < 3 * nt → r = w 335 (900 * a + v) ∨ (0 ≤ r ∧ w 334 (900 * a + r / 3) ≤ w 336 (900 * a + v) ∧ br (w 331 (900 * a + r / 3)) v)) ∧
  (∀ q, 0 ≤ q → q < w 338 a → tgt w a n dl sg (w 337 (32 * a + q)) (-1))
/-- the pending entry j of the task t, which belongs to the try ow j -/
def pendOk (w : eW) (a t nt nw : Int) (br : Int → Int → Prop) (ow : Int → Int) (j : Int) : Prop :=
  (0 ≤ ow j ∧ ow j < nt) ∧ (w 276 (1260 * t + 2 * j + 476) = 3 → 0 ≤ w 276 (1260 * t + 2 * j + 477) ∧ w 276 (1260 * t + 2 * j + 477) < nw ∧ br (w 331 (900 * a + ow j)) (w 276 (1260 * t + 2 * j + 477)) ∧ w 334 (900 * a + ow j) ≤ w 336 (900 * a + w 276 (1260 * t + 2 * j + 477)))
def chn (pi ow : Int → Int) (an : Int → Int → Prop) (r b : Int) : Prop := ∀ q, an r q → 0 ≤ q → q % 3 = 2 → ow (b + pi q - 1) = q / 3
/-- frames below the top -/
def lowOk (w : eW) (a t g n : Int) (dl sg pi : Int → Int) (an : Int → Int → Prop) (bs ow : Int → Int) : Prop :=
  bs 0 = 0 ∧ (∀ i, 0 ≤ i → i ≤ g → 0 ≤ bs i ∧ bs i ≤ 30 * i) ∧ (∀ i j, 0 ≤ i → i ≤ j → j ≤ g → bs i ≤ bs j) ∧ ∀ i, 0 ≤ i → i < g → (0 ≤ w 276 (1260 * t + 2 * i + 436) ∧ w 276 (1260 * t + 2 * i + 436) < n) ∧ bs (i + 1) = bs i + pi (w 330 (10000 * a + w 276 (1260 * t + 2 * i + 436))) ∧ chn pi ow an (w 330 (10000 * a + w 276 (1260 * t + 2 * i + 436))) (bs i) ∧
    (w 276 (1260 * t + 2 * i + 439) ≠ 1 → iFT w a n (w 276 (1260 * t + 2 * i + 436)) ∧ dl (w 276 (1260 * t + 2 * i + 436) + 1) = 0 ∧ sg (w 276 (1260 * t + 2 * i + 436) + 1) = 0) ∧ (w 276 (1260 * t + 2 * i + 439) = 1 → dl (w 276 (1260 * t + 2 * i + 436)) = 0 ∧ sg (w 276 (1260 * t + 2 * i + 436)) = 0)
/-- the task t of the arm a has g + 1 frames, and is about to leave (or is in) the region r of its top frame -/
def runOk (w : eW) (a t g r n nt nw : Int) (dl sg pi : Int → Int) (an br : Int → Int → Prop) (bs ow : Int → Int) : Prop :=
  (0 ≤ g ∧ g ≤ 19) ∧ w 276 (1260 * t + 428) = g + 1 ∧ lowOk w a t g n dl sg pi an bs ow ∧ (-1 ≤ r ∧ r < 3 * nt) ∧ w 276 (1260 * t + 429) = bs g + pi r ∧ chn pi ow an r (bs g) ∧ ∀ j, 0 ≤ j → j < bs g + pi r → pendOk w a t nt nw br ow j
/-- .. and stands at the place p -/
def topOk (w : eW) (a t g p n nt nw : Int) (dl sg pi : Int → Int) (an br : Int → Int → Prop) (bs ow : Int → Int) : Prop :=
  (0 ≤ p ∧ p < n) ∧ w 276 (1260 * t + 2 * g + 436) = p ∧ runOk w a t g (w 330 (10000 * a + p)) n nt nw dl sg pi an br bs ow
end
end
-- part 58
section
noncomputable section
def mLv (t c k : Int) : Prop := (c = 275 ∧ (k = 100 ∨ k = 102)) ∨ (c = 276 ∧ (k = 5 ∨ 25060 ≤ k ∨ (20868 ≤ k ∧ k ≤ 20875) ∨ (16 ≤ k ∧ k < 160 ∧ ((k - 16) % 36 = 0 ∨ (k - 16) % 36 = 2 ∨ (k - 16) % 36 = 6 ∨ (k - 16) % 36 = 9)) ∨ (416 ≤ k ∧ k < 20576 ∧ ((k - 416) % 1260 = 7)) ∨ k = 1260 * t + 416 ∨ k = 1260 * t + 418 ∨ k = 1260 * t + 419 ∨ (1260 * t + 428 ≤ k ∧ k ≤ 1260 * t + 430) ∨ (1260 * t + 436 ≤ k ∧ k ≤ 1260 * t + 1675)))
def mDe (c k : Int) : Prop := (c = 275 ∧ k = 102) ∨ c = 345
theorem c_362 {d : Nat} {w : eW} (hT : e_Has mTy w) {t : Int} (ht : 0 ≤ t ∧ t ≤ 15) (h97 : w 275 97 = 1260 * t + 416) {f z : Int} (hF : w 276 (1260 * t + 428) = f) (hf : 1 ≤ f ∧ f ≤ 20) (hz : 1260 * t + 2 * f + 434 = z) : e_Ok 20 elay ecode eI d 362 (0, [(0, (1, 275))], [], w) (fun r w' => r = [(0, z)] ∧ w = w') := by
  refine e_Ok.ps1 (x := (1, 275)) (q := 1) 1 rfl ?_
  refine e_Ok.getf (z := 1260 * t + 416) rfl (el_o rfl) rfl (ef_o rfl) h97 (by omega) ?_
  refine e_Ok.ps1 (x := (0, 20)) (q := 6) 1 rfl ?_
  refine e_Ok.add (z := 1260 * t + 436) rfl (e_adl (by decide)) (by omega) ?_
  refine e_Ok.ps2 (x := (1, 275)) (y := (0, 2)) (q := 9) 2 rfl ?_
  refine e_Ok.getr (z := 276) rfl (el_o rfl) rfl (ef_o rfl) (e_Has.eq hT (mt_o rfl)) ⟨by decide, by decide⟩ ?_
  refine e_Ok.ps1 (x := (1, 275)) (q := 13) 1 rfl ?_
  refine e_Ok.getf (z := 1260 * t + 416) rfl (el_o rfl) rfl (ef_o rfl) h97 (by omega) ?_
  refine e_Ok.ps1 (x := (0, 12)) (q := 18) 1 rfl ?_
  refine e_Ok.add (z := 1260 * t + 428) rfl (e_adl (by decide)) (by omega) ?_
  refine e_Ok.ald (z := f) rfl (el_o rfl) rfl (by omega) hF (by omega) ?_
  refine e_Ok.ps1 (x := (0, 1)) (q := 21) 1 rfl ?_
  refine e_Ok.sub' (z := f - 1) rfl rfl (by omega) ?_
  refine e_Ok.mul (z := 2 * f - 2) rfl (by omega) (by omega) ?_
  refine e_Ok.add (z := 1260 * t + 2 * f + 434) rfl (by omega) (by omega) ?_
  refine e_Ok.rets rfl rfl ?_
  exact ⟨by rw [← hz], rfl⟩
theorem c_365 {d : Nat} (hd : 21 ≤ d) {w : eW} (hT : e_Has mTy w) {t : Int} (ht : 0 ≤ t ∧ t ≤ 15) (h97 : w 275 97 = 1260 * t + 416) {f z x : Int} (hF : w 276 (1260 * t + 428) = f) (hf : 1 ≤ f ∧ f ≤ 20) (hz : 1260 * t + 2 * f + 434 = z) : e_Ok 20 elay ecode eI d 365 (0, [(0, (1, 275)), (1, (0, x))], [], w) (fun r w' => r = [] ∧ e_up w 276 z x = w') := by
  obtain ⟨d, rfl⟩ : ∃ e, d = e + 1 := ⟨d - 1, by omega⟩
  refine e_Ok.ps1 (x := (1, 275)) (q := 1) 1 rfl ?_
  refine e_Ok.getr (z := 276) rfl (el_o rfl) rfl (ef_o rfl) (e_Has.eq hT (mt_o rfl)) ⟨by decide, by decide⟩ ?_
  refine e_Ok.ps1 (x := (1, 275)) (q := 5) 1 rfl ?_
  refine e_Ok.callV rfl (e_dq hd rfl) rfl rfl rfl rfl (c_362 hT (by omega) h97 (f := f) (z := 1260 * t + 2 * f + 434) hF (by omega) (by omega)) (fun r1 w2 h3 => ?_)
  obtain ⟨rfl, rfl⟩ := h3
  refine e_Ok.nrm (q := 8) (st' := [(0, 1260 * t + 2 * f + 434), (1, 276)]) rfl rfl ?_
  refine e_Ok.ps1 (x := (0, x)) (q := 9) 1 rfl ?_
  refine e_Ok.ast rfl (el_o rfl) rfl rfl (by omega) ?_
  generalize hw4 : e_up w 276 (1260 * t + 2 * f + 434) x = w4
  refine e_Ok.rets rfl rfl ?_
  exact ⟨rfl, by rw [← hz]; exact hw4⟩
theorem c_363 {d : Nat} {w : eW} (hT : e_Has mTy w) {e e1 x : Int} (he : w 275 102 = e) (hr : 0 ≤ e ∧ e ≤ 4199) (h1 : e + 1 = e1) : e_Ok 20 elay ecode eI d 363 (0, [(0, (1, 275)), (1, (0, x))], [], w) (fun r w' => r = [] ∧ e_up (e_up w 345 e x) 275 102 e1 = w') := by
  refine e_Ok.ps1 (x := (1, 275)) (q := 1) 1 rfl ?_
  refine e_Ok.getr (z := 345) rfl (el_o rfl) rfl (ef_o rfl) (e_Has.eq hT (mt_o rfl)) ⟨by decide, by decide⟩ ?_
  refine e_Ok.ps1 (x := (1, 275)) (q := 5) 1 rfl ?_
  refine e_Ok.getf (z := e) rfl (el_o rfl) rfl (ef_o rfl) he (by omega) ?_
  refine e_Ok.ps1 (x := (0, x)) (q := 9) 1 rfl ?_
  refine e_Ok.ast rfl (el_o rfl) rfl rfl (by omega) ?_
  generalize hw1 : e_up w 345 e x = w1
  refine e_Ok.ps2 (x := (1, 275)) (y := (1, 275)) (q := 12) 2 rfl ?_
  refine e_Ok.getf (z := e) rfl (el_o rfl) rfl (ef_o rfl) (e_uq hw1 (Or.inl (by decide)) he) (by omega) ?_
  refine e_Ok.ps1 (x := (0, 1)) (q := 16) 1 rfl ?_
  refine e_Ok.add (z := e + 1) rfl rfl (by omega) ?_
  refine e_Ok.putf rfl (el_o rfl) rfl (ef_o rfl) ?_
  generalize hw2 : e_up w1 275 102 (e + 1) = w2
  refine e_Ok.rets rfl rfl ?_
  exact ⟨rfl, by rw [← h1]; exact hw2⟩
theorem c_364 {d : Nat} {w : eW} (hT : e_Has mTy w) {e u : Int} (he : w 275 102 = e) (hr : 1 ≤ e ∧ e ≤ 4200) (hu : e - 1 = u) (hk : -2147483648 ≤ w 345 u ∧ w 345 u ≤ 2147483647) : e_Ok 20 elay ecode eI d 364 (0, [(0, (1, 275))], [], w) (fun r w' => r = [(0, w 345 u)] ∧ e_up w 275 102 u = w') := by
  subst hu
  have kk : ∀ i, e - 1 ≤ i → i ≤ e - 1 → -2147483648 ≤ w 345 i ∧ w 345 i ≤ 2147483647 := fun i h1 h2 => by rw [show i = e - 1 by omega]; exact hk
  refine e_Ok.run (t' := (2, [(0, (1, 275))], [(1, 275), (1, 275)], w)) 2 rfl ?_
  refine e_Ok.getf (z := e) rfl (el_o rfl) rfl (ef_o rfl) he (by omega) ?_
  refine e_Ok.ps1 (x := (0, 1)) (q := 6) 1 rfl ?_
  refine e_Ok.sub' (z := e - 1) rfl rfl (by omega) ?_
  refine e_Ok.putf rfl (el_o rfl) rfl (ef_o rfl) ?_
  generalize hw1 : e_up w 275 102 (e - 1) = w1
  refine e_Ok.ps1 (x := (1, 275)) (q := 11) 1 rfl ?_
  refine e_Ok.getr (z := 345) rfl (el_o rfl) rfl (ef_o rfl) (e_uq hw1 (Or.inr (by decide)) (e_Has.eq hT (mt_o rfl))) ⟨by decide, by decide⟩ ?_
  refine e_Ok.ps1 (x := (1, 275)) (q := 15) 1 rfl ?_
  refine e_Ok.getf (z := e - 1) rfl (el_o rfl) rfl (ef_o rfl) (e_ue hw1) (by omega) ?_
  have h2 := (kk (e - 1) (by omega) (by omega))
  refine e_Ok.ald (z := w 345 (e - 1)) rfl (el_o rfl) rfl (by omega) (e_uq hw1 (Or.inl (by decide)) rfl) (by omega) ?_
  refine e_Ok.rets rfl rfl ?_
  exact ⟨rfl, rfl⟩
theorem c_370 {d : Nat} {w : eW} (hT : e_Has mTy w) {t : Int} (ht : 0 ≤ t ∧ t ≤ 15) (h97 : w 275 97 = 1260 * t + 416) {m m1 x y z z1 : Int} (hP : w 276 (1260 * t + 429) = m) (hm : 0 ≤ m ∧ m ≤ 599) (hm1 : m + 1 = m1) (hz : 1260 * t + 2 * m + 476 = z) (hz1 : 1260 * t + 2 * m + 477 = z1) : e_Ok 20 elay ecode eI d 370 (0, [(0, (1, 275)), (1, (0, x)), (2, (0, y))], [], w) (fun r w' => r = [] ∧ e_up (e_up (e_up w 276 z x) 276 z1 y) 276 (1260 * t + 429) m1 = w') := by
  refine e_Ok.ps1 (x := (1, 275)) (q := 1) 1 rfl ?_
  refine e_Ok.getf (z := 1260 * t + 416) rfl (el_o rfl) rfl (ef_o rfl) h97 (by omega) ?_
  refine e_Ok.ps1 (x := (0, 60)) (q := 6) 1 rfl ?_
  refine e_Ok.add (z := 1260 * t + 476) rfl (e_adl (by decide)) (by omega) ?_
  refine e_Ok.ps2 (x := (1, 275)) (y := (0, 2)) (q := 9) 2 rfl ?_
  refine e_Ok.getr (z := 276) rfl (el_o rfl) rfl (ef_o rfl) (e_Has.eq hT (mt_o rfl)) ⟨by decide, by decide⟩ ?_
  refine e_Ok.ps1 (x := (1, 275)) (q := 13) 1 rfl ?_
  refine e_Ok.getf (z := 1260 * t + 416) rfl (el_o rfl) rfl (ef_o rfl) h97 (by omega) ?_
  refine e_Ok.ps1 (x := (0, 13)) (q := 18) 1 rfl ?_
  refine e_Ok.add (z := 1260 * t + 429) rfl (e_adl (by decide)) (by omega) ?_
  refine e_Ok.ald (z := m) rfl (el_o rfl) rfl (by omega) hP (by omega) ?_
  refine e_Ok.mul (z := 2 * m) rfl rfl (by omega) ?_
  refine e_Ok.add (z := 1260 * t + 2 * m + 476) rfl (by omega) (by omega) ?_
  refine e_Ok.run (t' := (24, [(3, (0, 1260 * t + 2 * m + 476)), (0, (1, 275)), (1, (0, x)), (2, (0, y))], [(1, 275)], w)) 2 rfl ?_
  refine e_Ok.getr (z := 276) rfl (el_o rfl) rfl (ef_o rfl) (e_Has.eq hT (mt_o rfl)) ⟨by decide, by decide⟩ ?_
  refine e_Ok.ps2 (x := (0, x)) (y := (0, 1260 * t + 2 * m + 476)) (q := 29) 2 rfl ?_
  refine e_Ok.ast rfl (el_o rfl) rfl rfl (by omega) ?_
  generalize hw1 : e_up w 276 (1260 * t + 2 * m + 476) x = w1
  refine e_Ok.ps1 (x := (1, 275)) (q := 31) 1 rfl ?_
  refine e_Ok.getr (z := 276) rfl (el_o rfl) rfl (ef_o rfl) (e_uq hw1 (Or.inl (by decide)) (e_Has.eq hT (mt_o rfl))) ⟨by decide, by decide⟩ ?_
  refine e_Ok.ps2 (x := (0, 1)) (y := (0, 1260 * t + 2 * m + 476)) (q := 36) 2 rfl ?_
  refine e_Ok.add (z := 1260 * t + 2 * m + 477) rfl (e_adl (by decide)) (by omega) ?_
  refine e_Ok.ps1 (x := (0, y)) (q := 38) 1 rfl ?_
  refine e_Ok.ast rfl (el_o rfl) rfl rfl (by omega) ?_
  generalize hw2 : e_up w1 276 (1260 * t + 2 * m + 477) y = w2
  refine e_Ok.ps1 (x := (1, 275)) (q := 40) 1 rfl ?_
  refine e_Ok.getr (z := 276) rfl (el_o rfl) rfl (ef_o rfl) (e_uq hw2 (Or.inl (by decide)) (e_uq hw1 (Or.inl (by decide)) (e_Has.eq hT (mt_o rfl)))) ⟨by decide, by decide⟩ ?_
  refine e_Ok.ps1 (x := (1, 275)) (q := 44) 1 rfl ?_
  refine e_Ok.getf (z := 1260 * t + 416) rfl (el_o rfl) rfl (ef_o rfl) (e_uq hw2 (Or.inl (by decide)) (e_uq hw1 (Or.inl (by decide)) h97)) (by omega) ?_
  refine e_Ok.ps1 (x := (0, 13)) (q := 49) 1 rfl ?_
  refine e_Ok.add (z := 1260 * t + 429) rfl (e_adl (by decide)) (by omega) ?_
  refine e_Ok.ps2 (x := (0, 1260 * t + 429)) (y := (1, 276)) (q := 51) 1 rfl ?_
  refine e_Ok.ald (z := m) rfl (el_o rfl) rfl (by omega) (e_uq hw2 (Or.inr (by omega)) (e_uq hw1 (Or.inr (by omega)) hP)) (by omega) ?_
  refine e_Ok.ps1 (x := (0, 1)) (q := 53) 1 rfl ?_
  refine e_Ok.add (z := m + 1) rfl rfl (by omega) ?_
  refine e_Ok.ast rfl (el_o rfl) rfl rfl (by omega) ?_
  generalize hw3 : e_up w2 276 (1260 * t + 429) (m + 1) = w3
  refine e_Ok.rets rfl rfl ?_
  exact ⟨rfl, by rw [← hz, ← hz1, ← hm1, hw1, hw2]; exact hw3⟩
end
end
-- part 58a
section
noncomputable section
/-! a program's text and a task's frames stay what they are where nothing of them is written -/
theorem insOk.fr {w w' : eW} {a n nt nw : Int} {dl sg en : Int → Int} {br : Int → Int → Prop} {p : Int} (e : ∀ c k, 328 ≤ c → c ≤ 338 → w' c k = w c k) (h : insOk w a n nt nw dl sg en br p) : insOk w' a n nt nw dl sg en br p := by
  unfold insOk iS iFT at h ⊢
  simp only [e 328 _ (by decide) (by decide), e 329 _ (by decide) (by decide), e 330 _ (by decide) (by decide), e 331 _ (by decide) (by decide), e 336 _ (by decide) (by decide), e 338 _ (by decide) (by decide)]
  exact h
theorem cOk.fr {w w' : eW} {a n nt nw : Int} {dl sg pi en : Int → Int} {an br : Int → Int → Prop} (e : ∀ c k, 328 ≤ c → c ≤ 338 → w' c k = w c k) (h : cOk w a n nt nw dl sg pi en an br) : cOk w' a n nt nw dl sg pi en an br := by
  obtain ⟨h1, h2, h3, h4, h5, h6, h7⟩ := h
  refine ⟨h1, fun p q1 q2 => (h2 p q1 q2).fr e, fun t q1 q2 => ?_, h4, fun v q1 q2 => ?_, fun r v q1 q2 q3 => ?_, fun q q1 q2 => ?_⟩
  · have := h3 t q1 q2
    unfold tryOk tgt at this ⊢
    simp only [e 330 _ (by decide) (by decide), e 331 _ (by decide) (by decide), e 332 _ (by decide) (by decide), e 333 _ (by decide) (by decide), e 334 _ (by decide) (by decide)]
    exact this
  · have := h5 v q1 q2
    unfold tgt at this ⊢
    simp only [e 330 _ (by decide) (by decide), e 335 _ (by decide) (by decide), e 336 _ (by decide) (by decide)]
    exact this
  · have := h6 r v q1 q2 q3
    simp only [e 331 _ (by decide) (by decide), e 334 _ (by decide) (by decide), e 335 _ (by decide) (by decide), e 336 _ (by decide) (by decide)]
    exact this
  · have q2' : q < w 338 a := by rw [← e 338 a (by decide) (by decide)]; exact q2
    have := h7 q q1 q2'
    unfold tgt at this ⊢
    simp only [e 330 _ (by decide) (by decide), e 337 _ (by decide) (by decide)]
    exact this
theorem lowOk.fr {w w' : eW} {a t g n : Int} {dl sg pi : Int → Int} {an : Int → Int → Prop} {bs ow : Int → Int} (e : ∀ c k, 328 ≤ c → c ≤ 338 → w' c k = w c k) (e1 : ∀ i, 0 ≤ i → i < g → w' 276 (1260 * t + 2 * i + 436) = w 276 (1260 * t + 2 * i + 436) ∧ w' 276 (1260 * t + 2 * i + 439) = w 276 (1260 * t + 2 * i + 439)) (h : lowOk w a t g n dl sg pi an bs ow) : lowOk w' a t g n dl sg pi an bs ow := by
  obtain ⟨h1, h2, hm, h3⟩ := h
  refine ⟨h1, h2, hm, fun i q1 q2 => ?_⟩
  have := h3 i q1 q2
  unfold iFT at this ⊢
  rw [(e1 i q1 q2).1, (e1 i q1 q2).2]
  simp only [e 330 _ (by decide) (by decide)]
  exact this
theorem pendOk.fr {w w' : eW} {a t nt nw : Int} {br : Int → Int → Prop} {ow : Int → Int} {j : Int} (e : ∀ c k, 328 ≤ c → c ≤ 338 → w' c k = w c k) (e1 : w' 276 (1260 * t + 2 * j + 476) = w 276 (1260 * t + 2 * j + 476) ∧ w' 276 (1260 * t + 2 * j + 477) = w 276 (1260 * t + 2 * j + 477)) (h : pendOk w a t nt nw br ow j) : pendOk w' a t nt nw br ow j := by
  unfold pendOk at h ⊢
  rw [e1.1, e1.2]
  simp only [e 331 _ (by decide) (by decide), e 334 _ (by decide) (by decide), e 336 _ (by decide) (by decide)]
  exact h
theorem runOk.fr {w w' : eW} {a t g r n nt nw : Int} {dl sg pi : Int → Int} {an br : Int → Int → Prop} {bs ow : Int → Int} (e : ∀ c k, 328 ≤ c → c ≤ 338 → w' c k = w c k) (e1 : ∀ i, 0 ≤ i → i < g → w' 276 (1260 * t + 2 * i + 436) = w 276 (1260 * t + 2 * i + 436) ∧ w' 276 (1260 * t + 2 * i + 439) = w 276 (1260 * t + 2 * i + 439)) (e2 : w' 276 (1260 * t + 428) = w 276 (1260 * t + 428)) (e3 : w' 276 (1260 * t + 429) = w 276 (1260 * t + 429)) (e4 : ∀ k, 0 ≤ k → k < 1200 → w' 276 (1260 * t + k + 476) = w 276 (1260 * t + k + 476)) (hp : pi r ≤ 30) (h : runOk w a t g r n nt nw dl sg pi an br bs ow) : runOk w' a t g r n nt nw dl sg pi an br bs ow := by
  obtain ⟨h1, h2, h3, h4, h5, h6, h7⟩ := h
  refine ⟨h1, by rw [e2]; exact h2, h3.fr e e1, h4, by rw [e3]; exact h5, h6, fun j q1 q2 => (h7 j q1 q2).fr e ?_⟩
  have hb := h3.2.1 g (by omega) (Int.le_refl g)
  have k1 := e4 (2 * j) (by omega) (by omega)
  have k2 := e4 (2 * j + 1) (by omega) (by omega)
  rw [show 1260 * t + (2 * j + 1) + 476 = 1260 * t + 2 * j + 477 by omega] at k2
  exact ⟨k1, k2⟩
end
end
-- part 58b
section
noncomputable section
/-! places of frames and pending entries; a frame is left -/
theorem nR_FRg {e : Int} (t i : Int) (h : 0 ≤ t ∧ t ≤ 15) (hi : 0 ≤ i ∧ i ≤ 19) (he : e = 1260 * t + 2 * i + 436) : mTy 276 e = (0, 9999) := by rw [he]; exact nR_FRAME h hi
theorem nR_FRWg {e : Int} (t i : Int) (h : 0 ≤ t ∧ t ≤ 15) (hi : 0 ≤ i ∧ i ≤ 19) (he : e = 1260 * t + 2 * i + 437) : mTy 276 e = (0, 1) := by rw [he]; exact nR_FRAMEW h hi
theorem nR_PEg {e : Int} (t : Int) (h : 0 ≤ t ∧ t ≤ 15) (he : 1260 * t + 476 ≤ e ∧ e ≤ 1260 * t + 1675) : mTy 276 e = (-2147483648, 2147483647) := by
  have := nR_PEND (t := t) (i := e - 1260 * t - 476) h (by omega)
  rwa [show 1260 * t + (e - 1260 * t - 476) + 476 = e by omega] at this
section E58
variable {w w' : eW} {a t g n nt nw : Int} {dl sg pi en : Int → Int} {an br : Int → Int → Prop} {bs ow : Int → Int}
/-- the frame below the top, in the words that the printed proofs use -/
theorem lowOk.top (h : lowOk w a t g n dl sg pi an bs ow) (hg : 1 ≤ g) : (0 ≤ w 276 (1260 * t + 2 * g + 434) ∧ w 276 (1260 * t + 2 * g + 434) < n) ∧ bs g = bs (g - 1) + pi (w 330 (10000 * a + w 276 (1260 * t + 2 * g + 434))) ∧ chn pi ow an (w 330 (10000 * a + w 276 (1260 * t + 2 * g + 434))) (bs (g - 1)) ∧
    (w 276 (1260 * t + 2 * g + 437) ≠ 1 → iFT w a n (w 276 (1260 * t + 2 * g + 434)) ∧ dl (w 276 (1260 * t + 2 * g + 434) + 1) = 0 ∧ sg (w 276 (1260 * t + 2 * g + 434) + 1) = 0) ∧ (w 276 (1260 * t + 2 * g + 437) = 1 → dl (w 276 (1260 * t + 2 * g + 434)) = 0 ∧ sg (w 276 (1260 * t + 2 * g + 434)) = 0) := by
  have q := h.2.2.2 (g - 1) (by omega) (by omega)
  rw [show 1260 * t + 2 * (g - 1) + 436 = 1260 * t + 2 * g + 434 by omega, show 1260 * t + 2 * (g - 1) + 439 = 1260 * t + 2 * g + 437 by omega, show g - 1 + 1 = g by omega] at q
  exact q
theorem lowOk.less (h : lowOk w a t g n dl sg pi an bs ow) (k : Int) (hk : k ≤ g) : lowOk w a t k n dl sg pi an bs ow := ⟨h.1, fun i h1 h2 => h.2.1 i h1 (by omega), fun i j h1 h2 h3 => h.2.2.1 i j h1 h2 (by omega), fun i h1 h2 => h.2.2.2 i h1 (by omega)⟩
theorem runOk.pop (hC : cOk w a n nt nw dl sg pi en an br) (h : runOk w a t g (-1) n nt nw dl sg pi an br bs ow) (hg : 1 ≤ g) (e : ∀ c k, 328 ≤ c → c ≤ 338 → w' c k = w c k) (e1 : ∀ i, 0 ≤ i → i < g - 1 → w' 276 (1260 * t + 2 * i + 436) = w 276 (1260 * t + 2 * i + 436) ∧ w' 276 (1260 * t + 2 * i + 439) = w 276 (1260 * t + 2 * i + 439)) (e2 : w' 276 (1260 * t + 428) = g) (e3 : w' 276 (1260 * t + 429) = w 276 (1260 * t + 429)) (e4 : ∀ k, 0 ≤ k → k < 1200 → w' 276 (1260 * t + k + 476) = w 276 (1260 * t + k + 476)) : runOk w' a t (g - 1) (w 330 (10000 * a + w 276 (1260 * t + 2 * g + 434))) n nt nw dl sg pi an br bs ow := by
  obtain ⟨h1, h2, h3, h4, h5, h6, h7⟩ := h
  obtain ⟨q1, q2, q3, -, -⟩ := h3.top hg
  have hp0 := hC.2.2.2.1.1
  have hi := (hC.2.1 _ q1.1 q1.2).1.2.1
  have hb := h3.2.1 g (by omega) (Int.le_refl g)
  refine ⟨by omega, by omega, (h3.less (g - 1) (by omega)).fr e e1, hi, by rw [e3, h5, hp0]; omega, q3, fun j k1 k2 => (h7 j k1 (by omega)).fr e ?_⟩
  have l1 := e4 (2 * j) (by omega) (by omega)
  have l2 := e4 (2 * j + 1) (by omega) (by omega)
  rw [show 1260 * t + (2 * j + 1) + 476 = 1260 * t + 2 * j + 477 by omega] at l2
  exact ⟨l1, l2⟩
/-- at another place of the same region -/
theorem runOk.at {r p : Int} (h : runOk w' a t g r n nt nw dl sg pi an br bs ow) (hp : 0 ≤ p ∧ p < n) (h1 : w' 276 (1260 * t + 2 * g + 436) = p) (hr : w' 330 (10000 * a + p) = r) : topOk w' a t g p n nt nw dl sg pi an br bs ow := ⟨hp, h1, by rw [hr]; exact h⟩
end E58
end
end
-- part 58c
section
noncomputable section
/-! a region is left: by its catch, by its finally, upwards -/
section E58c
variable {w w' : eW} {a t g r r' n nt nw : Int} {dl sg pi en : Int → Int} {an br : Int → Int → Prop} {bs ow : Int → Int}
/-- to a region with as many open finallys, the same ones -/
theorem runOk.to (h : runOk w a t g r n nt nw dl sg pi an br bs ow) (e : ∀ c k, 328 ≤ c → c ≤ 338 → w' c k = w c k) (e1 : ∀ i, 0 ≤ i → i < g → w' 276 (1260 * t + 2 * i + 436) = w 276 (1260 * t + 2 * i + 436) ∧ w' 276 (1260 * t + 2 * i + 439) = w 276 (1260 * t + 2 * i + 439)) (e2 : w' 276 (1260 * t + 428) = w 276 (1260 * t + 428)) (e3 : w' 276 (1260 * t + 429) = bs g + pi r') (e4 : ∀ k, 0 ≤ k → k < 1200 → w' 276 (1260 * t + k + 476) = w 276 (1260 * t + k + 476)) (hp : pi r ≤ 30) (hr : -1 ≤ r' ∧ r' < 3 * nt) (hle : pi r' ≤ pi r) (hq : ∀ q, an r' q → 0 ≤ q → q % 3 = 2 → an r q) : runOk w' a t g r' n nt nw dl sg pi an br bs ow := by
  obtain ⟨h1, h2, h3, h4, h5, h6, h7⟩ := h
  have hb := h3.2.1 g (by omega) (Int.le_refl g)
  refine ⟨h1, by rw [e2]; exact h2, h3.fr e e1, hr, e3, fun q q1 q2 q3 => h6 q (hq q q1 q2 q3) q2 q3, fun j q1 q2 => (h7 j q1 (by omega)).fr e ?_⟩
  have k1 := e4 (2 * j) (by omega) (by omega)
  have k2 := e4 (2 * j + 1) (by omega) (by omega)
  rw [show 1260 * t + (2 * j + 1) + 476 = 1260 * t + 2 * j + 477 by omega] at k2
  exact ⟨k1, k2⟩
def owUp (ow : Int → Int) (m z : Int) (j : Int) : Int := if j = m then z else ow j
theorem owUp_eq (ow : Int → Int) (m z : Int) : owUp ow m z m = z := if_pos rfl
theorem owUp_ne (ow : Int → Int) {m j : Int} (z : Int) (h : j ≠ m) : owUp ow m z j = ow j := if_neg h
/-- into the finally of the try z -/
theorem runOk.fin {z i x y : Int} (hC : cOk w a n nt nw dl sg pi en an br) (h : runOk w a t g r n nt nw dl sg pi an br bs ow) (hz : 0 ≤ z ∧ z < nt) (hi : 0 ≤ i ∧ i ≤ 1) (hr : r = 3 * z + i) (e : ∀ c k, 328 ≤ c → c ≤ 338 → w' c k = w c k) (e1 : ∀ i, 0 ≤ i → i < g → w' 276 (1260 * t + 2 * i + 436) = w 276 (1260 * t + 2 * i + 436) ∧ w' 276 (1260 * t + 2 * i + 439) = w 276 (1260 * t + 2 * i + 439)) (e2 : w' 276 (1260 * t + 428) = w 276 (1260 * t + 428)) (e3 : w' 276 (1260 * t + 429) = bs g + pi r + 1)
    (e4 : ∀ k, 0 ≤ k → k < 2 * (bs g + pi r) → w' 276 (1260 * t + k + 476) = w 276 (1260 * t + k + 476)) (e5 : w' 276 (1260 * t + 2 * (bs g + pi r) + 476) = x) (e6 : w' 276 (1260 * t + 2 * (bs g + pi r) + 477) = y) (hx : x = 3 → 0 ≤ y ∧ y < nw ∧ br (w 331 (900 * a + z)) y ∧ w 334 (900 * a + z) ≤ w 336 (900 * a + y)) : runOk w' a t g (3 * z + 2) n nt nw dl sg pi an br bs (owUp ow (bs g + pi r) z) := by
  obtain ⟨h1, h2, h3, h4, h5, h6, h7⟩ := h
  have hb := h3.2.1 g (by omega) (Int.le_refl g)
  have hty := hC.2.2.1 z hz.1 hz.2
  obtain ⟨t1, t2, -, -, -, t6, t7⟩ := hty
  have hpm := hC.2.2.2.1.2.2.2.2.2
  have hpr := hC.2.2.2.1.2.1
  have hpi : pi (3 * z + 2) = pi r + 1 := by
    subst hr
    obtain rfl | rfl : i = 0 ∨ i = 1 := by omega
    · rw [show 3 * z + 0 = 3 * z by omega]; omega
    · omega
  have han : ∀ q, an (w 331 (900 * a + z)) q → an r q := fun q hq => by rw [hr]; exact t7 i q (by omega) (by omega) hq
  refine ⟨h1, by rw [e2]; exact h2, ⟨h3.1, h3.2.1, h3.2.2.1, fun k q1 q2 => ?_⟩, by omega, by rw [e3]; omega, fun q q1 q2 q3 => ?_, fun j q1 q2 => ?_⟩
  · have := (h3.fr e e1).2.2.2 k q1 q2
    refine ⟨this.1, this.2.1, fun q k1 k2 k3 => ?_, this.2.2.2⟩
    have h9 := this.2.2.1 q k1 k2 k3
    have hin := hC.2.1 (w 276 (1260 * t + 2 * k + 436)) (by rw [← (e1 k q1 q2).1]; exact this.1.1) (by rw [← (e1 k q1 q2).1]; exact this.1.2)
    have hrg := hin.1.2.1
    have k1' := k1
    rw [e 330 _ (by decide) (by decide), (e1 k q1 q2).1] at k1'
    have h10 := hpm _ q k1' hrg.1 hrg.2
    have h11 := this.2.1
    rw [e 330 _ (by decide) (by decide), (e1 k q1 q2).1] at h11
    have h12 := h3.2.2.1 (k + 1) g (by omega) (by omega) (by omega)
    have h13 := (hpr r h4.1 h4.2).1
    rw [owUp_ne _ _ (by omega)]
    exact h9
  · rcases t6 2 q (by omega) (by omega) q1 with rfl | hq
    · rw [show bs g + pi (3 * z + 2) - 1 = bs g + pi r by omega, owUp_eq]; omega
    · have h10 := hpm r q (han q hq) h4.1 h4.2
      rw [owUp_ne _ _ (by omega)]
      exact h6 q (han q hq) q2 q3
  · by_cases ej : j = bs g + pi r
    · subst ej
      unfold pendOk
      rw [e5, e6, owUp_eq]
      simp only [e 331 _ (by decide) (by decide), e 334 _ (by decide) (by decide), e 336 _ (by decide) (by decide)]
      exact ⟨hz, hx⟩
    · have h8 := h7 j q1 (by omega)
      have k1 := e4 (2 * j) (by omega) (by omega)
      have k2 := e4 (2 * j + 1) (by omega) (by omega)
      rw [show 1260 * t + (2 * j + 1) + 476 = 1260 * t + 2 * j + 477 by omega] at k2
      have h9 := h8.fr e ⟨k1, k2⟩
      unfold pendOk at h9 ⊢
      rw [owUp_ne _ _ ej]
      exact h9
end E58c
end
end
-- part 58d
section
noncomputable section
/-! arms' states and ways over a chain of steps -/
theorem sRel.refl {w : eW} : sRel w w := fun _ _ _ => Or.inl ⟨rfl, rfl⟩
theorem sRel.trans {w w1 w2 : eW} (h : sRel w w1) (h' : sRel w1 w2) : sRel w w2 := fun b g1 g2 => by
  have q1 := h b g1 g2
  have q2 := h' b g1 g2
  omega
theorem sRel.up {w w0 w1 : eW} {c k z : Int} (h : sRel w w0) (hw : e_up w0 c k z = w1) (hn : c = 276 → ∀ b, 0 ≤ b → b ≤ 3 → k ≠ 36 * b + 16 ∧ k ≠ 36 * b + 22) : sRel w w1 := fun b g1 g2 => by
  have e1 : w1 276 (36 * b + 16) = w0 276 (36 * b + 16) := by
    rw [← hw]
    refine e_up_ne _ _ ?_
    by_cases e : c = 276
    · exact Or.inr (fun q => (hn e b g1 g2).1 q.symm)
    · exact Or.inl (fun q => e q.symm)
  have e2 : w1 276 (36 * b + 22) = w0 276 (36 * b + 22) := by
    rw [← hw]
    refine e_up_ne _ _ ?_
    by_cases e : c = 276
    · exact Or.inr (fun q => (hn e b g1 g2).2 q.symm)
    · exact Or.inl (fun q => e q.symm)
  rw [e1, e2]
  exact h b g1 g2
theorem sRel.fr {S : Int → Int → Prop} {w w0 w1 : eW} (h : sRel w w0) (hf : e_fr S w0 w1) (hn : ∀ b, 0 ≤ b → b ≤ 3 → ¬ S 276 (36 * b + 16) ∧ ¬ S 276 (36 * b + 22)) : sRel w w1 := fun b g1 g2 => by
  rw [hf _ _ (hn b g1 g2).1, hf _ _ (hn b g1 g2).2]
  exact h b g1 g2
end
end
-- part 59
section
noncomputable section
theorem no_59_0 {k : Int} : ¬ mE 275 k := by unfold mE; omega
theorem no_59_1 : ¬ mLk 276 5 := by unfold mLk; omega
theorem no_59_2 {t : Int} (ht : 0 ≤ t ∧ t ≤ 15) : ¬ mLk 276 (1260 * t + 416) := by unfold mLk; omega
theorem no_59_3 {t : Int} (ht : 0 ≤ t ∧ t ≤ 15) : ¬ mE 276 (1260 * t + 416) := by unfold mE; omega
theorem no_59_4 {k : Int} : ¬ mLk 275 k := by unfold mLk; omega
theorem no_59_5 {t : Int} (ht : 0 ≤ t ∧ t ≤ 15) : ¬ mBr 276 (1260 * t + 416) := by unfold mBr; omega
theorem no_59_6 {k : Int} : ¬ mBr 275 k := by unfold mBr; omega
theorem su_59_7 {t : Int} {c k : Int} (q : mE c k) : mLv t c k := by
  unfold mE at q
  rcases q with ⟨q, (q | q)⟩
  · exact Or.inr ⟨(by omega), Or.inl (by omega)⟩
  · exact Or.inr ⟨(by omega), Or.inr (Or.inl (by omega))⟩
theorem su_59_8 {t : Int} {c k : Int} (q : mLk c k) : mLv t c k := by
  unfold mLk at q
  rcases q with ⟨q, ⟨q, q⟩⟩
  · exact Or.inr ⟨(by omega), Or.inr (Or.inr (Or.inl ⟨(by omega), (by omega)⟩))⟩
theorem su_59_9 {t : Int} {c k : Int} (q : mBr c k) : mLv t c k := by
  unfold mBr at q
  rcases q with ⟨q, (q | q | ⟨q, (⟨q, (q | q)⟩)⟩ | ⟨q, ⟨q, q⟩⟩ | ⟨q, ⟨q, q⟩⟩)⟩
  · exact Or.inr ⟨(by omega), Or.inl (by omega)⟩
  · exact Or.inr ⟨(by omega), Or.inr (Or.inl (by omega))⟩
  · exact Or.inr ⟨(by omega), Or.inr (Or.inr (Or.inr (Or.inl ⟨(by omega), ⟨(by omega), Or.inr (Or.inr (Or.inl (by omega)))⟩⟩)))⟩
  · unfold mLv; omega
  · exact Or.inr ⟨(by omega), Or.inr (Or.inr (Or.inr (Or.inr (Or.inl ⟨(by omega), ⟨(by omega), (by omega)⟩⟩))))⟩
  · exact Or.inr ⟨(by omega), Or.inr (Or.inr (Or.inr (Or.inl ⟨(by omega), ⟨(by omega), Or.inl (by omega)⟩⟩)))⟩
set_option maxHeartbeats 4000000 in
theorem c_372 {d : Nat} (hd : 25 ≤ d) {w : eW} (hT : e_Has mTy w) {t a g : Int} (ht : 0 ≤ t ∧ t ≤ 15) (ha : 0 ≤ a ∧ a ≤ 3) (h96 : w 275 96 = t) (h97 : w 275 97 = 1260 * t + 416) (h98 : w 275 98 = a) {n nt nw : Int} {dl sg pi en : Int → Int} {an br : Int → Int → Prop} {bs ow : Int → Int} (hC : cOk w a n nt nw dl sg pi en an br) (hR : runOk w a t g (-1) n nt nw dl sg pi an br bs ow) (hE : w 276 5 ≤ 2147483600) {x y : Int} (hy : -2147483648 ≤ y ∧ y ≤ 2147483647) : e_Ok 20 elay ecode eI d 372 (0, [(0, (1, 275)), (1, (0, x)), (2, (0, y))], [], w) (fun r w' => ∃ z : Int, r = [(0, z)] ∧ (e_fr (mLv t) w w' ∧ sRel w w') ∧ e_Has mTy w' ∧ (w 276 5 ≤ w' 276 5 ∧ w' 276 5 ≤ w 276 5 + 2) ∧ w' 275 102 = w 275 102 ∧ ((1 ≤ g ∧ x = 1 ∧ z = w 330 (10000 * a + w 276 (1260 * t + 2 * g + 434)) ∧ runOk w' a t (g - 1) z n nt nw dl sg pi an br bs ow ∧ w' 275 100 = w 275 100 ∧ w' 276 5 = w 276 5 ∧ w' 276 (1260 * t + 416) = w 276 (1260 * t + 416)) ∨ (1 ≤ g ∧ x ≠ 1 ∧ z = -2 ∧ ∃ p, topOk w' a t (g - 1) p n nt nw dl sg pi an br bs ow ∧ dl p = 0 ∧ sg p = 0 ∧ w' 275 100 = w 275 100 ∧ w' 276 5 = w 276 5 ∧ w' 276 (1260 * t + 416) = w 276 (1260 * t + 416)) ∨ (g = 0 ∧ z = -2 ∧ w' 275 100 = 1 ∧ (w' 276 (1260 * t + 416) = 6 ∨ w' 276 (1260 * t + 416) = 7)))) := by
  obtain ⟨d, rfl⟩ : ∃ e, d = e + 1 := ⟨d - 1, by omega⟩
  obtain ⟨hg, hF, hlow, -, hPn, -, -⟩ := id hR
  refine e_Ok.ps1 (x := (1, 275)) (q := 1) 1 rfl ?_
  refine e_Ok.getr (z := 276) rfl (el_o rfl) rfl (ef_o rfl) (e_Has.eq hT (mt_o rfl)) ⟨by decide, by decide⟩ ?_
  refine e_Ok.ps1 (x := (1, 275)) (q := 5) 1 rfl ?_
  refine e_Ok.callV rfl (e_dq hd rfl) rfl rfl rfl rfl (c_362 hT (by omega) h97 (f := g + 1) (z := 1260 * t + 2 * g + 436) hF (by omega) (by omega)) (fun r1 w2 h3 => ?_)
  obtain ⟨rfl, rfl⟩ := h3
  refine e_Ok.nrm (q := 8) (st' := [(0, 1260 * t + 2 * g + 436), (1, 276)]) rfl rfl ?_
  refine e_Ok.ps1 (x := (0, 1)) (q := 9) 1 rfl ?_
  refine e_Ok.add (z := 1260 * t + 2 * g + 437) rfl (e_adl (by decide)) (by omega) ?_
  have h4 := (e_Has.get hT (c := 276) (k := 1260 * t + 2 * g + 437) (lo := 0) (hi := 1) (nR_FRWg t (g) (by omega) (by omega) (by omega)) (by decide))
  refine e_Ok.ald (z := w 276 (1260 * t + 2 * g + 437)) rfl (el_o rfl) rfl (by omega) rfl (e_bq h4 (by decide) (by decide)) ?_
  refine e_Ok.ps1 (x := (0, 1)) (q := 12) 1 rfl ?_
  refine e_Ok.if2 rfl (fun h5 => ?_) (fun h5 => ?_)
  · replace h5 : (w 276 (1260 * t + 2 * g + 437) : Int) ≠ 1 := h5
    refine e_Ok.run (t' := (22, [(3, (0, 0)), (0, (1, 275)), (1, (0, x)), (2, (0, y))], [(1, 275)], w)) 3 rfl ?_
    refine e_Ok.getr (z := 276) rfl (el_o rfl) rfl (ef_o rfl) (e_Has.eq hT (mt_o rfl)) ⟨by decide, by decide⟩ ?_
    refine e_Ok.ps1 (x := (1, 275)) (q := 26) 1 rfl ?_
    refine e_Ok.getf (z := 1260 * t + 416) rfl (el_o rfl) rfl (ef_o rfl) h97 (by omega) ?_
    refine e_Ok.ps1 (x := (0, 12)) (q := 31) 1 rfl ?_
    refine e_Ok.add (z := 1260 * t + 428) rfl (e_adl (by decide)) (by omega) ?_
    refine e_Ok.ps2 (x := (0, 1260 * t + 428)) (y := (1, 276)) (q := 33) 1 rfl ?_
    refine e_Ok.ald (z := g + 1) rfl (el_o rfl) rfl (by omega) hF (by omega) ?_
    refine e_Ok.ps1 (x := (0, 1)) (q := 35) 1 rfl ?_
    refine e_Ok.sub' (z := g) rfl (by omega) (by omega) ?_
    refine e_Ok.ast rfl (el_o rfl) rfl rfl (by omega) ?_
    generalize hw6 : e_up w 276 (1260 * t + 428) g = w6
    have hT8 : e_Has mTy w6 := e_Has.upr hT hw6 (nR_FRAMES (t := t) (by omega)) (by omega)
    refine e_Ok.ps1 (x := (1, 275)) (q := 38) 1 rfl ?_
    refine e_Ok.getr (z := 276) rfl (el_o rfl) rfl (ef_o rfl) (e_uq hw6 (Or.inl (by decide)) (e_Has.eq hT (mt_o rfl))) ⟨by decide, by decide⟩ ?_
    refine e_Ok.ps1 (x := (1, 275)) (q := 42) 1 rfl ?_
    refine e_Ok.getf (z := 1260 * t + 416) rfl (el_o rfl) rfl (ef_o rfl) (e_uq hw6 (Or.inl (by decide)) h97) (by omega) ?_
    refine e_Ok.ps1 (x := (0, 14)) (q := 47) 1 rfl ?_
    refine e_Ok.add (z := 1260 * t + 430) rfl (e_adl (by decide)) (by omega) ?_
    refine e_Ok.ps2 (x := (0, 1260 * t + 430)) (y := (1, 276)) (q := 49) 1 rfl ?_
    have h9 := (e_Has.get hT (c := 276) (k := 1260 * t + 430) (lo := (-2147483648)) (hi := 2147483647) (nR_IN_WATCH (t := t) (by omega)) (by decide))
    refine e_Ok.ald (z := w 276 (1260 * t + 430)) rfl (el_o rfl) rfl (by omega) (e_uq hw6 (Or.inr (e_neo (by decide))) rfl) (e_bq h9 (by decide) (by decide)) ?_
    refine e_Ok.ps1 (x := (0, 0)) (q := 51) 1 rfl ?_
    refine e_Ok.if1 rfl (fun h10 => ?_) (fun h10 => ?_)
    · replace h10 : (0 : Int) = 0 := h10
      refine e_Ok.ps1 (x := (0, 0)) (q := 59) 1 rfl ?_
      refine e_Ok.sub' (z := w 276 (1260 * t + 430)) rfl (by omega) (by omega) ?_
      refine e_Ok.ast rfl (el_o rfl) rfl rfl (by omega) ?_
      generalize hw11 : e_up w6 276 (1260 * t + 430) (w 276 (1260 * t + 430)) = w11
      have f12 : e_fr (mLv t) w w11 := e_fr.up (show e_fr (mLv t) w w6 from e_fr.up (e_fr.refl w) hw6 (by first | exact Or.inr ⟨rfl, Or.inr (Or.inr (Or.inr (Or.inr (Or.inr (Or.inr (Or.inr (Or.inr (Or.inl ⟨(by omega), (by omega)⟩))))))))⟩ | (unfold mLv; omega))) hw11 (by first | exact Or.inr ⟨rfl, Or.inr (Or.inr (Or.inr (Or.inr (Or.inr (Or.inr (Or.inr (Or.inr (Or.inl ⟨(by omega), (by omega)⟩))))))))⟩ | (unfold mLv; omega))
      have hT13 : e_Has mTy w11 := e_Has.upr hT8 hw11 (nR_IN_WATCH (t := t) (by omega)) (by omega)
      refine e_Ok.ps1 (x := (1, 275)) (q := 62) 1 rfl ?_
      refine e_Ok.getr (z := 276) rfl (el_o rfl) rfl (ef_o rfl) (e_uq hw11 (Or.inl (by decide)) (e_uq hw6 (Or.inl (by decide)) (e_Has.eq hT (mt_o rfl)))) ⟨by decide, by decide⟩ ?_
      refine e_Ok.ps1 (x := (1, 275)) (q := 66) 1 rfl ?_
      refine e_Ok.getf (z := 1260 * t + 416) rfl (el_o rfl) rfl (ef_o rfl) (e_uq hw11 (Or.inl (by decide)) (e_uq hw6 (Or.inl (by decide)) h97)) (by omega) ?_
      refine e_Ok.ps1 (x := (0, 12)) (q := 71) 1 rfl ?_
      refine e_Ok.add (z := 1260 * t + 428) rfl (e_adl (by decide)) (by omega) ?_
      refine e_Ok.ald (z := g) rfl (el_o rfl) rfl (by omega) (e_uq hw11 (Or.inr (e_neo (by decide))) (e_ue hw6)) (by omega) ?_
      refine e_Ok.if1 rfl (fun h14 => ?_) (fun h14 => ?_)
      · replace h14 : (g : Int) ≤ 0 := h14
        refine e_Ok.ps2 (x := (0, 1)) (y := (1, 275)) (q := 133) 2 rfl ?_
        refine e_Ok.putb rfl (el_o rfl) rfl (ef_o rfl) (by omega) ?_
        generalize hw15 : e_up w11 275 100 1 = w15
        have f16 : e_fr (mLv t) w w15 := e_fr.up f12 hw15 (by first | exact Or.inl ⟨rfl, Or.inl rfl⟩ | (unfold mLv; omega))
        have hT17 : e_Has mTy w15 := e_Has.ups hT13 hw15 (mt_o rfl)
        refine e_Ok.ps2 (x := (0, 1)) (y := (0, x)) (q := 138) 2 rfl ?_
        refine e_Ok.if2 rfl (fun h18 => ?_) (fun h18 => ?_)
        · replace h18 : (x : Int) ≠ 1 := h18
          refine e_Ok.ps1 (x := (1, 275)) (q := 212) 1 rfl ?_
          refine e_Ok.getr (z := 276) rfl (el_o rfl) rfl (ef_o rfl) (e_uq hw15 (Or.inr (by decide)) (e_uq hw11 (Or.inl (by decide)) (e_uq hw6 (Or.inl (by decide)) (e_Has.eq hT (mt_o rfl))))) ⟨by decide, by decide⟩ ?_
          refine e_Ok.ps1 (x := (1, 275)) (q := 216) 1 rfl ?_
          refine e_Ok.getf (z := 1260 * t + 416) rfl (el_o rfl) rfl (ef_o rfl) (e_uq hw15 (Or.inr (by decide)) (e_uq hw11 (Or.inl (by decide)) (e_uq hw6 (Or.inl (by decide)) h97))) (by omega) ?_
          refine e_Ok.ps1 (x := (0, 6)) (q := 221) 1 rfl ?_
          refine e_Ok.ast rfl (el_o rfl) rfl rfl (by omega) ?_
          generalize hw19 : e_up w15 276 (1260 * t + 416) 6 = w19
          have hT21 : e_Has mTy w19 := e_Has.upr hT17 hw19 (nR_TSTATE (t := t) (by omega)) (by omega)
          refine e_Ok.ps3 (x := (1, 275)) (y := (0, 4)) (z := (1, 275)) (q := 225) 3 rfl ?_
          refine e_Ok.getf (z := t) rfl (el_o rfl) rfl (ef_o rfl) (e_uq hw19 (Or.inl (by decide)) (e_uq hw15 (Or.inr (by decide)) (e_uq hw11 (Or.inl (by decide)) (e_uq hw6 (Or.inl (by decide)) h96)))) (by omega) ?_
          refine e_Ok.ps1 (x := (0, 0)) (q := 229) 1 rfl ?_
          have e25 : w19 276 5 = w 276 5 := (e_uq hw19 (Or.inr (by omega)) (e_uq hw15 (Or.inl (by decide)) (e_uq hw11 (Or.inr (by omega)) (e_uq hw6 (Or.inr (by omega)) rfl))))
          refine e_Ok.callV rfl (e_dq hd rfl) rfl rfl rfl rfl (c_319 hT21 (by omega) (by omega) (by omega) (by omega)) (fun r22 w23 h24 => ?_)
          obtain ⟨rfl, q26, q26T, q26n⟩ := h24
          refine e_Ok.nrm (q := 232) (st' := []) rfl rfl ?_
          refine e_Ok.ps2 (x := (1, 275)) (y := (1, 275)) (q := 234) 2 rfl ?_
          refine e_Ok.getf (z := t) rfl (el_o rfl) rfl (ef_o rfl) ((q26 275 96 no_59_0).trans (e_uq hw19 (Or.inl (by decide)) (e_uq hw15 (Or.inr (by decide)) (e_uq hw11 (Or.inl (by decide)) (e_uq hw6 (Or.inl (by decide)) h96))))) (by omega) ?_
          refine e_Ok.callV rfl (e_dq hd rfl) rfl rfl rfl rfl (c_361 (e_dq hd rfl) q26T) (fun r28 w29 h30 => ?_)
          obtain ⟨rfl, q31, q31T⟩ := h30
          refine e_Ok.nrm (q := 240) (st' := []) rfl rfl ?_
          refine e_Ok.ps1 (x := (0, (-2))) (q := 242) 1 rfl ?_
          refine e_Ok.rets rfl rfl ?_
          have e33 : w29 276 5 = w23 276 5 := ((q31 276 5 no_59_1).trans rfl)
          have est : w29 276 (1260 * t + 416) = 6 := ((q31 276 (1260 * t + 416) (by first | exact no_59_2 (by omega) | (unfold mLk; omega))).trans ((q26 276 (1260 * t + 416) (by first | exact no_59_3 (by omega) | (unfold mE; omega))).trans (e_ue hw19)))
          exact ⟨_, rfl, ⟨(show e_fr (mLv t) w w29 from e_fr.trans (show e_fr (mLv t) w w23 from e_fr.trans (show e_fr (mLv t) w w19 from e_fr.up f16 hw19 (by first | exact Or.inr ⟨rfl, Or.inr (Or.inr (Or.inr (Or.inr (Or.inr (Or.inl (by omega))))))⟩ | (unfold mLv; omega))) (e_fr.mono q26 (fun c k q => by first | exact su_59_7 q | (unfold mE at q; unfold mLv; omega)))) (e_fr.mono q31 (fun c k q => by first | exact su_59_8 q | (unfold mLk at q; unfold mLv; omega)))), (sRel.fr (sRel.fr (sRel.up (sRel.up (sRel.up (sRel.up sRel.refl hw6 (fun q b g1 g2 => by omega)) hw11 (fun q b g1 g2 => by omega)) hw15 (fun q b g1 g2 => by omega)) hw19 (fun q b g1 g2 => by omega)) q26 (fun b g1 g2 => by unfold mE; omega)) q31 (fun b g1 g2 => by unfold mLk; omega))⟩, q31T, by omega, ((q31 275 102 no_59_4).trans ((q26 275 102 no_59_0).trans (e_uq hw19 (Or.inl (by omega)) (e_uq hw15 (Or.inr (by omega)) (e_uq hw11 (Or.inl (by omega)) (e_uq hw6 (Or.inl (by omega)) rfl)))))), Or.inr (Or.inr ⟨by omega, rfl, ((q31 275 100 no_59_4).trans ((q26 275 100 no_59_0).trans (e_uq hw19 (Or.inl (by omega)) (e_ue hw15)))), by omega⟩)⟩
        · replace h18 : (x : Int) = 1 := Classical.not_not.mp (show ¬ ((x : Int) ≠ 1) from h18)
          refine e_Ok.ps1 (x := (1, 275)) (q := 142) 1 rfl ?_
          refine e_Ok.getr (z := 276) rfl (el_o rfl) rfl (ef_o rfl) (e_uq hw15 (Or.inr (by decide)) (e_uq hw11 (Or.inl (by decide)) (e_uq hw6 (Or.inl (by decide)) (e_Has.eq hT (mt_o rfl))))) ⟨by decide, by decide⟩ ?_
          refine e_Ok.ps1 (x := (1, 275)) (q := 146) 1 rfl ?_
          refine e_Ok.getf (z := 1260 * t + 416) rfl (el_o rfl) rfl (ef_o rfl) (e_uq hw15 (Or.inr (by decide)) (e_uq hw11 (Or.inl (by decide)) (e_uq hw6 (Or.inl (by decide)) h97))) (by omega) ?_
          refine e_Ok.ps1 (x := (0, 7)) (q := 151) 1 rfl ?_
          refine e_Ok.ast rfl (el_o rfl) rfl rfl (by omega) ?_
          generalize hw34 : e_up w15 276 (1260 * t + 416) 7 = w34
          have hT36 : e_Has mTy w34 := e_Has.upr hT17 hw34 (nR_TSTATE (t := t) (by omega)) (by omega)
          refine e_Ok.ps1 (x := (1, 275)) (q := 153) 1 rfl ?_
          refine e_Ok.getr (z := 276) rfl (el_o rfl) rfl (ef_o rfl) (e_uq hw34 (Or.inl (by decide)) (e_uq hw15 (Or.inr (by decide)) (e_uq hw11 (Or.inl (by decide)) (e_uq hw6 (Or.inl (by decide)) (e_Has.eq hT (mt_o rfl)))))) ⟨by decide, by decide⟩ ?_
          refine e_Ok.ps1 (x := (1, 275)) (q := 157) 1 rfl ?_
          refine e_Ok.getf (z := 1260 * t + 416) rfl (el_o rfl) rfl (ef_o rfl) (e_uq hw34 (Or.inl (by decide)) (e_uq hw15 (Or.inr (by decide)) (e_uq hw11 (Or.inl (by decide)) (e_uq hw6 (Or.inl (by decide)) h97)))) (by omega) ?_
          refine e_Ok.ps1 (x := (0, 2)) (q := 161) 1 rfl ?_
          refine e_Ok.add (z := 1260 * t + 418) rfl (e_adl (by decide)) (by omega) ?_
          refine e_Ok.ps1 (x := (0, y)) (q := 163) 1 rfl ?_
          refine e_Ok.ast rfl (el_o rfl) rfl rfl (by omega) ?_
          generalize hw37 : e_up w34 276 (1260 * t + 418) y = w37
          have hT39 : e_Has mTy w37 := e_Has.upr hT36 hw37 (nR_FAULT (t := t) (by omega)) (by omega)
          refine e_Ok.ps1 (x := (1, 275)) (q := 165) 1 rfl ?_
          refine e_Ok.getr (z := 276) rfl (el_o rfl) rfl (ef_o rfl) (e_uq hw37 (Or.inl (by decide)) (e_uq hw34 (Or.inl (by decide)) (e_uq hw15 (Or.inr (by decide)) (e_uq hw11 (Or.inl (by decide)) (e_uq hw6 (Or.inl (by decide)) (e_Has.eq hT (mt_o rfl))))))) ⟨by decide, by decide⟩ ?_
          refine e_Ok.ps1 (x := (1, 275)) (q := 169) 1 rfl ?_
          refine e_Ok.getf (z := a) rfl (el_o rfl) rfl (ef_o rfl) (e_uq hw37 (Or.inl (by decide)) (e_uq hw34 (Or.inl (by decide)) (e_uq hw15 (Or.inr (by decide)) (e_uq hw11 (Or.inl (by decide)) (e_uq hw6 (Or.inl (by decide)) h98))))) (by omega) ?_
          refine e_Ok.callS rfl (e_dq hd rfl) rfl rfl (c_268 (by omega)) (fun r40 w41 h42 => ?_)
          obtain ⟨rfl, rfl⟩ := h42
          refine e_Ok.nrm (q := 175) (st' := [(0, 36 * a + 16), (1, 276)]) rfl rfl ?_
          refine e_Ok.ps1 (x := (0, 2)) (q := 176) 1 rfl ?_
          refine e_Ok.add (z := 36 * a + 18) rfl (e_adl (by decide)) (by omega) ?_
          refine e_Ok.ps1 (x := (1, 275)) (q := 178) 1 rfl ?_
          refine e_Ok.getf (z := t) rfl (el_o rfl) rfl (ef_o rfl) (e_uq hw37 (Or.inl (by decide)) (e_uq hw34 (Or.inl (by decide)) (e_uq hw15 (Or.inr (by decide)) (e_uq hw11 (Or.inl (by decide)) (e_uq hw6 (Or.inl (by decide)) h96))))) (by omega) ?_
          refine e_Ok.ast rfl (el_o rfl) rfl rfl (by omega) ?_
          generalize hw43 : e_up w37 276 (36 * a + 18) t = w43
          have hT45 : e_Has mTy w43 := e_Has.upr hT39 hw43 (nR_STUCK (a := a) (by omega)) (by omega)
          refine e_Ok.ps3 (x := (1, 275)) (y := (0, 5)) (z := (1, 275)) (q := 185) 3 rfl ?_
          refine e_Ok.getf (z := t) rfl (el_o rfl) rfl (ef_o rfl) (e_uq hw43 (Or.inl (by decide)) (e_uq hw37 (Or.inl (by decide)) (e_uq hw34 (Or.inl (by decide)) (e_uq hw15 (Or.inr (by decide)) (e_uq hw11 (Or.inl (by decide)) (e_uq hw6 (Or.inl (by decide)) h96)))))) (by omega) ?_
          refine e_Ok.ps1 (x := (0, y)) (q := 189) 1 rfl ?_
          have e49 : w43 276 5 = w 276 5 := (e_uq hw43 (Or.inr (by omega)) (e_uq hw37 (Or.inr (by omega)) (e_uq hw34 (Or.inr (by omega)) (e_uq hw15 (Or.inl (by decide)) (e_uq hw11 (Or.inr (by omega)) (e_uq hw6 (Or.inr (by omega)) rfl))))))
          refine e_Ok.callV rfl (e_dq hd rfl) rfl rfl rfl rfl (c_319 hT45 (by omega) (by omega) (by omega) (by omega)) (fun r46 w47 h48 => ?_)
          obtain ⟨rfl, q50, q50T, q50n⟩ := h48
          refine e_Ok.nrm (q := 192) (st' := []) rfl rfl ?_
          refine e_Ok.ps2 (x := (1, 275)) (y := (1, 275)) (q := 194) 2 rfl ?_
          refine e_Ok.getf (z := t) rfl (el_o rfl) rfl (ef_o rfl) ((q50 275 96 no_59_0).trans (e_uq hw43 (Or.inl (by decide)) (e_uq hw37 (Or.inl (by decide)) (e_uq hw34 (Or.inl (by decide)) (e_uq hw15 (Or.inr (by decide)) (e_uq hw11 (Or.inl (by decide)) (e_uq hw6 (Or.inl (by decide)) h96))))))) (by omega) ?_
          refine e_Ok.callV rfl (e_dq hd rfl) rfl rfl rfl rfl (c_361 (e_dq hd rfl) q50T) (fun r52 w53 h54 => ?_)
          obtain ⟨rfl, q55, q55T⟩ := h54
          refine e_Ok.nrm (q := 200) (st' := []) rfl rfl ?_
          refine e_Ok.ps2 (x := (1, 275)) (y := (1, 275)) (q := 202) 2 rfl ?_
          refine e_Ok.getf (z := a) rfl (el_o rfl) rfl (ef_o rfl) ((q55 275 98 no_59_4).trans ((q50 275 98 no_59_0).trans (e_uq hw43 (Or.inl (by decide)) (e_uq hw37 (Or.inl (by decide)) (e_uq hw34 (Or.inl (by decide)) (e_uq hw15 (Or.inr (by decide)) (e_uq hw11 (Or.inl (by decide)) (e_uq hw6 (Or.inl (by decide)) h98)))))))) (by omega) ?_
          have e60 : w53 276 5 = w47 276 5 := ((q55 276 5 no_59_1).trans rfl)
          refine e_Ok.callV rfl (e_dq hd rfl) rfl rfl rfl rfl (c_384 (e_dq hd rfl) q55T (by omega) (by omega)) (fun r57 w58 h59 => ?_)
          obtain ⟨rfl, q61, q61T, q61n, q61s⟩ := h59
          refine e_Ok.nrm (q := 208) (st' := []) rfl rfl ?_
          refine e_Ok.ps1 (x := (0, (-2))) (q := 242) 2 rfl ?_
          refine e_Ok.rets rfl rfl ?_
          have e63 : w58 276 5 = w58 276 5 := rfl
          have est : w58 276 (1260 * t + 416) = 7 := ((q61 276 (1260 * t + 416) (by first | exact no_59_5 (by omega) | (unfold mBr; omega))).trans ((q55 276 (1260 * t + 416) (by first | exact no_59_2 (by omega) | (unfold mLk; omega))).trans ((q50 276 (1260 * t + 416) (by first | exact no_59_3 (by omega) | (unfold mE; omega))).trans (e_uq hw43 (Or.inr (by omega)) (e_uq hw37 (Or.inr (e_neo (by decide))) (e_ue hw34))))))
          exact ⟨_, rfl, ⟨(show e_fr (mLv t) w w58 from e_fr.trans (show e_fr (mLv t) w w53 from e_fr.trans (show e_fr (mLv t) w w47 from e_fr.trans (show e_fr (mLv t) w w43 from e_fr.up (show e_fr (mLv t) w w37 from e_fr.up (show e_fr (mLv t) w w34 from e_fr.up f16 hw34 (by first | exact Or.inr ⟨rfl, Or.inr (Or.inr (Or.inr (Or.inr (Or.inr (Or.inl (by omega))))))⟩ | (unfold mLv; omega))) hw37 (by first | exact Or.inr ⟨rfl, Or.inr (Or.inr (Or.inr (Or.inr (Or.inr (Or.inr (Or.inl (by omega)))))))⟩ | (unfold mLv; omega))) hw43 (by first | exact Or.inr ⟨rfl, Or.inr (Or.inr (Or.inr (Or.inl ⟨(by omega), ⟨(by omega), Or.inr (Or.inl (by omega))⟩⟩)))⟩ | (unfold mLv; omega))) (e_fr.mono q50 (fun c k q => by first | exact su_59_7 q | (unfold mE at q; unfold mLv; omega)))) (e_fr.mono q55 (fun c k q => by first | exact su_59_8 q | (unfold mLk at q; unfold mLv; omega)))) (e_fr.mono q61 (fun c k q => by first | exact su_59_9 q | (unfold mBr at q; unfold mLv; omega)))), (sRel.trans (sRel.fr (sRel.fr (sRel.up (sRel.up (sRel.up (sRel.up (sRel.up (sRel.up sRel.refl hw6 (fun q b g1 g2 => by omega)) hw11 (fun q b g1 g2 => by omega)) hw15 (fun q b g1 g2 => by omega)) hw34 (fun q b g1 g2 => by omega)) hw37 (fun q b g1 g2 => by omega)) hw43 (fun q b g1 g2 => by omega)) q50 (fun b g1 g2 => by unfold mE; omega)) q55 (fun b g1 g2 => by unfold mLk; omega)) q61s)⟩, q61T, by omega, ((q61 275 102 no_59_6).trans ((q55 275 102 no_59_4).trans ((q50 275 102 no_59_0).trans (e_uq hw43 (Or.inl (by omega)) (e_uq hw37 (Or.inl (by omega)) (e_uq hw34 (Or.inl (by omega)) (e_uq hw15 (Or.inr (by omega)) (e_uq hw11 (Or.inl (by omega)) (e_uq hw6 (Or.inl (by omega)) rfl))))))))), Or.inr (Or.inr ⟨by omega, rfl, ((q61 275 100 no_59_6).trans ((q55 275 100 no_59_4).trans ((q50 275 100 no_59_0).trans (e_uq hw43 (Or.inl (by omega)) (e_uq hw37 (Or.inl (by omega)) (e_uq hw34 (Or.inl (by omega)) (e_ue hw15))))))), by omega⟩)⟩
      · replace h14 : (g : Int) > 0 := Int.not_le.mp (show ¬ ((g : Int) ≤ 0) from h14)
        refine e_Ok.ps2 (x := (0, 1)) (y := (0, x)) (q := 78) 2 rfl ?_
        refine e_Ok.if2 rfl (fun h64 => ?_) (fun h64 => ?_)
        · replace h64 : (x : Int) ≠ 1 := h64
          have hlt := hlow.top (by omega)
          have hn := hC.1
          have hlt2 := hlt.2.2.2.1 (by omega)
          unfold iFT at hlt2
          refine e_Ok.ps2 (x := (1, 275)) (y := (1, 275)) (q := 107) 2 rfl ?_
          refine e_Ok.getr (z := 276) rfl (el_o rfl) rfl (ef_o rfl) (e_uq hw11 (Or.inl (by decide)) (e_uq hw6 (Or.inl (by decide)) (e_Has.eq hT (mt_o rfl)))) ⟨by decide, by decide⟩ ?_
          refine e_Ok.ps1 (x := (1, 275)) (q := 111) 1 rfl ?_
          refine e_Ok.callV rfl (e_dq hd rfl) rfl rfl rfl rfl (c_362 hT13 (by omega) (e_uq hw11 (Or.inl (by first | decide | omega)) (e_uq hw6 (Or.inl (by first | decide | omega)) h97)) (f := g) (z := 1260 * t + 2 * g + 434) (e_uq hw11 (Or.inr (by omega)) (e_ue hw6)) (by omega) (by omega)) (fun r65 w66 h67 => ?_)
          obtain ⟨rfl, rfl⟩ := h67
          refine e_Ok.nrm (q := 114) (st' := [(0, 1260 * t + 2 * g + 434), (1, 276), (1, 275)]) rfl rfl ?_
          have h68 := (e_Has.get hT (c := 276) (k := 1260 * t + 2 * g + 434) (lo := 0) (hi := 9999) (nR_FRg t (g - 1) (by omega) (by omega) (by omega)) (by decide))
          refine e_Ok.ald (z := w 276 (1260 * t + 2 * g + 434)) rfl (el_o rfl) rfl (by omega) (e_uq hw11 (Or.inr (by omega)) (e_uq hw6 (Or.inr (by omega)) rfl)) (e_bq h68 (by decide) (by decide)) ?_
          refine e_Ok.ps1 (x := (0, 0)) (q := 116) 1 rfl ?_
          refine e_Ok.if1 rfl (fun h69 => ?_) (fun h69 => ?_)
          · replace h69 : (0 : Int) = 0 := h69
            refine e_Ok.ps1 (x := (0, 1)) (q := 124) 1 rfl ?_
            refine e_Ok.add (z := w 276 (1260 * t + 2 * g + 434) + 1) rfl rfl (by omega) ?_
            refine e_Ok.callV rfl (e_dq hd rfl) rfl rfl rfl rfl (c_365 (e_dq hd rfl) hT13 (by omega) (e_uq hw11 (Or.inl (by first | decide | omega)) (e_uq hw6 (Or.inl (by first | decide | omega)) h97)) (f := g) (z := 1260 * t + 2 * g + 434) (e_uq hw11 (Or.inr (by omega)) (e_ue hw6)) (by omega) (by omega)) (fun r70 w71 h72 => ?_)
            obtain ⟨rfl, hw71⟩ := h72
            have hT74 : e_Has mTy w71 := e_Has.upr hT13 hw71 (nR_FRg t (g - 1) (by omega) (by omega) (by omega)) (by omega)
            refine e_Ok.nrm (q := 128) (st' := []) rfl rfl ?_
            refine e_Ok.ps1 (x := (0, (-2))) (q := 130) 1 rfl ?_
            refine e_Ok.rets rfl rfl ?_
            have e75 : w71 276 5 = w 276 5 := (e_uq hw71 (Or.inr (by omega)) (e_uq hw11 (Or.inr (by omega)) (e_uq hw6 (Or.inr (by omega)) rfl)))
            have hru := runOk.pop (w' := w71) hC hR (by omega) (fun c k q1 q2 => (e_uq hw71 (Or.inl (by omega)) (e_uq hw11 (Or.inl (by omega)) (e_uq hw6 (Or.inl (by omega)) rfl)))) (fun i q1 q2 => ⟨(e_uq hw71 (Or.inr (by omega)) (e_uq hw11 (Or.inr (by omega)) (e_uq hw6 (Or.inr (by omega)) rfl))), (e_uq hw71 (Or.inr (by omega)) (e_uq hw11 (Or.inr (by omega)) (e_uq hw6 (Or.inr (by omega)) rfl)))⟩) (e_uq hw71 (Or.inr (by omega)) (e_uq hw11 (Or.inr (by omega)) (e_ue hw6))) (e_uq hw71 (Or.inr (by omega)) (e_uq hw11 (Or.inr (by omega)) (e_uq hw6 (Or.inr (by omega)) rfl))) (fun k q1 q2 => (e_uq hw71 (Or.inr (by omega)) (e_uq hw11 (Or.inr (by omega)) (e_uq hw6 (Or.inr (by omega)) rfl))))
            have evp : w71 276 (1260 * t + 2 * g + 434) = w 276 (1260 * t + 2 * g + 434) + 1 := (e_ue hw71)
            exact ⟨_, rfl, ⟨(show e_fr (mLv t) w w71 from e_fr.up f12 hw71 (by unfold mLv; omega)), (sRel.up (sRel.up (sRel.up sRel.refl hw6 (fun q b g1 g2 => by omega)) hw11 (fun q b g1 g2 => by omega)) hw71 (fun q b g1 g2 => by omega))⟩, hT74, by omega, (e_uq hw71 (Or.inl (by omega)) (e_uq hw11 (Or.inl (by omega)) (e_uq hw6 (Or.inl (by omega)) rfl))), Or.inr (Or.inl ⟨by omega, by omega, rfl, w 276 (1260 * t + 2 * g + 434) + 1, runOk.at hru (by omega) (by rw [show 1260 * t + 2 * (g - 1) + 436 = 1260 * t + 2 * g + 434 by omega]; exact evp) (by rw [show w71 330 (10000 * a + (w 276 (1260 * t + 2 * g + 434) + 1)) = w 330 (10000 * a + w 276 (1260 * t + 2 * g + 434) + 1) from by rw [show 10000 * a + (w 276 (1260 * t + 2 * g + 434) + 1) = 10000 * a + w 276 (1260 * t + 2 * g + 434) + 1 by omega]; exact (e_uq hw71 (Or.inl (by omega)) (e_uq hw11 (Or.inl (by omega)) (e_uq hw6 (Or.inl (by omega)) rfl)))]; exact hlt2.1.2), by omega, by omega, (e_uq hw71 (Or.inl (by omega)) (e_uq hw11 (Or.inl (by omega)) (e_uq hw6 (Or.inl (by omega)) rfl))), by omega, (e_uq hw71 (Or.inr (by omega)) (e_uq hw11 (Or.inr (by omega)) (e_uq hw6 (Or.inr (by omega)) rfl)))⟩)⟩
          · replace h69 : (0 : Int) ≠ 0 := (show ¬ ((0 : Int) = 0) from h69)
            exfalso; omega
        · replace h64 : (x : Int) = 1 := Classical.not_not.mp (show ¬ ((x : Int) ≠ 1) from h64)
          have hlt := hlow.top (by omega)
          refine e_Ok.ps1 (x := (1, 275)) (q := 82) 1 rfl ?_
          refine e_Ok.getr (z := 330) rfl (el_o rfl) rfl (ef_o rfl) (e_uq hw11 (Or.inl (by decide)) (e_uq hw6 (Or.inl (by decide)) (e_Has.eq hT (mt_o rfl)))) ⟨by decide, by decide⟩ ?_
          refine e_Ok.ps2 (x := (1, 275)) (y := (0, 10000)) (q := 89) 2 rfl ?_
          refine e_Ok.getf (z := a) rfl (el_o rfl) rfl (ef_o rfl) (e_uq hw11 (Or.inl (by decide)) (e_uq hw6 (Or.inl (by decide)) h98)) (by omega) ?_
          refine e_Ok.mul (z := 10000 * a) rfl rfl (by omega) ?_
          refine e_Ok.ps1 (x := (1, 275)) (q := 94) 1 rfl ?_
          refine e_Ok.getr (z := 276) rfl (el_o rfl) rfl (ef_o rfl) (e_uq hw11 (Or.inl (by decide)) (e_uq hw6 (Or.inl (by decide)) (e_Has.eq hT (mt_o rfl)))) ⟨by decide, by decide⟩ ?_
          refine e_Ok.ps1 (x := (1, 275)) (q := 98) 1 rfl ?_
          refine e_Ok.callV rfl (e_dq hd rfl) rfl rfl rfl rfl (c_362 hT13 (by omega) (e_uq hw11 (Or.inl (by first | decide | omega)) (e_uq hw6 (Or.inl (by first | decide | omega)) h97)) (f := g) (z := 1260 * t + 2 * g + 434) (e_uq hw11 (Or.inr (by omega)) (e_ue hw6)) (by omega) (by omega)) (fun r76 w77 h78 => ?_)
          obtain ⟨rfl, rfl⟩ := h78
          refine e_Ok.nrm (q := 101) (st' := [(0, 1260 * t + 2 * g + 434), (1, 276), (0, 10000 * a), (1, 330)]) rfl rfl ?_
          have h79 := (e_Has.get hT (c := 276) (k := 1260 * t + 2 * g + 434) (lo := 0) (hi := 9999) (nR_FRg t (g - 1) (by omega) (by omega) (by omega)) (by decide))
          refine e_Ok.ald (z := w 276 (1260 * t + 2 * g + 434)) rfl (el_o rfl) rfl (by omega) (e_uq hw11 (Or.inr (by omega)) (e_uq hw6 (Or.inr (by omega)) rfl)) (e_bq h79 (by decide) (by decide)) ?_
          refine e_Ok.add (z := 10000 * a + w 276 (1260 * t + 2 * g + 434)) rfl rfl (by omega) ?_
          have h80 := (e_Has.get hT (c := 330) (k := 10000 * a + w 276 (1260 * t + 2 * g + 434)) (lo := (-2147483648)) (hi := 2147483647) rfl (by decide))
          refine e_Ok.ald (z := w 330 (10000 * a + w 276 (1260 * t + 2 * g + 434))) rfl rfl rfl (by omega) (e_uq hw11 (Or.inl (by decide)) (e_uq hw6 (Or.inl (by decide)) rfl)) (e_bq h80 (by decide) (by decide)) ?_
          refine e_Ok.rets rfl rfl ?_
          have e81 : w11 276 5 = w 276 5 := (e_uq hw11 (Or.inr (by omega)) (e_uq hw6 (Or.inr (by omega)) rfl))
          exact ⟨_, rfl, ⟨f12, (sRel.up (sRel.up sRel.refl hw6 (fun q b g1 g2 => by omega)) hw11 (fun q b g1 g2 => by omega))⟩, hT13, by omega, (e_uq hw11 (Or.inl (by omega)) (e_uq hw6 (Or.inl (by omega)) rfl)), Or.inl ⟨by omega, by omega, rfl, runOk.pop hC hR (by omega) (fun c k q1 q2 => (e_uq hw11 (Or.inl (by omega)) (e_uq hw6 (Or.inl (by omega)) rfl))) (fun i q1 q2 => ⟨(e_uq hw11 (Or.inr (by omega)) (e_uq hw6 (Or.inr (by omega)) rfl)), (e_uq hw11 (Or.inr (by omega)) (e_uq hw6 (Or.inr (by omega)) rfl))⟩) (e_uq hw11 (Or.inr (by omega)) (e_ue hw6)) (e_uq hw11 (Or.inr (by omega)) (e_uq hw6 (Or.inr (by omega)) rfl)) (fun k q1 q2 => (e_uq hw11 (Or.inr (by omega)) (e_uq hw6 (Or.inr (by omega)) rfl))), (e_uq hw11 (Or.inl (by omega)) (e_uq hw6 (Or.inl (by omega)) rfl)), by omega, (e_uq hw11 (Or.inr (by omega)) (e_uq hw6 (Or.inr (by omega)) rfl))⟩⟩
    · replace h10 : (0 : Int) ≠ 0 := (show ¬ ((0 : Int) = 0) from h10)
      exfalso; omega
  · replace h5 : (w 276 (1260 * t + 2 * g + 437) : Int) = 1 := Classical.not_not.mp (show ¬ ((w 276 (1260 * t + 2 * g + 437) : Int) ≠ 1) from h5)
    refine e_Ok.run (t' := (22, [(3, (0, 1)), (0, (1, 275)), (1, (0, x)), (2, (0, y))], [(1, 275)], w)) 4 rfl ?_
    refine e_Ok.getr (z := 276) rfl (el_o rfl) rfl (ef_o rfl) (e_Has.eq hT (mt_o rfl)) ⟨by decide, by decide⟩ ?_
    refine e_Ok.ps1 (x := (1, 275)) (q := 26) 1 rfl ?_
    refine e_Ok.getf (z := 1260 * t + 416) rfl (el_o rfl) rfl (ef_o rfl) h97 (by omega) ?_
    refine e_Ok.ps1 (x := (0, 12)) (q := 31) 1 rfl ?_
    refine e_Ok.add (z := 1260 * t + 428) rfl (e_adl (by decide)) (by omega) ?_
    refine e_Ok.ps2 (x := (0, 1260 * t + 428)) (y := (1, 276)) (q := 33) 1 rfl ?_
    refine e_Ok.ald (z := g + 1) rfl (el_o rfl) rfl (by omega) hF (by omega) ?_
    refine e_Ok.ps1 (x := (0, 1)) (q := 35) 1 rfl ?_
    refine e_Ok.sub' (z := g) rfl (by omega) (by omega) ?_
    refine e_Ok.ast rfl (el_o rfl) rfl rfl (by omega) ?_
    generalize hw82 : e_up w 276 (1260 * t + 428) g = w82
    have hT84 : e_Has mTy w82 := e_Has.upr hT hw82 (nR_FRAMES (t := t) (by omega)) (by omega)
    refine e_Ok.ps1 (x := (1, 275)) (q := 38) 1 rfl ?_
    refine e_Ok.getr (z := 276) rfl (el_o rfl) rfl (ef_o rfl) (e_uq hw82 (Or.inl (by decide)) (e_Has.eq hT (mt_o rfl))) ⟨by decide, by decide⟩ ?_
    refine e_Ok.ps1 (x := (1, 275)) (q := 42) 1 rfl ?_
    refine e_Ok.getf (z := 1260 * t + 416) rfl (el_o rfl) rfl (ef_o rfl) (e_uq hw82 (Or.inl (by decide)) h97) (by omega) ?_
    refine e_Ok.ps1 (x := (0, 14)) (q := 47) 1 rfl ?_
    refine e_Ok.add (z := 1260 * t + 430) rfl (e_adl (by decide)) (by omega) ?_
    refine e_Ok.ps2 (x := (0, 1260 * t + 430)) (y := (1, 276)) (q := 49) 1 rfl ?_
    have h85 := (e_Has.get hT (c := 276) (k := 1260 * t + 430) (lo := (-2147483648)) (hi := 2147483647) (nR_IN_WATCH (t := t) (by omega)) (by decide))
    refine e_Ok.ald (z := w 276 (1260 * t + 430)) rfl (el_o rfl) rfl (by omega) (e_uq hw82 (Or.inr (e_neo (by decide))) rfl) (e_bq h85 (by decide) (by decide)) ?_
    refine e_Ok.ps1 (x := (0, 1)) (q := 51) 1 rfl ?_
    refine e_Ok.if1 rfl (fun h86 => ?_) (fun h86 => ?_)
    · replace h86 : (1 : Int) = 0 := h86
      exfalso; omega
    · replace h86 : (1 : Int) ≠ 0 := (show ¬ ((1 : Int) = 0) from h86)
      refine e_Ok.ps1 (x := (0, 1)) (q := 59) 2 rfl ?_
      refine e_Ok.any rfl (eF_sub_any _ _) (fun z87 z87a z87b => ?_)
      refine e_Ok.ast rfl (el_o rfl) rfl rfl (by omega) ?_
      generalize hw88 : e_up w82 276 (1260 * t + 430) z87 = w88
      have f89 : e_fr (mLv t) w w88 := e_fr.up (show e_fr (mLv t) w w82 from e_fr.up (e_fr.refl w) hw82 (by first | exact Or.inr ⟨rfl, Or.inr (Or.inr (Or.inr (Or.inr (Or.inr (Or.inr (Or.inr (Or.inr (Or.inl ⟨(by omega), (by omega)⟩))))))))⟩ | (unfold mLv; omega))) hw88 (by first | exact Or.inr ⟨rfl, Or.inr (Or.inr (Or.inr (Or.inr (Or.inr (Or.inr (Or.inr (Or.inr (Or.inl ⟨(by omega), (by omega)⟩))))))))⟩ | (unfold mLv; omega))
      have hT90 : e_Has mTy w88 := e_Has.upr hT84 hw88 (nR_IN_WATCH (t := t) (by omega)) (by omega)
      refine e_Ok.ps1 (x := (1, 275)) (q := 62) 1 rfl ?_
      refine e_Ok.getr (z := 276) rfl (el_o rfl) rfl (ef_o rfl) (e_uq hw88 (Or.inl (by decide)) (e_uq hw82 (Or.inl (by decide)) (e_Has.eq hT (mt_o rfl)))) ⟨by decide, by decide⟩ ?_
      refine e_Ok.ps1 (x := (1, 275)) (q := 66) 1 rfl ?_
      refine e_Ok.getf (z := 1260 * t + 416) rfl (el_o rfl) rfl (ef_o rfl) (e_uq hw88 (Or.inl (by decide)) (e_uq hw82 (Or.inl (by decide)) h97)) (by omega) ?_
      refine e_Ok.ps1 (x := (0, 12)) (q := 71) 1 rfl ?_
      refine e_Ok.add (z := 1260 * t + 428) rfl (e_adl (by decide)) (by omega) ?_
      refine e_Ok.ald (z := g) rfl (el_o rfl) rfl (by omega) (e_uq hw88 (Or.inr (e_neo (by decide))) (e_ue hw82)) (by omega) ?_
      refine e_Ok.if1 rfl (fun h91 => ?_) (fun h91 => ?_)
      · replace h91 : (g : Int) ≤ 0 := h91
        refine e_Ok.ps2 (x := (0, 1)) (y := (1, 275)) (q := 133) 2 rfl ?_
        refine e_Ok.putb rfl (el_o rfl) rfl (ef_o rfl) (by omega) ?_
        generalize hw92 : e_up w88 275 100 1 = w92
        have f93 : e_fr (mLv t) w w92 := e_fr.up f89 hw92 (by first | exact Or.inl ⟨rfl, Or.inl rfl⟩ | (unfold mLv; omega))
        have hT94 : e_Has mTy w92 := e_Has.ups hT90 hw92 (mt_o rfl)
        refine e_Ok.ps2 (x := (0, 1)) (y := (0, x)) (q := 138) 2 rfl ?_
        refine e_Ok.if2 rfl (fun h95 => ?_) (fun h95 => ?_)
        · replace h95 : (x : Int) ≠ 1 := h95
          refine e_Ok.ps1 (x := (1, 275)) (q := 212) 1 rfl ?_
          refine e_Ok.getr (z := 276) rfl (el_o rfl) rfl (ef_o rfl) (e_uq hw92 (Or.inr (by decide)) (e_uq hw88 (Or.inl (by decide)) (e_uq hw82 (Or.inl (by decide)) (e_Has.eq hT (mt_o rfl))))) ⟨by decide, by decide⟩ ?_
          refine e_Ok.ps1 (x := (1, 275)) (q := 216) 1 rfl ?_
          refine e_Ok.getf (z := 1260 * t + 416) rfl (el_o rfl) rfl (ef_o rfl) (e_uq hw92 (Or.inr (by decide)) (e_uq hw88 (Or.inl (by decide)) (e_uq hw82 (Or.inl (by decide)) h97))) (by omega) ?_
          refine e_Ok.ps1 (x := (0, 6)) (q := 221) 1 rfl ?_
          refine e_Ok.ast rfl (el_o rfl) rfl rfl (by omega) ?_
          generalize hw96 : e_up w92 276 (1260 * t + 416) 6 = w96
          have hT98 : e_Has mTy w96 := e_Has.upr hT94 hw96 (nR_TSTATE (t := t) (by omega)) (by omega)
          refine e_Ok.ps3 (x := (1, 275)) (y := (0, 4)) (z := (1, 275)) (q := 225) 3 rfl ?_
          refine e_Ok.getf (z := t) rfl (el_o rfl) rfl (ef_o rfl) (e_uq hw96 (Or.inl (by decide)) (e_uq hw92 (Or.inr (by decide)) (e_uq hw88 (Or.inl (by decide)) (e_uq hw82 (Or.inl (by decide)) h96)))) (by omega) ?_
          refine e_Ok.ps1 (x := (0, 0)) (q := 229) 1 rfl ?_
          have e102 : w96 276 5 = w 276 5 := (e_uq hw96 (Or.inr (by omega)) (e_uq hw92 (Or.inl (by decide)) (e_uq hw88 (Or.inr (by omega)) (e_uq hw82 (Or.inr (by omega)) rfl))))
          refine e_Ok.callV rfl (e_dq hd rfl) rfl rfl rfl rfl (c_319 hT98 (by omega) (by omega) (by omega) (by omega)) (fun r99 w100 h101 => ?_)
          obtain ⟨rfl, q103, q103T, q103n⟩ := h101
          refine e_Ok.nrm (q := 232) (st' := []) rfl rfl ?_
          refine e_Ok.ps2 (x := (1, 275)) (y := (1, 275)) (q := 234) 2 rfl ?_
          refine e_Ok.getf (z := t) rfl (el_o rfl) rfl (ef_o rfl) ((q103 275 96 no_59_0).trans (e_uq hw96 (Or.inl (by decide)) (e_uq hw92 (Or.inr (by decide)) (e_uq hw88 (Or.inl (by decide)) (e_uq hw82 (Or.inl (by decide)) h96))))) (by omega) ?_
          refine e_Ok.callV rfl (e_dq hd rfl) rfl rfl rfl rfl (c_361 (e_dq hd rfl) q103T) (fun r105 w106 h107 => ?_)
          obtain ⟨rfl, q108, q108T⟩ := h107
          refine e_Ok.nrm (q := 240) (st' := []) rfl rfl ?_
          refine e_Ok.ps1 (x := (0, (-2))) (q := 242) 1 rfl ?_
          refine e_Ok.rets rfl rfl ?_
          have e110 : w106 276 5 = w100 276 5 := ((q108 276 5 no_59_1).trans rfl)
          have est : w106 276 (1260 * t + 416) = 6 := ((q108 276 (1260 * t + 416) (by first | exact no_59_2 (by omega) | (unfold mLk; omega))).trans ((q103 276 (1260 * t + 416) (by first | exact no_59_3 (by omega) | (unfold mE; omega))).trans (e_ue hw96)))
          exact ⟨_, rfl, ⟨(show e_fr (mLv t) w w106 from e_fr.trans (show e_fr (mLv t) w w100 from e_fr.trans (show e_fr (mLv t) w w96 from e_fr.up f93 hw96 (by first | exact Or.inr ⟨rfl, Or.inr (Or.inr (Or.inr (Or.inr (Or.inr (Or.inl (by omega))))))⟩ | (unfold mLv; omega))) (e_fr.mono q103 (fun c k q => by first | exact su_59_7 q | (unfold mE at q; unfold mLv; omega)))) (e_fr.mono q108 (fun c k q => by first | exact su_59_8 q | (unfold mLk at q; unfold mLv; omega)))), (sRel.fr (sRel.fr (sRel.up (sRel.up (sRel.up (sRel.up sRel.refl hw82 (fun q b g1 g2 => by omega)) hw88 (fun q b g1 g2 => by omega)) hw92 (fun q b g1 g2 => by omega)) hw96 (fun q b g1 g2 => by omega)) q103 (fun b g1 g2 => by unfold mE; omega)) q108 (fun b g1 g2 => by unfold mLk; omega))⟩, q108T, by omega, ((q108 275 102 no_59_4).trans ((q103 275 102 no_59_0).trans (e_uq hw96 (Or.inl (by omega)) (e_uq hw92 (Or.inr (by omega)) (e_uq hw88 (Or.inl (by omega)) (e_uq hw82 (Or.inl (by omega)) rfl)))))), Or.inr (Or.inr ⟨by omega, rfl, ((q108 275 100 no_59_4).trans ((q103 275 100 no_59_0).trans (e_uq hw96 (Or.inl (by omega)) (e_ue hw92)))), by omega⟩)⟩
        · replace h95 : (x : Int) = 1 := Classical.not_not.mp (show ¬ ((x : Int) ≠ 1) from h95)
          refine e_Ok.ps1 (x := (1, 275)) (q := 142) 1 rfl ?_
          refine e_Ok.getr (z := 276) rfl (el_o rfl) rfl (ef_o rfl) (e_uq hw92 (Or.inr (by decide)) (e_uq hw88 (Or.inl (by decide)) (e_uq hw82 (Or.inl (by decide)) (e_Has.eq hT (mt_o rfl))))) ⟨by decide, by decide⟩ ?_
          refine e_Ok.ps1 (x := (1, 275)) (q := 146) 1 rfl ?_
          refine e_Ok.getf (z := 1260 * t + 416) rfl (el_o rfl) rfl (ef_o rfl) (e_uq hw92 (Or.inr (by decide)) (e_uq hw88 (Or.inl (by decide)) (e_uq hw82 (Or.inl (by decide)) h97))) (by omega) ?_
          refine e_Ok.ps1 (x := (0, 7)) (q := 151) 1 rfl ?_
          refine e_Ok.ast rfl (el_o rfl) rfl rfl (by omega) ?_
          generalize hw111 : e_up w92 276 (1260 * t + 416) 7 = w111
          have hT113 : e_Has mTy w111 := e_Has.upr hT94 hw111 (nR_TSTATE (t := t) (by omega)) (by omega)
          refine e_Ok.ps1 (x := (1, 275)) (q := 153) 1 rfl ?_
          refine e_Ok.getr (z := 276) rfl (el_o rfl) rfl (ef_o rfl) (e_uq hw111 (Or.inl (by decide)) (e_uq hw92 (Or.inr (by decide)) (e_uq hw88 (Or.inl (by decide)) (e_uq hw82 (Or.inl (by decide)) (e_Has.eq hT (mt_o rfl)))))) ⟨by decide, by decide⟩ ?_
          refine e_Ok.ps1 (x := (1, 275)) (q := 157) 1 rfl ?_
          refine e_Ok.getf (z := 1260 * t + 416) rfl (el_o rfl) rfl (ef_o rfl) (e_uq hw111 (Or.inl (by decide)) (e_uq hw92 (Or.inr (by decide)) (e_uq hw88 (Or.inl (by decide)) (e_uq hw82 (Or.inl (by decide)) h97)))) (by omega) ?_
          refine e_Ok.ps1 (x := (0, 2)) (q := 161) 1 rfl ?_
          refine e_Ok.add (z := 1260 * t + 418) rfl (e_adl (by decide)) (by omega) ?_
          refine e_Ok.ps1 (x := (0, y)) (q := 163) 1 rfl ?_
          refine e_Ok.ast rfl (el_o rfl) rfl rfl (by omega) ?_
          generalize hw114 : e_up w111 276 (1260 * t + 418) y = w114
          have hT116 : e_Has mTy w114 := e_Has.upr hT113 hw114 (nR_FAULT (t := t) (by omega)) (by omega)
          refine e_Ok.ps1 (x := (1, 275)) (q := 165) 1 rfl ?_
          refine e_Ok.getr (z := 276) rfl (el_o rfl) rfl (ef_o rfl) (e_uq hw114 (Or.inl (by decide)) (e_uq hw111 (Or.inl (by decide)) (e_uq hw92 (Or.inr (by decide)) (e_uq hw88 (Or.inl (by decide)) (e_uq hw82 (Or.inl (by decide)) (e_Has.eq hT (mt_o rfl))))))) ⟨by decide, by decide⟩ ?_
          refine e_Ok.ps1 (x := (1, 275)) (q := 169) 1 rfl ?_
          refine e_Ok.getf (z := a) rfl (el_o rfl) rfl (ef_o rfl) (e_uq hw114 (Or.inl (by decide)) (e_uq hw111 (Or.inl (by decide)) (e_uq hw92 (Or.inr (by decide)) (e_uq hw88 (Or.inl (by decide)) (e_uq hw82 (Or.inl (by decide)) h98))))) (by omega) ?_
          refine e_Ok.callS rfl (e_dq hd rfl) rfl rfl (c_268 (by omega)) (fun r117 w118 h119 => ?_)
          obtain ⟨rfl, rfl⟩ := h119
          refine e_Ok.nrm (q := 175) (st' := [(0, 36 * a + 16), (1, 276)]) rfl rfl ?_
          refine e_Ok.ps1 (x := (0, 2)) (q := 176) 1 rfl ?_
          refine e_Ok.add (z := 36 * a + 18) rfl (e_adl (by decide)) (by omega) ?_
          refine e_Ok.ps1 (x := (1, 275)) (q := 178) 1 rfl ?_
          refine e_Ok.getf (z := t) rfl (el_o rfl) rfl (ef_o rfl) (e_uq hw114 (Or.inl (by decide)) (e_uq hw111 (Or.inl (by decide)) (e_uq hw92 (Or.inr (by decide)) (e_uq hw88 (Or.inl (by decide)) (e_uq hw82 (Or.inl (by decide)) h96))))) (by omega) ?_
          refine e_Ok.ast rfl (el_o rfl) rfl rfl (by omega) ?_
          generalize hw120 : e_up w114 276 (36 * a + 18) t = w120
          have hT122 : e_Has mTy w120 := e_Has.upr hT116 hw120 (nR_STUCK (a := a) (by omega)) (by omega)
          refine e_Ok.ps3 (x := (1, 275)) (y := (0, 5)) (z := (1, 275)) (q := 185) 3 rfl ?_
          refine e_Ok.getf (z := t) rfl (el_o rfl) rfl (ef_o rfl) (e_uq hw120 (Or.inl (by decide)) (e_uq hw114 (Or.inl (by decide)) (e_uq hw111 (Or.inl (by decide)) (e_uq hw92 (Or.inr (by decide)) (e_uq hw88 (Or.inl (by decide)) (e_uq hw82 (Or.inl (by decide)) h96)))))) (by omega) ?_
          refine e_Ok.ps1 (x := (0, y)) (q := 189) 1 rfl ?_
          have e126 : w120 276 5 = w 276 5 := (e_uq hw120 (Or.inr (by omega)) (e_uq hw114 (Or.inr (by omega)) (e_uq hw111 (Or.inr (by omega)) (e_uq hw92 (Or.inl (by decide)) (e_uq hw88 (Or.inr (by omega)) (e_uq hw82 (Or.inr (by omega)) rfl))))))
          refine e_Ok.callV rfl (e_dq hd rfl) rfl rfl rfl rfl (c_319 hT122 (by omega) (by omega) (by omega) (by omega)) (fun r123 w124 h125 => ?_)
          obtain ⟨rfl, q127, q127T, q127n⟩ := h125
          refine e_Ok.nrm (q := 192) (st' := []) rfl rfl ?_
          refine e_Ok.ps2 (x := (1, 275)) (y := (1, 275)) (q := 194) 2 rfl ?_
          refine e_Ok.getf (z := t) rfl (el_o rfl) rfl (ef_o rfl) ((q127 275 96 no_59_0).trans (e_uq hw120 (Or.inl (by decide)) (e_uq hw114 (Or.inl (by decide)) (e_uq hw111 (Or.inl (by decide)) (e_uq hw92 (Or.inr (by decide)) (e_uq hw88 (Or.inl (by decide)) (e_uq hw82 (Or.inl (by decide)) h96))))))) (by omega) ?_
          refine e_Ok.callV rfl (e_dq hd rfl) rfl rfl rfl rfl (c_361 (e_dq hd rfl) q127T) (fun r129 w130 h131 => ?_)
          obtain ⟨rfl, q132, q132T⟩ := h131
          refine e_Ok.nrm (q := 200) (st' := []) rfl rfl ?_
          refine e_Ok.ps2 (x := (1, 275)) (y := (1, 275)) (q := 202) 2 rfl ?_
          refine e_Ok.getf (z := a) rfl (el_o rfl) rfl (ef_o rfl) ((q132 275 98 no_59_4).trans ((q127 275 98 no_59_0).trans (e_uq hw120 (Or.inl (by decide)) (e_uq hw114 (Or.inl (by decide)) (e_uq hw111 (Or.inl (by decide)) (e_uq hw92 (Or.inr (by decide)) (e_uq hw88 (Or.inl (by decide)) (e_uq hw82 (Or.inl (by decide)) h98)))))))) (by omega) ?_
          have e137 : w130 276 5 = w124 276 5 := ((q132 276 5 no_59_1).trans rfl)
          refine e_Ok.callV rfl (e_dq hd rfl) rfl rfl rfl rfl (c_384 (e_dq hd rfl) q132T (by omega) (by omega)) (fun r134 w135 h136 => ?_)
          obtain ⟨rfl, q138, q138T, q138n, q138s⟩ := h136
          refine e_Ok.nrm (q := 208) (st' := []) rfl rfl ?_
          refine e_Ok.ps1 (x := (0, (-2))) (q := 242) 2 rfl ?_
          refine e_Ok.rets rfl rfl ?_
          have e140 : w135 276 5 = w135 276 5 := rfl
          have est : w135 276 (1260 * t + 416) = 7 := ((q138 276 (1260 * t + 416) (by first | exact no_59_5 (by omega) | (unfold mBr; omega))).trans ((q132 276 (1260 * t + 416) (by first | exact no_59_2 (by omega) | (unfold mLk; omega))).trans ((q127 276 (1260 * t + 416) (by first | exact no_59_3 (by omega) | (unfold mE; omega))).trans (e_uq hw120 (Or.inr (by omega)) (e_uq hw114 (Or.inr (e_neo (by decide))) (e_ue hw111))))))
          exact ⟨_, rfl, ⟨(show e_fr (mLv t) w w135 from e_fr.trans (show e_fr (mLv t) w w130 from e_fr.trans (show e_fr (mLv t) w w124 from e_fr.trans (show e_fr (mLv t) w w120 from e_fr.up (show e_fr (mLv t) w w114 from e_fr.up (show e_fr (mLv t) w w111 from e_fr.up f93 hw111 (by first | exact Or.inr ⟨rfl, Or.inr (Or.inr (Or.inr (Or.inr (Or.inr (Or.inl (by omega))))))⟩ | (unfold mLv; omega))) hw114 (by first | exact Or.inr ⟨rfl, Or.inr (Or.inr (Or.inr (Or.inr (Or.inr (Or.inr (Or.inl (by omega)))))))⟩ | (unfold mLv; omega))) hw120 (by first | exact Or.inr ⟨rfl, Or.inr (Or.inr (Or.inr (Or.inl ⟨(by omega), ⟨(by omega), Or.inr (Or.inl (by omega))⟩⟩)))⟩ | (unfold mLv; omega))) (e_fr.mono q127 (fun c k q => by first | exact su_59_7 q | (unfold mE at q; unfold mLv; omega)))) (e_fr.mono q132 (fun c k q => by first | exact su_59_8 q | (unfold mLk at q; unfold mLv; omega)))) (e_fr.mono q138 (fun c k q => by first | exact su_59_9 q | (unfold mBr at q; unfold mLv; omega)))), (sRel.trans (sRel.fr (sRel.fr (sRel.up (sRel.up (sRel.up (sRel.up (sRel.up (sRel.up sRel.refl hw82 (fun q b g1 g2 => by omega)) hw88 (fun q b g1 g2 => by omega)) hw92 (fun q b g1 g2 => by omega)) hw111 (fun q b g1 g2 => by omega)) hw114 (fun q b g1 g2 => by omega)) hw120 (fun q b g1 g2 => by omega)) q127 (fun b g1 g2 => by unfold mE; omega)) q132 (fun b g1 g2 => by unfold mLk; omega)) q138s)⟩, q138T, by omega, ((q138 275 102 no_59_6).trans ((q132 275 102 no_59_4).trans ((q127 275 102 no_59_0).trans (e_uq hw120 (Or.inl (by omega)) (e_uq hw114 (Or.inl (by omega)) (e_uq hw111 (Or.inl (by omega)) (e_uq hw92 (Or.inr (by omega)) (e_uq hw88 (Or.inl (by omega)) (e_uq hw82 (Or.inl (by omega)) rfl))))))))), Or.inr (Or.inr ⟨by omega, rfl, ((q138 275 100 no_59_6).trans ((q132 275 100 no_59_4).trans ((q127 275 100 no_59_0).trans (e_uq hw120 (Or.inl (by omega)) (e_uq hw114 (Or.inl (by omega)) (e_uq hw111 (Or.inl (by omega)) (e_ue hw92))))))), by omega⟩)⟩
      · replace h91 : (g : Int) > 0 := Int.not_le.mp (show ¬ ((g : Int) ≤ 0) from h91)
        refine e_Ok.ps2 (x := (0, 1)) (y := (0, x)) (q := 78) 2 rfl ?_
        refine e_Ok.if2 rfl (fun h141 => ?_) (fun h141 => ?_)
        · replace h141 : (x : Int) ≠ 1 := h141
          have hlt := hlow.top (by omega)
          have hn := hC.1
          have hlt3 := hlt.2.2.2.2 (by omega)
          refine e_Ok.ps2 (x := (1, 275)) (y := (1, 275)) (q := 107) 2 rfl ?_
          refine e_Ok.getr (z := 276) rfl (el_o rfl) rfl (ef_o rfl) (e_uq hw88 (Or.inl (by decide)) (e_uq hw82 (Or.inl (by decide)) (e_Has.eq hT (mt_o rfl)))) ⟨by decide, by decide⟩ ?_
          refine e_Ok.ps1 (x := (1, 275)) (q := 111) 1 rfl ?_
          refine e_Ok.callV rfl (e_dq hd rfl) rfl rfl rfl rfl (c_362 hT90 (by omega) (e_uq hw88 (Or.inl (by first | decide | omega)) (e_uq hw82 (Or.inl (by first | decide | omega)) h97)) (f := g) (z := 1260 * t + 2 * g + 434) (e_uq hw88 (Or.inr (by omega)) (e_ue hw82)) (by omega) (by omega)) (fun r142 w143 h144 => ?_)
          obtain ⟨rfl, rfl⟩ := h144
          refine e_Ok.nrm (q := 114) (st' := [(0, 1260 * t + 2 * g + 434), (1, 276), (1, 275)]) rfl rfl ?_
          have h145 := (e_Has.get hT (c := 276) (k := 1260 * t + 2 * g + 434) (lo := 0) (hi := 9999) (nR_FRg t (g - 1) (by omega) (by omega) (by omega)) (by decide))
          refine e_Ok.ald (z := w 276 (1260 * t + 2 * g + 434)) rfl (el_o rfl) rfl (by omega) (e_uq hw88 (Or.inr (by omega)) (e_uq hw82 (Or.inr (by omega)) rfl)) (e_bq h145 (by decide) (by decide)) ?_
          refine e_Ok.ps1 (x := (0, 1)) (q := 116) 1 rfl ?_
          refine e_Ok.if1 rfl (fun h146 => ?_) (fun h146 => ?_)
          · replace h146 : (1 : Int) = 0 := h146
            exfalso; omega
          · replace h146 : (1 : Int) ≠ 0 := (show ¬ ((1 : Int) = 0) from h146)
            refine e_Ok.ps1 (x := (0, 0)) (q := 124) 2 rfl ?_
            refine e_Ok.add (z := w 276 (1260 * t + 2 * g + 434)) rfl (by omega) (by omega) ?_
            refine e_Ok.callV rfl (e_dq hd rfl) rfl rfl rfl rfl (c_365 (e_dq hd rfl) hT90 (by omega) (e_uq hw88 (Or.inl (by first | decide | omega)) (e_uq hw82 (Or.inl (by first | decide | omega)) h97)) (f := g) (z := 1260 * t + 2 * g + 434) (e_uq hw88 (Or.inr (by omega)) (e_ue hw82)) (by omega) (by omega)) (fun r147 w148 h149 => ?_)
            obtain ⟨rfl, hw148⟩ := h149
            have hT151 : e_Has mTy w148 := e_Has.upr hT90 hw148 (nR_FRg t (g - 1) (by omega) (by omega) (by omega)) (by omega)
            refine e_Ok.nrm (q := 128) (st' := []) rfl rfl ?_
            refine e_Ok.ps1 (x := (0, (-2))) (q := 130) 1 rfl ?_
            refine e_Ok.rets rfl rfl ?_
            have e152 : w148 276 5 = w 276 5 := (e_uq hw148 (Or.inr (by omega)) (e_uq hw88 (Or.inr (by omega)) (e_uq hw82 (Or.inr (by omega)) rfl)))
            have hru := runOk.pop (w' := w148) hC hR (by omega) (fun c k q1 q2 => (e_uq hw148 (Or.inl (by omega)) (e_uq hw88 (Or.inl (by omega)) (e_uq hw82 (Or.inl (by omega)) rfl)))) (fun i q1 q2 => ⟨(e_uq hw148 (Or.inr (by omega)) (e_uq hw88 (Or.inr (by omega)) (e_uq hw82 (Or.inr (by omega)) rfl))), (e_uq hw148 (Or.inr (by omega)) (e_uq hw88 (Or.inr (by omega)) (e_uq hw82 (Or.inr (by omega)) rfl)))⟩) (e_uq hw148 (Or.inr (by omega)) (e_uq hw88 (Or.inr (by omega)) (e_ue hw82))) (e_uq hw148 (Or.inr (by omega)) (e_uq hw88 (Or.inr (by omega)) (e_uq hw82 (Or.inr (by omega)) rfl))) (fun k q1 q2 => (e_uq hw148 (Or.inr (by omega)) (e_uq hw88 (Or.inr (by omega)) (e_uq hw82 (Or.inr (by omega)) rfl))))
            have evp : w148 276 (1260 * t + 2 * g + 434) = w 276 (1260 * t + 2 * g + 434) := (e_ue hw148)
            exact ⟨_, rfl, ⟨(show e_fr (mLv t) w w148 from e_fr.up f89 hw148 (by first | exact Or.inr ⟨rfl, Or.inr (Or.inr (Or.inr (Or.inr (Or.inr (Or.inr (Or.inr (Or.inr (Or.inr ⟨(by omega), (by omega)⟩))))))))⟩ | (unfold mLv; omega))), (sRel.up (sRel.up (sRel.up sRel.refl hw82 (fun q b g1 g2 => by omega)) hw88 (fun q b g1 g2 => by omega)) hw148 (fun q b g1 g2 => by omega))⟩, hT151, by omega, (e_uq hw148 (Or.inl (by omega)) (e_uq hw88 (Or.inl (by omega)) (e_uq hw82 (Or.inl (by omega)) rfl))), Or.inr (Or.inl ⟨by omega, by omega, rfl, w 276 (1260 * t + 2 * g + 434), runOk.at hru (by omega) (by rw [show 1260 * t + 2 * (g - 1) + 436 = 1260 * t + 2 * g + 434 by omega]; exact evp) (show w148 330 (10000 * a + (w 276 (1260 * t + 2 * g + 434))) = w 330 (10000 * a + (w 276 (1260 * t + 2 * g + 434))) from (e_uq hw148 (Or.inl (by omega)) (e_uq hw88 (Or.inl (by omega)) (e_uq hw82 (Or.inl (by omega)) rfl)))), by omega, by omega, (e_uq hw148 (Or.inl (by omega)) (e_uq hw88 (Or.inl (by omega)) (e_uq hw82 (Or.inl (by omega)) rfl))), by omega, (e_uq hw148 (Or.inr (by omega)) (e_uq hw88 (Or.inr (by omega)) (e_uq hw82 (Or.inr (by omega)) rfl)))⟩)⟩
        · replace h141 : (x : Int) = 1 := Classical.not_not.mp (show ¬ ((x : Int) ≠ 1) from h141)
          have hlt := hlow.top (by omega)
          refine e_Ok.ps1 (x := (1, 275)) (q := 82) 1 rfl ?_
          refine e_Ok.getr (z := 330) rfl (el_o rfl) rfl (ef_o rfl) (e_uq hw88 (Or.inl (by decide)) (e_uq hw82 (Or.inl (by decide)) (e_Has.eq hT (mt_o rfl)))) ⟨by decide, by decide⟩ ?_
          refine e_Ok.ps2 (x := (1, 275)) (y := (0, 10000)) (q := 89) 2 rfl ?_
          refine e_Ok.getf (z := a) rfl (el_o rfl) rfl (ef_o rfl) (e_uq hw88 (Or.inl (by decide)) (e_uq hw82 (Or.inl (by decide)) h98)) (by omega) ?_
          refine e_Ok.mul (z := 10000 * a) rfl rfl (by omega) ?_
          refine e_Ok.ps1 (x := (1, 275)) (q := 94) 1 rfl ?_
          refine e_Ok.getr (z := 276) rfl (el_o rfl) rfl (ef_o rfl) (e_uq hw88 (Or.inl (by decide)) (e_uq hw82 (Or.inl (by decide)) (e_Has.eq hT (mt_o rfl)))) ⟨by decide, by decide⟩ ?_
          refine e_Ok.ps1 (x := (1, 275)) (q := 98) 1 rfl ?_
          refine e_Ok.callV rfl (e_dq hd rfl) rfl rfl rfl rfl (c_362 hT90 (by omega) (e_uq hw88 (Or.inl (by first | decide | omega)) (e_uq hw82 (Or.inl (by first | decide | omega)) h97)) (f := g) (z := 1260 * t + 2 * g + 434) (e_uq hw88 (Or.inr (by omega)) (e_ue hw82)) (by omega) (by omega)) (fun r153 w154 h155 => ?_)
          obtain ⟨rfl, rfl⟩ := h155
          refine e_Ok.nrm (q := 101) (st' := [(0, 1260 * t + 2 * g + 434), (1, 276), (0, 10000 * a), (1, 330)]) rfl rfl ?_
          have h156 := (e_Has.get hT (c := 276) (k := 1260 * t + 2 * g + 434) (lo := 0) (hi := 9999) (nR_FRg t (g - 1) (by omega) (by omega) (by omega)) (by decide))
          refine e_Ok.ald (z := w 276 (1260 * t + 2 * g + 434)) rfl (el_o rfl) rfl (by omega) (e_uq hw88 (Or.inr (by omega)) (e_uq hw82 (Or.inr (by omega)) rfl)) (e_bq h156 (by decide) (by decide)) ?_
          refine e_Ok.add (z := 10000 * a + w 276 (1260 * t + 2 * g + 434)) rfl rfl (by omega) ?_
          have h157 := (e_Has.get hT (c := 330) (k := 10000 * a + w 276 (1260 * t + 2 * g + 434)) (lo := (-2147483648)) (hi := 2147483647) rfl (by decide))
          refine e_Ok.ald (z := w 330 (10000 * a + w 276 (1260 * t + 2 * g + 434))) rfl rfl rfl (by omega) (e_uq hw88 (Or.inl (by decide)) (e_uq hw82 (Or.inl (by decide)) rfl)) (e_bq h157 (by decide) (by decide)) ?_
          refine e_Ok.rets rfl rfl ?_
          have e158 : w88 276 5 = w 276 5 := (e_uq hw88 (Or.inr (by omega)) (e_uq hw82 (Or.inr (by omega)) rfl))
          exact ⟨_, rfl, ⟨f89, (sRel.up (sRel.up sRel.refl hw82 (fun q b g1 g2 => by omega)) hw88 (fun q b g1 g2 => by omega))⟩, hT90, by omega, (e_uq hw88 (Or.inl (by omega)) (e_uq hw82 (Or.inl (by omega)) rfl)), Or.inl ⟨by omega, by omega, rfl, runOk.pop hC hR (by omega) (fun c k q1 q2 => (e_uq hw88 (Or.inl (by omega)) (e_uq hw82 (Or.inl (by omega)) rfl))) (fun i q1 q2 => ⟨(e_uq hw88 (Or.inr (by omega)) (e_uq hw82 (Or.inr (by omega)) rfl)), (e_uq hw88 (Or.inr (by omega)) (e_uq hw82 (Or.inr (by omega)) rfl))⟩) (e_uq hw88 (Or.inr (by omega)) (e_ue hw82)) (e_uq hw88 (Or.inr (by omega)) (e_uq hw82 (Or.inr (by omega)) rfl)) (fun k q1 q2 => (e_uq hw88 (Or.inr (by omega)) (e_uq hw82 (Or.inr (by omega)) rfl))), (e_uq hw88 (Or.inl (by omega)) (e_uq hw82 (Or.inl (by omega)) rfl)), by omega, (e_uq hw88 (Or.inr (by omega)) (e_uq hw82 (Or.inr (by omega)) rfl))⟩⟩
end
end
-- part 59b
section
noncomputable section
/-! what a try says of the region y = 3 z + k -/
theorem tryOk.all {w : eW} {a n z y k : Int} {dl sg pi en : Int → Int} {an : Int → Int → Prop} (h : tryOk w a n dl sg pi en an z) (hy : y = 3 * z + k) (hk : 0 ≤ k ∧ k ≤ 2) :
    ((k = 2 ∧ pi y = pi (w 331 (900 * a + z)) + 1) ∨ (k ≠ 2 ∧ pi y = pi (w 331 (900 * a + z)))) ∧ (k = 0 → w 332 (900 * a + z) < 0 ∨ en y ≤ w 332 (900 * a + z)) ∧ (k ≤ 1 → w 333 (900 * a + z) < 0 ∨ en y ≤ w 333 (900 * a + z)) ∧ en y ≤ w 334 (900 * a + z) := by
  obtain ⟨h1, h2, h3, h4, h5, -, -⟩ := h
  subst hy
  obtain rfl | rfl | rfl : k = 0 ∨ k = 1 ∨ k = 2 := by omega
  · rw [show 3 * z + 0 = 3 * z by omega]
    exact ⟨by omega, fun _ => by rcases h3 with h | h <;> omega, fun _ => by rcases h4 with h | h <;> omega, by omega⟩
  · exact ⟨by omega, fun _ => by omega, fun _ => by rcases h4 with h | h <;> omega, by omega⟩
  · exact ⟨by omega, fun _ => by omega, fun _ => by omega, by omega⟩
end
end
