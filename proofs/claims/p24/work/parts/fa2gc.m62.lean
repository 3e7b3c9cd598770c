noncomputable section
/-! the model: what open answers -/
set_option maxHeartbeats 4000000 in
theorem c_296_z {d : Nat} (hd : 25 ≤ d) {w : eW} {G : Int → Gh} (hI : mInv w G) : e_Ok 20 elay ecode eI d 296 (0, [(0, (1, 275))], [], w) (fun r w' => ∃ z : Int, r = [(0, z)] ∧ ((w 275 3 ≠ 0 ∧ z = -2) ∨ (w 275 3 = 0 ∧ z = w 275 10))) := by
  obtain ⟨d, rfl⟩ : ∃ e, d = e + 1 := ⟨d - 1, by omega⟩
  refine e_Ok.run (t' := (1, [(0, (1, 275))], [(1, 275)], w)) 1 rfl ?_
  have h1 := (e_Has.get hI.1 (c := 275) (k := 3) (lo := 0) (hi := 1) rfl (by decide))
  refine e_Ok.getf (z := w 275 3) rfl rfl rfl rfl rfl (by omega) ?_
  refine e_Ok.if1 rfl (fun h2 => ?_) (fun h2 => ?_)
  · replace h2 : (w 275 3 : Int) = 0 := h2
    refine e_Ok.run (t' := (12, [(0, (1, 275))], [(0, 1), (1, 275)], w)) 2 rfl ?_
    refine e_Ok.putb rfl rfl rfl rfl (by omega) ?_
    generalize hw3 : e_up w 275 3 1 = w3
    have f4 : e_fr mOp w w3 := e_fr.up (e_fr.refl w) hw3 (by unfold mOp mK; omega)
    have hT5 : e_Has mTy w3 := e_Has.upr hI.1 hw3 rfl (by omega)
    refine e_Ok.run (t' := (17, [(0, (1, 275))], [(0, 0), (1, 275)], w3)) 2 rfl ?_
    refine e_Ok.putf rfl rfl rfl rfl ?_
    generalize hw6 : e_up w3 275 5 0 = w6
    have f7 : e_fr mOp w w6 := e_fr.up f4 hw6 (by unfold mOp mK; omega)
    have hT8 : e_Has mTy w6 := e_Has.ups hT5 hw6 rfl
    have hI9 : mInv w6 G := mInv.fld (mInv.fld hI hw3 hT5 (by decide)) hw6 hT8 (by decide)
    refine e_Ok.run (t' := (21, [(0, (1, 275))], [(1, 275)], w6)) 1 rfl ?_
    refine e_Ok.callV rfl (by omega) rfl rfl rfl rfl (c_303 (by omega) hT8) (fun r10 w11 h12 => ?_)
    obtain ⟨rfl, q13, q13T⟩ := h12
    have f14 : e_fr mOp w w11 := e_fr.trans f7 (e_fr.mono q13 (fun c k q => by exact Or.inr (Or.inl q)))
    have hI15 : mInv w11 G := mInv.same hI9 q13 q13T (fun c k q => ti_k q)
    show e_Ok 20 elay ecode eI (d + 1) 296 (24, [(0, (1, 275))], [], w11) _
    refine e_Ok.run (t' := (26, [(1, (0, 0)), (0, (1, 275))], [], w11)) 2 rfl ?_
    have hL16 : ∀ (nn : Nat) (y1 : Int) (v1 : eW), e_fr mOp w v1 ∧ e_Has mTy v1 ∧ (0 ≤ y1 ∧ y1 ≤ 33060) ∧ (∀ j, 0 ≤ j → j < y1 → v1 277 j = w11 276 j) ∧ e_fr (fun c _k => c = 277) w11 v1 ∧ mInv v1 G → 33061 - y1 < nn → e_Ok 20 elay ecode eI (d + 1) 296 (26, [(0, (1, 275)), (1, (0, y1))], [], v1) (fun r w' => ∃ z : Int, r = [(0, z)] ∧ ((w 275 3 ≠ 0 ∧ z = -2) ∨ (w 275 3 = 0 ∧ z = w 275 10))) := by
      intro nn
      induction nn with
      | zero => intro y1 v1 hj hm; obtain ⟨j18, j19, j20, j21, j22, j23⟩ := hj; exfalso; omega
      | succ nn ih17 =>
        intro y1 v1 hj hm
        obtain ⟨j18, j19, j20, j21, j22, j23⟩ := hj
        refine e_Ok.run (t' := (29, [(0, (1, 275)), (1, (0, y1))], [(0, 33060), (0, y1)], v1)) 2 rfl ?_
        refine e_Ok.if2 rfl (fun h24 => ?_) (fun h24 => ?_)
        · replace h24 : (y1 : Int) ≥ 33060 := h24
          refine e_Ok.run (t' := (51, [(0, (1, 275)), (1, (0, y1))], [(1, 275)], v1)) 1 rfl ?_
          have h25 := (e_Has.get hI.1 (c := 275) (k := 10) (lo := 0) (hi := 4) rfl (by decide))
          refine e_Ok.getf (z := w 275 10) rfl rfl rfl rfl ((j18 275 10 (by unfold mOp mK; omega)).trans rfl) (by omega) ?_
          refine e_Ok.rets rfl rfl ?_
          exact ⟨_, rfl, by omega⟩
        · replace h24 : (y1 : Int) < 33060 := by have q : ¬ ((y1 : Int) ≥ 33060) := h24; omega
          refine e_Ok.run (t' := (33, [(0, (1, 275)), (1, (0, y1))], [(1, 275)], v1)) 1 rfl ?_
          refine e_Ok.getr (z := 277) rfl rfl rfl rfl ((j18 275 1 (by unfold mOp mK; omega)).trans (e_Has.eq hI.1 rfl)) (by omega) ?_
          refine e_Ok.run (t' := (38, [(0, (1, 275)), (1, (0, y1))], [(1, 275), (0, y1), (1, 277)], v1)) 2 rfl ?_
          refine e_Ok.getr (z := 276) rfl rfl rfl rfl ((j18 275 0 (by unfold mOp mK; omega)).trans (e_Has.eq hI.1 rfl)) (by omega) ?_
          refine e_Ok.run (t' := (42, [(0, (1, 275)), (1, (0, y1))], [(0, y1), (1, 276), (0, y1), (1, 277)], v1)) 1 rfl ?_
          have h26 := (e_Has.now j19 y1)
          refine e_Ok.ald (z := v1 276 y1) rfl rfl rfl (by omega) rfl (by omega) ?_
          refine e_Ok.ast rfl rfl rfl rfl (by omega) ?_
          generalize hw27 : e_up v1 277 y1 (v1 276 y1) = w27
          have f28 : e_fr mOp w w27 := e_fr.up j18 hw27 (by unfold mOp mK; omega)
          have hT29 : e_Has mTy w27 := e_Has.ups j19 hw27 rfl
          refine e_Ok.inc (z := y1 + 1) rfl rfl (by omega) (by omega) ?_
          show e_Ok 20 elay ecode eI (d + 1) 296 (47, [(1, (0, y1 + 1)), (0, (1, 275))], [], w27) _
          refine e_Ok.run (t' := (26, [(1, (0, y1 + 1)), (0, (1, 275))], [], w27)) 1 rfl ?_
          refine e_Ok.sub eAlk (e_sub_of rfl ?_) (ih17 (y1 + 1) w27 ⟨f28, hT29, by omega, (fun j g1 g2 => Decidable.byCases (p := j = y1) (fun e => by rw [e, ← hw27, e_up_eq]; exact j22 276 y1 (show ¬ (276 : Int) = 277 by decide)) (fun e => Eq.trans (show w27 277 j = v1 277 j from by rw [← hw27]; exact e_up_ne _ _ (Or.inr e)) (j21 j g1 (by omega)))), (e_fr.up j22 hw27 rfl), (mInv.fld j23 hw27 hT29 (Or.inr rfl))⟩ (by omega))
          exact ⟨rfl, rfl, trivial⟩
    refine e_Ok.sub eAlk (e_sub_of rfl ?_) (hL16 (33061 + 1 : Int).toNat 0 w11 ⟨f14, q13T, by omega, (fun j g1 g2 => by omega), (e_fr.refl w11), hI15⟩ (by omega))
    exact ⟨rfl, rfl, trivial⟩
  · replace h2 : (w 275 3 : Int) ≠ 0 := by have q : ¬ ((w 275 3 : Int) = 0) := h2; omega
    refine e_Ok.run (t' := (9, [(0, (1, 275))], [(0, (-2))], w)) 1 rfl ?_
    refine e_Ok.rets rfl rfl ?_
    exact ⟨_, rfl, by omega⟩
end
