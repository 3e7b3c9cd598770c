noncomputable section
theorem mInv.fld {w w' : eW} {G : Int → Gh} {c k z : Int} (h : mInv w G) (hw : e_up w c k z = w') (hT : e_Has mTy w') (hk : (c = 275 ∧ k ≠ 10 ∧ k ≠ 40 ∧ k ≠ 42) ∨ c = 277) : mInv w' G := by
  have h0 := h
  obtain ⟨t1, -, -, -, -, h6, h7, h8, h9⟩ := h0
  have hp := e_Has.get t1 (c := 275) (k := 40) (lo := 0) (hi := 32) rfl (by decide)
  have hF : e_fr (fun c' k' => c' = c ∧ k' = k) w w' := fun c' k' q => by rw [← hw]; exact e_up_ne _ _ (by omega)
  exact h.next hF hT (fun c' k' q => by unfold cfN; omega) (mMo.same h6 (e_Has.mo t1) (fun c' k' q => hF c' k' (fun q1 => by unfold moK at q; omega))) (mOr.fr h7 hp.2 (e_Has.orn t1) (e_Has.orw t1 hp.2) (fun k' q => hF _ _ (fun q1 => by omega))) (fun v v1 v2 => tkOk.hop h8 (h9 v v1 v2) hF (fun c' k' q => ⟨by omega, fun e => by omega⟩))
def mOp (c k : Int) : Prop := (c = 275 ∧ (k = 3 ∨ k = 5)) ∨ mK c k ∨ c = 277
set_option maxHeartbeats 4000000 in
theorem c_296 {d : Nat} (hd : 25 ≤ d) {w : eW} {G : Int → Gh} (hI : mInv w G) : e_Ok 20 elay ecode eI d 296 (0, [(0, (1, 275))], [], w) (fun r w' => ∃ z : Int, r = [(0, z)] ∧ ((w = w' ∧ w 275 3 ≠ 0) ∨ (w 275 3 = 0 ∧ w' 275 3 = 1 ∧ w' 275 5 = 0 ∧ mInv w' G ∧ e_fr mOp w w' ∧ ∀ k, 0 ≤ k → k < 33060 → w' 277 k = w' 276 k))) := by
  obtain ⟨d, rfl⟩ : ∃ e, d = e + 1 := ⟨d - 1, by omega⟩
  refine e_Ok.run (t' := (1, [(0, (1, 275))], [(1, 275)], w)) 1 rfl ?_
  have h1 := (e_Has.get hI.1 (c := 275) (k := 3) (lo := 0) (hi := 1) rfl (by decide))
  refine e_Ok.getf (z := w 275 3) rfl (el_o rfl) rfl rfl rfl (by omega) ?_
  refine e_Ok.if1 rfl (fun h2 => ?_) (fun h2 => ?_)
  · replace h2 : (w 275 3 : Int) = 0 := h2
    refine e_Ok.run (t' := (12, [(0, (1, 275))], [(0, 1), (1, 275)], w)) 2 rfl ?_
    refine e_Ok.putb rfl (el_o rfl) rfl rfl (by omega) ?_
    generalize hw3 : e_up w 275 3 1 = w3
    have f4 : e_fr mOp w w3 := e_fr.up (e_fr.refl w) hw3 (by unfold mOp mK; omega)
    have hT5 : e_Has mTy w3 := e_Has.upr hI.1 hw3 rfl (by omega)
    refine e_Ok.run (t' := (17, [(0, (1, 275))], [(0, 0), (1, 275)], w3)) 2 rfl ?_
    refine e_Ok.putf rfl (el_o rfl) rfl rfl ?_
    generalize hw6 : e_up w3 275 5 0 = w6
    have f7 : e_fr mOp w w6 := e_fr.up f4 hw6 (by unfold mOp mK; omega)
    have hT8 : e_Has mTy w6 := e_Has.ups hT5 hw6 rfl
    have hI9 : mInv w6 G := mInv.fld (mInv.fld hI hw3 hT5 (by decide)) hw6 hT8 (by decide)
    refine e_Ok.run (t' := (21, [(0, (1, 275))], [(1, 275)], w6)) 1 rfl ?_
    refine e_Ok.callV rfl (by omega) rfl rfl rfl rfl (c_303 (by omega) hT8) (fun r10 w11 h12 => ?_)
    obtain ⟨rfl, q13, q13T⟩ := h12
    have f14 : e_fr mOp w w11 := e_fr.trans f7 (e_fr.mono q13 (fun c k q => by exact Or.inr (Or.inl q)))
    have hI15 : mInv w11 G := mInv.same hI9 q13 q13T (fun c k q => ti_k q)
    show e_Ok 20 elay ecode eI (d + 1) 296 (24, [(0, (1, 275))], [], w11) _
    refine e_Ok.run (t' := (26, [(1, (0, 0)), (0, (1, 275))], [], w11)) 2 rfl ?_
    have hL16 : ∀ (nn : Nat) (y1 : Int) (v1 : eW), e_fr mOp w v1 ∧ e_Has mTy v1 ∧ (0 ≤ y1 ∧ y1 ≤ 33060) ∧ (∀ j, 0 ≤ j → j < y1 → v1 277 j = w11 276 j) ∧ e_fr (fun c _k => c = 277) w11 v1 ∧ mInv v1 G → 33061 - y1 < nn → e_Ok 20 elay ecode eI (d + 1) 296 (26, [(0, (1, 275)), (1, (0, y1))], [], v1) (fun r w' => ∃ z : Int, r = [(0, z)] ∧ ((w = w' ∧ w 275 3 ≠ 0) ∨ (w 275 3 = 0 ∧ w' 275 3 = 1 ∧ w' 275 5 = 0 ∧ mInv w' G ∧ e_fr mOp w w' ∧ ∀ k, 0 ≤ k → k < 33060 → w' 277 k = w' 276 k))) := by
      intro nn
      induction nn with
      | zero => intro y1 v1 hj hm; obtain ⟨j18, j19, j20, j21, j22, j23⟩ := hj; exfalso; omega
      | succ nn ih17 =>
        intro y1 v1 hj hm
        obtain ⟨j18, j19, j20, j21, j22, j23⟩ := hj
        refine e_Ok.run (t' := (29, [(0, (1, 275)), (1, (0, y1))], [(0, 33060), (0, y1)], v1)) 2 rfl ?_
        refine e_Ok.if2 rfl (fun h24 => ?_) (fun h24 => ?_)
        · replace h24 : (y1 : Int) ≥ 33060 := h24
          refine e_Ok.run (t' := (51, [(0, (1, 275)), (1, (0, y1))], [(1, 275)], v1)) 1 rfl ?_
          have h25 := (e_Has.get hI.1 (c := 275) (k := 10) (lo := 0) (hi := 4) rfl (by decide))
          refine e_Ok.getf (z := w 275 10) rfl (el_o rfl) rfl rfl ((j18 275 10 (by unfold mOp mK; omega)).trans rfl) (by omega) ?_
          refine e_Ok.rets rfl rfl ?_
          exact ⟨_, rfl, Or.inr ⟨by omega, (Eq.trans (j22 275 3 (by decide)) ((q13 275 3 (by unfold mK; omega)).trans (by rw [← hw6]; exact (e_up_ne _ _ (Or.inr (by omega))).trans (by rw [← hw3]; exact e_up_eq _ _ _ _)))), (Eq.trans (j22 275 5 (by decide)) ((q13 275 5 (by unfold mK; omega)).trans (by rw [← hw6]; exact e_up_eq _ _ _ _))), j23, j18, fun k g1 g2 => Eq.trans (j21 k g1 (by omega)) (Eq.symm (j22 276 k (show ¬ (276 : Int) = 277 by decide)))⟩⟩
        · replace h24 : (y1 : Int) < 33060 := by have q : ¬ ((y1 : Int) ≥ 33060) := h24; omega
          refine e_Ok.run (t' := (33, [(0, (1, 275)), (1, (0, y1))], [(1, 275)], v1)) 1 rfl ?_
          refine e_Ok.getr (z := 277) rfl (el_o rfl) rfl rfl ((j18 275 1 (by unfold mOp mK; omega)).trans (e_Has.eq hI.1 rfl)) (by omega) ?_
          refine e_Ok.run (t' := (38, [(0, (1, 275)), (1, (0, y1))], [(1, 275), (0, y1), (1, 277)], v1)) 2 rfl ?_
          refine e_Ok.getr (z := 276) rfl (el_o rfl) rfl rfl ((j18 275 0 (by unfold mOp mK; omega)).trans (e_Has.eq hI.1 rfl)) (by omega) ?_
          refine e_Ok.run (t' := (42, [(0, (1, 275)), (1, (0, y1))], [(0, y1), (1, 276), (0, y1), (1, 277)], v1)) 1 rfl ?_
          have h26 := (e_Has.now j19 y1)
          refine e_Ok.ald (z := v1 276 y1) rfl (el_o rfl) rfl (by omega) rfl (by omega) ?_
          refine e_Ok.ast rfl (el_o rfl) rfl rfl (by omega) ?_
          generalize hw27 : e_up v1 277 y1 (v1 276 y1) = w27
          have f28 : e_fr mOp w w27 := e_fr.up j18 hw27 (by unfold mOp mK; omega)
          have hT29 : e_Has mTy w27 := e_Has.ups j19 hw27 rfl
          refine e_Ok.inc (z := y1 + 1) rfl rfl (by omega) (by omega) ?_
          show e_Ok 20 elay ecode eI (d + 1) 296 (47, [(1, (0, y1 + 1)), (0, (1, 275))], [], w27) _
          refine e_Ok.run (t' := (26, [(1, (0, y1 + 1)), (0, (1, 275))], [], w27)) 1 rfl ?_
          refine e_Ok.sub eAlk (e_sub_of rfl ?_) (ih17 (y1 + 1) w27 ⟨f28, hT29, by omega, (fun j g1 g2 => Decidable.byCases (p := j = y1) (fun e => by rw [e, ← hw27, e_up_eq]; exact j22 276 y1 (show ¬ (276 : Int) = 277 by decide)) (fun e => Eq.trans (show w27 277 j = v1 277 j from by rw [← hw27]; exact e_up_ne _ _ (Or.inr e)) (j21 j g1 (by omega)))), (e_fr.up j22 hw27 rfl), (mInv.fld j23 hw27 hT29 (Or.inr rfl))⟩ (by omega))
          exact ⟨rfl, rfl, trivial⟩
    refine e_Ok.sub eAlk (e_sub_of rfl ?_) (hL16 (33061 + 1 : Int).toNat 0 w11 ⟨f14, q13T, by omega, (fun j g1 g2 => by omega), (e_fr.refl w11), hI15⟩ (by omega))
    exact ⟨rfl, rfl, trivial⟩
  · replace h2 : (w 275 3 : Int) ≠ 0 := by have q : ¬ ((w 275 3 : Int) = 0) := h2; omega
    refine e_Ok.run (t' := (9, [(0, (1, 275))], [(0, (-2))], w)) 1 rfl ?_
    refine e_Ok.rets rfl rfl ?_
    exact ⟨_, rfl, Or.inl ⟨rfl, by omega⟩⟩
end
