-- part 79
section
noncomputable section
def mCo (p b c k : Int) : Prop := c = 276 ∧ ((33 * b + 20704 ≤ k ∧ k ≤ 33 * b + 20736) ∨ k = 4 * p + 20576 ∨ k = 4 * p + 20579)
theorem orK_co {p b k : Int} (hp : 0 ≤ p ∧ p ≤ 31) (q : orK k) (q2 : ¬ (33 * b + 20704 ≤ k ∧ k ≤ 33 * b + 20736)) (q3 : k ≠ 4 * p + 20576) : ¬ mCo p b 276 k := by unfold orK at q; unfold mCo; omega
theorem orK_pa {p k : Int} (hp : 0 ≤ p ∧ p ≤ 31) (q : orK k) (q3 : k ≠ 4 * p + 20576) : ¬ mPa p 276 k := by unfold orK at q; unfold mPa; omega
def mPr (c k : Int) : Prop := c = 309 ∨ (c = 275 ∧ k = 40) ∨ (c = 276 ∧ 20576 ≤ k ∧ k < 20836)
theorem no_79_0 {p : Int} {b : Int} {k : Int} : ¬ mCo p b 275 k := by unfold mCo; omega
set_option maxHeartbeats 4000000 in
theorem c_393 {d : Nat} (hd : 21 ≤ d) {w : eW} (hT : e_Has mTy w) {p b x m m' : Int} (hOr : mOr w m) (hm' : m' ≤ 32) (hmm : (m' = m ∧ p < m) ∨ (m' = m + 1 ∧ p = m)) (hp : 0 ≤ p ∧ p ≤ 31) (hb : 0 ≤ b ∧ b ≤ 3) (hx : -2147483648 ≤ x ∧ x ≤ 2147483647) (hw : p < m → 4 ≤ w 276 (4 * p + 20576)) (hh : ∀ a, 0 ≤ a → a ≤ 3 → w 276 (36 * a + 17) ≠ p) : e_Ok 20 elay ecode eI d 393 (0, [(0, (1, 275)), (1, (0, p)), (2, (0, b)), (3, (0, x))], [], w) (fun r w' => r = [] ∧ e_fr (mCo p b) w w' ∧ e_Has mTy w' ∧ mOr w' m') := by
  obtain ⟨d, rfl⟩ : ∃ e, d = e + 1 := ⟨d - 1, by omega⟩
  have hrm := mOr.room hOr (by omega) hp hb hw
  have hnb := e_Has.get hT (nR_ORDER (b := b) hb) (by decide)
  refine e_Ok.ps3 (x := (0, b)) (y := (0, 33)) (z := (0, 20704)) (q := 6) 3 rfl ?_
  refine e_Ok.mul (z := 33 * b) rfl rfl (by omega) ?_
  refine e_Ok.add (z := 33 * b + 20704) rfl (Int.add_comm _ _) (by omega) ?_
  refine e_Ok.run (t' := (11, [(4, (0, 33 * b + 20704)), (0, (1, 275)), (1, (0, p)), (2, (0, b)), (3, (0, x))], [(1, 275)], w)) 2 rfl ?_
  refine e_Ok.getr (z := 276) rfl (el_o rfl) rfl (ef_o rfl) (e_Has.eq hT (mt_o rfl)) ⟨by decide, by decide⟩ ?_
  refine e_Ok.ps1 (x := (0, 33 * b + 20704)) (q := 16) 1 rfl ?_
  refine e_Ok.ald (z := w 276 (33 * b + 20704)) rfl (el_o rfl) rfl (by omega) rfl (by omega) ?_
  refine e_Ok.run (t' := (23, [(6, (0, w 276 (33 * b + 20704))), (5, (0, w 276 (33 * b + 20704))), (4, (0, 33 * b + 20704)), (0, (1, 275)), (1, (0, p)), (2, (0, b)), (3, (0, x))], [], w)) 3 rfl ?_
  have hL1 : ∀ (nn : Nat) (y6 : Int) (v1 : eW), e_fr (mCo p b) w v1 ∧ e_Has mTy v1 ∧ (0 ≤ y6 ∧ y6 ≤ w 276 (33 * b + 20704)) ∧ (∀ i, 1 ≤ i → i ≤ y6 → v1 276 (33 * b + i + 20704) = w 276 (33 * b + i + 20704)) ∧ (∀ i, y6 + 2 ≤ i → i ≤ w 276 (33 * b + 20704) + 1 → v1 276 (33 * b + i + 20704) = w 276 (33 * b + i + 20703)) → y6 + 1 < nn → e_Ok 20 elay ecode eI (d + 1) 393 (23, [(0, (1, 275)), (1, (0, p)), (2, (0, b)), (3, (0, x)), (4, (0, 33 * b + 20704)), (5, (0, w 276 (33 * b + 20704))), (6, (0, y6))], [], v1) (fun r w' => r = [] ∧ e_fr (mCo p b) w w' ∧ e_Has mTy w' ∧ mOr w' m') := by
    intro nn
    induction nn with
    | zero => intro y6 v1 hj hm; obtain ⟨j3, j4, j5, j6, j7⟩ := hj; exfalso; omega
    | succ nn ih2 =>
      intro y6 v1 hj hm
      obtain ⟨j3, j4, j5, j6, j7⟩ := hj
      refine e_Ok.run (t' := (25, [(0, (1, 275)), (1, (0, p)), (2, (0, b)), (3, (0, x)), (4, (0, 33 * b + 20704)), (5, (0, w 276 (33 * b + 20704))), (6, (0, y6))], [(0, y6)], v1)) 1 rfl ?_
      refine e_Ok.if1 rfl (fun h8 => ?_) (fun h8 => ?_)
      · replace h8 : (y6 : Int) ≤ 0 := h8
        refine e_Ok.ps1 (x := (1, 275)) (q := 81) 1 rfl ?_
        refine e_Ok.getr (z := 276) rfl (el_o rfl) rfl (ef_o rfl) ((j3 275 0 (by first | exact no_79_0 | (unfold mCo; omega))).trans (e_Has.eq hT (mt_o rfl))) ⟨by decide, by decide⟩ ?_
        refine e_Ok.ps2 (x := (0, y6)) (y := (0, 33 * b + 20704)) (q := 88) 2 rfl ?_
        refine e_Ok.add (z := 33 * b + y6 + 20704) rfl (by omega) (by omega) ?_
        refine e_Ok.ps1 (x := (0, 1)) (q := 90) 1 rfl ?_
        refine e_Ok.add (z := 33 * b + y6 + 20705) rfl (e_adl (by decide)) (by omega) ?_
        refine e_Ok.ps1 (x := (0, p)) (q := 92) 1 rfl ?_
        refine e_Ok.ast rfl (el_o rfl) rfl rfl (by omega) ?_
        generalize hw9 : e_up v1 276 (33 * b + y6 + 20705) p = w9
        have hT11 : e_Has mTy w9 := e_Has.upr j4 hw9 (nR_ORD b (by omega) (by omega)) (by omega)
        refine e_Ok.ps1 (x := (1, 275)) (q := 94) 1 rfl ?_
        refine e_Ok.getr (z := 276) rfl (el_o rfl) rfl (ef_o rfl) (e_uq hw9 (Or.inl (by decide)) ((j3 275 0 (by first | exact no_79_0 | (unfold mCo; omega))).trans (e_Has.eq hT (mt_o rfl)))) ⟨by decide, by decide⟩ ?_
        refine e_Ok.ps3 (x := (0, 1)) (y := (0, w 276 (33 * b + 20704))) (z := (0, 33 * b + 20704)) (q := 102) 3 rfl ?_
        refine e_Ok.add (z := w 276 (33 * b + 20704) + 1) rfl rfl (by omega) ?_
        refine e_Ok.ast rfl (el_o rfl) rfl rfl (by omega) ?_
        generalize hw12 : e_up w9 276 (33 * b + 20704) (w 276 (33 * b + 20704) + 1) = w12
        have hT14 : e_Has mTy w12 := e_Has.upr hT11 hw12 (nR_ORDER (b := b) (by omega)) (by omega)
        refine e_Ok.ps1 (x := (1, 275)) (q := 105) 1 rfl ?_
        refine e_Ok.getr (z := 276) rfl (el_o rfl) rfl (ef_o rfl) (e_uq hw12 (Or.inl (by decide)) (e_uq hw9 (Or.inl (by decide)) ((j3 275 0 (by first | exact no_79_0 | (unfold mCo; omega))).trans (e_Has.eq hT (mt_o rfl))))) ⟨by decide, by decide⟩ ?_
        refine e_Ok.ps1 (x := (0, p)) (q := 109) 1 rfl ?_
        refine e_Ok.callS rfl (e_dq hd rfl) rfl rfl (c_392 (by omega)) (fun r15 w16 h17 => ?_)
        obtain ⟨rfl, rfl⟩ := h17
        refine e_Ok.nrm (q := 112) (st' := [(0, 4 * p + 20576), (1, 276)]) rfl rfl ?_
        refine e_Ok.ps1 (x := (0, b)) (q := 113) 1 rfl ?_
        refine e_Ok.ast rfl (el_o rfl) rfl rfl (by omega) ?_
        generalize hw18 : e_up w12 276 (4 * p + 20576) b = w18
        have hT20 : e_Has mTy w18 := e_Has.upr hT14 hw18 (nR_WHERE (p := p) (by omega)) (by omega)
        refine e_Ok.ps1 (x := (1, 275)) (q := 115) 1 rfl ?_
        refine e_Ok.getr (z := 276) rfl (el_o rfl) rfl (ef_o rfl) (e_uq hw18 (Or.inl (by decide)) (e_uq hw12 (Or.inl (by decide)) (e_uq hw9 (Or.inl (by decide)) ((j3 275 0 (by first | exact no_79_0 | (unfold mCo; omega))).trans (e_Has.eq hT (mt_o rfl)))))) ⟨by decide, by decide⟩ ?_
        refine e_Ok.ps1 (x := (0, p)) (q := 119) 1 rfl ?_
        refine e_Ok.callS rfl (e_dq hd rfl) rfl rfl (c_392 (by omega)) (fun r21 w22 h23 => ?_)
        obtain ⟨rfl, rfl⟩ := h23
        refine e_Ok.nrm (q := 122) (st' := [(0, 4 * p + 20576), (1, 276)]) rfl rfl ?_
        refine e_Ok.ps1 (x := (0, 3)) (q := 123) 1 rfl ?_
        refine e_Ok.add (z := 4 * p + 20579) rfl (e_adl (by decide)) (by omega) ?_
        refine e_Ok.ps1 (x := (0, x)) (q := 125) 1 rfl ?_
        refine e_Ok.ast rfl (el_o rfl) rfl rfl (by omega) ?_
        generalize hw24 : e_up w18 276 (4 * p + 20579) x = w24
        have f25 : e_fr (mCo p b) w w24 := e_fr.up (show e_fr (mCo p b) w w18 from e_fr.up (show e_fr (mCo p b) w w12 from e_fr.up (show e_fr (mCo p b) w w9 from e_fr.up j3 hw9 (by unfold mCo; omega)) hw12 (by first | exact ⟨rfl, Or.inl ⟨(by omega), (by omega)⟩⟩ | (unfold mCo; omega))) hw18 (by first | exact ⟨rfl, Or.inr (Or.inl (by omega))⟩ | (unfold mCo; omega))) hw24 (by first | exact ⟨rfl, Or.inr (Or.inr (by omega))⟩ | (unfold mCo; omega))
        have hT26 : e_Has mTy w24 := e_Has.upr hT20 hw24 (nR_PART3 (p := p) (by omega)) (by omega)
        refine e_Ok.rets rfl rfl ?_
        exact ⟨rfl, f25, hT26, mOr.comes (k := y6) hOr hm' hmm (e_Has.orn hT) (e_Has.orw hT (by omega)) hp hb hw hh (by omega) (fun i g1 g2 => Eq.trans (e_uq hw24 (Or.inr (by omega)) (e_uq hw18 (Or.inr (by omega)) (e_uq hw12 (Or.inr (by omega)) (e_uq hw9 (Or.inr (by omega)) rfl)))) (j6 i g1 g2)) (e_uq hw24 (Or.inr (by omega)) (e_uq hw18 (Or.inr (by omega)) (e_uq hw12 (Or.inr (by omega)) (e_ue hw9)))) (fun i g1 g2 => Eq.trans (e_uq hw24 (Or.inr (by omega)) (e_uq hw18 (Or.inr (by omega)) (e_uq hw12 (Or.inr (by omega)) (e_uq hw9 (Or.inr (by omega)) rfl)))) (j7 i g1 g2)) (e_uq hw24 (Or.inr (by omega)) (e_uq hw18 (Or.inr (by omega)) (e_ue hw12))) (e_uq hw24 (Or.inr (by omega)) (e_ue hw18)) (fun k q1 q2 q3 => f25 276 k (orK_co hp q1 q2 q3))⟩
      · replace h8 : (y6 : Int) > 0 := Int.not_le.mp (show ¬ ((y6 : Int) ≤ 0) from h8)
        refine e_Ok.ps1 (x := (1, 275)) (q := 29) 1 rfl ?_
        refine e_Ok.getr (z := 276) rfl (el_o rfl) rfl (ef_o rfl) ((j3 275 0 (by first | exact no_79_0 | (unfold mCo; omega))).trans (e_Has.eq hT (mt_o rfl))) ⟨by decide, by decide⟩ ?_
        refine e_Ok.ps1 (x := (1, 275)) (q := 33) 1 rfl ?_
        refine e_Ok.getr (z := 276) rfl (el_o rfl) rfl (ef_o rfl) ((j3 275 0 (by first | exact no_79_0 | (unfold mCo; omega))).trans (e_Has.eq hT (mt_o rfl))) ⟨by decide, by decide⟩ ?_
        refine e_Ok.ps2 (x := (0, y6)) (y := (0, 33 * b + 20704)) (q := 40) 2 rfl ?_
        refine e_Ok.add (z := 33 * b + y6 + 20704) rfl (by omega) (by omega) ?_
        have h27 := (e_Has.get j4 (c := 276) (k := 33 * b + y6 + 20704) (lo := 0) (hi := 31) (nR_ORD b (by omega) (by omega)) (by decide))
        refine e_Ok.ald (z := v1 276 (33 * b + y6 + 20704)) rfl (el_o rfl) rfl (by omega) rfl (e_bq h27 (by decide) (by decide)) ?_
        refine e_Ok.callS rfl (e_dq hd rfl) rfl rfl (c_392 (by omega)) (fun r28 w29 h30 => ?_)
        obtain ⟨rfl, rfl⟩ := h30
        refine e_Ok.nrm (q := 45) (st' := [(0, 4 * v1 276 (33 * b + y6 + 20704) + 20576), (1, 276)]) rfl rfl ?_
        refine e_Ok.ps1 (x := (0, 3)) (q := 46) 1 rfl ?_
        refine e_Ok.add (z := 4 * v1 276 (33 * b + y6 + 20704) + 20579) rfl (e_adl (by decide)) (by omega) ?_
        have h31 := (e_Has.get j4 (c := 276) (k := 4 * v1 276 (33 * b + y6 + 20704) + 20579) (lo := (-2147483648)) (hi := 2147483647) (nR_PART3 (p := v1 276 (33 * b + y6 + 20704)) (by omega)) (by decide))
        refine e_Ok.ald (z := v1 276 (4 * v1 276 (33 * b + y6 + 20704) + 20579)) rfl rfl rfl (by omega) rfl (e_bq h31 (by decide) (by decide)) ?_
        refine e_Ok.ps1 (x := (0, x)) (q := 49) 1 rfl ?_
        refine e_Ok.if2 rfl (fun h32 => ?_) (fun h32 => ?_)
        · replace h32 : (v1 276 (4 * v1 276 (33 * b + y6 + 20704) + 20579) : Int) ≥ x := h32
          refine e_Ok.ps1 (x := (1, 275)) (q := 81) 1 rfl ?_
          refine e_Ok.getr (z := 276) rfl (el_o rfl) rfl (ef_o rfl) ((j3 275 0 (by first | exact no_79_0 | (unfold mCo; omega))).trans (e_Has.eq hT (mt_o rfl))) ⟨by decide, by decide⟩ ?_
          refine e_Ok.ps2 (x := (0, y6)) (y := (0, 33 * b + 20704)) (q := 88) 2 rfl ?_
          refine e_Ok.add (z := 33 * b + y6 + 20704) rfl (by omega) (by omega) ?_
          refine e_Ok.ps1 (x := (0, 1)) (q := 90) 1 rfl ?_
          refine e_Ok.add (z := 33 * b + y6 + 20705) rfl (e_adl (by decide)) (by omega) ?_
          refine e_Ok.ps1 (x := (0, p)) (q := 92) 1 rfl ?_
          refine e_Ok.ast rfl (el_o rfl) rfl rfl (by omega) ?_
          generalize hw33 : e_up v1 276 (33 * b + y6 + 20705) p = w33
          have hT35 : e_Has mTy w33 := e_Has.upr j4 hw33 (nR_ORD b (by omega) (by omega)) (by omega)
          refine e_Ok.ps1 (x := (1, 275)) (q := 94) 1 rfl ?_
          refine e_Ok.getr (z := 276) rfl (el_o rfl) rfl (ef_o rfl) (e_uq hw33 (Or.inl (by decide)) ((j3 275 0 (by first | exact no_79_0 | (unfold mCo; omega))).trans (e_Has.eq hT (mt_o rfl)))) ⟨by decide, by decide⟩ ?_
          refine e_Ok.ps3 (x := (0, 1)) (y := (0, w 276 (33 * b + 20704))) (z := (0, 33 * b + 20704)) (q := 102) 3 rfl ?_
          refine e_Ok.add (z := w 276 (33 * b + 20704) + 1) rfl rfl (by omega) ?_
          refine e_Ok.ast rfl (el_o rfl) rfl rfl (by omega) ?_
          generalize hw36 : e_up w33 276 (33 * b + 20704) (w 276 (33 * b + 20704) + 1) = w36
          have hT38 : e_Has mTy w36 := e_Has.upr hT35 hw36 (nR_ORDER (b := b) (by omega)) (by omega)
          refine e_Ok.ps1 (x := (1, 275)) (q := 105) 1 rfl ?_
          refine e_Ok.getr (z := 276) rfl (el_o rfl) rfl (ef_o rfl) (e_uq hw36 (Or.inl (by decide)) (e_uq hw33 (Or.inl (by decide)) ((j3 275 0 (by first | exact no_79_0 | (unfold mCo; omega))).trans (e_Has.eq hT (mt_o rfl))))) ⟨by decide, by decide⟩ ?_
          refine e_Ok.ps1 (x := (0, p)) (q := 109) 1 rfl ?_
          refine e_Ok.callS rfl (e_dq hd rfl) rfl rfl (c_392 (by omega)) (fun r40 w41 h42 => ?_)
          obtain ⟨rfl, rfl⟩ := h42
          refine e_Ok.nrm (q := 112) (st' := [(0, 4 * p + 20576), (1, 276)]) rfl rfl ?_
          refine e_Ok.ps1 (x := (0, b)) (q := 113) 1 rfl ?_
          refine e_Ok.ast rfl (el_o rfl) rfl rfl (by omega) ?_
          generalize hw43 : e_up w36 276 (4 * p + 20576) b = w43
          have hT45 : e_Has mTy w43 := e_Has.upr hT38 hw43 (nR_WHERE (p := p) (by omega)) (by omega)
          refine e_Ok.ps1 (x := (1, 275)) (q := 115) 1 rfl ?_
          refine e_Ok.getr (z := 276) rfl (el_o rfl) rfl (ef_o rfl) (e_uq hw43 (Or.inl (by decide)) (e_uq hw36 (Or.inl (by decide)) (e_uq hw33 (Or.inl (by decide)) ((j3 275 0 (by first | exact no_79_0 | (unfold mCo; omega))).trans (e_Has.eq hT (mt_o rfl)))))) ⟨by decide, by decide⟩ ?_
          refine e_Ok.ps1 (x := (0, p)) (q := 119) 1 rfl ?_
          refine e_Ok.callS rfl (e_dq hd rfl) rfl rfl (c_392 (by omega)) (fun r46 w47 h48 => ?_)
          obtain ⟨rfl, rfl⟩ := h48
          refine e_Ok.nrm (q := 122) (st' := [(0, 4 * p + 20576), (1, 276)]) rfl rfl ?_
          refine e_Ok.ps1 (x := (0, 3)) (q := 123) 1 rfl ?_
          refine e_Ok.add (z := 4 * p + 20579) rfl (e_adl (by decide)) (by omega) ?_
          refine e_Ok.ps1 (x := (0, x)) (q := 125) 1 rfl ?_
          refine e_Ok.ast rfl (el_o rfl) rfl rfl (by omega) ?_
          generalize hw49 : e_up w43 276 (4 * p + 20579) x = w49
          have f50 : e_fr (mCo p b) w w49 := e_fr.up (show e_fr (mCo p b) w w43 from e_fr.up (show e_fr (mCo p b) w w36 from e_fr.up (show e_fr (mCo p b) w w33 from e_fr.up j3 hw33 (by unfold mCo; omega)) hw36 (by first | exact ⟨rfl, Or.inl ⟨(by omega), (by omega)⟩⟩ | (unfold mCo; omega))) hw43 (by first | exact ⟨rfl, Or.inr (Or.inl (by omega))⟩ | (unfold mCo; omega))) hw49 (by first | exact ⟨rfl, Or.inr (Or.inr (by omega))⟩ | (unfold mCo; omega))
          have hT51 : e_Has mTy w49 := e_Has.upr hT45 hw49 (nR_PART3 (p := p) (by omega)) (by omega)
          refine e_Ok.rets rfl rfl ?_
          exact ⟨rfl, f50, hT51, mOr.comes (k := y6) hOr hm' hmm (e_Has.orn hT) (e_Has.orw hT (by omega)) hp hb hw hh (by omega) (fun i g1 g2 => Eq.trans (e_uq hw49 (Or.inr (by omega)) (e_uq hw43 (Or.inr (by omega)) (e_uq hw36 (Or.inr (by omega)) (e_uq hw33 (Or.inr (by omega)) rfl)))) (j6 i g1 g2)) (e_uq hw49 (Or.inr (by omega)) (e_uq hw43 (Or.inr (by omega)) (e_uq hw36 (Or.inr (by omega)) (e_ue hw33)))) (fun i g1 g2 => Eq.trans (e_uq hw49 (Or.inr (by omega)) (e_uq hw43 (Or.inr (by omega)) (e_uq hw36 (Or.inr (by omega)) (e_uq hw33 (Or.inr (by omega)) rfl)))) (j7 i g1 g2)) (e_uq hw49 (Or.inr (by omega)) (e_uq hw43 (Or.inr (by omega)) (e_ue hw36))) (e_uq hw49 (Or.inr (by omega)) (e_ue hw43)) (fun k q1 q2 q3 => f50 276 k (orK_co hp q1 q2 q3))⟩
        · replace h32 : (v1 276 (4 * v1 276 (33 * b + y6 + 20704) + 20579) : Int) < x := Int.not_le.mp (show ¬ ((v1 276 (4 * v1 276 (33 * b + y6 + 20704) + 20579) : Int) ≥ x) from h32)
          refine e_Ok.ps1 (x := (1, 275)) (q := 53) 1 rfl ?_
          refine e_Ok.getr (z := 276) rfl (el_o rfl) rfl (ef_o rfl) ((j3 275 0 (by first | exact no_79_0 | (unfold mCo; omega))).trans (e_Has.eq hT (mt_o rfl))) ⟨by decide, by decide⟩ ?_
          refine e_Ok.ps2 (x := (0, y6)) (y := (0, 33 * b + 20704)) (q := 60) 2 rfl ?_
          refine e_Ok.add (z := 33 * b + y6 + 20704) rfl (by omega) (by omega) ?_
          refine e_Ok.ps1 (x := (0, 1)) (q := 62) 1 rfl ?_
          refine e_Ok.add (z := 33 * b + y6 + 20705) rfl (e_adl (by decide)) (by omega) ?_
          refine e_Ok.ps1 (x := (1, 275)) (q := 64) 1 rfl ?_
          refine e_Ok.getr (z := 276) rfl (el_o rfl) rfl (ef_o rfl) ((j3 275 0 (by first | exact no_79_0 | (unfold mCo; omega))).trans (e_Has.eq hT (mt_o rfl))) ⟨by decide, by decide⟩ ?_
          refine e_Ok.ps2 (x := (0, y6)) (y := (0, 33 * b + 20704)) (q := 71) 2 rfl ?_
          refine e_Ok.add (z := 33 * b + y6 + 20704) rfl (by omega) (by omega) ?_
          refine e_Ok.ald (z := v1 276 (33 * b + y6 + 20704)) rfl (el_o rfl) rfl (by omega) rfl (by omega) ?_
          refine e_Ok.ast rfl (el_o rfl) rfl rfl (by omega) ?_
          generalize hw52 : e_up v1 276 (33 * b + y6 + 20705) (v1 276 (33 * b + y6 + 20704)) = w52
          have hT54 : e_Has mTy w52 := e_Has.upr j4 hw52 (nR_ORD b (by omega) (by omega)) (by omega)
          refine e_Ok.inc (z := y6 - 1) rfl rfl (by first | with_reducible rfl | omega) (by omega) ?_
          show e_Ok 20 elay ecode eI (d + 1) 393 (77, [(6, (0, y6 - 1)), (0, (1, 275)), (1, (0, p)), (2, (0, b)), (3, (0, x)), (4, (0, 33 * b + 20704)), (5, (0, w 276 (33 * b + 20704)))], [], w52) _
          refine e_Ok.ps0 (q := 23) 1 rfl ?_
          refine e_Ok.sub eAlk (e_sub_of rfl ?_) (ih2 (y6 - 1) w52 ⟨(show e_fr (mCo p b) w w52 from e_fr.up j3 hw52 (by unfold mCo; omega)), hT54, by omega, (fun i g1 g2 => Eq.trans (e_uq hw52 (Or.inr (by omega)) rfl) (j6 i g1 (by omega))), (fun i g1 g2 => Decidable.byCases (p := i = y6 + 1) (fun e => by rw [e, show 33 * b + (y6 + 1) + 20704 = 33 * b + y6 + 20705 by omega, show 33 * b + (y6 + 1) + 20703 = 33 * b + y6 + 20704 by omega]; exact Eq.trans (e_ue hw52) (j6 y6 (by omega) (by omega))) (fun e => Eq.trans (e_uq hw52 (Or.inr (by omega)) rfl) (j7 i (by omega) g2)))⟩ (by omega))
          exact ⟨rfl, rfl, rfl, rfl, rfl, rfl, rfl, trivial⟩
  refine e_Ok.sub eAlk (e_sub_of rfl ?_) (hL1 (32 + 1 : Int).toNat (w 276 (33 * b + 20704)) w ⟨(e_fr.refl w), hT, by omega, (fun i g1 g2 => rfl), (fun i g1 g2 => by omega)⟩ (by omega))
  exact ⟨rfl, rfl, rfl, rfl, rfl, rfl, rfl, trivial⟩
set_option maxHeartbeats 4000000 in
theorem c_289 {d : Nat} (hd : 24 ≤ d) {w : eW} (hT : e_Has mTy w) {p1 p2 p3 : Int} (g1 : -2147483648 ≤ p1 ∧ p1 ≤ 2147483647) (g2 : -2147483648 ≤ p2 ∧ p2 ≤ 2147483647) (g3 : -2147483648 ≤ p3 ∧ p3 ≤ 2147483647) (hOr : mOr w (w 275 40)) : e_Ok 20 elay ecode eI d 289 (0, [(0, (1, 275)), (1, (0, p1)), (2, (0, p2)), (3, (0, p3))], [], w) (fun r w' => ∃ z : Int, r = [(0, z)] ∧ (w = w' ∨ (w 275 3 = 0 ∧ e_fr mPr w w' ∧ e_Has mTy w' ∧ w' 275 40 = w 275 40 + 1 ∧ mOr w' (w' 275 40)))) := by
  obtain ⟨d, rfl⟩ : ∃ e, d = e + 1 := ⟨d - 1, by omega⟩
  have hpp := e_Has.get hT (c := 275) (k := 40) (lo := 0) (hi := 32) (mt_o rfl) (by decide)
  refine e_Ok.ps3 (x := (1, 275)) (y := (4, 0)) (z := (4, p1)) (q := 4) 4 rfl ?_
  have h1 := (e_Has.get hT (c := 275) (k := 30) (lo := 0) (hi := 4) (mt_o rfl) (by decide))
  refine e_Ok.getf (z := w 275 30) rfl (el_o rfl) rfl (ef_o rfl) rfl (e_bq h1 (by decide) (by decide)) ?_
  refine e_Ok.ps1 (x := (0, 1)) (q := 8) 1 rfl ?_
  refine e_Ok.sub' (z := w 275 30 - 1) rfl rfl (by omega) ?_
  refine e_Ok.run (t' := (10, [(0, (1, 275)), (1, (0, p1)), (2, (0, p2)), (3, (0, p3))], [(4, w 275 30 - 1), (4, 0), (4, p1)], w)) 1 rfl ?_
  refine e_Ok.callS rfl (e_dq hd rfl) rfl rfl (c_266) (fun r2 w3 h4 => ?_)
  obtain ⟨z5, rfl, rfl, q6⟩ := h4
  obtain ⟨rfl, q6⟩ | ⟨rfl, q6⟩ := q6
  · refine e_Ok.nrm (q := 13) (st' := [(0, 1)]) rfl rfl ?_
    refine e_Ok.if1 rfl (fun h7 => ?_) (fun h7 => ?_)
    · replace h7 : (1 : Int) = 0 := h7
      exfalso; omega
    · replace h7 : (1 : Int) ≠ 0 := (show ¬ ((1 : Int) = 0) from h7)
      refine e_Ok.ps3 (x := (1, 275)) (y := (4, 0)) (z := (4, p2)) (q := 20) 4 rfl ?_
      refine e_Ok.getr (z := 303) rfl (el_o rfl) rfl (ef_o rfl) (e_Has.eq hT (mt_o rfl)) ⟨by decide, by decide⟩ ?_
      refine e_Ok.ps1 (x := (0, p1)) (q := 24) 1 rfl ?_
      have h8 := (e_Has.get hT (c := 303) (k := p1) (lo := 0) (hi := 16000) (mt_o rfl) (by decide))
      refine e_Ok.ald (z := w 303 p1) rfl (el_o rfl) rfl (by omega) rfl (e_bq h8 (by decide) (by decide)) ?_
      refine e_Ok.run (t' := (26, [(0, (1, 275)), (1, (0, p1)), (2, (0, p2)), (3, (0, p3))], [(4, w 303 p1), (4, 0), (4, p2)], w)) 1 rfl ?_
      refine e_Ok.callS rfl (e_dq hd rfl) rfl rfl (c_266) (fun r9 w10 h11 => ?_)
      obtain ⟨z12, rfl, rfl, q13⟩ := h11
      obtain ⟨rfl, q13⟩ | ⟨rfl, q13⟩ := q13
      · refine e_Ok.nrm (q := 29) (st' := [(0, 1)]) rfl rfl ?_
        refine e_Ok.if1 rfl (fun h14 => ?_) (fun h14 => ?_)
        · replace h14 : (1 : Int) = 0 := h14
          exfalso; omega
        · replace h14 : (1 : Int) ≠ 0 := (show ¬ ((1 : Int) = 0) from h14)
          refine e_Ok.ps3 (x := (4, 800)) (y := (4, 0)) (z := (4, p3)) (q := 38) 4 rfl ?_
          refine e_Ok.callS rfl (e_dq hd rfl) rfl rfl (c_266) (fun r15 w16 h17 => ?_)
          obtain ⟨z18, rfl, rfl, q19⟩ := h17
          obtain ⟨rfl, q19⟩ | ⟨rfl, q19⟩ := q19
          · refine e_Ok.nrm (q := 41) (st' := [(0, 1)]) rfl rfl ?_
            refine e_Ok.if1 rfl (fun h20 => ?_) (fun h20 => ?_)
            · replace h20 : (1 : Int) ≠ 0 := h20
              refine e_Ok.ps1 (x := (1, 275)) (q := 47) 1 rfl ?_
              have h21 := (e_Has.get hT (c := 275) (k := 3) (lo := 0) (hi := 1) (mt_o rfl) (by decide))
              refine e_Ok.getf (z := w 275 3) rfl (el_o rfl) rfl (ef_o rfl) rfl (e_bq h21 (by decide) (by decide)) ?_
              refine e_Ok.if1 rfl (fun h22 => ?_) (fun h22 => ?_)
              · replace h22 : (w 275 3 : Int) = 0 := h22
                refine e_Ok.ps1 (x := (1, 275)) (q := 57) 1 rfl ?_
                refine e_Ok.getf (z := w 275 40) rfl (el_o rfl) rfl (ef_o rfl) rfl (by omega) ?_
                refine e_Ok.ps1 (x := (0, 32)) (q := 62) 1 rfl ?_
                refine e_Ok.if2 rfl (fun h23 => ?_) (fun h23 => ?_)
                · replace h23 : (w 275 40 : Int) ≠ 32 := h23
                  refine e_Ok.ps1 (x := (1, 275)) (q := 69) 1 rfl ?_
                  refine e_Ok.getr (z := 309) rfl (el_o rfl) rfl (ef_o rfl) (e_Has.eq hT (mt_o rfl)) ⟨by decide, by decide⟩ ?_
                  refine e_Ok.ps1 (x := (1, 275)) (q := 73) 1 rfl ?_
                  refine e_Ok.getf (z := w 275 40) rfl (el_o rfl) rfl (ef_o rfl) rfl (by omega) ?_
                  refine e_Ok.ps1 (x := (0, p3)) (q := 77) 1 rfl ?_
                  refine e_Ok.ast rfl (el_o rfl) rfl rfl (by omega) ?_
                  generalize hw24 : e_up w 309 (w 275 40) p3 = w24
                  have hT26 : e_Has mTy w24 := e_Has.upr hT hw24 (mt_o rfl) (by omega)
                  refine e_Ok.ps2 (x := (1, 275)) (y := (1, 275)) (q := 80) 2 rfl ?_
                  refine e_Ok.getf (z := w 275 40) rfl (el_o rfl) rfl (ef_o rfl) (e_uq hw24 (Or.inl (by decide)) rfl) (by omega) ?_
                  refine e_Ok.ps2 (x := (0, p2)) (y := (0, p1)) (q := 85) 2 rfl ?_
                  refine e_Ok.callV rfl (e_dq hd rfl) rfl rfl rfl rfl (c_393 (e_dq hd rfl) hT26 (m := w 275 40) (m' := w 275 40 + 1) (mOr.fr hOr (by omega) (e_Has.orn hT) (e_Has.orw hT (by omega)) (fun k q => (e_uq hw24 (Or.inl (by first | decide | omega)) rfl))) (by omega) (Or.inr ⟨rfl, rfl⟩) (by omega) (by omega) (by omega) (fun e => by omega) (fun x g1 g2 e => by have e0 : w24 276 (36 * x + 17) = w 276 (36 * x + 17) := (e_uq hw24 (Or.inl (by first | decide | omega)) rfl); have := (hOr.2.2.2 x g1 g2 (by omega)).1; omega)) (fun r27 w28 h29 => ?_)
                  obtain ⟨rfl, q30, q30T, q30o⟩ := h29
                  refine e_Ok.nrm (q := 88) (st' := []) rfl rfl ?_
                  refine e_Ok.ps2 (x := (1, 275)) (y := (1, 275)) (q := 90) 2 rfl ?_
                  refine e_Ok.getf (z := w 275 40) rfl (el_o rfl) rfl (ef_o rfl) ((q30 275 40 (by first | exact no_79_0 | (unfold mCo; omega))).trans (e_uq hw24 (Or.inl (by decide)) rfl)) (by omega) ?_
                  refine e_Ok.ps1 (x := (0, 1)) (q := 94) 1 rfl ?_
                  refine e_Ok.add (z := w 275 40 + 1) rfl rfl (by omega) ?_
                  refine e_Ok.putf rfl (el_o rfl) rfl (ef_o rfl) ?_
                  generalize hw32 : e_up w28 275 40 (w 275 40 + 1) = w32
                  have hT34 : e_Has mTy w32 := e_Has.upr q30T hw32 (mt_o rfl) (by omega)
                  refine e_Ok.ps1 (x := (1, 275)) (q := 99) 1 rfl ?_
                  refine e_Ok.getf (z := w 275 40 + 1) rfl (el_o rfl) rfl (ef_o rfl) (e_ue hw32) (by omega) ?_
                  refine e_Ok.ps1 (x := (0, 1)) (q := 103) 1 rfl ?_
                  refine e_Ok.sub' (z := w 275 40) rfl (by omega) (by omega) ?_
                  refine e_Ok.rets rfl rfl ?_
                  exact ⟨_, rfl, Or.inr ⟨by omega, (show e_fr mPr w w32 from e_fr.up (show e_fr mPr w w28 from e_fr.trans (show e_fr mPr w w24 from e_fr.up (e_fr.refl w) hw24 (by first | exact Or.inl rfl | (unfold mPr; omega))) (e_fr.mono q30 (fun c k q => by unfold mCo at q; unfold mPr; omega))) hw32 (by first | exact Or.inr (Or.inl ⟨rfl, rfl⟩) | (unfold mPr; omega))), hT34, (e_ue hw32), by rw [show w32 275 40 = w 275 40 + 1 from (e_ue hw32)]; exact mOr.fr q30o (by omega) (e_Has.orn q30T) (e_Has.orw q30T (by omega)) (fun k q => (e_uq hw32 (Or.inl (by first | decide | omega)) rfl))⟩⟩
                · replace h23 : (w 275 40 : Int) = 32 := Classical.not_not.mp (show ¬ ((w 275 40 : Int) ≠ 32) from h23)
                  refine e_Ok.ps1 (x := (0, (-3))) (q := 67) 1 rfl ?_
                  refine e_Ok.rets rfl rfl ?_
                  exact ⟨_, rfl, Or.inl rfl⟩
              · replace h22 : (w 275 3 : Int) ≠ 0 := (show ¬ ((w 275 3 : Int) = 0) from h22)
                refine e_Ok.ps1 (x := (0, (-2))) (q := 55) 1 rfl ?_
                refine e_Ok.rets rfl rfl ?_
                exact ⟨_, rfl, Or.inl rfl⟩
            · replace h20 : (1 : Int) = 0 := Classical.not_not.mp (show ¬ ((1 : Int) ≠ 0) from h20)
              exfalso; omega
          · refine e_Ok.nrm (q := 41) (st' := [(0, 0)]) rfl rfl ?_
            refine e_Ok.if1 rfl (fun h35 => ?_) (fun h35 => ?_)
            · replace h35 : (0 : Int) ≠ 0 := h35
              exfalso; omega
            · replace h35 : (0 : Int) = 0 := Classical.not_not.mp (show ¬ ((0 : Int) ≠ 0) from h35)
              refine e_Ok.ps1 (x := (0, (-1))) (q := 45) 1 rfl ?_
              refine e_Ok.rets rfl rfl ?_
              exact ⟨_, rfl, Or.inl rfl⟩
      · refine e_Ok.nrm (q := 29) (st' := [(0, 0)]) rfl rfl ?_
        refine e_Ok.if1 rfl (fun h36 => ?_) (fun h36 => ?_)
        · replace h36 : (0 : Int) = 0 := h36
          refine e_Ok.ps1 (x := (0, (-1))) (q := 45) 1 rfl ?_
          refine e_Ok.rets rfl rfl ?_
          exact ⟨_, rfl, Or.inl rfl⟩
        · replace h36 : (0 : Int) ≠ 0 := (show ¬ ((0 : Int) = 0) from h36)
          exfalso; omega
  · refine e_Ok.nrm (q := 13) (st' := [(0, 0)]) rfl rfl ?_
    refine e_Ok.if1 rfl (fun h37 => ?_) (fun h37 => ?_)
    · replace h37 : (0 : Int) = 0 := h37
      refine e_Ok.ps1 (x := (0, (-1))) (q := 45) 1 rfl ?_
      refine e_Ok.rets rfl rfl ?_
      exact ⟨_, rfl, Or.inl rfl⟩
    · replace h37 : (0 : Int) ≠ 0 := (show ¬ ((0 : Int) = 0) from h37)
      exfalso; omega
theorem no_79_1 {p : Int} {k : Int} : ¬ mPa p 275 k := by unfold mPa; omega
set_option maxHeartbeats 4000000 in
theorem c_290 {d : Nat} (hd : 24 ≤ d) {w : eW} (hT : e_Has mTy w) {p1 p2 p3 : Int} (g1 : -2147483648 ≤ p1 ∧ p1 ≤ 2147483647) (g2 : -2147483648 ≤ p2 ∧ p2 ≤ 2147483647) (g3 : -2147483648 ≤ p3 ∧ p3 ≤ 2147483647) (hOr : mOr w (w 275 40)) : e_Ok 20 elay ecode eI d 290 (0, [(0, (1, 275)), (1, (0, p1)), (2, (0, p2)), (3, (0, p3))], [], w) (fun r w' => ∃ z : Int, r = [(0, z)] ∧ (w = w' ∨ (w 275 3 = 0 ∧ e_fr mPr w w' ∧ e_Has mTy w' ∧ w' 275 40 = w 275 40 + 1 ∧ mOr w' (w' 275 40)))) := by
  obtain ⟨d, rfl⟩ : ∃ e, d = e + 1 := ⟨d - 1, by omega⟩
  have hpp := e_Has.get hT (c := 275) (k := 40) (lo := 0) (hi := 32) (mt_o rfl) (by decide)
  refine e_Ok.ps2 (x := (0, p2)) (y := (0, p1)) (q := 2) 2 rfl ?_
  refine e_Ok.callS rfl (e_dq hd rfl) rfl rfl (c_272 (e_dq hd rfl)) (fun r1 w2 h3 => ?_)
  obtain ⟨z4, rfl, rfl, q5⟩ := h3
  obtain ⟨rfl, q5⟩ | ⟨rfl, q5⟩ := q5
  · refine e_Ok.nrm (q := 5) (st' := [(0, 1)]) rfl rfl ?_
    refine e_Ok.if1 rfl (fun h6 => ?_) (fun h6 => ?_)
    · replace h6 : (1 : Int) = 0 := h6
      exfalso; omega
    · replace h6 : (1 : Int) ≠ 0 := (show ¬ ((1 : Int) = 0) from h6)
      refine e_Ok.ps3 (x := (4, 800)) (y := (4, 0)) (z := (4, p3)) (q := 14) 4 rfl ?_
      refine e_Ok.callS rfl (e_dq hd rfl) rfl rfl (c_266) (fun r7 w8 h9 => ?_)
      obtain ⟨z10, rfl, rfl, q11⟩ := h9
      obtain ⟨rfl, q11⟩ | ⟨rfl, q11⟩ := q11
      · refine e_Ok.nrm (q := 17) (st' := [(0, 1)]) rfl rfl ?_
        refine e_Ok.if1 rfl (fun h12 => ?_) (fun h12 => ?_)
        · replace h12 : (1 : Int) ≠ 0 := h12
          refine e_Ok.ps1 (x := (1, 275)) (q := 23) 1 rfl ?_
          have h13 := (e_Has.get hT (c := 275) (k := 3) (lo := 0) (hi := 1) (mt_o rfl) (by decide))
          refine e_Ok.getf (z := w 275 3) rfl (el_o rfl) rfl (ef_o rfl) rfl (e_bq h13 (by decide) (by decide)) ?_
          refine e_Ok.if1 rfl (fun h14 => ?_) (fun h14 => ?_)
          · replace h14 : (w 275 3 : Int) = 0 := h14
            refine e_Ok.ps1 (x := (1, 275)) (q := 33) 1 rfl ?_
            refine e_Ok.getf (z := w 275 40) rfl (el_o rfl) rfl (ef_o rfl) rfl (by omega) ?_
            refine e_Ok.ps1 (x := (0, 32)) (q := 38) 1 rfl ?_
            refine e_Ok.if2 rfl (fun h15 => ?_) (fun h15 => ?_)
            · replace h15 : (w 275 40 : Int) ≠ 32 := h15
              refine e_Ok.ps1 (x := (1, 275)) (q := 45) 1 rfl ?_
              refine e_Ok.getr (z := 309) rfl (el_o rfl) rfl (ef_o rfl) (e_Has.eq hT (mt_o rfl)) ⟨by decide, by decide⟩ ?_
              refine e_Ok.ps1 (x := (1, 275)) (q := 49) 1 rfl ?_
              refine e_Ok.getf (z := w 275 40) rfl (el_o rfl) rfl (ef_o rfl) rfl (by omega) ?_
              refine e_Ok.ps1 (x := (0, p3)) (q := 53) 1 rfl ?_
              refine e_Ok.ast rfl (el_o rfl) rfl rfl (by omega) ?_
              generalize hw16 : e_up w 309 (w 275 40) p3 = w16
              have hT18 : e_Has mTy w16 := e_Has.upr hT hw16 (mt_o rfl) (by omega)
              refine e_Ok.ps2 (x := (1, 275)) (y := (1, 275)) (q := 56) 2 rfl ?_
              refine e_Ok.getf (z := w 275 40) rfl (el_o rfl) rfl (ef_o rfl) (e_uq hw16 (Or.inl (by decide)) rfl) (by omega) ?_
              refine e_Ok.ps2 (x := (0, p2)) (y := (0, p1)) (q := 61) 2 rfl ?_
              refine e_Ok.callV rfl (e_dq hd rfl) rfl rfl rfl rfl (c_394 (e_dq hd rfl) hT18 (by omega) (by omega) (by omega)) (fun r19 w20 h21 => ?_)
              obtain ⟨rfl, q22, q22T, q22w⟩ := h21
              refine e_Ok.nrm (q := 64) (st' := []) rfl rfl ?_
              refine e_Ok.ps2 (x := (1, 275)) (y := (1, 275)) (q := 66) 2 rfl ?_
              refine e_Ok.getf (z := w 275 40) rfl (el_o rfl) rfl (ef_o rfl) ((q22 275 40 (by first | exact no_79_1 | (unfold mPa; omega))).trans (e_uq hw16 (Or.inl (by decide)) rfl)) (by omega) ?_
              refine e_Ok.ps1 (x := (0, 1)) (q := 70) 1 rfl ?_
              refine e_Ok.add (z := w 275 40 + 1) rfl rfl (by omega) ?_
              refine e_Ok.putf rfl (el_o rfl) rfl (ef_o rfl) ?_
              generalize hw24 : e_up w20 275 40 (w 275 40 + 1) = w24
              have hT26 : e_Has mTy w24 := e_Has.upr q22T hw24 (mt_o rfl) (by omega)
              refine e_Ok.ps1 (x := (1, 275)) (q := 75) 1 rfl ?_
              refine e_Ok.getf (z := w 275 40 + 1) rfl (el_o rfl) rfl (ef_o rfl) (e_ue hw24) (by omega) ?_
              refine e_Ok.ps1 (x := (0, 1)) (q := 79) 1 rfl ?_
              refine e_Ok.sub' (z := w 275 40) rfl (by omega) (by omega) ?_
              refine e_Ok.rets rfl rfl ?_
              exact ⟨_, rfl, Or.inr ⟨by omega, (show e_fr mPr w w24 from e_fr.up (show e_fr mPr w w20 from e_fr.trans (show e_fr mPr w w16 from e_fr.up (e_fr.refl w) hw16 (by first | exact Or.inl rfl | (unfold mPr; omega))) (e_fr.mono q22 (fun c k q => by unfold mPa at q; unfold mPr; omega))) hw24 (by first | exact Or.inr (Or.inl ⟨rfl, rfl⟩) | (unfold mPr; omega))), hT26, (e_ue hw24), by rw [show w24 275 40 = w 275 40 + 1 from (e_ue hw24)]; exact mOr.fr (mOr.lies (m' := w 275 40 + 1) (p := w 275 40) (mOr.fr hOr (by omega) (e_Has.orn hT) (e_Has.orw hT (by omega)) (fun k q => (e_uq hw16 (Or.inl (by first | decide | omega)) rfl))) (by omega) (Or.inr ⟨rfl, rfl⟩) (e_Has.orn hT18) (e_Has.orw hT18 (by omega)) (by omega) (fun e => by omega) (fun x g1 g2 e => by have e0 : w16 276 (36 * x + 17) = w 276 (36 * x + 17) := (e_uq hw16 (Or.inl (by first | decide | omega)) rfl); have := (hOr.2.2.2 x g1 g2 (by omega)).1; omega) q22w (fun k q1 q2 => q22 276 k (orK_pa (by omega) q1 q2))) (by omega) (e_Has.orn q22T) (e_Has.orw q22T (by omega)) (fun k q => (e_uq hw24 (Or.inl (by first | decide | omega)) rfl))⟩⟩
            · replace h15 : (w 275 40 : Int) = 32 := Classical.not_not.mp (show ¬ ((w 275 40 : Int) ≠ 32) from h15)
              refine e_Ok.ps1 (x := (0, (-3))) (q := 43) 1 rfl ?_
              refine e_Ok.rets rfl rfl ?_
              exact ⟨_, rfl, Or.inl rfl⟩
          · replace h14 : (w 275 3 : Int) ≠ 0 := (show ¬ ((w 275 3 : Int) = 0) from h14)
            refine e_Ok.ps1 (x := (0, (-2))) (q := 31) 1 rfl ?_
            refine e_Ok.rets rfl rfl ?_
            exact ⟨_, rfl, Or.inl rfl⟩
        · replace h12 : (1 : Int) = 0 := Classical.not_not.mp (show ¬ ((1 : Int) ≠ 0) from h12)
          exfalso; omega
      · refine e_Ok.nrm (q := 17) (st' := [(0, 0)]) rfl rfl ?_
        refine e_Ok.if1 rfl (fun h27 => ?_) (fun h27 => ?_)
        · replace h27 : (0 : Int) ≠ 0 := h27
          exfalso; omega
        · replace h27 : (0 : Int) = 0 := Classical.not_not.mp (show ¬ ((0 : Int) ≠ 0) from h27)
          refine e_Ok.ps1 (x := (0, (-1))) (q := 21) 1 rfl ?_
          refine e_Ok.rets rfl rfl ?_
          exact ⟨_, rfl, Or.inl rfl⟩
  · refine e_Ok.nrm (q := 5) (st' := [(0, 0)]) rfl rfl ?_
    refine e_Ok.if1 rfl (fun h28 => ?_) (fun h28 => ?_)
    · replace h28 : (0 : Int) = 0 := h28
      refine e_Ok.ps1 (x := (0, (-1))) (q := 21) 1 rfl ?_
      refine e_Ok.rets rfl rfl ?_
      exact ⟨_, rfl, Or.inl rfl⟩
    · replace h28 : (0 : Int) ≠ 0 := (show ¬ ((0 : Int) = 0) from h28)
      exfalso; omega
end
end
-- part 80
section
noncomputable section
def mGr (c k : Int) : Prop := c = 321 ∨ c = 322 ∨ (c = 276 ∧ ((20576 ≤ k ∧ k < 20836) ∨ k = 5 ∨ 25060 ≤ k ∨ (16 ≤ k ∧ k < 160 ∧ ((k - 16) % 36 = 1 ∨ (k - 16) % 36 = 4 ∨ (k - 16) % 36 = 5))))
def mOo (b c k : Int) : Prop := c = 321 ∨ c = 322 ∨ (c = 276 ∧ 33 * b + 20705 ≤ k ∧ k ≤ 33 * b + 20736)
def mDp (a c k : Int) : Prop := c = 321 ∨ c = 322 ∨ (c = 276 ∧ ((20576 ≤ k ∧ k < 20836) ∨ k = 36 * a + 17))
theorem no_80_0 {t : Int} {k : Int} : ¬ mPt t 275 k := by unfold mPt; omega
theorem no_80_1 {t : Int} {k : Int} : ¬ mPt t 286 k := by unfold mPt; omega
theorem no_80_2 {t : Int} {k : Int} : ¬ mPt t 285 k := by unfold mPt; omega
theorem no_80_3 {k : Int} : ¬ mP 275 k := by unfold mP; omega
theorem no_80_4 {k : Int} : ¬ mP 276 k := by unfold mP; omega
theorem no_80_5 : ¬ mSt 276 5 := by unfold mSt; omega
theorem no_80_6 {a : Int} (ha : 0 ≤ a ∧ a ≤ 3) : ¬ mE 276 (36 * a + 17) := by unfold mE; omega
theorem no_80_7 {a : Int} (ha : 0 ≤ a ∧ a ≤ 3) : ¬ mSt 276 (36 * a + 17) := by unfold mSt; omega
theorem no_80_8 {b : Int} (hb : 0 ≤ b ∧ b ≤ 3) : ¬ mE 276 (36 * b + 20) := by unfold mE; omega
theorem no_80_9 {b : Int} {k : Int} : ¬ mOo b 275 k := by unfold mOo; omega
theorem no_80_10 {b : Int} (hb : 0 ≤ b ∧ b ≤ 3) : ¬ mOo b 276 5 := by unfold mOo; omega
theorem no_80_11 {b : Int} (hb : 0 ≤ b ∧ b ≤ 3) : ¬ mOo b 276 (36 * b + 20) := by unfold mOo; omega
theorem su_80_22 {t : Int} {c k : Int} (q : mPt t c k) : mGr c k := by
  unfold mPt at q
  rcases q with ⟨(q | q), ⟨q, q⟩⟩
  · exact Or.inl (by omega)
  · exact Or.inr (Or.inl (by omega))
theorem su_80_23 {c k : Int} (q : mSt c k) : mGr c k := by
  unfold mSt at q
  rcases q with ⟨q, (⟨q, (⟨q, (q | q)⟩)⟩)⟩
  · exact Or.inr (Or.inr ⟨(by omega), Or.inr (Or.inr (Or.inr ⟨(by omega), ⟨(by omega), Or.inr (Or.inl (by omega))⟩⟩))⟩)
  · exact Or.inr (Or.inr ⟨(by omega), Or.inr (Or.inr (Or.inr ⟨(by omega), ⟨(by omega), Or.inr (Or.inr (by omega))⟩⟩))⟩)
theorem su_80_24 {c k : Int} (q : mE c k) : mGr c k := by
  unfold mE at q
  rcases q with ⟨q, (q | q)⟩
  · exact Or.inr (Or.inr ⟨(by omega), Or.inr (Or.inl (by omega))⟩)
  · exact Or.inr (Or.inr ⟨(by omega), Or.inr (Or.inr (Or.inl (by omega)))⟩)
theorem su_80_25 {b : Int} {c k : Int} (q : mP c k) : mOo b c k := by
  unfold mP at q
  rcases q with q | q
  · exact Or.inl (by omega)
  · exact Or.inr (Or.inl (by omega))
theorem su_80_26 {c k : Int} (q : mP c k) : mGr c k := by
  unfold mP at q
  rcases q with q | q
  · exact Or.inl (by omega)
  · exact Or.inr (Or.inl (by omega))
theorem su_80_27 {t : Int} {c k : Int} (q : mPt t c k) : mP c k := by
  unfold mPt at q
  rcases q with ⟨(q | q), ⟨q, q⟩⟩
  · exact Or.inl (by omega)
  · exact Or.inr (by omega)
set_option maxHeartbeats 4000000 in
theorem c_396 {d : Nat} (hd : 27 ≤ d) {w : eW} (hT : e_Has mTy w) {a : Int} (ha : 0 ≤ a ∧ a ≤ 3) (hOr : mOr w (w 275 40)) (hE : w 276 5 ≤ 2147483600) : e_Ok 20 elay ecode eI d 396 (0, [(0, (1, 275)), (1, (0, a))], [], w) (fun r w' => ∃ z : Int, r = [(0, z)] ∧ (0 ≤ z ∧ z ≤ 1) ∧ e_fr mGr w w' ∧ e_Has mTy w' ∧ (w 276 5 ≤ w' 276 5 ∧ w' 276 5 ≤ w 276 5 + 1) ∧ mOr w' (w 275 40) ∧ (∀ b, 0 ≤ b → b ≤ 3 → w' 276 (36 * b + 20) = 0 ∨ w' 276 (36 * b + 20) = w 276 (36 * b + 20))) := by
  obtain ⟨d, rfl⟩ : ∃ e, d = e + 1 := ⟨d - 1, by omega⟩
  have hja := (e_Has.get hT (c := 286) (k := a) (lo := 0) (hi := 6) (mt_o rfl) (by decide))
  have hhl := e_Has.get hT (nR_HOLDS (a := a) ha) (by decide)
  have hpp := e_Has.get hT (c := 275) (k := 40) (lo := 0) (hi := 32) (mt_o rfl) (by decide)
  refine e_Ok.ps1 (x := (1, 275)) (q := 1) 1 rfl ?_
  refine e_Ok.getr (z := 276) rfl (el_o rfl) rfl (ef_o rfl) (e_Has.eq hT (mt_o rfl)) ⟨by decide, by decide⟩ ?_
  refine e_Ok.ps1 (x := (0, a)) (q := 5) 1 rfl ?_
  refine e_Ok.callS rfl (e_dq hd rfl) rfl rfl (c_268 (by omega)) (fun r1 w2 h3 => ?_)
  obtain ⟨rfl, rfl⟩ := h3
  refine e_Ok.nrm (q := 8) (st' := [(0, 36 * a + 16), (1, 276)]) rfl rfl ?_
  refine e_Ok.ps1 (x := (0, 1)) (q := 9) 1 rfl ?_
  refine e_Ok.add (z := 36 * a + 17) rfl (e_adl (by decide)) (by omega) ?_
  have h4 := (e_Has.get hT (c := 276) (k := 36 * a + 17) (lo := (-1)) (hi := 31) (nR_HOLDS (a := a) (by omega)) (by decide))
  refine e_Ok.ald (z := w 276 (36 * a + 17)) rfl (el_o rfl) rfl (by omega) rfl (e_bq h4 (by decide) (by decide)) ?_
  refine e_Ok.if1 rfl (fun h5 => ?_) (fun h5 => ?_)
  · replace h5 : (w 276 (36 * a + 17) : Int) < 0 := h5
    refine e_Ok.ps3 (x := (0, 0)) (y := (0, a)) (z := (1, 275)) (q := 19) 3 rfl ?_
    refine e_Ok.callV rfl (e_dq hd rfl) rfl rfl rfl rfl (c_301_0 (e_dq hd rfl) hT (by omega)) (fun r6 w7 h8 => ?_)
    obtain ⟨rfl, q9, q9k⟩ := h8
    refine e_Ok.nrm (q := 22) (st' := []) rfl rfl ?_
    refine e_Ok.ps1 (x := (1, 275)) (q := 23) 1 rfl ?_
    refine e_Ok.getr (z := 321) rfl (el_o rfl) rfl (ef_o rfl) ((q9 275 55 (by first | exact no_80_0 | (unfold mPt; omega))).trans (e_Has.eq hT (mt_o rfl))) ⟨by decide, by decide⟩ ?_
    refine e_Ok.ps2 (x := (0, a)) (y := (0, 7)) (q := 29) 2 rfl ?_
    refine e_Ok.mul (z := 7 * a) rfl rfl (by omega) ?_
    refine e_Ok.ps1 (x := (1, 275)) (q := 31) 1 rfl ?_
    refine e_Ok.getr (z := 286) rfl (el_o rfl) rfl (ef_o rfl) ((q9 275 15 (by first | exact no_80_0 | (unfold mPt; omega))).trans (e_Has.eq hT (mt_o rfl))) ⟨by decide, by decide⟩ ?_
    refine e_Ok.ps1 (x := (0, a)) (q := 35) 1 rfl ?_
    have h11 := (e_Has.get hT (c := 286) (k := a) (lo := 0) (hi := 6) (mt_o rfl) (by decide))
    refine e_Ok.ald (z := w 286 a) rfl (el_o rfl) rfl (by omega) ((q9 286 a (by first | exact no_80_1 | (unfold mPt; omega))).trans rfl) (e_bq h11 (by decide) (by decide)) ?_
    refine e_Ok.add (z := 7 * a + w 286 a) rfl rfl (by omega) ?_
    have h12 := (q9k.1 (7 * a + w 286 a) (by omega) (by omega))
    refine e_Ok.ald (z := w7 321 (7 * a + w 286 a)) rfl (el_o rfl) rfl (by omega) rfl (by omega) ?_
    refine e_Ok.run (t' := (41, [(2, (4, w7 321 (7 * a + w 286 a))), (0, (1, 275)), (1, (0, a))], [(1, 275)], w7)) 3 rfl ?_
    refine e_Ok.getr (z := 322) rfl (el_o rfl) rfl (ef_o rfl) ((q9 275 56 (by first | exact no_80_0 | (unfold mPt; omega))).trans (e_Has.eq hT (mt_o rfl))) ⟨by decide, by decide⟩ ?_
    refine e_Ok.ps2 (x := (0, a)) (y := (0, 7)) (q := 47) 2 rfl ?_
    refine e_Ok.mul (z := 7 * a) rfl rfl (by omega) ?_
    refine e_Ok.ps1 (x := (1, 275)) (q := 49) 1 rfl ?_
    refine e_Ok.getr (z := 286) rfl (el_o rfl) rfl (ef_o rfl) ((q9 275 15 (by first | exact no_80_0 | (unfold mPt; omega))).trans (e_Has.eq hT (mt_o rfl))) ⟨by decide, by decide⟩ ?_
    refine e_Ok.ps1 (x := (0, a)) (q := 53) 1 rfl ?_
    refine e_Ok.ald (z := w 286 a) rfl (el_o rfl) rfl (by omega) ((q9 286 a (by first | exact no_80_1 | (unfold mPt; omega))).trans rfl) (by omega) ?_
    refine e_Ok.add (z := 7 * a + w 286 a) rfl rfl (by omega) ?_
    have h13 := (q9k.2 (7 * a + w 286 a) (by omega) (by omega))
    refine e_Ok.ald (z := w7 322 (7 * a + w 286 a)) rfl (el_o rfl) rfl (by omega) rfl (by omega) ?_
    refine e_Ok.run (t' := (63, [(6, (0, (-1))), (4, (4, w7 322 (7 * a + w 286 a))), (2, (4, w7 321 (7 * a + w 286 a))), (0, (1, 275)), (1, (0, a))], [(1, 275)], w7)) 5 rfl ?_
    refine e_Ok.getr (z := 285) rfl (el_o rfl) rfl (ef_o rfl) ((q9 275 14 (by first | exact no_80_0 | (unfold mPt; omega))).trans (e_Has.eq hT (mt_o rfl))) ⟨by decide, by decide⟩ ?_
    refine e_Ok.ps1 (x := (0, a)) (q := 67) 1 rfl ?_
    have h14 := (e_Has.get hT (c := 285) (k := a) (lo := 0) (hi := 800) (mt_o rfl) (by decide))
    refine e_Ok.ald (z := w 285 a) rfl (el_o rfl) rfl (by omega) ((q9 285 a (by first | exact no_80_2 | (unfold mPt; omega))).trans rfl) (e_bq h14 (by decide) (by decide)) ?_
    refine e_Ok.run (t' := (70, [(6, (0, (-1))), (4, (4, w7 322 (7 * a + w 286 a))), (2, (4, w7 321 (7 * a + w 286 a))), (0, (1, 275)), (1, (0, a))], [(1, 275), (4, w 285 a)], w7)) 2 rfl ?_
    refine e_Ok.getr (z := 285) rfl (el_o rfl) rfl (ef_o rfl) ((q9 275 14 (by first | exact no_80_0 | (unfold mPt; omega))).trans (e_Has.eq hT (mt_o rfl))) ⟨by decide, by decide⟩ ?_
    refine e_Ok.ps1 (x := (0, a)) (q := 74) 1 rfl ?_
    refine e_Ok.ald (z := w 285 a) rfl (el_o rfl) rfl (by omega) ((q9 285 a (by first | exact no_80_2 | (unfold mPt; omega))).trans rfl) (by omega) ?_
    refine e_Ok.run (t' := (76, [(6, (0, (-1))), (4, (4, w7 322 (7 * a + w 286 a))), (2, (4, w7 321 (7 * a + w 286 a))), (0, (1, 275)), (1, (0, a))], [(4, w 285 a), (4, w 285 a)], w7)) 1 rfl ?_
    refine e_Ok.anyL rfl ⟨_, rfl⟩ (fun x15 => ?_)
    refine e_Ok.ps1 (x := (4, 1)) (q := 78) 1 rfl ?_
    refine e_Ok.anyL rfl ⟨_, rfl⟩ (fun x16 => ?_)
    refine e_Ok.run (t' := (84, [(9, (0, 0)), (7, (4, x16)), (6, (0, (-1))), (4, (4, w7 322 (7 * a + w 286 a))), (2, (4, w7 321 (7 * a + w 286 a))), (0, (1, 275)), (1, (0, a))], [], w7)) 3 rfl ?_
    have hL17 : ∀ (nn : Nat) (y6 : Int) (y7 : Int) (y9 : Int) (v1 : eW), e_fr mGr w v1 ∧ e_Has mTy v1 ∧ (-1 ≤ y6 ∧ y6 ≤ 31) ∧ (0 ≤ y9 ∧ y9 ≤ 32) ∧ ((0 ≤ y6 → y6 < w 275 40 ∧ (w 276 (4 * y6 + 20576) < 4 ∨ w 276 (4 * y6 + 20576) = 8))) ∧ e_fr mP w v1 → 33 - y9 < nn → e_Ok 20 elay ecode eI (d + 1) 396 (84, [(0, (1, 275)), (1, (0, a)), (2, (4, w7 321 (7 * a + w 286 a))), (4, (4, w7 322 (7 * a + w 286 a))), (6, (0, y6)), (7, (4, y7)), (9, (0, y9))], [], v1) (fun r w' => ∃ z : Int, r = [(0, z)] ∧ (0 ≤ z ∧ z ≤ 1) ∧ e_fr mGr w w' ∧ e_Has mTy w' ∧ (w 276 5 ≤ w' 276 5 ∧ w' 276 5 ≤ w 276 5 + 1) ∧ mOr w' (w 275 40) ∧ (∀ b, 0 ≤ b → b ≤ 3 → w' 276 (36 * b + 20) = 0 ∨ w' 276 (36 * b + 20) = w 276 (36 * b + 20))) := by
      intro nn
      induction nn with
      | zero => intro y6 y7 y9 v1 hj hm; obtain ⟨j19, j20, j21, j22, j23, j24⟩ := hj; exfalso; omega
      | succ nn ih18 =>
        intro y6 y7 y9 v1 hj hm
        obtain ⟨j19, j20, j21, j22, j23, j24⟩ := hj
        refine e_Ok.run (t' := (87, [(0, (1, 275)), (1, (0, a)), (2, (4, w7 321 (7 * a + w 286 a))), (4, (4, w7 322 (7 * a + w 286 a))), (6, (0, y6)), (7, (4, y7)), (9, (0, y9))], [(1, 275), (0, y9)], v1)) 2 rfl ?_
        refine e_Ok.getf (z := w 275 40) rfl (el_o rfl) rfl (ef_o rfl) ((j24 275 40 no_80_3).trans rfl) (by omega) ?_
        refine e_Ok.if2 rfl (fun h25 => ?_) (fun h25 => ?_)
        · replace h25 : (y9 : Int) ≥ w 275 40 := h25
          refine e_Ok.ps1 (x := (0, y6)) (q := 185) 1 rfl ?_
          refine e_Ok.if1 rfl (fun h26 => ?_) (fun h26 => ?_)
          · replace h26 : (y6 : Int) ≥ 0 := h26
            have hy6 := j23 (by omega)
            have hpw := e_Has.get hT (nR_WHERE (p := y6) (by omega)) (by decide)
            refine e_Ok.ps1 (x := (1, 275)) (q := 191) 1 rfl ?_
            refine e_Ok.getr (z := 276) rfl (el_o rfl) rfl (ef_o rfl) ((j24 275 0 no_80_3).trans (e_Has.eq hT (mt_o rfl))) ⟨by decide, by decide⟩ ?_
            refine e_Ok.ps1 (x := (0, y6)) (q := 196) 1 rfl ?_
            refine e_Ok.callS rfl (e_dq hd rfl) rfl rfl (c_392 (by omega)) (fun r27 w28 h29 => ?_)
            obtain ⟨rfl, rfl⟩ := h29
            refine e_Ok.nrm (q := 199) (st' := [(0, 4 * y6 + 20576), (1, 276)]) rfl rfl ?_
            refine e_Ok.ald (z := w 276 (4 * y6 + 20576)) rfl (el_o rfl) rfl (by omega) ((j24 276 (4 * y6 + 20576) no_80_4).trans rfl) (by omega) ?_
            refine e_Ok.run (t' := (205, [(9, (0, w 276 (4 * y6 + 20576))), (0, (1, 275)), (1, (0, a)), (2, (4, w7 321 (7 * a + w 286 a))), (4, (4, w7 322 (7 * a + w 286 a))), (6, (0, y6)), (7, (4, y7))], [(0, 4), (0, w 276 (4 * y6 + 20576))], v1)) 3 rfl ?_
            refine e_Ok.if2 rfl (fun h30 => ?_) (fun h30 => ?_)
            · replace h30 : (w 276 (4 * y6 + 20576) : Int) ≥ 4 := h30
              refine e_Ok.ps1 (x := (1, 275)) (q := 299) 1 rfl ?_
              refine e_Ok.getr (z := 276) rfl (el_o rfl) rfl (ef_o rfl) ((j24 275 0 no_80_3).trans (e_Has.eq hT (mt_o rfl))) ⟨by decide, by decide⟩ ?_
              refine e_Ok.ps1 (x := (0, y6)) (q := 304) 1 rfl ?_
              refine e_Ok.callS rfl (e_dq hd rfl) rfl rfl (c_392 (by omega)) (fun r31 w32 h33 => ?_)
              obtain ⟨rfl, rfl⟩ := h33
              refine e_Ok.nrm (q := 307) (st' := [(0, 4 * y6 + 20576), (1, 276)]) rfl rfl ?_
              refine e_Ok.ps2 (x := (0, a)) (y := (0, 4)) (q := 309) 2 rfl ?_
              refine e_Ok.add (z := a + 4) rfl (Int.add_comm _ _) (by omega) ?_
              refine e_Ok.ast rfl (el_o rfl) rfl rfl (by omega) ?_
              generalize hw34 : e_up v1 276 (4 * y6 + 20576) (a + 4) = w34
              have hT36 : e_Has mTy w34 := e_Has.upr j20 hw34 (nR_WHERE (p := y6) (by omega)) (by omega)
              refine e_Ok.ps1 (x := (1, 275)) (q := 312) 1 rfl ?_
              refine e_Ok.getr (z := 276) rfl (el_o rfl) rfl (ef_o rfl) (e_uq hw34 (Or.inl (by decide)) ((j24 275 0 no_80_3).trans (e_Has.eq hT (mt_o rfl)))) ⟨by decide, by decide⟩ ?_
              refine e_Ok.ps1 (x := (0, y6)) (q := 317) 1 rfl ?_
              refine e_Ok.callS rfl (e_dq hd rfl) rfl rfl (c_392 (by omega)) (fun r37 w38 h40 => ?_)
              obtain ⟨rfl, rfl⟩ := h40
              refine e_Ok.nrm (q := 320) (st' := [(0, 4 * y6 + 20576), (1, 276)]) rfl rfl ?_
              refine e_Ok.ps1 (x := (0, 3)) (q := 321) 1 rfl ?_
              refine e_Ok.add (z := 4 * y6 + 20579) rfl (e_adl (by decide)) (by omega) ?_
              refine e_Ok.ps1 (x := (0, 0)) (q := 323) 1 rfl ?_
              refine e_Ok.ast rfl (el_o rfl) rfl rfl (by omega) ?_
              generalize hw41 : e_up w34 276 (4 * y6 + 20579) 0 = w41
              have hT43 : e_Has mTy w41 := e_Has.upr hT36 hw41 (nR_PART3 (p := y6) (by omega)) (by omega)
              refine e_Ok.ps1 (x := (1, 275)) (q := 325) 1 rfl ?_
              refine e_Ok.getr (z := 276) rfl (el_o rfl) rfl (ef_o rfl) (e_uq hw41 (Or.inl (by decide)) (e_uq hw34 (Or.inl (by decide)) ((j24 275 0 no_80_3).trans (e_Has.eq hT (mt_o rfl))))) ⟨by decide, by decide⟩ ?_
              refine e_Ok.ps1 (x := (0, a)) (q := 329) 1 rfl ?_
              refine e_Ok.callS rfl (e_dq hd rfl) rfl rfl (c_268 (by omega)) (fun r44 w45 h46 => ?_)
              obtain ⟨rfl, rfl⟩ := h46
              refine e_Ok.nrm (q := 332) (st' := [(0, 36 * a + 16), (1, 276)]) rfl rfl ?_
              refine e_Ok.ps1 (x := (0, 1)) (q := 333) 1 rfl ?_
              refine e_Ok.add (z := 36 * a + 17) rfl (e_adl (by decide)) (by omega) ?_
              refine e_Ok.ps1 (x := (0, y6)) (q := 336) 1 rfl ?_
              refine e_Ok.ast rfl (el_o rfl) rfl rfl (by omega) ?_
              generalize hw47 : e_up w41 276 (36 * a + 17) y6 = w47
              have hT49 : e_Has mTy w47 := e_Has.upr hT43 hw47 (nR_HOLDS (a := a) (by omega)) (by omega)
              refine e_Ok.ps2 (x := (0, (-1))) (y := (1, 275)) (q := 339) 2 rfl ?_
              refine e_Ok.callV rfl (e_dq hd rfl) rfl rfl rfl rfl (c_390 (e_dq hd rfl) hT49) (fun r50 w51 h52 => ?_)
              obtain ⟨rfl, q53, q53T, q53a, q53b⟩ := h52
              refine e_Ok.nrm (q := 342) (st' := []) rfl rfl ?_
              refine e_Ok.ps4 (x := (0, y6)) (y := (0, a)) (z := (0, 6)) (u := (1, 275)) (q := 348) 4 rfl ?_
              have e58 : w51 276 5 = w 276 5 := ((q53 276 5 no_80_5).trans (e_uq hw47 (Or.inr (by omega)) (e_uq hw41 (Or.inr (by omega)) (e_uq hw34 (Or.inr (by omega)) ((j24 276 5 no_80_4).trans rfl)))))
              refine e_Ok.callV rfl (e_dq hd rfl) rfl rfl rfl rfl (c_319 q53T (by omega) (by omega) (by omega) (by omega)) (fun r55 w56 h57 => ?_)
              obtain ⟨rfl, q59, q59T, q59n⟩ := h57
              refine e_Ok.nrm (q := 351) (st' := []) rfl rfl ?_
              refine e_Ok.ps1 (x := (0, 1)) (q := 352) 1 rfl ?_
              refine e_Ok.rets rfl rfl ?_
              have e61 : w56 276 5 = w56 276 5 := rfl
              exact ⟨_, rfl, by omega, (show e_fr mGr w w56 from e_fr.trans (show e_fr mGr w w51 from e_fr.trans (show e_fr mGr w w47 from e_fr.up (show e_fr mGr w w41 from e_fr.up (show e_fr mGr w w34 from e_fr.up j19 hw34 (by unfold mGr; omega)) hw41 (by unfold mGr; omega)) hw47 (by first | exact Or.inr (Or.inr ⟨rfl, Or.inr (Or.inr (Or.inr ⟨(by omega), ⟨(by omega), Or.inl (by omega)⟩⟩))⟩) | (unfold mGr; omega))) (e_fr.mono q53 (fun c k q => su_80_23 q))) (e_fr.mono q59 (fun c k q => su_80_24 q))), q59T, by omega, mOr.up hOr (by omega) (e_Has.orn hT) (e_Has.orw hT (by omega)) (by omega) ha (by omega) ((q59 276 (4 * y6 + 20576) (by unfold mE; omega)).trans ((q53 276 (4 * y6 + 20576) (by unfold mSt; omega)).trans (e_uq hw47 (Or.inr (by omega)) (e_uq hw41 (Or.inr (by omega)) (e_ue hw34))))) ((q59 276 (36 * a + 17) (by first | exact no_80_6 (by omega) | (unfold mE; omega))).trans ((q53 276 (36 * a + 17) (by first | exact no_80_7 (by omega) | (unfold mSt; omega))).trans (e_ue hw47))) (fun k q1 q2 q3 => by unfold orK at q1; exact ((q59 276 k (by unfold mE; omega)).trans ((q53 276 k (by unfold mSt; omega)).trans (e_uq hw47 (Or.inr (by omega)) (e_uq hw41 (Or.inr (by omega)) (e_uq hw34 (Or.inr (by omega)) ((j24 276 k no_80_4).trans rfl))))))), (fun b g1 g2 => by have e := q53b b g1 g2; rw [show w47 276 (36 * b + 20) = w 276 (36 * b + 20) from (e_uq hw47 (Or.inr (by omega)) (e_uq hw41 (Or.inr (by omega)) (e_uq hw34 (Or.inr (by omega)) ((j24 276 (36 * b + 20) no_80_4).trans rfl))))] at e; rw [show w56 276 (36 * b + 20) = w51 276 (36 * b + 20) from ((q59 276 (36 * b + 20) (by first | exact no_80_8 (by omega) | (unfold mE; omega))).trans rfl)]; exact e)⟩
            · replace h30 : (w 276 (4 * y6 + 20576) : Int) < 4 := Int.not_le.mp (show ¬ ((w 276 (4 * y6 + 20576) : Int) ≥ 4) from h30)
              obtain ⟨i0, hi1, hi2, hi3⟩ := hOr.2.2.1 y6 (by omega) (by omega) (by omega)
              have hnb := e_Has.get hT (nR_ORDER (b := w 276 (4 * y6 + 20576)) (by omega)) (by decide)
              refine e_Ok.ps3 (x := (0, w 276 (4 * y6 + 20576))) (y := (0, 33)) (z := (0, 20704)) (q := 215) 3 rfl ?_
              refine e_Ok.mul (z := 33 * w 276 (4 * y6 + 20576)) rfl rfl (by omega) ?_
              refine e_Ok.add (z := 33 * w 276 (4 * y6 + 20576) + 20704) rfl (Int.add_comm _ _) (by omega) ?_
              refine e_Ok.run (t' := (222, [(11, (0, 1)), (10, (0, 33 * w 276 (4 * y6 + 20576) + 20704)), (9, (0, w 276 (4 * y6 + 20576))), (0, (1, 275)), (1, (0, a)), (2, (4, w7 321 (7 * a + w 286 a))), (4, (4, w7 322 (7 * a + w 286 a))), (6, (0, y6)), (7, (4, y7))], [], v1)) 3 rfl ?_
              have hL62 : ∀ (nn : Nat) (y11 : Int), 1 ≤ y11 ∧ y11 ≤ i0 → 33 - y11 < nn → e_Ok 20 elay ecode eI (d + 1) 396 (222, [(0, (1, 275)), (1, (0, a)), (6, (0, y6)), (9, (0, w 276 (4 * y6 + 20576))), (10, (0, 33 * w 276 (4 * y6 + 20576) + 20704)), (11, (0, y11))], [], v1) (fun r w' => ∃ z : Int, r = [(0, z)] ∧ (0 ≤ z ∧ z ≤ 1) ∧ e_fr mGr w w' ∧ e_Has mTy w' ∧ (w 276 5 ≤ w' 276 5 ∧ w' 276 5 ≤ w 276 5 + 1) ∧ mOr w' (w 275 40) ∧ (∀ b, 0 ≤ b → b ≤ 3 → w' 276 (36 * b + 20) = 0 ∨ w' 276 (36 * b + 20) = w 276 (36 * b + 20))) := by
                intro nn
                induction nn with
                | zero => intro y11 hj hm; obtain j64 := hj; exfalso; omega
                | succ nn ih63 =>
                  intro y11 hj hm
                  obtain j64 := hj
                  refine e_Ok.run (t' := (223, [(0, (1, 275)), (1, (0, a)), (6, (0, y6)), (9, (0, w 276 (4 * y6 + 20576))), (10, (0, 33 * w 276 (4 * y6 + 20576) + 20704)), (11, (0, y11))], [(1, 275)], v1)) 1 rfl ?_
                  refine e_Ok.getr (z := 276) rfl (el_o rfl) rfl (ef_o rfl) ((j24 275 0 no_80_3).trans (e_Has.eq hT (mt_o rfl))) ⟨by decide, by decide⟩ ?_
                  refine e_Ok.ps2 (x := (0, y11)) (y := (0, 33 * w 276 (4 * y6 + 20576) + 20704)) (q := 230) 2 rfl ?_
                  refine e_Ok.add (z := 33 * w 276 (4 * y6 + 20576) + y11 + 20704) rfl (by omega) (by omega) ?_
                  have h65 := (e_Has.get hT (c := 276) (k := 33 * w 276 (4 * y6 + 20576) + y11 + 20704) (lo := 0) (hi := 31) (nR_ORD (w 276 (4 * y6 + 20576)) (by omega) (by omega)) (by decide))
                  refine e_Ok.ald (z := w 276 (33 * w 276 (4 * y6 + 20576) + y11 + 20704)) rfl rfl rfl (by omega) ((j24 276 (33 * w 276 (4 * y6 + 20576) + y11 + 20704) no_80_4).trans rfl) (e_bq h65 (by decide) (by decide)) ?_
                  refine e_Ok.ps1 (x := (0, y6)) (q := 234) 1 rfl ?_
                  refine e_Ok.if2 rfl (fun h66 => ?_) (fun h66 => ?_)
                  · replace h66 : (w 276 (33 * w 276 (4 * y6 + 20576) + y11 + 20704) : Int) = y6 := h66
                    have hk : w 276 (33 * w 276 (4 * y6 + 20576) + y11 + 20704) = y6 := by omega
                    refine e_Ok.run (t' := (247, [(12, (0, y11)), (0, (1, 275)), (1, (0, a)), (6, (0, y6)), (9, (0, w 276 (4 * y6 + 20576))), (10, (0, 33 * w 276 (4 * y6 + 20576) + 20704)), (11, (0, y11))], [], v1)) 2 rfl ?_
                    have hL67 : ∀ (nn : Nat) (y12 : Int) (v2 : eW), e_fr mGr w v2 ∧ e_Has mTy v2 ∧ (y11 ≤ y12 ∧ y12 ≤ w 276 (33 * w 276 (4 * y6 + 20576) + 20704)) ∧ (∀ i, y11 ≤ i → i < y12 → v2 276 (33 * w 276 (4 * y6 + 20576) + i + 20704) = w 276 (33 * w 276 (4 * y6 + 20576) + i + 20705)) ∧ (∀ i, 1 ≤ i → i ≤ 32 → (i < y11 ∨ y12 ≤ i) → v2 276 (33 * w 276 (4 * y6 + 20576) + i + 20704) = w 276 (33 * w 276 (4 * y6 + 20576) + i + 20704)) ∧ e_fr (mOo (w 276 (4 * y6 + 20576))) w v2 → 33 - y12 < nn → e_Ok 20 elay ecode eI (d + 1) 396 (247, [(0, (1, 275)), (1, (0, a)), (6, (0, y6)), (9, (0, w 276 (4 * y6 + 20576))), (10, (0, 33 * w 276 (4 * y6 + 20576) + 20704)), (11, (0, y11)), (12, (0, y12))], [], v2) (fun r w' => ∃ z : Int, r = [(0, z)] ∧ (0 ≤ z ∧ z ≤ 1) ∧ e_fr mGr w w' ∧ e_Has mTy w' ∧ (w 276 5 ≤ w' 276 5 ∧ w' 276 5 ≤ w 276 5 + 1) ∧ mOr w' (w 275 40) ∧ (∀ b, 0 ≤ b → b ≤ 3 → w' 276 (36 * b + 20) = 0 ∨ w' 276 (36 * b + 20) = w 276 (36 * b + 20))) := by
                      intro nn
                      induction nn with
                      | zero => intro y12 v2 hj hm; obtain ⟨j69, j70, j71, j72, j73, j74⟩ := hj; exfalso; omega
                      | succ nn ih68 =>
                        intro y12 v2 hj hm
                        obtain ⟨j69, j70, j71, j72, j73, j74⟩ := hj
                        refine e_Ok.run (t' := (250, [(0, (1, 275)), (1, (0, a)), (6, (0, y6)), (9, (0, w 276 (4 * y6 + 20576))), (10, (0, 33 * w 276 (4 * y6 + 20576) + 20704)), (11, (0, y11)), (12, (0, y12))], [(1, 275), (0, y12)], v2)) 2 rfl ?_
                        refine e_Ok.getr (z := 276) rfl (el_o rfl) rfl (ef_o rfl) ((j74 275 0 (by first | exact no_80_9 | (unfold mOo; omega))).trans (e_Has.eq hT (mt_o rfl))) ⟨by decide, by decide⟩ ?_
                        refine e_Ok.ps1 (x := (0, 33 * w 276 (4 * y6 + 20576) + 20704)) (q := 255) 1 rfl ?_
                        refine e_Ok.ald (z := w 276 (33 * w 276 (4 * y6 + 20576) + 20704)) rfl rfl rfl (by omega) ((j74 276 (33 * w 276 (4 * y6 + 20576) + 20704) (by unfold mOo; omega)).trans rfl) (by omega) ?_
                        refine e_Ok.if2 rfl (fun h75 => ?_) (fun h75 => ?_)
                        · replace h75 : (y12 : Int) ≥ w 276 (33 * w 276 (4 * y6 + 20576) + 20704) := h75
                          refine e_Ok.ps1 (x := (1, 275)) (q := 288) 1 rfl ?_
                          refine e_Ok.getr (z := 276) rfl (el_o rfl) rfl (ef_o rfl) ((j74 275 0 (by first | exact no_80_9 | (unfold mOo; omega))).trans (e_Has.eq hT (mt_o rfl))) ⟨by decide, by decide⟩ ?_
                          refine e_Ok.ps3 (x := (0, 33 * w 276 (4 * y6 + 20576) + 20704)) (y := (1, 276)) (z := (0, 33 * w 276 (4 * y6 + 20576) + 20704)) (q := 294) 2 rfl ?_
                          refine e_Ok.ald (z := w 276 (33 * w 276 (4 * y6 + 20576) + 20704)) rfl rfl rfl (by omega) ((j74 276 (33 * w 276 (4 * y6 + 20576) + 20704) (by unfold mOo; omega)).trans rfl) (by omega) ?_
                          refine e_Ok.ps1 (x := (0, 1)) (q := 296) 1 rfl ?_
                          refine e_Ok.sub' (z := w 276 (33 * w 276 (4 * y6 + 20576) + 20704) - 1) rfl rfl (by omega) ?_
                          refine e_Ok.ast rfl (el_o rfl) rfl rfl (by omega) ?_
                          generalize hw76 : e_up v2 276 (33 * w 276 (4 * y6 + 20576) + 20704) (w 276 (33 * w 276 (4 * y6 + 20576) + 20704) - 1) = w76
                          have hT78 : e_Has mTy w76 := e_Has.upr j70 hw76 (nR_ORDER (b := w 276 (4 * y6 + 20576)) (by omega)) (by omega)
                          refine e_Ok.ps1 (x := (1, 275)) (q := 299) 1 rfl ?_
                          refine e_Ok.getr (z := 276) rfl (el_o rfl) rfl (ef_o rfl) (e_uq hw76 (Or.inl (by decide)) ((j74 275 0 (by first | exact no_80_9 | (unfold mOo; omega))).trans (e_Has.eq hT (mt_o rfl)))) ⟨by decide, by decide⟩ ?_
                          refine e_Ok.ps1 (x := (0, y6)) (q := 304) 1 rfl ?_
                          refine e_Ok.callS rfl (e_dq hd rfl) rfl rfl (c_392 (by omega)) (fun r79 w80 h81 => ?_)
                          obtain ⟨rfl, rfl⟩ := h81
                          refine e_Ok.nrm (q := 307) (st' := [(0, 4 * y6 + 20576), (1, 276)]) rfl rfl ?_
                          refine e_Ok.ps2 (x := (0, a)) (y := (0, 4)) (q := 309) 2 rfl ?_
                          refine e_Ok.add (z := a + 4) rfl (Int.add_comm _ _) (by omega) ?_
                          refine e_Ok.ast rfl (el_o rfl) rfl rfl (by omega) ?_
                          generalize hw82 : e_up w76 276 (4 * y6 + 20576) (a + 4) = w82
                          have hT84 : e_Has mTy w82 := e_Has.upr hT78 hw82 (nR_WHERE (p := y6) (by omega)) (by omega)
                          refine e_Ok.ps1 (x := (1, 275)) (q := 312) 1 rfl ?_
                          refine e_Ok.getr (z := 276) rfl (el_o rfl) rfl (ef_o rfl) (e_uq hw82 (Or.inl (by decide)) (e_uq hw76 (Or.inl (by decide)) ((j74 275 0 (by first | exact no_80_9 | (unfold mOo; omega))).trans (e_Has.eq hT (mt_o rfl))))) ⟨by decide, by decide⟩ ?_
                          refine e_Ok.ps1 (x := (0, y6)) (q := 317) 1 rfl ?_
                          refine e_Ok.callS rfl (e_dq hd rfl) rfl rfl (c_392 (by omega)) (fun r85 w86 h87 => ?_)
                          obtain ⟨rfl, rfl⟩ := h87
                          refine e_Ok.nrm (q := 320) (st' := [(0, 4 * y6 + 20576), (1, 276)]) rfl rfl ?_
                          refine e_Ok.ps1 (x := (0, 3)) (q := 321) 1 rfl ?_
                          refine e_Ok.add (z := 4 * y6 + 20579) rfl (e_adl (by decide)) (by omega) ?_
                          refine e_Ok.ps1 (x := (0, 0)) (q := 323) 1 rfl ?_
                          refine e_Ok.ast rfl (el_o rfl) rfl rfl (by omega) ?_
                          generalize hw88 : e_up w82 276 (4 * y6 + 20579) 0 = w88
                          have hT90 : e_Has mTy w88 := e_Has.upr hT84 hw88 (nR_PART3 (p := y6) (by omega)) (by omega)
                          refine e_Ok.ps1 (x := (1, 275)) (q := 325) 1 rfl ?_
                          refine e_Ok.getr (z := 276) rfl (el_o rfl) rfl (ef_o rfl) (e_uq hw88 (Or.inl (by decide)) (e_uq hw82 (Or.inl (by decide)) (e_uq hw76 (Or.inl (by decide)) ((j74 275 0 (by first | exact no_80_9 | (unfold mOo; omega))).trans (e_Has.eq hT (mt_o rfl)))))) ⟨by decide, by decide⟩ ?_
                          refine e_Ok.ps1 (x := (0, a)) (q := 329) 1 rfl ?_
                          refine e_Ok.callS rfl (e_dq hd rfl) rfl rfl (c_268 (by omega)) (fun r91 w92 h93 => ?_)
                          obtain ⟨rfl, rfl⟩ := h93
                          refine e_Ok.nrm (q := 332) (st' := [(0, 36 * a + 16), (1, 276)]) rfl rfl ?_
                          refine e_Ok.ps1 (x := (0, 1)) (q := 333) 1 rfl ?_
                          refine e_Ok.add (z := 36 * a + 17) rfl (e_adl (by decide)) (by omega) ?_
                          refine e_Ok.ps1 (x := (0, y6)) (q := 336) 1 rfl ?_
                          refine e_Ok.ast rfl (el_o rfl) rfl rfl (by omega) ?_
                          generalize hw94 : e_up w88 276 (36 * a + 17) y6 = w94
                          have hT101 : e_Has mTy w94 := e_Has.upr hT90 hw94 (nR_HOLDS (a := a) (by omega)) (by omega)
                          refine e_Ok.ps2 (x := (0, (-1))) (y := (1, 275)) (q := 339) 2 rfl ?_
                          refine e_Ok.callV rfl (e_dq hd rfl) rfl rfl rfl rfl (c_390 (e_dq hd rfl) hT101) (fun r103 w104 h105 => ?_)
                          obtain ⟨rfl, q106, q106T, q106a, q106b⟩ := h105
                          refine e_Ok.nrm (q := 342) (st' := []) rfl rfl ?_
                          refine e_Ok.ps4 (x := (0, y6)) (y := (0, a)) (z := (0, 6)) (u := (1, 275)) (q := 348) 4 rfl ?_
                          have e111 : w104 276 5 = w 276 5 := ((q106 276 5 no_80_5).trans (e_uq hw94 (Or.inr (by omega)) (e_uq hw88 (Or.inr (by omega)) (e_uq hw82 (Or.inr (by omega)) (e_uq hw76 (Or.inr (by omega)) ((j74 276 5 (by first | exact no_80_10 (by omega) | (unfold mOo; omega))).trans rfl))))))
                          refine e_Ok.callV rfl (e_dq hd rfl) rfl rfl rfl rfl (c_319 q106T (by omega) (by omega) (by omega) (by omega)) (fun r108 w109 h110 => ?_)
                          obtain ⟨rfl, q112, q112T, q112n⟩ := h110
                          refine e_Ok.nrm (q := 351) (st' := []) rfl rfl ?_
                          refine e_Ok.ps1 (x := (0, 1)) (q := 352) 1 rfl ?_
                          refine e_Ok.rets rfl rfl ?_
                          have e114 : w109 276 5 = w109 276 5 := rfl
                          exact ⟨_, rfl, by omega, (show e_fr mGr w w109 from e_fr.trans (show e_fr mGr w w104 from e_fr.trans (show e_fr mGr w w94 from e_fr.up (show e_fr mGr w w88 from e_fr.up (show e_fr mGr w w82 from e_fr.up (show e_fr mGr w w76 from e_fr.up j69 hw76 (by unfold mGr; omega)) hw82 (by unfold mGr; omega)) hw88 (by unfold mGr; omega)) hw94 (by first | exact Or.inr (Or.inr ⟨rfl, Or.inr (Or.inr (Or.inr ⟨(by omega), ⟨(by omega), Or.inl (by omega)⟩⟩))⟩) | (unfold mGr; omega))) (e_fr.mono q106 (fun c k q => su_80_23 q))) (e_fr.mono q112 (fun c k q => su_80_24 q))), q112T, by omega, mOr.grip (b := w 276 (4 * y6 + 20576)) (k := y11) hOr (by omega) (e_Has.orn hT) (e_Has.orw hT (by omega)) (by omega) ha (by omega) (by omega) hk (fun i g1 g2 => Eq.trans ((q112 276 (33 * w 276 (4 * y6 + 20576) + i + 20704) (by unfold mE; omega)).trans ((q106 276 (33 * w 276 (4 * y6 + 20576) + i + 20704) (by unfold mSt; omega)).trans (e_uq hw94 (Or.inr (by omega)) (e_uq hw88 (Or.inr (by omega)) (e_uq hw82 (Or.inr (by omega)) (e_uq hw76 (Or.inr (by omega)) rfl)))))) (j73 i (by omega) (by omega) (by omega))) (fun i g1 g2 => Eq.trans ((q112 276 (33 * w 276 (4 * y6 + 20576) + i + 20704) (by unfold mE; omega)).trans ((q106 276 (33 * w 276 (4 * y6 + 20576) + i + 20704) (by unfold mSt; omega)).trans (e_uq hw94 (Or.inr (by omega)) (e_uq hw88 (Or.inr (by omega)) (e_uq hw82 (Or.inr (by omega)) (e_uq hw76 (Or.inr (by omega)) rfl)))))) (j72 i g1 (by omega))) ((q112 276 (33 * w 276 (4 * y6 + 20576) + 20704) (by unfold mE; omega)).trans ((q106 276 (33 * w 276 (4 * y6 + 20576) + 20704) (by unfold mSt; omega)).trans (e_uq hw94 (Or.inr (by omega)) (e_uq hw88 (Or.inr (by omega)) (e_uq hw82 (Or.inr (by omega)) (e_ue hw76)))))) ((q112 276 (4 * y6 + 20576) (by unfold mE; omega)).trans ((q106 276 (4 * y6 + 20576) (by unfold mSt; omega)).trans (e_uq hw94 (Or.inr (by omega)) (e_uq hw88 (Or.inr (by omega)) (e_ue hw82))))) ((q112 276 (36 * a + 17) (by first | exact no_80_6 (by omega) | (unfold mE; omega))).trans ((q106 276 (36 * a + 17) (by first | exact no_80_7 (by omega) | (unfold mSt; omega))).trans (e_ue hw94))) (fun k q1 q2 q3 q4 => by unfold orK at q1; exact ((q112 276 k (by unfold mE; omega)).trans ((q106 276 k (by unfold mSt; omega)).trans (e_uq hw94 (Or.inr (by omega)) (e_uq hw88 (Or.inr (by omega)) (e_uq hw82 (Or.inr (by omega)) (e_uq hw76 (Or.inr (by omega)) ((j74 276 k (by unfold mOo; omega)).trans rfl)))))))), (fun b g1 g2 => by have e := q106b b g1 g2; rw [show w94 276 (36 * b + 20) = w 276 (36 * b + 20) from (e_uq hw94 (Or.inr (by omega)) (e_uq hw88 (Or.inr (by omega)) (e_uq hw82 (Or.inr (by omega)) (e_uq hw76 (Or.inr (by omega)) ((j74 276 (36 * b + 20) (by first | exact no_80_11 (by omega) | (unfold mOo; omega))).trans rfl)))))] at e; rw [show w109 276 (36 * b + 20) = w104 276 (36 * b + 20) from ((q112 276 (36 * b + 20) (by first | exact no_80_8 (by omega) | (unfold mE; omega))).trans rfl)]; exact e)⟩
                        · replace h75 : (y12 : Int) < w 276 (33 * w 276 (4 * y6 + 20576) + 20704) := Int.not_le.mp (show ¬ ((y12 : Int) ≥ w 276 (33 * w 276 (4 * y6 + 20576) + 20704)) from h75)
                          refine e_Ok.ps1 (x := (1, 275)) (q := 260) 1 rfl ?_
                          refine e_Ok.getr (z := 276) rfl (el_o rfl) rfl (ef_o rfl) ((j74 275 0 (by first | exact no_80_9 | (unfold mOo; omega))).trans (e_Has.eq hT (mt_o rfl))) ⟨by decide, by decide⟩ ?_
                          refine e_Ok.ps2 (x := (0, y12)) (y := (0, 33 * w 276 (4 * y6 + 20576) + 20704)) (q := 267) 2 rfl ?_
                          refine e_Ok.add (z := 33 * w 276 (4 * y6 + 20576) + y12 + 20704) rfl (by omega) (by omega) ?_
                          refine e_Ok.ps1 (x := (1, 275)) (q := 269) 1 rfl ?_
                          refine e_Ok.getr (z := 276) rfl (el_o rfl) rfl (ef_o rfl) ((j74 275 0 (by first | exact no_80_9 | (unfold mOo; omega))).trans (e_Has.eq hT (mt_o rfl))) ⟨by decide, by decide⟩ ?_
                          refine e_Ok.ps2 (x := (0, y12)) (y := (0, 33 * w 276 (4 * y6 + 20576) + 20704)) (q := 276) 2 rfl ?_
                          refine e_Ok.add (z := 33 * w 276 (4 * y6 + 20576) + y12 + 20704) rfl (by omega) (by omega) ?_
                          refine e_Ok.ps1 (x := (0, 1)) (q := 278) 1 rfl ?_
                          refine e_Ok.add (z := 33 * w 276 (4 * y6 + 20576) + y12 + 20705) rfl (e_adl (by decide)) (by omega) ?_
                          have h115 := (e_Has.get j70 (c := 276) (k := 33 * w 276 (4 * y6 + 20576) + y12 + 20705) (lo := 0) (hi := 31) (nR_ORD (w 276 (4 * y6 + 20576)) (by omega) (by omega)) (by decide))
                          refine e_Ok.ald (z := v2 276 (33 * w 276 (4 * y6 + 20576) + y12 + 20705)) rfl rfl rfl (by omega) rfl (e_bq h115 (by decide) (by decide)) ?_
                          refine e_Ok.ast rfl (el_o rfl) rfl rfl (by omega) ?_
                          generalize hw116 : e_up v2 276 (33 * w 276 (4 * y6 + 20576) + y12 + 20704) (v2 276 (33 * w 276 (4 * y6 + 20576) + y12 + 20705)) = w116
                          have hT118 : e_Has mTy w116 := e_Has.upr j70 hw116 (nR_ORD (w 276 (4 * y6 + 20576)) (by omega) (by omega)) (by omega)
                          refine e_Ok.inc (z := y12 + 1) rfl rfl (by first | with_reducible rfl | omega) (by omega) ?_
                          show e_Ok 20 elay ecode eI (d + 1) 396 (284, [(12, (0, y12 + 1)), (0, (1, 275)), (1, (0, a)), (6, (0, y6)), (9, (0, w 276 (4 * y6 + 20576))), (10, (0, 33 * w 276 (4 * y6 + 20576) + 20704)), (11, (0, y11))], [], w116) _
                          refine e_Ok.ps0 (q := 247) 1 rfl ?_
                          refine e_Ok.sub eAlk (e_sub_of rfl ?_) (ih68 (y12 + 1) w116 ⟨(show e_fr mGr w w116 from e_fr.up j69 hw116 (by first | exact Or.inr (Or.inr ⟨rfl, Or.inr (Or.inr (Or.inl (by omega)))⟩) | (unfold mGr; omega))), hT118, by omega, (fun i g1 g2 => Decidable.byCases (p := i = y12) (fun e => by rw [e, ← hw116, e_up_eq]; have q := j73 (y12 + 1) (by omega) (by omega) (by omega); rw [show 33 * w 276 (4 * y6 + 20576) + (y12 + 1) + 20704 = 33 * w 276 (4 * y6 + 20576) + y12 + 20705 by omega] at q; exact q) (fun e => Eq.trans (e_uq hw116 (Or.inr (by omega)) rfl) (j72 i g1 (by omega)))), (fun i g1 g2 g3 => Eq.trans (e_uq hw116 (Or.inr (by omega)) rfl) (j73 i g1 g2 (by omega))), (e_fr.up j74 hw116 (by unfold mOo; omega))⟩ (by omega))
                          exact ⟨rfl, rfl, rfl, rfl, rfl, rfl, rfl, trivial⟩
                    refine e_Ok.sub eAlk (e_sub_of rfl ?_) (hL67 (33 + 1 : Int).toNat y11 v1 ⟨j19, j20, by omega, (fun i g1 g2 => by omega), (fun i g1 g2 g3 => ((j24 276 (33 * w 276 (4 * y6 + 20576) + i + 20704) no_80_4).trans rfl)), (e_fr.mono j24 (fun c k q => by first | exact su_80_25 q | (unfold mP at q; unfold mOo; omega)))⟩ (by omega))
                    exact ⟨rfl, rfl, rfl, rfl, rfl, rfl, rfl, trivial⟩
                  · replace h66 : (w 276 (33 * w 276 (4 * y6 + 20576) + y11 + 20704) : Int) ≠ y6 := (show ¬ ((w 276 (33 * w 276 (4 * y6 + 20576) + y11 + 20704) : Int) = y6) from h66)
                    refine e_Ok.inc (z := y11 + 1) rfl rfl (by first | with_reducible rfl | omega) (by omega) ?_
                    show e_Ok 20 elay ecode eI (d + 1) 396 (240, [(11, (0, y11 + 1)), (0, (1, 275)), (1, (0, a)), (6, (0, y6)), (9, (0, w 276 (4 * y6 + 20576))), (10, (0, 33 * w 276 (4 * y6 + 20576) + 20704))], [], v1) _
                    refine e_Ok.ps0 (q := 222) 1 rfl ?_
                    refine e_Ok.sub eAlk (e_sub_of rfl ?_) (ih63 (y11 + 1) (by have e : y11 ≠ i0 := (fun e => by subst e; omega); omega) (by omega))
                    exact ⟨rfl, rfl, rfl, rfl, rfl, rfl, trivial⟩
              refine e_Ok.sub eAlk (e_sub_of rfl ?_) (hL62 (33 + 1 : Int).toNat 1 (by omega) (by omega))
              exact ⟨rfl, rfl, rfl, rfl, rfl, rfl, trivial⟩
          · replace h26 : (y6 : Int) < 0 := Int.not_le.mp (show ¬ ((y6 : Int) ≥ 0) from h26)
            refine e_Ok.ps1 (x := (0, 0)) (q := 189) 1 rfl ?_
            refine e_Ok.rets rfl rfl ?_
            have e119 : v1 276 5 = w 276 5 := ((j24 276 5 no_80_4).trans rfl)
            exact ⟨_, rfl, by omega, j19, j20, by omega, mOr.fr hOr (by omega) (e_Has.orn hT) (e_Has.orw hT (by omega)) (fun k q => by unfold orK at q; exact ((j24 276 k no_80_4).trans rfl)), (fun b g1 g2 => Or.inr ((j24 276 (36 * b + 20) no_80_4).trans rfl))⟩
        · replace h25 : (y9 : Int) < w 275 40 := Int.not_le.mp (show ¬ ((y9 : Int) ≥ w 275 40) from h25)
          refine e_Ok.ps1 (x := (1, 275)) (q := 94) 1 rfl ?_
          refine e_Ok.getr (z := 276) rfl (el_o rfl) rfl (ef_o rfl) ((j24 275 0 no_80_3).trans (e_Has.eq hT (mt_o rfl))) ⟨by decide, by decide⟩ ?_
          refine e_Ok.ps1 (x := (0, y9)) (q := 99) 1 rfl ?_
          refine e_Ok.callS rfl (e_dq hd rfl) rfl rfl (c_392 (by omega)) (fun r120 w121 h122 => ?_)
          obtain ⟨rfl, rfl⟩ := h122
          refine e_Ok.nrm (q := 102) (st' := [(0, 4 * y9 + 20576), (1, 276)]) rfl rfl ?_
          have h123 := (e_Has.get hT (c := 276) (k := 4 * y9 + 20576) (lo := 0) (hi := 8) (nR_WHERE (p := y9) (by omega)) (by decide))
          refine e_Ok.ald (z := w 276 (4 * y9 + 20576)) rfl (el_o rfl) rfl (by omega) ((j24 276 (4 * y9 + 20576) no_80_4).trans rfl) (e_bq h123 (by decide) (by decide)) ?_
          refine e_Ok.run (t' := (108, [(10, (0, w 276 (4 * y9 + 20576))), (0, (1, 275)), (1, (0, a)), (2, (4, w7 321 (7 * a + w 286 a))), (4, (4, w7 322 (7 * a + w 286 a))), (6, (0, y6)), (7, (4, y7)), (9, (0, y9))], [(0, 4), (0, w 276 (4 * y9 + 20576))], v1)) 3 rfl ?_
          refine e_Ok.if2 rfl (fun h124 => ?_) (fun h124 => ?_)
          · replace h124 : (w 276 (4 * y9 + 20576) : Int) < 4 := h124
            refine e_Ok.ps3 (x := (0, 0)) (y := (0, y9)) (z := (1, 275)) (q := 122) 3 rfl ?_
            refine e_Ok.callV rfl (e_dq hd rfl) rfl rfl rfl rfl (c_395 (e_dq hd rfl) j20 (by omega) (by omega)) (fun r125 w126 h127 => ?_)
            obtain ⟨z129, rfl, q128, q128a, q128b⟩ := h127
            have q128T : e_Has mTy w126 := mT_P q128 j20
            refine e_Ok.nrm (q := 125) (st' := [(0, z129)]) rfl rfl ?_
            refine e_Ok.run (t' := (127, [(10, (0, w 276 (4 * y9 + 20576))), (0, (1, 275)), (1, (0, a)), (2, (4, w7 321 (7 * a + w 286 a))), (4, (4, w7 322 (7 * a + w 286 a))), (6, (0, y6)), (7, (4, y7)), (9, (0, y9))], [(4, w7 321 (7 * a + w 286 a)), (4, z129)], w126)) 2 rfl ?_
            refine e_Ok.subL (z := z129 - w7 321 (7 * a + w 286 a)) rfl (by omega) (by omega) ?_
            refine e_Ok.run (t' := (134, [(11, (4, z129 - w7 321 (7 * a + w 286 a))), (10, (0, w 276 (4 * y9 + 20576))), (0, (1, 275)), (1, (0, a)), (2, (4, w7 321 (7 * a + w 286 a))), (4, (4, w7 322 (7 * a + w 286 a))), (6, (0, y6)), (7, (4, y7)), (9, (0, y9))], [(0, 1), (0, y9), (1, 275)], w126)) 4 rfl ?_
            refine e_Ok.callV rfl (e_dq hd rfl) rfl rfl rfl rfl (c_395 (e_dq hd rfl) q128T (by omega) (by omega)) (fun r132 w133 h134 => ?_)
            obtain ⟨z136, rfl, q135, q135a, q135b⟩ := h134
            have f137 : e_fr mGr w w133 := e_fr.trans (show e_fr mGr w w126 from e_fr.trans j19 (e_fr.mono q128 (fun c k q => su_80_26 q))) (e_fr.mono q135 (fun c k q => su_80_26 q))
            have q135T : e_Has mTy w133 := mT_P q135 q128T
            refine e_Ok.nrm (q := 137) (st' := [(0, z136)]) rfl rfl ?_
            refine e_Ok.run (t' := (140, [(11, (4, z129 - w7 321 (7 * a + w 286 a))), (10, (0, w 276 (4 * y9 + 20576))), (0, (1, 275)), (1, (0, a)), (2, (4, w7 321 (7 * a + w 286 a))), (4, (4, w7 322 (7 * a + w 286 a))), (6, (0, y6)), (7, (4, y7)), (9, (0, y9))], [(4, w7 322 (7 * a + w 286 a)), (4, z136)], w133)) 2 rfl ?_
            refine e_Ok.subL (z := z136 - w7 322 (7 * a + w 286 a)) rfl (by omega) (by omega) ?_
            refine e_Ok.run (t' := (147, [(13, (4, z136 - w7 322 (7 * a + w 286 a))), (11, (4, z129 - w7 321 (7 * a + w 286 a))), (10, (0, w 276 (4 * y9 + 20576))), (0, (1, 275)), (1, (0, a)), (2, (4, w7 321 (7 * a + w 286 a))), (4, (4, w7 322 (7 * a + w 286 a))), (6, (0, y6)), (7, (4, y7)), (9, (0, y9))], [(4, z129 - w7 321 (7 * a + w 286 a)), (4, z129 - w7 321 (7 * a + w 286 a))], w133)) 3 rfl ?_
            refine e_Ok.anyL rfl ⟨_, rfl⟩ (fun x139 => ?_)
            refine e_Ok.ps2 (x := (4, z136 - w7 322 (7 * a + w 286 a))) (y := (4, z136 - w7 322 (7 * a + w 286 a))) (q := 152) 2 rfl ?_
            refine e_Ok.anyL rfl ⟨_, rfl⟩ (fun x140 => ?_)
            refine e_Ok.anyL rfl ⟨_, rfl⟩ (fun x141 => ?_)
            refine e_Ok.ps1 (x := (4, y7)) (q := 156) 1 rfl ?_
            refine e_Ok.lcmp rfl (fun z142 z142a z142b z142c => ?_)
            refine e_Ok.if1 rfl (fun h143 => ?_) (fun h143 => ?_)
            · replace h143 : (z142 : Int) ≥ 0 := h143
              refine e_Ok.inc (z := y9 + 1) rfl rfl (by first | with_reducible rfl | omega) (by omega) ?_
              show e_Ok 20 elay ecode eI (d + 1) 396 (180, [(9, (0, y9 + 1)), (13, (4, z136 - w7 322 (7 * a + w 286 a))), (11, (4, z129 - w7 321 (7 * a + w 286 a))), (10, (0, w 276 (4 * y9 + 20576))), (0, (1, 275)), (1, (0, a)), (2, (4, w7 321 (7 * a + w 286 a))), (4, (4, w7 322 (7 * a + w 286 a))), (6, (0, y6)), (7, (4, y7))], [], w133) _
              refine e_Ok.ps0 (q := 84) 1 rfl ?_
              refine e_Ok.sub eAlk (e_sub_of rfl ?_) (ih18 y6 y7 (y9 + 1) w133 ⟨f137, q135T, by omega, by omega, (fun e => j23 e), (e_fr.trans (e_fr.trans j24 q128) q135)⟩ (by omega))
              exact ⟨rfl, rfl, rfl, rfl, rfl, rfl, rfl, trivial⟩
            · replace h143 : (z142 : Int) < 0 := Int.not_le.mp (show ¬ ((z142 : Int) ≥ 0) from h143)
              refine e_Ok.ps2 (x := (4, z129 - w7 321 (7 * a + w 286 a))) (y := (4, z129 - w7 321 (7 * a + w 286 a))) (q := 164) 2 rfl ?_
              refine e_Ok.anyL rfl ⟨_, rfl⟩ (fun x144 => ?_)
              refine e_Ok.ps2 (x := (4, z136 - w7 322 (7 * a + w 286 a))) (y := (4, z136 - w7 322 (7 * a + w 286 a))) (q := 169) 2 rfl ?_
              refine e_Ok.anyL rfl ⟨_, rfl⟩ (fun x145 => ?_)
              refine e_Ok.anyL rfl ⟨_, rfl⟩ (fun x146 => ?_)
              refine e_Ok.run (t' := (177, [(6, (0, y9)), (7, (4, x146)), (13, (4, z136 - w7 322 (7 * a + w 286 a))), (11, (4, z129 - w7 321 (7 * a + w 286 a))), (10, (0, w 276 (4 * y9 + 20576))), (0, (1, 275)), (1, (0, a)), (2, (4, w7 321 (7 * a + w 286 a))), (4, (4, w7 322 (7 * a + w 286 a))), (9, (0, y9))], [], w133)) 3 rfl ?_
              refine e_Ok.inc (z := y9 + 1) rfl rfl (by first | with_reducible rfl | omega) (by omega) ?_
              show e_Ok 20 elay ecode eI (d + 1) 396 (180, [(9, (0, y9 + 1)), (6, (0, y9)), (7, (4, x146)), (13, (4, z136 - w7 322 (7 * a + w 286 a))), (11, (4, z129 - w7 321 (7 * a + w 286 a))), (10, (0, w 276 (4 * y9 + 20576))), (0, (1, 275)), (1, (0, a)), (2, (4, w7 321 (7 * a + w 286 a))), (4, (4, w7 322 (7 * a + w 286 a)))], [], w133) _
              refine e_Ok.ps0 (q := 84) 1 rfl ?_
              refine e_Ok.sub eAlk (e_sub_of rfl ?_) (ih18 y9 x146 (y9 + 1) w133 ⟨f137, q135T, by omega, by omega, (fun e => by omega), (e_fr.trans (e_fr.trans j24 q128) q135)⟩ (by omega))
              exact ⟨rfl, rfl, rfl, rfl, rfl, rfl, rfl, trivial⟩
          · replace h124 : (w 276 (4 * y9 + 20576) : Int) ≥ 4 := Int.not_lt.mp (show ¬ ((w 276 (4 * y9 + 20576) : Int) < 4) from h124)
            refine e_Ok.ps2 (x := (0, 8)) (y := (0, w 276 (4 * y9 + 20576))) (q := 115) 2 rfl ?_
            refine e_Ok.if2 rfl (fun h147 => ?_) (fun h147 => ?_)
            · replace h147 : (w 276 (4 * y9 + 20576) : Int) ≠ 8 := h147
              refine e_Ok.inc (z := y9 + 1) rfl rfl (by first | with_reducible rfl | omega) (by omega) ?_
              show e_Ok 20 elay ecode eI (d + 1) 396 (180, [(9, (0, y9 + 1)), (10, (0, w 276 (4 * y9 + 20576))), (0, (1, 275)), (1, (0, a)), (2, (4, w7 321 (7 * a + w 286 a))), (4, (4, w7 322 (7 * a + w 286 a))), (6, (0, y6)), (7, (4, y7))], [], v1) _
              refine e_Ok.ps0 (q := 84) 1 rfl ?_
              refine e_Ok.sub eAlk (e_sub_of rfl ?_) (ih18 y6 y7 (y9 + 1) v1 ⟨j19, j20, by omega, by omega, (fun e => j23 e), j24⟩ (by omega))
              exact ⟨rfl, rfl, rfl, rfl, rfl, rfl, rfl, trivial⟩
            · replace h147 : (w 276 (4 * y9 + 20576) : Int) = 8 := Classical.not_not.mp (show ¬ ((w 276 (4 * y9 + 20576) : Int) ≠ 8) from h147)
              refine e_Ok.ps3 (x := (0, 0)) (y := (0, y9)) (z := (1, 275)) (q := 122) 3 rfl ?_
              refine e_Ok.callV rfl (e_dq hd rfl) rfl rfl rfl rfl (c_395 (e_dq hd rfl) j20 (by omega) (by omega)) (fun r148 w149 h150 => ?_)
              obtain ⟨z152, rfl, q151, q151a, q151b⟩ := h150
              have q151T : e_Has mTy w149 := mT_P q151 j20
              refine e_Ok.nrm (q := 125) (st' := [(0, z152)]) rfl rfl ?_
              refine e_Ok.run (t' := (127, [(10, (0, w 276 (4 * y9 + 20576))), (0, (1, 275)), (1, (0, a)), (2, (4, w7 321 (7 * a + w 286 a))), (4, (4, w7 322 (7 * a + w 286 a))), (6, (0, y6)), (7, (4, y7)), (9, (0, y9))], [(4, w7 321 (7 * a + w 286 a)), (4, z152)], w149)) 2 rfl ?_
              refine e_Ok.subL (z := z152 - w7 321 (7 * a + w 286 a)) rfl (by omega) (by omega) ?_
              refine e_Ok.run (t' := (134, [(11, (4, z152 - w7 321 (7 * a + w 286 a))), (10, (0, w 276 (4 * y9 + 20576))), (0, (1, 275)), (1, (0, a)), (2, (4, w7 321 (7 * a + w 286 a))), (4, (4, w7 322 (7 * a + w 286 a))), (6, (0, y6)), (7, (4, y7)), (9, (0, y9))], [(0, 1), (0, y9), (1, 275)], w149)) 4 rfl ?_
              refine e_Ok.callV rfl (e_dq hd rfl) rfl rfl rfl rfl (c_395 (e_dq hd rfl) q151T (by omega) (by omega)) (fun r155 w156 h157 => ?_)
              obtain ⟨z159, rfl, q158, q158a, q158b⟩ := h157
              have f160 : e_fr mGr w w156 := e_fr.trans (show e_fr mGr w w149 from e_fr.trans j19 (e_fr.mono q151 (fun c k q => su_80_26 q))) (e_fr.mono q158 (fun c k q => su_80_26 q))
              have q158T : e_Has mTy w156 := mT_P q158 q151T
              refine e_Ok.nrm (q := 137) (st' := [(0, z159)]) rfl rfl ?_
              refine e_Ok.run (t' := (140, [(11, (4, z152 - w7 321 (7 * a + w 286 a))), (10, (0, w 276 (4 * y9 + 20576))), (0, (1, 275)), (1, (0, a)), (2, (4, w7 321 (7 * a + w 286 a))), (4, (4, w7 322 (7 * a + w 286 a))), (6, (0, y6)), (7, (4, y7)), (9, (0, y9))], [(4, w7 322 (7 * a + w 286 a)), (4, z159)], w156)) 2 rfl ?_
              refine e_Ok.subL (z := z159 - w7 322 (7 * a + w 286 a)) rfl (by omega) (by omega) ?_
              refine e_Ok.run (t' := (147, [(13, (4, z159 - w7 322 (7 * a + w 286 a))), (11, (4, z152 - w7 321 (7 * a + w 286 a))), (10, (0, w 276 (4 * y9 + 20576))), (0, (1, 275)), (1, (0, a)), (2, (4, w7 321 (7 * a + w 286 a))), (4, (4, w7 322 (7 * a + w 286 a))), (6, (0, y6)), (7, (4, y7)), (9, (0, y9))], [(4, z152 - w7 321 (7 * a + w 286 a)), (4, z152 - w7 321 (7 * a + w 286 a))], w156)) 3 rfl ?_
              refine e_Ok.anyL rfl ⟨_, rfl⟩ (fun x162 => ?_)
              refine e_Ok.ps2 (x := (4, z159 - w7 322 (7 * a + w 286 a))) (y := (4, z159 - w7 322 (7 * a + w 286 a))) (q := 152) 2 rfl ?_
              refine e_Ok.anyL rfl ⟨_, rfl⟩ (fun x163 => ?_)
              refine e_Ok.anyL rfl ⟨_, rfl⟩ (fun x164 => ?_)
              refine e_Ok.ps1 (x := (4, y7)) (q := 156) 1 rfl ?_
              refine e_Ok.lcmp rfl (fun z165 z165a z165b z165c => ?_)
              refine e_Ok.if1 rfl (fun h166 => ?_) (fun h166 => ?_)
              · replace h166 : (z165 : Int) ≥ 0 := h166
                refine e_Ok.inc (z := y9 + 1) rfl rfl (by first | with_reducible rfl | omega) (by omega) ?_
                show e_Ok 20 elay ecode eI (d + 1) 396 (180, [(9, (0, y9 + 1)), (13, (4, z159 - w7 322 (7 * a + w 286 a))), (11, (4, z152 - w7 321 (7 * a + w 286 a))), (10, (0, w 276 (4 * y9 + 20576))), (0, (1, 275)), (1, (0, a)), (2, (4, w7 321 (7 * a + w 286 a))), (4, (4, w7 322 (7 * a + w 286 a))), (6, (0, y6)), (7, (4, y7))], [], w156) _
                refine e_Ok.ps0 (q := 84) 1 rfl ?_
                refine e_Ok.sub eAlk (e_sub_of rfl ?_) (ih18 y6 y7 (y9 + 1) w156 ⟨f160, q158T, by omega, by omega, (fun e => j23 e), (e_fr.trans (e_fr.trans j24 q151) q158)⟩ (by omega))
                exact ⟨rfl, rfl, rfl, rfl, rfl, rfl, rfl, trivial⟩
              · replace h166 : (z165 : Int) < 0 := Int.not_le.mp (show ¬ ((z165 : Int) ≥ 0) from h166)
                refine e_Ok.ps2 (x := (4, z152 - w7 321 (7 * a + w 286 a))) (y := (4, z152 - w7 321 (7 * a + w 286 a))) (q := 164) 2 rfl ?_
                refine e_Ok.anyL rfl ⟨_, rfl⟩ (fun x167 => ?_)
                refine e_Ok.ps2 (x := (4, z159 - w7 322 (7 * a + w 286 a))) (y := (4, z159 - w7 322 (7 * a + w 286 a))) (q := 169) 2 rfl ?_
                refine e_Ok.anyL rfl ⟨_, rfl⟩ (fun x168 => ?_)
                refine e_Ok.anyL rfl ⟨_, rfl⟩ (fun x169 => ?_)
                refine e_Ok.run (t' := (177, [(6, (0, y9)), (7, (4, x169)), (13, (4, z159 - w7 322 (7 * a + w 286 a))), (11, (4, z152 - w7 321 (7 * a + w 286 a))), (10, (0, w 276 (4 * y9 + 20576))), (0, (1, 275)), (1, (0, a)), (2, (4, w7 321 (7 * a + w 286 a))), (4, (4, w7 322 (7 * a + w 286 a))), (9, (0, y9))], [], w156)) 3 rfl ?_
                refine e_Ok.inc (z := y9 + 1) rfl rfl (by first | with_reducible rfl | omega) (by omega) ?_
                show e_Ok 20 elay ecode eI (d + 1) 396 (180, [(9, (0, y9 + 1)), (6, (0, y9)), (7, (4, x169)), (13, (4, z159 - w7 322 (7 * a + w 286 a))), (11, (4, z152 - w7 321 (7 * a + w 286 a))), (10, (0, w 276 (4 * y9 + 20576))), (0, (1, 275)), (1, (0, a)), (2, (4, w7 321 (7 * a + w 286 a))), (4, (4, w7 322 (7 * a + w 286 a)))], [], w156) _
                refine e_Ok.ps0 (q := 84) 1 rfl ?_
                refine e_Ok.sub eAlk (e_sub_of rfl ?_) (ih18 y9 x169 (y9 + 1) w156 ⟨f160, q158T, by omega, by omega, (fun e => by omega), (e_fr.trans (e_fr.trans j24 q151) q158)⟩ (by omega))
                exact ⟨rfl, rfl, rfl, rfl, rfl, rfl, rfl, trivial⟩
    refine e_Ok.sub eAlk (e_sub_of rfl ?_) (hL17 (33 + 1 : Int).toNat (-1) x16 0 w7 ⟨(show e_fr mGr w w7 from e_fr.trans (e_fr.refl w) (e_fr.mono q9 (fun c k q => by first | exact su_80_22 q | (unfold mPt at q; unfold mGr; omega)))), (show e_Has mTy w7 from mT_Pt q9 hT), by omega, by omega, (fun e => by omega), (e_fr.trans (e_fr.refl w) (e_fr.mono q9 (fun c k q => by first | exact su_80_27 q | (unfold mPt at q; unfold mP; omega))))⟩ (by omega))
    exact ⟨rfl, rfl, rfl, rfl, rfl, rfl, rfl, trivial⟩
  · replace h5 : (w 276 (36 * a + 17) : Int) ≥ 0 := Int.not_lt.mp (show ¬ ((w 276 (36 * a + 17) : Int) < 0) from h5)
    refine e_Ok.ps1 (x := (0, 0)) (q := 15) 1 rfl ?_
    refine e_Ok.rets rfl rfl ?_
    have e170 : w 276 5 = w 276 5 := rfl
    exact ⟨_, rfl, by omega, (e_fr.refl w), hT, by omega, mOr.fr hOr (by omega) (e_Has.orn hT) (e_Has.orw hT (by omega)) (fun k q => by unfold orK at q; exact rfl), (fun b g1 g2 => Or.inr rfl)⟩
theorem no_80_12 {a : Int} {k : Int} : ¬ mDp a 275 k := by unfold mDp; omega
theorem no_80_13 {a : Int} (ha : 0 ≤ a ∧ a ≤ 3) : ¬ mDp a 276 5 := by unfold mDp; omega
theorem no_80_14 {a : Int} {b : Int} (ha : 0 ≤ a ∧ a ≤ 3) (hb : 0 ≤ b ∧ b ≤ 3) : ¬ mDp a 276 (36 * b + 20) := by unfold mDp; omega
theorem no_80_15 {p : Int} (hp : 0 ≤ p ∧ p ≤ 9999) : ¬ mPa p 276 5 := by unfold mPa; omega
theorem no_80_16 {p : Int} {b : Int} (hp : 0 ≤ p ∧ p ≤ 9999) (hb : 0 ≤ b ∧ b ≤ 3) : ¬ mPa p 276 (36 * b + 20) := by unfold mPa; omega
theorem no_80_17 {a : Int} {k : Int} : ¬ mDp a 300 k := by unfold mDp; omega
theorem no_80_18 {a : Int} {k : Int} : ¬ mDp a 301 k := by unfold mDp; omega
theorem no_80_19 {a : Int} {k : Int} : ¬ mDp a 302 k := by unfold mDp; omega
theorem no_80_20 {a : Int} {k : Int} : ¬ mDp a 303 k := by unfold mDp; omega
theorem no_80_21 {a : Int} {k : Int} : ¬ mDp a 305 k := by unfold mDp; omega
theorem su_80_28 {a : Int} {c k : Int} (q : mP c k) : mDp a c k := by
  unfold mP at q
  rcases q with q | q
  · exact Or.inl (by omega)
  · exact Or.inr (Or.inl (by omega))
set_option maxHeartbeats 4000000 in
theorem c_397 {d : Nat} (hd : 27 ≤ d) {w : eW} (hT : e_Has mTy w) {a : Int} (ha : 0 ≤ a ∧ a ≤ 3) (hOr : mOr w (w 275 40)) (hE : w 276 5 ≤ 2147483600) : e_Ok 20 elay ecode eI d 397 (0, [(0, (1, 275)), (1, (0, a))], [], w) (fun r w' => ∃ z : Int, r = [(0, z)] ∧ (0 ≤ z ∧ z ≤ 1) ∧ e_fr mGr w w' ∧ e_Has mTy w' ∧ (w 276 5 ≤ w' 276 5 ∧ w' 276 5 ≤ w 276 5 + 1) ∧ mOr w' (w 275 40) ∧ (∀ b, 0 ≤ b → b ≤ 3 → w' 276 (36 * b + 20) = 0 ∨ w' 276 (36 * b + 20) = w 276 (36 * b + 20))) := by
  obtain ⟨d, rfl⟩ : ∃ e, d = e + 1 := ⟨d - 1, by omega⟩
  have hja := (e_Has.get hT (c := 286) (k := a) (lo := 0) (hi := 6) (mt_o rfl) (by decide))
  have hhl := e_Has.get hT (nR_HOLDS (a := a) ha) (by decide)
  have hpp := e_Has.get hT (c := 275) (k := 40) (lo := 0) (hi := 32) (mt_o rfl) (by decide)
  refine e_Ok.ps1 (x := (1, 275)) (q := 1) 1 rfl ?_
  refine e_Ok.getr (z := 276) rfl (el_o rfl) rfl (ef_o rfl) (e_Has.eq hT (mt_o rfl)) ⟨by decide, by decide⟩ ?_
  refine e_Ok.ps1 (x := (0, a)) (q := 5) 1 rfl ?_
  refine e_Ok.callS rfl (e_dq hd rfl) rfl rfl (c_268 (by omega)) (fun r1 w2 h3 => ?_)
  obtain ⟨rfl, rfl⟩ := h3
  refine e_Ok.nrm (q := 8) (st' := [(0, 36 * a + 16), (1, 276)]) rfl rfl ?_
  refine e_Ok.ps1 (x := (0, 1)) (q := 9) 1 rfl ?_
  refine e_Ok.add (z := 36 * a + 17) rfl (e_adl (by decide)) (by omega) ?_
  refine e_Ok.ald (z := w 276 (36 * a + 17)) rfl (el_o rfl) rfl (by omega) rfl (by omega) ?_
  refine e_Ok.run (t' := (13, [(2, (0, w 276 (36 * a + 17))), (0, (1, 275)), (1, (0, a))], [(0, w 276 (36 * a + 17))], w)) 2 rfl ?_
  refine e_Ok.if1 rfl (fun h4 => ?_) (fun h4 => ?_)
  · replace h4 : (w 276 (36 * a + 17) : Int) ≥ 0 := h4
    have hq := hOr.2.2.2 a ha.1 ha.2 (by omega)
    refine e_Ok.ps3 (x := (0, 0)) (y := (0, w 276 (36 * a + 17))) (z := (1, 275)) (q := 21) 3 rfl ?_
    refine e_Ok.callV rfl (e_dq hd rfl) rfl rfl rfl rfl (c_395 (e_dq hd rfl) hT (by omega) (by omega)) (fun r5 w6 h7 => ?_)
    obtain ⟨z9, rfl, q8, q8a, q8b⟩ := h7
    have q8T : e_Has mTy w6 := mT_P q8 hT
    refine e_Ok.nrm (q := 24) (st' := [(0, z9)]) rfl rfl ?_
    refine e_Ok.run (t' := (28, [(3, (0, z9)), (2, (0, w 276 (36 * a + 17))), (0, (1, 275)), (1, (0, a))], [(0, 1), (0, w 276 (36 * a + 17)), (1, 275)], w6)) 4 rfl ?_
    refine e_Ok.callV rfl (e_dq hd rfl) rfl rfl rfl rfl (c_395 (e_dq hd rfl) q8T (by omega) (by omega)) (fun r11 w12 h13 => ?_)
    obtain ⟨z15, rfl, q14, q14a, q14b⟩ := h13
    refine e_Ok.nrm (q := 31) (st' := [(0, z15)]) rfl rfl ?_
    refine e_Ok.run (t' := (34, [(4, (0, z15)), (3, (0, z9)), (2, (0, w 276 (36 * a + 17))), (0, (1, 275)), (1, (0, a))], [(1, 275)], w12)) 2 rfl ?_
    refine e_Ok.getr (z := 276) rfl (el_o rfl) rfl (ef_o rfl) ((q14 275 0 no_80_3).trans ((q8 275 0 no_80_3).trans (e_Has.eq hT (mt_o rfl)))) ⟨by decide, by decide⟩ ?_
    refine e_Ok.ps1 (x := (0, a)) (q := 38) 1 rfl ?_
    refine e_Ok.callS rfl (e_dq hd rfl) rfl rfl (c_268 (by omega)) (fun r17 w18 h19 => ?_)
    obtain ⟨rfl, rfl⟩ := h19
    refine e_Ok.nrm (q := 41) (st' := [(0, 36 * a + 16), (1, 276)]) rfl rfl ?_
    refine e_Ok.ps1 (x := (0, 1)) (q := 42) 1 rfl ?_
    refine e_Ok.add (z := 36 * a + 17) rfl (e_adl (by decide)) (by omega) ?_
    refine e_Ok.ps1 (x := (0, (-1))) (q := 44) 1 rfl ?_
    refine e_Ok.ast rfl (el_o rfl) rfl rfl (by omega) ?_
    generalize hw20 : e_up w12 276 (36 * a + 17) (-1) = w20
    have hT22 : e_Has mTy w20 := e_Has.upr (show e_Has mTy w12 from mT_P q14 q8T) hw20 (nR_HOLDS (a := a) (by omega)) (by omega)
    refine e_Ok.run (t' := (51, [(6, (0, 0)), (5, (0, 0)), (4, (0, z15)), (3, (0, z9)), (2, (0, w 276 (36 * a + 17))), (0, (1, 275)), (1, (0, a))], [], w20)) 4 rfl ?_
    have hL23 : ∀ (nn : Nat) (y5 : Int) (y6 : Int) (v1 : eW), e_fr mGr w v1 ∧ e_Has mTy v1 ∧ (0 ≤ y5 ∧ y5 ≤ 1) ∧ (0 ≤ y6 ∧ y6 ≤ 4) ∧ mOr v1 (w 275 40) ∧ (y5 = 0 → 4 ≤ v1 276 (4 * w 276 (36 * a + 17) + 20576)) ∧ (∀ x, 0 ≤ x → x ≤ 3 → v1 276 (36 * x + 17) ≠ w 276 (36 * a + 17)) ∧ e_fr (mDp a) w v1 → 5 - y6 < nn → e_Ok 20 elay ecode eI (d + 1) 397 (51, [(0, (1, 275)), (1, (0, a)), (2, (0, w 276 (36 * a + 17))), (3, (0, z9)), (4, (0, z15)), (5, (0, y5)), (6, (0, y6))], [], v1) (fun r w' => ∃ z : Int, r = [(0, z)] ∧ (0 ≤ z ∧ z ≤ 1) ∧ e_fr mGr w w' ∧ e_Has mTy w' ∧ (w 276 5 ≤ w' 276 5 ∧ w' 276 5 ≤ w 276 5 + 1) ∧ mOr w' (w 275 40) ∧ (∀ b, 0 ≤ b → b ≤ 3 → w' 276 (36 * b + 20) = 0 ∨ w' 276 (36 * b + 20) = w 276 (36 * b + 20))) := by
      intro nn
      induction nn with
      | zero => intro y5 y6 v1 hj hm; obtain ⟨j25, j26, j27, j28, j29, j30, j31, j32⟩ := hj; exfalso; omega
      | succ nn ih24 =>
        intro y5 y6 v1 hj hm
        obtain ⟨j25, j26, j27, j28, j29, j30, j31, j32⟩ := hj
        refine e_Ok.run (t' := (54, [(0, (1, 275)), (1, (0, a)), (2, (0, w 276 (36 * a + 17))), (3, (0, z9)), (4, (0, z15)), (5, (0, y5)), (6, (0, y6))], [(1, 275), (0, y6)], v1)) 2 rfl ?_
        have h33 := (e_Has.get hT (c := 275) (k := 30) (lo := 0) (hi := 4) (mt_o rfl) (by decide))
        refine e_Ok.getf (z := w 275 30) rfl (el_o rfl) rfl (ef_o rfl) ((j32 275 30 (by first | exact no_80_12 | (unfold mDp; omega))).trans rfl) (e_bq h33 (by decide) (by decide)) ?_
        refine e_Ok.if2 rfl (fun h34 => ?_) (fun h34 => ?_)
        · replace h34 : (y6 : Int) ≥ w 275 30 := h34
          refine e_Ok.ps1 (x := (0, y5)) (q := 215) 1 rfl ?_
          refine e_Ok.if1 rfl (fun h35 => ?_) (fun h35 => ?_)
          · replace h35 : (y5 : Int) ≠ 0 := h35
            refine e_Ok.ps2 (x := (0, (-1))) (y := (1, 275)) (q := 228) 2 rfl ?_
            refine e_Ok.callV rfl (e_dq hd rfl) rfl rfl rfl rfl (c_390 (e_dq hd rfl) j26) (fun r36 w37 h38 => ?_)
            obtain ⟨rfl, q40, q40T, q40a, q40b⟩ := h38
            refine e_Ok.nrm (q := 231) (st' := []) rfl rfl ?_
            refine e_Ok.ps4 (x := (0, w 276 (36 * a + 17))) (y := (0, a)) (z := (0, 7)) (u := (1, 275)) (q := 236) 4 rfl ?_
            have e45 : w37 276 5 = w 276 5 := ((q40 276 5 no_80_5).trans ((j32 276 5 (by first | exact no_80_13 (by omega) | (unfold mDp; omega))).trans rfl))
            refine e_Ok.callV rfl (e_dq hd rfl) rfl rfl rfl rfl (c_319 q40T (by omega) (by omega) (by omega) (by omega)) (fun r42 w43 h44 => ?_)
            obtain ⟨rfl, q46, q46T, q46n⟩ := h44
            refine e_Ok.nrm (q := 239) (st' := []) rfl rfl ?_
            refine e_Ok.ps1 (x := (0, 1)) (q := 240) 1 rfl ?_
            refine e_Ok.rets rfl rfl ?_
            have e48 : w43 276 5 = w43 276 5 := rfl
            exact ⟨_, rfl, by omega, (show e_fr mGr w w43 from e_fr.trans (show e_fr mGr w w37 from e_fr.trans j25 (e_fr.mono q40 (fun c k q => su_80_23 q))) (e_fr.mono q46 (fun c k q => su_80_24 q))), q46T, by omega, mOr.fr j29 (by omega) (e_Has.orn j26) (e_Has.orw j26 (by omega)) (fun k q => by unfold orK at q; exact ((q46 276 k (by unfold mE; omega)).trans ((q40 276 k (by unfold mSt; omega)).trans rfl))), (fun b g1 g2 => by have e := q40b b g1 g2; rw [show v1 276 (36 * b + 20) = w 276 (36 * b + 20) from ((j32 276 (36 * b + 20) (by first | exact no_80_14 (by omega) (by omega) | (unfold mDp; omega))).trans rfl)] at e; rw [show w43 276 (36 * b + 20) = w37 276 (36 * b + 20) from ((q46 276 (36 * b + 20) (by first | exact no_80_8 (by omega) | (unfold mE; omega))).trans rfl)]; exact e)⟩
          · replace h35 : (y5 : Int) = 0 := Classical.not_not.mp (show ¬ ((y5 : Int) ≠ 0) from h35)
            refine e_Ok.ps4 (x := (0, z15)) (y := (0, z9)) (z := (0, w 276 (36 * a + 17))) (u := (1, 275)) (q := 223) 4 rfl ?_
            refine e_Ok.callV rfl (e_dq hd rfl) rfl rfl rfl rfl (c_394 (e_dq hd rfl) j26 (by omega) (by omega) (by omega)) (fun r49 w50 h51 => ?_)
            obtain ⟨rfl, q52, q52T, q52w⟩ := h51
            refine e_Ok.nrm (q := 226) (st' := []) rfl rfl ?_
            refine e_Ok.ps2 (x := (0, (-1))) (y := (1, 275)) (q := 228) 2 rfl ?_
            refine e_Ok.callV rfl (e_dq hd rfl) rfl rfl rfl rfl (c_390 (e_dq hd rfl) q52T) (fun r54 w55 h56 => ?_)
            obtain ⟨rfl, q57, q57T, q57a, q57b⟩ := h56
            refine e_Ok.nrm (q := 231) (st' := []) rfl rfl ?_
            refine e_Ok.ps4 (x := (0, w 276 (36 * a + 17))) (y := (0, a)) (z := (0, 7)) (u := (1, 275)) (q := 236) 4 rfl ?_
            have e62 : w55 276 5 = w 276 5 := ((q57 276 5 no_80_5).trans ((q52 276 5 (by first | exact no_80_15 (by omega) | (unfold mPa; omega))).trans ((j32 276 5 (by first | exact no_80_13 (by omega) | (unfold mDp; omega))).trans rfl)))
            refine e_Ok.callV rfl (e_dq hd rfl) rfl rfl rfl rfl (c_319 q57T (by omega) (by omega) (by omega) (by omega)) (fun r59 w60 h61 => ?_)
            obtain ⟨rfl, q63, q63T, q63n⟩ := h61
            refine e_Ok.nrm (q := 239) (st' := []) rfl rfl ?_
            refine e_Ok.ps1 (x := (0, 1)) (q := 240) 1 rfl ?_
            refine e_Ok.rets rfl rfl ?_
            have e65 : w60 276 5 = w60 276 5 := rfl
            exact ⟨_, rfl, by omega, (show e_fr mGr w w60 from e_fr.trans (show e_fr mGr w w55 from e_fr.trans (show e_fr mGr w w50 from e_fr.trans j25 (e_fr.mono q52 (fun c k q => by unfold mPa at q; unfold mGr; omega))) (e_fr.mono q57 (fun c k q => su_80_23 q))) (e_fr.mono q63 (fun c k q => su_80_24 q))), q63T, by omega, mOr.lies (p := w 276 (36 * a + 17)) j29 (by omega) (Or.inl ⟨rfl, hq.1⟩) (e_Has.orn j26) (e_Has.orw j26 (by omega)) (by omega) (fun _ => j30 (by omega)) j31 ((q63 276 (4 * w 276 (36 * a + 17) + 20576) (by unfold mE; omega)).trans ((q57 276 (4 * w 276 (36 * a + 17) + 20576) (by unfold mSt; omega)).trans q52w)) (fun k q1 q2 => by unfold orK at q1; exact ((q63 276 k (by unfold mE; omega)).trans ((q57 276 k (by unfold mSt; omega)).trans ((q52 276 k (by unfold mPa; omega)).trans rfl)))), (fun b g1 g2 => by have e := q57b b g1 g2; rw [show w50 276 (36 * b + 20) = w 276 (36 * b + 20) from ((q52 276 (36 * b + 20) (by first | exact no_80_16 (by omega) (by omega) | (unfold mPa; omega))).trans ((j32 276 (36 * b + 20) (by first | exact no_80_14 (by omega) (by omega) | (unfold mDp; omega))).trans rfl))] at e; rw [show w60 276 (36 * b + 20) = w55 276 (36 * b + 20) from ((q63 276 (36 * b + 20) (by first | exact no_80_8 (by omega) | (unfold mE; omega))).trans rfl)]; exact e)⟩
        · replace h34 : (y6 : Int) < w 275 30 := Int.not_le.mp (show ¬ ((y6 : Int) ≥ w 275 30) from h34)
          refine e_Ok.ps1 (x := (0, y5)) (q := 62) 1 rfl ?_
          refine e_Ok.if1 rfl (fun h66 => ?_) (fun h66 => ?_)
          · replace h66 : (y5 : Int) ≠ 0 := h66
            refine e_Ok.ps1 (x := (0, y5)) (q := 215) 1 rfl ?_
            refine e_Ok.if1 rfl (fun h67 => ?_) (fun h67 => ?_)
            · replace h67 : (y5 : Int) ≠ 0 := h67
              refine e_Ok.ps2 (x := (0, (-1))) (y := (1, 275)) (q := 228) 2 rfl ?_
              refine e_Ok.callV rfl (e_dq hd rfl) rfl rfl rfl rfl (c_390 (e_dq hd rfl) j26) (fun r68 w69 h70 => ?_)
              obtain ⟨rfl, q71, q71T, q71a, q71b⟩ := h70
              refine e_Ok.nrm (q := 231) (st' := []) rfl rfl ?_
              refine e_Ok.ps4 (x := (0, w 276 (36 * a + 17))) (y := (0, a)) (z := (0, 7)) (u := (1, 275)) (q := 236) 4 rfl ?_
              have e76 : w69 276 5 = w 276 5 := ((q71 276 5 no_80_5).trans ((j32 276 5 (by first | exact no_80_13 (by omega) | (unfold mDp; omega))).trans rfl))
              refine e_Ok.callV rfl (e_dq hd rfl) rfl rfl rfl rfl (c_319 q71T (by omega) (by omega) (by omega) (by omega)) (fun r73 w74 h75 => ?_)
              obtain ⟨rfl, q77, q77T, q77n⟩ := h75
              refine e_Ok.nrm (q := 239) (st' := []) rfl rfl ?_
              refine e_Ok.ps1 (x := (0, 1)) (q := 240) 1 rfl ?_
              refine e_Ok.rets rfl rfl ?_
              have e79 : w74 276 5 = w74 276 5 := rfl
              exact ⟨_, rfl, by omega, (show e_fr mGr w w74 from e_fr.trans (show e_fr mGr w w69 from e_fr.trans j25 (e_fr.mono q71 (fun c k q => su_80_23 q))) (e_fr.mono q77 (fun c k q => su_80_24 q))), q77T, by omega, mOr.fr j29 (by omega) (e_Has.orn j26) (e_Has.orw j26 (by omega)) (fun k q => by unfold orK at q; exact ((q77 276 k (by unfold mE; omega)).trans ((q71 276 k (by unfold mSt; omega)).trans rfl))), (fun b g1 g2 => by have e := q71b b g1 g2; rw [show v1 276 (36 * b + 20) = w 276 (36 * b + 20) from ((j32 276 (36 * b + 20) (by first | exact no_80_14 (by omega) (by omega) | (unfold mDp; omega))).trans rfl)] at e; rw [show w74 276 (36 * b + 20) = w69 276 (36 * b + 20) from ((q77 276 (36 * b + 20) (by first | exact no_80_8 (by omega) | (unfold mE; omega))).trans rfl)]; exact e)⟩
            · replace h67 : (y5 : Int) = 0 := Classical.not_not.mp (show ¬ ((y5 : Int) ≠ 0) from h67)
              exfalso; omega
          · replace h66 : (y5 : Int) = 0 := Classical.not_not.mp (show ¬ ((y5 : Int) ≠ 0) from h66)
            refine e_Ok.ps2 (x := (1, 275)) (y := (0, z9)) (q := 67) 2 rfl ?_
            refine e_Ok.getr (z := 300) rfl (el_o rfl) rfl (ef_o rfl) ((j32 275 31 (by first | exact no_80_12 | (unfold mDp; omega))).trans (e_Has.eq hT (mt_o rfl))) ⟨by decide, by decide⟩ ?_
            refine e_Ok.ps1 (x := (0, y6)) (q := 72) 1 rfl ?_
            have h80 := (e_Has.get hT (c := 300) (k := y6) (lo := (-16000)) (hi := 16000) (mt_o rfl) (by decide))
            refine e_Ok.ald (z := w 300 y6) rfl (el_o rfl) rfl (by omega) ((j32 300 y6 (by first | exact no_80_17 | (unfold mDp; omega))).trans rfl) (e_bq h80 (by decide) (by decide)) ?_
            refine e_Ok.any rfl (eF_sub_any _ _) (fun z81 z81a z81b => ?_)
            refine e_Ok.run (t' := (79, [(7, (0, z81)), (0, (1, 275)), (1, (0, a)), (2, (0, w 276 (36 * a + 17))), (3, (0, z9)), (4, (0, z15)), (5, (0, y5)), (6, (0, y6))], [(1, 275), (0, z15)], v1)) 3 rfl ?_
            refine e_Ok.getr (z := 301) rfl (el_o rfl) rfl (ef_o rfl) ((j32 275 32 (by first | exact no_80_12 | (unfold mDp; omega))).trans (e_Has.eq hT (mt_o rfl))) ⟨by decide, by decide⟩ ?_
            refine e_Ok.ps1 (x := (0, y6)) (q := 84) 1 rfl ?_
            have h82 := (e_Has.get hT (c := 301) (k := y6) (lo := (-16000)) (hi := 16000) (mt_o rfl) (by decide))
            refine e_Ok.ald (z := w 301 y6) rfl (el_o rfl) rfl (by omega) ((j32 301 y6 (by first | exact no_80_18 | (unfold mDp; omega))).trans rfl) (e_bq h82 (by decide) (by decide)) ?_
            refine e_Ok.any rfl (eF_sub_any _ _) (fun z83 z83a z83b => ?_)
            refine e_Ok.run (t' := (89, [(8, (0, z83)), (7, (0, z81)), (0, (1, 275)), (1, (0, a)), (2, (0, w 276 (36 * a + 17))), (3, (0, z9)), (4, (0, z15)), (5, (0, y5)), (6, (0, y6))], [(1, 275)], v1)) 2 rfl ?_
            refine e_Ok.getr (z := 302) rfl (el_o rfl) rfl (ef_o rfl) ((j32 275 33 (by first | exact no_80_12 | (unfold mDp; omega))).trans (e_Has.eq hT (mt_o rfl))) ⟨by decide, by decide⟩ ?_
            refine e_Ok.ps1 (x := (0, y6)) (q := 94) 1 rfl ?_
            have h84 := (e_Has.get hT (c := 302) (k := y6) (lo := 0) (hi := 3) (mt_o rfl) (by decide))
            refine e_Ok.ald (z := w 302 y6) rfl (el_o rfl) rfl (by omega) ((j32 302 y6 (by first | exact no_80_19 | (unfold mDp; omega))).trans rfl) (e_bq h84 (by decide) (by decide)) ?_
            refine e_Ok.ps1 (x := (0, 2)) (q := 96) 1 rfl ?_
            refine e_Ok.remn (fun z85 hz85 => ?_) rfl (by omega) (by omega)
            replace hz85 : z85 = (w 302 y6) % 2 := hz85
            have z85r : 0 ≤ z85 ∧ z85 ≤ 1 := by omega
            have hJ88 : ∀ m87 : Int, (-2147483648) ≤ m87 ∧ m87 ≤ 2147483647 → e_Ok 20 elay ecode eI (d + 1) 397 (107, [(8, (0, z83)), (7, (0, z81)), (0, (1, 275)), (1, (0, a)), (2, (0, w 276 (36 * a + 17))), (3, (0, z9)), (4, (0, z15)), (5, (0, y5)), (6, (0, y6))], [(0, m87)], v1) (fun r w' => ∃ z : Int, r = [(0, z)] ∧ (0 ≤ z ∧ z ≤ 1) ∧ e_fr mGr w w' ∧ e_Has mTy w' ∧ (w 276 5 ≤ w' 276 5 ∧ w' 276 5 ≤ w 276 5 + 1) ∧ mOr w' (w 275 40) ∧ (∀ b, 0 ≤ b → b ≤ 3 → w' 276 (36 * b + 20) = 0 ∨ w' 276 (36 * b + 20) = w 276 (36 * b + 20))) := by
              intro m87 m87r
              refine e_Ok.run (t' := (110, [(9, (0, m87)), (8, (0, z83)), (7, (0, z81)), (0, (1, 275)), (1, (0, a)), (2, (0, w 276 (36 * a + 17))), (3, (0, z9)), (4, (0, z15)), (5, (0, y5)), (6, (0, y6))], [(1, 275)], v1)) 2 rfl ?_
              refine e_Ok.getr (z := 302) rfl (el_o rfl) rfl (ef_o rfl) ((j32 275 33 (by first | exact no_80_12 | (unfold mDp; omega))).trans (e_Has.eq hT (mt_o rfl))) ⟨by decide, by decide⟩ ?_
              refine e_Ok.ps1 (x := (0, y6)) (q := 115) 1 rfl ?_
              refine e_Ok.ald (z := w 302 y6) rfl (el_o rfl) rfl (by omega) ((j32 302 y6 (by first | exact no_80_19 | (unfold mDp; omega))).trans rfl) (by omega) ?_
              refine e_Ok.ps1 (x := (0, 2)) (q := 117) 1 rfl ?_
              refine e_Ok.remn (fun z89 hz89 => ?_) rfl (by omega) (by omega)
              replace hz89 : z89 = (w 302 y6) % 2 := hz89
              have z89r : 0 ≤ z89 ∧ z89 ≤ 1 := by omega
              have hJ92 : ∀ m91 : Int, (-2147483648) ≤ m91 ∧ m91 ≤ 2147483647 → e_Ok 20 elay ecode eI (d + 1) 397 (128, [(9, (0, m87)), (8, (0, z83)), (7, (0, z81)), (0, (1, 275)), (1, (0, a)), (2, (0, w 276 (36 * a + 17))), (3, (0, z9)), (4, (0, z15)), (5, (0, y5)), (6, (0, y6))], [(0, m91)], v1) (fun r w' => ∃ z : Int, r = [(0, z)] ∧ (0 ≤ z ∧ z ≤ 1) ∧ e_fr mGr w w' ∧ e_Has mTy w' ∧ (w 276 5 ≤ w' 276 5 ∧ w' 276 5 ≤ w 276 5 + 1) ∧ mOr w' (w 275 40) ∧ (∀ b, 0 ≤ b → b ≤ 3 → w' 276 (36 * b + 20) = 0 ∨ w' 276 (36 * b + 20) = w 276 (36 * b + 20))) := by
                intro m91 m91r
                refine e_Ok.run (t' := (131, [(10, (0, m91)), (9, (0, m87)), (8, (0, z83)), (7, (0, z81)), (0, (1, 275)), (1, (0, a)), (2, (0, w 276 (36 * a + 17))), (3, (0, z9)), (4, (0, z15)), (5, (0, y5)), (6, (0, y6))], [(1, 275)], v1)) 2 rfl ?_
                refine e_Ok.getr (z := 302) rfl (el_o rfl) rfl (ef_o rfl) ((j32 275 33 (by first | exact no_80_12 | (unfold mDp; omega))).trans (e_Has.eq hT (mt_o rfl))) ⟨by decide, by decide⟩ ?_
                refine e_Ok.ps1 (x := (0, y6)) (q := 136) 1 rfl ?_
                refine e_Ok.ald (z := w 302 y6) rfl (el_o rfl) rfl (by omega) ((j32 302 y6 (by first | exact no_80_19 | (unfold mDp; omega))).trans rfl) (by omega) ?_
                refine e_Ok.ps1 (x := (0, 2)) (q := 138) 1 rfl ?_
                refine e_Ok.if2 rfl (fun h93 => ?_) (fun h93 => ?_)
                · replace h93 : (w 302 y6 : Int) ≥ 2 := h93
                  refine e_Ok.ps1 (x := (0, m87)) (q := 148) 1 rfl ?_
                  refine e_Ok.anyU rfl (fun z94 z94a z94b => ?_)
                  refine e_Ok.run (t' := (156, [(9, (0, z94)), (10, (0, m91)), (8, (0, z83)), (7, (0, z81)), (0, (1, 275)), (1, (0, a)), (2, (0, w 276 (36 * a + 17))), (3, (0, z9)), (4, (0, z15)), (5, (0, y5)), (6, (0, y6))], [(1, 275), (4, 0), (4, z94)], v1)) 5 rfl ?_
                  refine e_Ok.getr (z := 303) rfl (el_o rfl) rfl (ef_o rfl) ((j32 275 34 (by first | exact no_80_12 | (unfold mDp; omega))).trans (e_Has.eq hT (mt_o rfl))) ⟨by decide, by decide⟩ ?_
                  refine e_Ok.ps1 (x := (0, y6)) (q := 161) 1 rfl ?_
                  have h95 := (e_Has.get hT (c := 303) (k := y6) (lo := 0) (hi := 16000) (mt_o rfl) (by decide))
                  refine e_Ok.ald (z := w 303 y6) rfl (el_o rfl) rfl (by omega) ((j32 303 y6 (by first | exact no_80_20 | (unfold mDp; omega))).trans rfl) (e_bq h95 (by decide) (by decide)) ?_
                  refine e_Ok.run (t' := (163, [(9, (0, z94)), (10, (0, m91)), (8, (0, z83)), (7, (0, z81)), (0, (1, 275)), (1, (0, a)), (2, (0, w 276 (36 * a + 17))), (3, (0, z9)), (4, (0, z15)), (5, (0, y5)), (6, (0, y6))], [(4, w 303 y6), (4, 0), (4, z94)], v1)) 1 rfl ?_
                  refine e_Ok.callS rfl (e_dq hd rfl) rfl rfl (c_266) (fun r101 w103 h104 => ?_)
                  obtain ⟨z105, rfl, rfl, q106⟩ := h104
                  obtain ⟨rfl, q106⟩ | ⟨rfl, q106⟩ := q106
                  · refine e_Ok.nrm (q := 166) (st' := [(0, 1)]) rfl rfl ?_
                    refine e_Ok.if1 rfl (fun h107 => ?_) (fun h107 => ?_)
                    · replace h107 : (1 : Int) = 0 := h107
                      exfalso; omega
                    · replace h107 : (1 : Int) ≠ 0 := (show ¬ ((1 : Int) = 0) from h107)
                      refine e_Ok.ps2 (x := (1, 275)) (y := (4, m91)) (q := 173) 3 rfl ?_
                      refine e_Ok.getr (z := 305) rfl (el_o rfl) rfl (ef_o rfl) ((j32 275 36 (by first | exact no_80_12 | (unfold mDp; omega))).trans (e_Has.eq hT (mt_o rfl))) ⟨by decide, by decide⟩ ?_
                      refine e_Ok.ps1 (x := (0, y6)) (q := 178) 1 rfl ?_
                      have h108 := (e_Has.get hT (c := 305) (k := y6) (lo := 0) (hi := 2000) (mt_o rfl) (by decide))
                      refine e_Ok.ald (z := w 305 y6) rfl (el_o rfl) rfl (by omega) ((j32 305 y6 (by first | exact no_80_21 | (unfold mDp; omega))).trans rfl) (e_bq h108 (by decide) (by decide)) ?_
                      refine e_Ok.neg (z := -w 305 y6) rfl (by omega) (by omega) ?_
                      refine e_Ok.run (t' := (182, [(9, (0, z94)), (10, (0, m91)), (8, (0, z83)), (7, (0, z81)), (0, (1, 275)), (1, (0, a)), (2, (0, w 276 (36 * a + 17))), (3, (0, z9)), (4, (0, z15)), (5, (0, y5)), (6, (0, y6))], [(1, 275), (4, -w 305 y6), (4, m91)], v1)) 2 rfl ?_
                      refine e_Ok.getr (z := 305) rfl (el_o rfl) rfl (ef_o rfl) ((j32 275 36 (by first | exact no_80_12 | (unfold mDp; omega))).trans (e_Has.eq hT (mt_o rfl))) ⟨by decide, by decide⟩ ?_
                      refine e_Ok.ps1 (x := (0, y6)) (q := 187) 1 rfl ?_
                      refine e_Ok.ald (z := w 305 y6) rfl (el_o rfl) rfl (by omega) ((j32 305 y6 (by first | exact no_80_21 | (unfold mDp; omega))).trans rfl) (by omega) ?_
                      refine e_Ok.run (t' := (189, [(9, (0, z94)), (10, (0, m91)), (8, (0, z83)), (7, (0, z81)), (0, (1, 275)), (1, (0, a)), (2, (0, w 276 (36 * a + 17))), (3, (0, z9)), (4, (0, z15)), (5, (0, y5)), (6, (0, y6))], [(4, w 305 y6), (4, -w 305 y6), (4, m91)], v1)) 1 rfl ?_
                      refine e_Ok.callS rfl (e_dq hd rfl) rfl rfl (c_266) (fun r109 w110 h111 => ?_)
                      obtain ⟨z112, rfl, rfl, q113⟩ := h111
                      obtain ⟨rfl, q113⟩ | ⟨rfl, q113⟩ := q113
                      · refine e_Ok.nrm (q := 192) (st' := [(0, 1)]) rfl rfl ?_
                        refine e_Ok.if1 rfl (fun h114 => ?_) (fun h114 => ?_)
                        · replace h114 : (1 : Int) = 0 := h114
                          exfalso; omega
                        · replace h114 : (1 : Int) ≠ 0 := (show ¬ ((1 : Int) = 0) from h114)
                          refine e_Ok.run (t' := (204, [(5, (0, 1)), (9, (0, z94)), (10, (0, m91)), (8, (0, z83)), (7, (0, z81)), (0, (1, 275)), (1, (0, a)), (2, (0, w 276 (36 * a + 17))), (3, (0, z9)), (4, (0, z15)), (6, (0, y6))], [(0, z94), (0, y6), (0, w 276 (36 * a + 17)), (1, 275)], v1)) 6 rfl ?_
                          refine e_Ok.callV rfl (e_dq hd rfl) rfl rfl rfl rfl (c_393 (e_dq hd rfl) j26 (m := w 275 40) (m' := w 275 40) j29 (by omega) (Or.inl ⟨rfl, hq.1⟩) (by omega) (by omega) (by omega) (fun _ => j30 (by omega)) j31) (fun r115 w116 h117 => ?_)
                          obtain ⟨rfl, q118, q118T, q118o⟩ := h117
                          refine e_Ok.nrm (q := 207) (st' := []) rfl rfl ?_
                          refine e_Ok.inc (z := y6 + 1) rfl rfl (by first | with_reducible rfl | omega) (by omega) ?_
                          show e_Ok 20 elay ecode eI (d + 1) 397 (210, [(6, (0, y6 + 1)), (5, (0, 1)), (9, (0, z94)), (10, (0, m91)), (8, (0, z83)), (7, (0, z81)), (0, (1, 275)), (1, (0, a)), (2, (0, w 276 (36 * a + 17))), (3, (0, z9)), (4, (0, z15))], [], w116) _
                          refine e_Ok.ps0 (q := 51) 1 rfl ?_
                          refine e_Ok.sub eAlk (e_sub_of rfl ?_) (ih24 1 (y6 + 1) w116 ⟨(show e_fr mGr w w116 from e_fr.trans j25 (e_fr.mono q118 (fun c k q => by unfold mCo at q; unfold mGr; omega))), q118T, by omega, by omega, q118o, (fun e => by omega), (fun x g1 g2 => by rw [show w116 276 (36 * x + 17) = v1 276 (36 * x + 17) from ((q118 276 (36 * x + 17) (by unfold mCo; omega)).trans rfl)]; exact j31 x g1 g2), (e_fr.trans j32 (e_fr.mono q118 (fun c k q => by unfold mCo at q; unfold mDp; omega)))⟩ (by omega))
                          exact ⟨rfl, rfl, rfl, rfl, rfl, rfl, rfl, trivial⟩
                      · refine e_Ok.nrm (q := 192) (st' := [(0, 0)]) rfl rfl ?_
                        refine e_Ok.if1 rfl (fun h120 => ?_) (fun h120 => ?_)
                        · replace h120 : (0 : Int) = 0 := h120
                          refine e_Ok.inc (z := y6 + 1) rfl rfl (by first | with_reducible rfl | omega) (by omega) ?_
                          show e_Ok 20 elay ecode eI (d + 1) 397 (210, [(6, (0, y6 + 1)), (9, (0, z94)), (10, (0, m91)), (8, (0, z83)), (7, (0, z81)), (0, (1, 275)), (1, (0, a)), (2, (0, w 276 (36 * a + 17))), (3, (0, z9)), (4, (0, z15)), (5, (0, y5))], [], v1) _
                          refine e_Ok.ps0 (q := 51) 1 rfl ?_
                          refine e_Ok.sub eAlk (e_sub_of rfl ?_) (ih24 y5 (y6 + 1) v1 ⟨j25, j26, by omega, by omega, j29, j30, j31, j32⟩ (by omega))
                          exact ⟨rfl, rfl, rfl, rfl, rfl, rfl, rfl, trivial⟩
                        · replace h120 : (0 : Int) ≠ 0 := (show ¬ ((0 : Int) = 0) from h120)
                          exfalso; omega
                  · refine e_Ok.nrm (q := 166) (st' := [(0, 0)]) rfl rfl ?_
                    refine e_Ok.if1 rfl (fun h121 => ?_) (fun h121 => ?_)
                    · replace h121 : (0 : Int) = 0 := h121
                      refine e_Ok.inc (z := y6 + 1) rfl rfl (by first | with_reducible rfl | omega) (by omega) ?_
                      show e_Ok 20 elay ecode eI (d + 1) 397 (210, [(6, (0, y6 + 1)), (9, (0, z94)), (10, (0, m91)), (8, (0, z83)), (7, (0, z81)), (0, (1, 275)), (1, (0, a)), (2, (0, w 276 (36 * a + 17))), (3, (0, z9)), (4, (0, z15)), (5, (0, y5))], [], v1) _
                      refine e_Ok.ps0 (q := 51) 1 rfl ?_
                      refine e_Ok.sub eAlk (e_sub_of rfl ?_) (ih24 y5 (y6 + 1) v1 ⟨j25, j26, by omega, by omega, j29, j30, j31, j32⟩ (by omega))
                      exact ⟨rfl, rfl, rfl, rfl, rfl, rfl, rfl, trivial⟩
                    · replace h121 : (0 : Int) ≠ 0 := (show ¬ ((0 : Int) = 0) from h121)
                      exfalso; omega
                · replace h93 : (w 302 y6 : Int) < 2 := Int.not_le.mp (show ¬ ((w 302 y6 : Int) ≥ 2) from h93)
                  refine e_Ok.run (t' := (156, [(9, (0, m87)), (10, (0, m91)), (8, (0, z83)), (7, (0, z81)), (0, (1, 275)), (1, (0, a)), (2, (0, w 276 (36 * a + 17))), (3, (0, z9)), (4, (0, z15)), (5, (0, y5)), (6, (0, y6))], [(1, 275), (4, 0), (4, m87)], v1)) 7 rfl ?_
                  refine e_Ok.getr (z := 303) rfl (el_o rfl) rfl (ef_o rfl) ((j32 275 34 (by first | exact no_80_12 | (unfold mDp; omega))).trans (e_Has.eq hT (mt_o rfl))) ⟨by decide, by decide⟩ ?_
                  refine e_Ok.ps1 (x := (0, y6)) (q := 161) 1 rfl ?_
                  have h122 := (e_Has.get hT (c := 303) (k := y6) (lo := 0) (hi := 16000) (mt_o rfl) (by decide))
                  refine e_Ok.ald (z := w 303 y6) rfl (el_o rfl) rfl (by omega) ((j32 303 y6 (by first | exact no_80_20 | (unfold mDp; omega))).trans rfl) (e_bq h122 (by decide) (by decide)) ?_
                  refine e_Ok.run (t' := (163, [(9, (0, m87)), (10, (0, m91)), (8, (0, z83)), (7, (0, z81)), (0, (1, 275)), (1, (0, a)), (2, (0, w 276 (36 * a + 17))), (3, (0, z9)), (4, (0, z15)), (5, (0, y5)), (6, (0, y6))], [(4, w 303 y6), (4, 0), (4, m87)], v1)) 1 rfl ?_
                  refine e_Ok.callS rfl (e_dq hd rfl) rfl rfl (c_266) (fun r123 w124 h125 => ?_)
                  obtain ⟨z126, rfl, rfl, q127⟩ := h125
                  obtain ⟨rfl, q127⟩ | ⟨rfl, q127⟩ := q127
                  · refine e_Ok.nrm (q := 166) (st' := [(0, 1)]) rfl rfl ?_
                    refine e_Ok.if1 rfl (fun h128 => ?_) (fun h128 => ?_)
                    · replace h128 : (1 : Int) = 0 := h128
                      exfalso; omega
                    · replace h128 : (1 : Int) ≠ 0 := (show ¬ ((1 : Int) = 0) from h128)
                      refine e_Ok.ps2 (x := (1, 275)) (y := (4, m91)) (q := 173) 3 rfl ?_
                      refine e_Ok.getr (z := 305) rfl (el_o rfl) rfl (ef_o rfl) ((j32 275 36 (by first | exact no_80_12 | (unfold mDp; omega))).trans (e_Has.eq hT (mt_o rfl))) ⟨by decide, by decide⟩ ?_
                      refine e_Ok.ps1 (x := (0, y6)) (q := 178) 1 rfl ?_
                      have h129 := (e_Has.get hT (c := 305) (k := y6) (lo := 0) (hi := 2000) (mt_o rfl) (by decide))
                      refine e_Ok.ald (z := w 305 y6) rfl (el_o rfl) rfl (by omega) ((j32 305 y6 (by first | exact no_80_21 | (unfold mDp; omega))).trans rfl) (e_bq h129 (by decide) (by decide)) ?_
                      refine e_Ok.neg (z := -w 305 y6) rfl (by omega) (by omega) ?_
                      refine e_Ok.run (t' := (182, [(9, (0, m87)), (10, (0, m91)), (8, (0, z83)), (7, (0, z81)), (0, (1, 275)), (1, (0, a)), (2, (0, w 276 (36 * a + 17))), (3, (0, z9)), (4, (0, z15)), (5, (0, y5)), (6, (0, y6))], [(1, 275), (4, -w 305 y6), (4, m91)], v1)) 2 rfl ?_
                      refine e_Ok.getr (z := 305) rfl (el_o rfl) rfl (ef_o rfl) ((j32 275 36 (by first | exact no_80_12 | (unfold mDp; omega))).trans (e_Has.eq hT (mt_o rfl))) ⟨by decide, by decide⟩ ?_
                      refine e_Ok.ps1 (x := (0, y6)) (q := 187) 1 rfl ?_
                      refine e_Ok.ald (z := w 305 y6) rfl (el_o rfl) rfl (by omega) ((j32 305 y6 (by first | exact no_80_21 | (unfold mDp; omega))).trans rfl) (by omega) ?_
                      refine e_Ok.run (t' := (189, [(9, (0, m87)), (10, (0, m91)), (8, (0, z83)), (7, (0, z81)), (0, (1, 275)), (1, (0, a)), (2, (0, w 276 (36 * a + 17))), (3, (0, z9)), (4, (0, z15)), (5, (0, y5)), (6, (0, y6))], [(4, w 305 y6), (4, -w 305 y6), (4, m91)], v1)) 1 rfl ?_
                      refine e_Ok.callS rfl (e_dq hd rfl) rfl rfl (c_266) (fun r130 w131 h132 => ?_)
                      obtain ⟨z133, rfl, rfl, q134⟩ := h132
                      obtain ⟨rfl, q134⟩ | ⟨rfl, q134⟩ := q134
                      · refine e_Ok.nrm (q := 192) (st' := [(0, 1)]) rfl rfl ?_
                        refine e_Ok.if1 rfl (fun h135 => ?_) (fun h135 => ?_)
                        · replace h135 : (1 : Int) = 0 := h135
                          exfalso; omega
                        · replace h135 : (1 : Int) ≠ 0 := (show ¬ ((1 : Int) = 0) from h135)
                          refine e_Ok.run (t' := (204, [(5, (0, 1)), (9, (0, m87)), (10, (0, m91)), (8, (0, z83)), (7, (0, z81)), (0, (1, 275)), (1, (0, a)), (2, (0, w 276 (36 * a + 17))), (3, (0, z9)), (4, (0, z15)), (6, (0, y6))], [(0, m87), (0, y6), (0, w 276 (36 * a + 17)), (1, 275)], v1)) 6 rfl ?_
                          refine e_Ok.callV rfl (e_dq hd rfl) rfl rfl rfl rfl (c_393 (e_dq hd rfl) j26 (m := w 275 40) (m' := w 275 40) j29 (by omega) (Or.inl ⟨rfl, hq.1⟩) (by omega) (by omega) (by omega) (fun _ => j30 (by omega)) j31) (fun r136 w137 h138 => ?_)
                          obtain ⟨rfl, q139, q139T, q139o⟩ := h138
                          refine e_Ok.nrm (q := 207) (st' := []) rfl rfl ?_
                          refine e_Ok.inc (z := y6 + 1) rfl rfl (by first | with_reducible rfl | omega) (by omega) ?_
                          show e_Ok 20 elay ecode eI (d + 1) 397 (210, [(6, (0, y6 + 1)), (5, (0, 1)), (9, (0, m87)), (10, (0, m91)), (8, (0, z83)), (7, (0, z81)), (0, (1, 275)), (1, (0, a)), (2, (0, w 276 (36 * a + 17))), (3, (0, z9)), (4, (0, z15))], [], w137) _
                          refine e_Ok.ps0 (q := 51) 1 rfl ?_
                          refine e_Ok.sub eAlk (e_sub_of rfl ?_) (ih24 1 (y6 + 1) w137 ⟨(show e_fr mGr w w137 from e_fr.trans j25 (e_fr.mono q139 (fun c k q => by unfold mCo at q; unfold mGr; omega))), q139T, by omega, by omega, q139o, (fun e => by omega), (fun x g1 g2 => by rw [show w137 276 (36 * x + 17) = v1 276 (36 * x + 17) from ((q139 276 (36 * x + 17) (by unfold mCo; omega)).trans rfl)]; exact j31 x g1 g2), (e_fr.trans j32 (e_fr.mono q139 (fun c k q => by unfold mCo at q; unfold mDp; omega)))⟩ (by omega))
                          exact ⟨rfl, rfl, rfl, rfl, rfl, rfl, rfl, trivial⟩
                      · refine e_Ok.nrm (q := 192) (st' := [(0, 0)]) rfl rfl ?_
                        refine e_Ok.if1 rfl (fun h141 => ?_) (fun h141 => ?_)
                        · replace h141 : (0 : Int) = 0 := h141
                          refine e_Ok.inc (z := y6 + 1) rfl rfl (by first | with_reducible rfl | omega) (by omega) ?_
                          show e_Ok 20 elay ecode eI (d + 1) 397 (210, [(6, (0, y6 + 1)), (9, (0, m87)), (10, (0, m91)), (8, (0, z83)), (7, (0, z81)), (0, (1, 275)), (1, (0, a)), (2, (0, w 276 (36 * a + 17))), (3, (0, z9)), (4, (0, z15)), (5, (0, y5))], [], v1) _
                          refine e_Ok.ps0 (q := 51) 1 rfl ?_
                          refine e_Ok.sub eAlk (e_sub_of rfl ?_) (ih24 y5 (y6 + 1) v1 ⟨j25, j26, by omega, by omega, j29, j30, j31, j32⟩ (by omega))
                          exact ⟨rfl, rfl, rfl, rfl, rfl, rfl, rfl, trivial⟩
                        · replace h141 : (0 : Int) ≠ 0 := (show ¬ ((0 : Int) = 0) from h141)
                          exfalso; omega
                  · refine e_Ok.nrm (q := 166) (st' := [(0, 0)]) rfl rfl ?_
                    refine e_Ok.if1 rfl (fun h142 => ?_) (fun h142 => ?_)
                    · replace h142 : (0 : Int) = 0 := h142
                      refine e_Ok.inc (z := y6 + 1) rfl rfl (by first | with_reducible rfl | omega) (by omega) ?_
                      show e_Ok 20 elay ecode eI (d + 1) 397 (210, [(6, (0, y6 + 1)), (9, (0, m87)), (10, (0, m91)), (8, (0, z83)), (7, (0, z81)), (0, (1, 275)), (1, (0, a)), (2, (0, w 276 (36 * a + 17))), (3, (0, z9)), (4, (0, z15)), (5, (0, y5))], [], v1) _
                      refine e_Ok.ps0 (q := 51) 1 rfl ?_
                      refine e_Ok.sub eAlk (e_sub_of rfl ?_) (ih24 y5 (y6 + 1) v1 ⟨j25, j26, by omega, by omega, j29, j30, j31, j32⟩ (by omega))
                      exact ⟨rfl, rfl, rfl, rfl, rfl, rfl, rfl, trivial⟩
                    · replace h142 : (0 : Int) ≠ 0 := (show ¬ ((0 : Int) = 0) from h142)
                      exfalso; omega
              refine e_Ok.if1 rfl (fun h90 => ?_) (fun h90 => ?_)
              · exact e_Ok.run 1 rfl (hJ92 z81 (by omega))
              · exact e_Ok.run 2 rfl (hJ92 z83 (by omega))
            refine e_Ok.if1 rfl (fun h86 => ?_) (fun h86 => ?_)
            · exact e_Ok.run 1 rfl (hJ88 z83 (by omega))
            · exact e_Ok.run 2 rfl (hJ88 z81 (by omega))
    refine e_Ok.sub eAlk (e_sub_of rfl ?_) (hL23 (5 + 1 : Int).toNat 0 0 w20 ⟨(show e_fr mGr w w20 from e_fr.up (show e_fr mGr w w12 from e_fr.trans (show e_fr mGr w w6 from e_fr.trans (e_fr.refl w) (e_fr.mono q8 (fun c k q => su_80_26 q))) (e_fr.mono q14 (fun c k q => su_80_26 q))) hw20 (by first | exact Or.inr (Or.inr ⟨rfl, Or.inr (Or.inr (Or.inr ⟨(by omega), ⟨(by omega), Or.inl (by omega)⟩⟩))⟩) | (unfold mGr; omega))), hT22, by omega, by omega, mOr.off hOr (by omega) (e_Has.orn hT) (e_Has.orw hT (by omega)) ha (e_ue hw20) (fun k q1 q2 => by unfold orK at q1; exact (e_uq hw20 (Or.inr (by omega)) ((q14 276 k no_80_4).trans ((q8 276 k no_80_4).trans rfl)))), (fun _ => by rw [show w20 276 (4 * w 276 (36 * a + 17) + 20576) = w 276 (4 * w 276 (36 * a + 17) + 20576) from (e_uq hw20 (Or.inr (by omega)) ((q14 276 (4 * w 276 (36 * a + 17) + 20576) no_80_4).trans ((q8 276 (4 * w 276 (36 * a + 17) + 20576) no_80_4).trans rfl)))]; omega), (fun x g1 g2 => Decidable.byCases (p := x = a) (fun e => by rw [e, show w20 276 (36 * a + 17) = -1 from (e_ue hw20)]; omega) (fun e => by rw [show w20 276 (36 * x + 17) = w 276 (36 * x + 17) from (e_uq hw20 (Or.inr (by omega)) ((q14 276 (36 * x + 17) no_80_4).trans ((q8 276 (36 * x + 17) no_80_4).trans rfl)))]; intro e2; have q := hOr.2.2.2 x g1 g2 (by omega); rw [e2] at q; omega)), (e_fr.up (e_fr.trans (e_fr.trans (e_fr.refl w) (e_fr.mono q8 (fun c k q => by first | exact su_80_28 q | (unfold mP at q; unfold mDp; omega)))) (e_fr.mono q14 (fun c k q => by first | exact su_80_28 q | (unfold mP at q; unfold mDp; omega)))) hw20 (by unfold mDp; omega))⟩ (by omega))
    exact ⟨rfl, rfl, rfl, rfl, rfl, rfl, rfl, trivial⟩
  · replace h4 : (w 276 (36 * a + 17) : Int) < 0 := Int.not_le.mp (show ¬ ((w 276 (36 * a + 17) : Int) ≥ 0) from h4)
    refine e_Ok.ps1 (x := (0, 0)) (q := 17) 1 rfl ?_
    refine e_Ok.rets rfl rfl ?_
    have e143 : w 276 5 = w 276 5 := rfl
    exact ⟨_, rfl, by omega, (e_fr.refl w), hT, by omega, hOr, (fun b g1 g2 => Or.inr rfl)⟩
end
end
-- part 81
section
noncomputable section
theorem rW_gt {g d : Int} (hg : 1 ≤ g) (h : g < d) : d < rW g d := by
  rw [rW_step hg h]
  have := rW_le (d := d - g) hg (by omega)
  omega
/-- a step that leads away from the goal is small -/
theorem joOk.near {v s goal lo hi g : Int} (hg : 1 ≤ g) (h : joOk 1 v s goal lo hi g) : (v ≤ goal → -g ≤ s) ∧ (goal ≤ v → s ≤ g) := by
  obtain ⟨-, -, h3, -⟩ := h
  obtain ⟨-, h5, h6⟩ := h3 rfl
  refine ⟨fun q => ?_, fun q => ?_⟩
  · by_cases e : -g ≤ s
    · exact e
    · have := h6 (by omega)
      have := rW_gt (d := -s) hg (by omega)
      omega
  · by_cases e : s ≤ g
    · exact e
    · have := h5 (by omega) (by omega)
      have := rW_gt (d := s) hg (by omega)
      omega
/-- the arm x does not take up its way again -/
theorem mMo.quit {w w' : eW} {x : Int} (h : mMo w x) (hx : 0 ≤ x) (hty : moT w) (hf : ∀ c k, moK c k → w' c k = w c k) (hS : ∀ b, 0 ≤ b → b ≤ 3 → w' 276 (36 * b + 16) = w 276 (36 * b + 16)) (hT : ∀ b, 0 ≤ b → b ≤ 3 → b ≠ x → w' 276 (36 * b + 22) = w 276 (36 * b + 22)) (hx1 : w' 276 (36 * x + 22) ≠ 1) : mMo w' (-1) := by
  obtain ⟨h1, h2, h3⟩ := h
  have f5 : ∀ c k, c = 286 ∨ c = 288 ∨ c = 289 ∨ c = 291 → w' c k = w c k := fun c k q => hf c k (by unfold moK; omega)
  refine ⟨fun a j g1 g2 g3 g4 => ?_, fun a g1 g2 => ?_, fun e a g1 g2 => ?_⟩
  · rw [f5 286 _ (by omega)] at g4
    have y := hty.2 a g1 g2
    have q := h1 a j g1 g2 g3 g4
    unfold moJ at q ⊢
    rw [hf 276 _ (moK_j ⟨g1, g2⟩ (j := j) (f := 32) (by omega) (by omega)), hf 276 _ (moK_j ⟨g1, g2⟩ (j := j) (f := 38) (by omega) (by omega)), hf 276 _ (moK_j ⟨g1, g2⟩ (j := j) (f := 44) (by omega) (by omega)), f5 288 _ (by omega), f5 289 _ (by omega), f5 291 _ (by omega), hS a g1 g2]
    exact q
  · by_cases e : a = x
    · subst e
      obtain ⟨q1, q2⟩ := h2 a g1 g2
      obtain ⟨y1, y2, y3, y4⟩ := hty.2 a g1 g2
      refine ⟨fun e => ?_, fun e => absurd e hx1⟩
      have f1 := hf 276 _ (moK_a ⟨g1, g2⟩ (f := 19) (by omega))
      have f4 := hf 276 _ (moK_a ⟨g1, g2⟩ (f := 26) (by omega))
      rw [hf 276 _ (moK_a ⟨g1, g2⟩ (f := 20) (by omega))] at e
      obtain ⟨z1, z2, P, z3, z4⟩ := q1 e
      refine ⟨by rw [hf 275 10 (by unfold moK; omega)]; exact z1, by rw [f1]; exact z2, P, z3.fr ⟨g1, g2⟩ (by omega) y1 f1 f4 (fun c k q => f5 c k (by omega)) (fun k q1 q2 => hf 276 k (by unfold moK; omega)), fun j g3 g4 => ?_⟩
      rw [f5 286 _ (by omega)] at g4
      rw [hf 276 _ (moK_j ⟨g1, g2⟩ (j := j) (f := 32) (by omega) (by omega))]
      exact z4 j g3 g4
    · have q := (h2 a g1 g2).ne (x' := -1) e (by omega)
      have q2 := hT a g1 g2 e
      have q3 := hS a g1 g2
      exact q.fr hty ⟨g1, g2⟩ (fun c k q3 q4 => hf c k q3) (fun e => by omega)
  · rw [hf 276 1 (by unfold moK; omega)] at e
    rw [hf 275 10 (by unfold moK; omega)] at g2
    have := hty.1
    rw [hS a g1 (by omega)]
    exact h3 e a g1 g2
/-! tally: what it counts, nobody knows -/
def mTl (c _k : Int) : Prop := c = 280
theorem e_Has.hv {w : eW} (h : e_Has mTy w) : e_Has mTy (e_hv 280 w) := fun c k hl => by
  by_cases e : c = 280
  · rw [e] at hl
    exact absurd hl (by show ¬ ((1 : Int) ≤ 0); decide)
  · have : e_hv 280 w c k = w c k := if_neg e
    rw [this]
    exact h c k hl
theorem c_389 {d : Nat} {w : eW} (hT : e_Has mTy w) {x y : Int} (hx : 0 ≤ x ∧ x ≤ 3) : e_Ok 20 elay ecode eI d 389 (0, [(0, (1, 275)), (1, (0, x)), (2, (0, y))], [], w) (fun r w' => r = [] ∧ e_fr mTl w w' ∧ e_Has mTy w') := by
  refine e_Ok.step (f := e_mTal) (a := 0) (b := 0) (t' := (25, [(0, (1, 275)), (1, (0, x)), (2, (0, y))], [], e_hv 280 w)) rfl ?_ ?_
  · exact if_pos ⟨rfl, hx.1, hx.2, e_Has.eq hT (mt_o rfl)⟩
  · exact e_Ok.rets rfl rfl ⟨rfl, fun c k q => if_neg q, e_Has.hv hT⟩
theorem c_403 {d : Nat} {w : eW} (hT : e_Has mTy w) {y : Int} : e_Ok 20 elay ecode eI d 403 (0, [(0, (1, 275)), (1, (0, y))], [], w) (fun r w' => r = [] ∧ e_fr mTl w w' ∧ e_Has mTy w') := by
  refine e_Ok.step (f := e_mCj) (a := 0) (b := 0) (t' := (185, [], [], e_hv 280 w)) rfl ?_ ?_
  · exact if_pos ⟨rfl, hT⟩
  · exact e_Ok.rets rfl rfl ⟨rfl, fun c k q => if_neg q, e_Has.hv hT⟩
end
end
