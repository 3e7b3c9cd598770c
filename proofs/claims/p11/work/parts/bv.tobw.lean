-- part bv
section
noncomputable section
theorem c_436_0 {d : Nat} (hd : 22 ≤ d) {w : eW} (hT : e_Has mTy w) (hH : e_Has hTy w) {p1 : Int} (g1 : -2147483648 ≤ p1 ∧ p1 ≤ 2147483647) (h3 : w 275 3 = 0) : e_Ok 20 elay ecode eI d 436 (0, [(0, (1, 275)), (1, (0, p1))], [], w) (fun r w' => ∃ z : Int, r = [(0, z)] ∧ w = w') := by
  obtain ⟨d, rfl⟩ : ∃ e, d = e + 1 := ⟨d - 1, by omega⟩
  refine e_Ok.ps3 (x := (1, 275)) (y := (4, 0)) (z := (4, p1)) (q := 4) 4 rfl ?_
  have h1 := (e_Has.get hH (c := 275) (k := 5) (lo := 0) (hi := 2000) rfl (by decide))
  refine e_Ok.getf (z := w 275 5) rfl (el_o rfl) rfl (ef_o rfl) rfl (e_bq h1 (by decide) (by decide)) ?_
  refine e_Ok.run (t' := (8, [(0, (1, 275)), (1, (0, p1))], [(4, w 275 5), (4, 0), (4, p1)], w)) 1 rfl ?_
  refine e_Ok.callS rfl (e_dq hd rfl) rfl rfl (c_266) (fun r2 w3 h4 => ?_)
  obtain ⟨z5, rfl, rfl, q6⟩ := h4
  obtain ⟨rfl, q6⟩ | ⟨rfl, q6⟩ := q6
  · refine e_Ok.nrm (q := 11) (st' := [(0, 1)]) rfl rfl ?_
    refine e_Ok.if1 rfl (fun h7 => ?_) (fun h7 => ?_)
    · replace h7 : (1 : Int) ≠ 0 := h7
      refine e_Ok.ps1 (x := (1, 275)) (q := 17) 1 rfl ?_
      refine e_Ok.getf (z := w 275 3) rfl (el_o rfl) rfl (ef_o rfl) rfl (by omega) ?_
      refine e_Ok.if1 rfl (fun h8 => ?_) (fun h8 => ?_)
      · replace h8 : (w 275 3 : Int) ≠ 0 := h8
        exfalso; omega
      · replace h8 : (w 275 3 : Int) = 0 := Classical.not_not.mp (show ¬ ((w 275 3 : Int) ≠ 0) from h8)
        refine e_Ok.ps1 (x := (0, (-2))) (q := 25) 1 rfl ?_
        refine e_Ok.rets rfl rfl ?_
        exact ⟨_, rfl, rfl⟩
    · replace h7 : (1 : Int) = 0 := Classical.not_not.mp (show ¬ ((1 : Int) ≠ 0) from h7)
      exfalso; omega
  · refine e_Ok.nrm (q := 11) (st' := [(0, 0)]) rfl rfl ?_
    refine e_Ok.if1 rfl (fun h9 => ?_) (fun h9 => ?_)
    · replace h9 : (0 : Int) ≠ 0 := h9
      exfalso; omega
    · replace h9 : (0 : Int) = 0 := Classical.not_not.mp (show ¬ ((0 : Int) ≠ 0) from h9)
      refine e_Ok.ps1 (x := (0, (-1))) (q := 15) 1 rfl ?_
      refine e_Ok.rets rfl rfl ?_
      exact ⟨_, rfl, rfl⟩
/-! what the model keeps from call to call: plan, back -/
theorem bInvP.low {w u : eW} {G : Int → Gh} (g : bInvP w G) (hK : ∀ c k, K0 c k → u c k = w c k) : bInvP u G := by
  have hF : e_fr (fun c k => ¬ K0 c k) w u := fun c k q => hK c k (Classical.not_not.mp q)
  exact ⟨g.1.cfg hF (g.1.1.low hK) (fun c k q => ⟨fun e => q (by rw [e]; exact K0_now k), K0_cf q⟩), g.2⟩
theorem mRel.pm {w w' : eW} (h : mRel w) (hF : e_fr mPm w w') (hs : ∀ k, w' 276 k = w 276 k) (hp : w 275 118 ≤ w' 275 118 ∧ w' 275 118 ≤ 60) : mRelF w' ∧ sm3 w w' := by
  have hK : ∀ c k, K0 c k → w' c k = w c k := fun c k q => by
    by_cases e : c = 276
    · rw [e]; exact hs k
    · exact hF c k (fun y => e (pm_K0 y q))
  have hT := h.1.low hK
  have f : ∀ k, k = 3 ∨ k = 5 ∨ k = 6 ∨ k = 9 ∨ k = 10 → w' 275 k = w 275 k := fun k q => hF 275 k (by unfold mPm; omega)
  have e3 := f 3 (by omega)
  have e5 := f 5 (by omega)
  have e6 := f 6 (by omega)
  refine ⟨?_, e3, f 9 (by omega), f 10 (by omega)⟩
  obtain ⟨h1, h2, h3, h4⟩ := h
  rcases h4 with ⟨g0, G, g⟩ | ⟨g0, G, S, g⟩
  · refine ⟨fun u hu hH => ?_, h2.t8.t8fr hF (fun c k y => by unfold mPm; omega)⟩
    have z : ∀ {x : Int}, -2147483648 ≤ x → x ≤ 2147483647 → inZ x := fun a b => ⟨a, b⟩
    have hu0 := mor.K hT hu
    have h35 := h3.2 g0
    have h36 := h3.1
    have u3 : u 275 3 = w' 275 3 := hu _ _ (z (by omega) (by omega))
    have u5 : u 275 5 = w' 275 5 := hu _ _ (z (by omega) (by omega))
    have u6 : u 275 6 = w' 275 6 := hu _ _ (z (by omega) (by omega))
    have q118 := e_Has.get h2 (c := 275) (k := 118) (lo := 0) (hi := 60) rfl (by decide)
    have u118 : u 275 118 = w' 275 118 := hu _ _ (z (by omega) (by omega))
    exact ⟨hT.low hu0, hH.z (by omega) (by omega) (by omega), ⟨by omega, fun _ => by omega⟩, Or.inl ⟨by omega, G, g.low (fun c k q => (hu0 c k q).trans (hK c k q))⟩⟩
  · exact (g.low (frB.pm hF) hs hp (e6.trans h3.1)).F hT (e3.trans g0) (h2.t8.t8fr hF (fun c k y => by unfold mPm; omega))
theorem m_418 {d : Nat} (hd : 33 ≤ d) {w : eW} (h : mRel w) {p1 p2 p3 : Int} (g1 : -2147483648 ≤ p1 ∧ p1 ≤ 2147483647) (g2 : -2147483648 ≤ p2 ∧ p2 ≤ 2147483647) (g3 : -2147483648 ≤ p3 ∧ p3 ≤ 2147483647) : e_Ok 20 elay ecode eI d 418 (0, [(0, (1, 275)), (1, (0, p1)), (2, (0, p2)), (3, (0, p3))], [], w) (fun r w' => ∃ z : Int, r = [(0, z)] ∧ mRelF w' ∧ sm3 w w') := by
  obtain ⟨G, hI, hB, hE, hb⟩ := h.base
  have h118 := e_Has.get h.2.1 (c := 275) (k := 118) (lo := 0) (hi := 60) rfl (by decide)
  have h10 := e_Has.get h.1 (c := 275) (k := 10) (lo := 0) (hi := 4) rfl (by decide)
  refine (e_Ok.outN (c_418 hd hI hB g1 g2 g3 h118 h.2.2.1.1)).imp (fun r w' q => ?_)
  obtain ⟨⟨z, hr, q⟩, ho⟩ := q
  refine ⟨z, hr, ?_⟩
  rcases q with ⟨q1, q2, q3, q4⟩ | ⟨q1, q2, q3⟩
  · exact h.pm q1 q2 ⟨q3, q4⟩
  · have r1 := q1.2.1
    have ra := q1.1.1
    rcases hb with hb | ⟨S, hb⟩
    · omega
    · obtain ⟨S', k⟩ := hb.plan q1 q2 q3 (by omega) ho
      obtain ⟨z', f, wm, z1, z2, z3, z4, z5, hw, z7, z8⟩ := q3
      have e : ∀ k, k = 3 ∨ k = 9 ∨ k = 10 → w' 275 k = w 275 k := fun k y => (hw.2.2.1 275 k (by unfold mWr mKw mSo; omega)).trans (z2 275 k (by unfold mPm; omega))
      exact ⟨k.F k.inv.1 ((e 3 (by omega)).trans r1) ((h.2.1.t8.t8fr z2 (fun c k y => by unfold mPm; omega)).t8fr hw.2.2.1 (fun c k y => by unfold mWr mKw mSo; omega)), e 3 (by omega), e 9 (by omega), e 10 (by omega)⟩
theorem m_436 {d : Nat} (hd : 49 ≤ d) {w : eW} (h : mRel w) {p1 : Int} (g1 : -2147483648 ≤ p1 ∧ p1 ≤ 2147483647) : e_Ok 20 elay ecode eI d 436 (0, [(0, (1, 275)), (1, (0, p1))], [], w) (fun r w' => ∃ z : Int, r = [(0, z)] ∧ mRelF w' ∧ sm3 w w') := by
  rcases h.2.2.2 with ⟨g0, G, g⟩ | ⟨g0, G, S, g⟩
  · refine (c_436_0 (e_dq0 hd rfl) h.1 h.2.1 g1 g0).imp (fun r w' q => ?_)
    obtain ⟨z, hr, rfl⟩ := q
    exact ⟨z, hr, h.F, rfl, rfl, rfl⟩
  · refine (c_436 hd g g1).imp (fun r w' q => ?_)
    obtain ⟨z, hr, q⟩ := q
    rcases q with rfl | ⟨q1, q2⟩
    · exact ⟨z, hr, h.F, rfl, rfl, rfl⟩
    · have e : ∀ k, k = 3 ∨ k = 9 ∨ k = 10 → w' 275 k = w 275 k := fun k y => q2 275 k (by unfold mBb mTi mPm; omega)
      exact ⟨z, hr, q1.F q1.inv.1 ((e 3 (by omega)).trans g0) (h.2.1.t8.t8fr q2 (fun c k y => by unfold mBb mTi mPm; omega)), e 3 (by omega), e 9 (by omega), e 10 (by omega)⟩
end
end
-- part bw
section
noncomputable section
theorem c_278_x {d : Nat} (hd : 24 ≤ d) {w : eW} (hT : e_Has mTy w) {p1 p2 p3 p4 : Int} (g1 : -2147483648 ≤ p1 ∧ p1 ≤ 2147483647) (g2 : -2147483648 ≤ p2 ∧ p2 ≤ 2147483647) (g3 : -2147483648 ≤ p3 ∧ p3 ≤ 2147483647) (g4 : -2147483648 ≤ p4 ∧ p4 ≤ 2147483647) : e_Ok 20 elay ecode eI d 278 (0, [(0, (1, 275)), (1, (0, p1)), (2, (0, p2)), (3, (0, p3)), (4, (0, p4))], [], w) (fun r w' => ∃ z : Int, r = [(0, z)] ∧ ((w = w' ∧ ¬ ((-8000 ≤ p1 ∧ p1 ≤ 8000) ∧ (-8000 ≤ p2 ∧ p2 ≤ 8000) ∧ (0 ≤ p3 ∧ p3 ≤ 4095) ∧ (0 ≤ p4 ∧ p4 ≤ 800) ∧ w 275 3 = 0 ∧ w 275 10 ≤ 3)) ∨ (((-8000 ≤ p1 ∧ p1 ≤ 8000) ∧ (-8000 ≤ p2 ∧ p2 ≤ 8000) ∧ (0 ≤ p3 ∧ p3 ≤ 4095) ∧ (0 ≤ p4 ∧ p4 ≤ 800) ∧ w 275 3 = 0 ∧ w 275 10 ≤ 3) ∧ e_fr (mF 10 282 285) w w' ∧ e_Has mTy w' ∧ w' 275 10 = w 275 10 + 1))) := by
  obtain ⟨d, rfl⟩ : ∃ e, d = e + 1 := ⟨d - 1, by omega⟩
  have hop := e_Has.get hT (c := 275) (k := 3) (lo := 0) (hi := 1) (mt_o rfl) (by decide)
  have hr := e_Has.get hT (c := 275) (k := 10) (lo := 0) (hi := 4) (mt_o rfl) (by decide)
  refine e_Ok.ps3 (x := (4, 8000)) (y := (4, (-8000))) (z := (4, p1)) (q := 8) 4 rfl ?_
  refine e_Ok.callS rfl (e_dq hd rfl) rfl rfl (c_266) (fun r1 w2 h3 => ?_)
  obtain ⟨z4, rfl, rfl, q5⟩ := h3
  obtain ⟨rfl, q5⟩ | ⟨rfl, q5⟩ := q5
  · refine e_Ok.nrm (q := 11) (st' := [(0, 1)]) rfl rfl ?_
    refine e_Ok.if1 rfl (fun h6 => ?_) (fun h6 => ?_)
    · replace h6 : (1 : Int) = 0 := h6
      exfalso; omega
    · replace h6 : (1 : Int) ≠ 0 := (show ¬ ((1 : Int) = 0) from h6)
      refine e_Ok.ps3 (x := (4, 8000)) (y := (4, (-8000))) (z := (4, p2)) (q := 22) 4 rfl ?_
      refine e_Ok.callS rfl (e_dq hd rfl) rfl rfl (c_266) (fun r7 w8 h9 => ?_)
      obtain ⟨z10, rfl, rfl, q11⟩ := h9
      obtain ⟨rfl, q11⟩ | ⟨rfl, q11⟩ := q11
      · refine e_Ok.nrm (q := 25) (st' := [(0, 1)]) rfl rfl ?_
        refine e_Ok.if1 rfl (fun h12 => ?_) (fun h12 => ?_)
        · replace h12 : (1 : Int) = 0 := h12
          exfalso; omega
        · replace h12 : (1 : Int) ≠ 0 := (show ¬ ((1 : Int) = 0) from h12)
          refine e_Ok.ps3 (x := (4, 4095)) (y := (4, 0)) (z := (4, p3)) (q := 34) 4 rfl ?_
          refine e_Ok.callS rfl (e_dq hd rfl) rfl rfl (c_266) (fun r13 w14 h15 => ?_)
          obtain ⟨z16, rfl, rfl, q17⟩ := h15
          obtain ⟨rfl, q17⟩ | ⟨rfl, q17⟩ := q17
          · refine e_Ok.nrm (q := 37) (st' := [(0, 1)]) rfl rfl ?_
            refine e_Ok.if1 rfl (fun h18 => ?_) (fun h18 => ?_)
            · replace h18 : (1 : Int) = 0 := h18
              exfalso; omega
            · replace h18 : (1 : Int) ≠ 0 := (show ¬ ((1 : Int) = 0) from h18)
              refine e_Ok.ps3 (x := (4, 800)) (y := (4, 0)) (z := (4, p4)) (q := 47) 4 rfl ?_
              refine e_Ok.callS rfl (e_dq hd rfl) rfl rfl (c_266) (fun r19 w20 h21 => ?_)
              obtain ⟨z22, rfl, rfl, q23⟩ := h21
              obtain ⟨rfl, q23⟩ | ⟨rfl, q23⟩ := q23
              · refine e_Ok.nrm (q := 50) (st' := [(0, 1)]) rfl rfl ?_
                refine e_Ok.if1 rfl (fun h24 => ?_) (fun h24 => ?_)
                · replace h24 : (1 : Int) ≠ 0 := h24
                  refine e_Ok.ps1 (x := (1, 275)) (q := 56) 1 rfl ?_
                  refine e_Ok.getf (z := w 275 3) rfl (el_o rfl) rfl (ef_o rfl) rfl (by omega) ?_
                  refine e_Ok.if1 rfl (fun h25 => ?_) (fun h25 => ?_)
                  · replace h25 : (w 275 3 : Int) = 0 := h25
                    refine e_Ok.ps1 (x := (1, 275)) (q := 66) 1 rfl ?_
                    refine e_Ok.getf (z := w 275 10) rfl (el_o rfl) rfl (ef_o rfl) rfl (by omega) ?_
                    refine e_Ok.ps1 (x := (0, 4)) (q := 70) 1 rfl ?_
                    refine e_Ok.if2 rfl (fun h26 => ?_) (fun h26 => ?_)
                    · replace h26 : (w 275 10 : Int) ≠ 4 := h26
                      refine e_Ok.ps1 (x := (1, 275)) (q := 77) 1 rfl ?_
                      refine e_Ok.getr (z := 282) rfl (el_o rfl) rfl (ef_o rfl) (e_Has.eq hT (mt_o rfl)) ⟨by decide, by decide⟩ ?_
                      refine e_Ok.ps1 (x := (1, 275)) (q := 81) 1 rfl ?_
                      refine e_Ok.getf (z := w 275 10) rfl (el_o rfl) rfl (ef_o rfl) rfl (by omega) ?_
                      refine e_Ok.ps1 (x := (0, p1)) (q := 85) 1 rfl ?_
                      refine e_Ok.ast rfl (el_o rfl) rfl rfl (by omega) ?_
                      generalize hw27 : e_up w 282 (w 275 10) p1 = w27
                      have hT29 : e_Has mTy w27 := e_Has.upr hT hw27 (mt_o rfl) (by omega)
                      refine e_Ok.ps1 (x := (1, 275)) (q := 87) 1 rfl ?_
                      refine e_Ok.getr (z := 283) rfl (el_o rfl) rfl (ef_o rfl) (e_uq hw27 (Or.inl (by decide)) (e_Has.eq hT (mt_o rfl))) ⟨by decide, by decide⟩ ?_
                      refine e_Ok.ps1 (x := (1, 275)) (q := 91) 1 rfl ?_
                      refine e_Ok.getf (z := w 275 10) rfl (el_o rfl) rfl (ef_o rfl) (e_uq hw27 (Or.inl (by decide)) rfl) (by omega) ?_
                      refine e_Ok.ps1 (x := (0, p2)) (q := 95) 1 rfl ?_
                      refine e_Ok.ast rfl (el_o rfl) rfl rfl (by omega) ?_
                      generalize hw30 : e_up w27 283 (w 275 10) p2 = w30
                      have hT32 : e_Has mTy w30 := e_Has.upr hT29 hw30 (mt_o rfl) (by omega)
                      refine e_Ok.ps1 (x := (1, 275)) (q := 97) 1 rfl ?_
                      refine e_Ok.getr (z := 284) rfl (el_o rfl) rfl (ef_o rfl) (e_uq hw30 (Or.inl (by decide)) (e_uq hw27 (Or.inl (by decide)) (e_Has.eq hT (mt_o rfl)))) ⟨by decide, by decide⟩ ?_
                      refine e_Ok.ps1 (x := (1, 275)) (q := 101) 1 rfl ?_
                      refine e_Ok.getf (z := w 275 10) rfl (el_o rfl) rfl (ef_o rfl) (e_uq hw30 (Or.inl (by decide)) (e_uq hw27 (Or.inl (by decide)) rfl)) (by omega) ?_
                      refine e_Ok.ps1 (x := (0, p3)) (q := 105) 1 rfl ?_
                      refine e_Ok.ast rfl (el_o rfl) rfl rfl (by omega) ?_
                      generalize hw33 : e_up w30 284 (w 275 10) p3 = w33
                      have hT35 : e_Has mTy w33 := e_Has.upr hT32 hw33 (mt_o rfl) (by omega)
                      refine e_Ok.ps1 (x := (1, 275)) (q := 107) 1 rfl ?_
                      refine e_Ok.getr (z := 285) rfl (el_o rfl) rfl (ef_o rfl) (e_uq hw33 (Or.inl (by decide)) (e_uq hw30 (Or.inl (by decide)) (e_uq hw27 (Or.inl (by decide)) (e_Has.eq hT (mt_o rfl))))) ⟨by decide, by decide⟩ ?_
                      refine e_Ok.ps1 (x := (1, 275)) (q := 111) 1 rfl ?_
                      refine e_Ok.getf (z := w 275 10) rfl (el_o rfl) rfl (ef_o rfl) (e_uq hw33 (Or.inl (by decide)) (e_uq hw30 (Or.inl (by decide)) (e_uq hw27 (Or.inl (by decide)) rfl))) (by omega) ?_
                      refine e_Ok.ps1 (x := (0, p4)) (q := 116) 1 rfl ?_
                      refine e_Ok.ast rfl (el_o rfl) rfl rfl (by omega) ?_
                      generalize hw36 : e_up w33 285 (w 275 10) p4 = w36
                      have hT38 : e_Has mTy w36 := e_Has.upr hT35 hw36 (mt_o rfl) (by omega)
                      refine e_Ok.ps2 (x := (1, 275)) (y := (1, 275)) (q := 119) 2 rfl ?_
                      refine e_Ok.getf (z := w 275 10) rfl (el_o rfl) rfl (ef_o rfl) (e_uq hw36 (Or.inl (by decide)) (e_uq hw33 (Or.inl (by decide)) (e_uq hw30 (Or.inl (by decide)) (e_uq hw27 (Or.inl (by decide)) rfl)))) (by omega) ?_
                      refine e_Ok.ps1 (x := (0, 1)) (q := 123) 1 rfl ?_
                      refine e_Ok.add (z := w 275 10 + 1) rfl rfl (by omega) ?_
                      refine e_Ok.putf rfl (el_o rfl) rfl (ef_o rfl) ?_
                      generalize hw40 : e_up w36 275 10 (w 275 10 + 1) = w40
                      have hT42 : e_Has mTy w40 := e_Has.upr hT38 hw40 (mt_o rfl) (by omega)
                      refine e_Ok.ps1 (x := (1, 275)) (q := 128) 1 rfl ?_
                      refine e_Ok.getf (z := w 275 10 + 1) rfl (el_o rfl) rfl (ef_o rfl) (e_ue hw40) (by omega) ?_
                      refine e_Ok.ps1 (x := (0, 1)) (q := 132) 1 rfl ?_
                      refine e_Ok.sub' (z := w 275 10) rfl (by omega) (by omega) ?_
                      refine e_Ok.rets rfl rfl ?_
                      have e10 : w40 275 10 = w 275 10 + 1 := (e_ue hw40)
                      exact ⟨_, rfl, Or.inr ⟨by omega, (show e_fr (mF 10 282 285) w w40 from e_fr.up (show e_fr (mF 10 282 285) w w36 from e_fr.up (show e_fr (mF 10 282 285) w w33 from e_fr.up (show e_fr (mF 10 282 285) w w30 from e_fr.up (show e_fr (mF 10 282 285) w w27 from e_fr.up (e_fr.refl w) hw27 (by first | exact Or.inr ⟨(by decide), (by decide)⟩ | (unfold mF; omega))) hw30 (by first | exact Or.inr ⟨(by decide), (by decide)⟩ | (unfold mF; omega))) hw33 (by first | exact Or.inr ⟨(by decide), (by decide)⟩ | (unfold mF; omega))) hw36 (by first | exact Or.inr ⟨(by decide), (by decide)⟩ | (unfold mF; omega))) hw40 (by first | exact Or.inl ⟨rfl, rfl⟩ | (unfold mF; omega))), hT42, by omega⟩⟩
                    · replace h26 : (w 275 10 : Int) = 4 := Classical.not_not.mp (show ¬ ((w 275 10 : Int) ≠ 4) from h26)
                      refine e_Ok.ps1 (x := (0, (-3))) (q := 75) 1 rfl ?_
                      refine e_Ok.rets rfl rfl ?_
                      exact ⟨_, rfl, Or.inl ⟨rfl, by omega⟩⟩
                  · replace h25 : (w 275 3 : Int) ≠ 0 := (show ¬ ((w 275 3 : Int) = 0) from h25)
                    refine e_Ok.ps1 (x := (0, (-2))) (q := 64) 1 rfl ?_
                    refine e_Ok.rets rfl rfl ?_
                    exact ⟨_, rfl, Or.inl ⟨rfl, by omega⟩⟩
                · replace h24 : (1 : Int) = 0 := Classical.not_not.mp (show ¬ ((1 : Int) ≠ 0) from h24)
                  exfalso; omega
              · refine e_Ok.nrm (q := 50) (st' := [(0, 0)]) rfl rfl ?_
                refine e_Ok.if1 rfl (fun h43 => ?_) (fun h43 => ?_)
                · replace h43 : (0 : Int) ≠ 0 := h43
                  exfalso; omega
                · replace h43 : (0 : Int) = 0 := Classical.not_not.mp (show ¬ ((0 : Int) ≠ 0) from h43)
                  refine e_Ok.ps1 (x := (0, (-1))) (q := 54) 1 rfl ?_
                  refine e_Ok.rets rfl rfl ?_
                  exact ⟨_, rfl, Or.inl ⟨rfl, by omega⟩⟩
          · refine e_Ok.nrm (q := 37) (st' := [(0, 0)]) rfl rfl ?_
            refine e_Ok.if1 rfl (fun h44 => ?_) (fun h44 => ?_)
            · replace h44 : (0 : Int) = 0 := h44
              refine e_Ok.ps1 (x := (0, (-1))) (q := 54) 1 rfl ?_
              refine e_Ok.rets rfl rfl ?_
              exact ⟨_, rfl, Or.inl ⟨rfl, by omega⟩⟩
            · replace h44 : (0 : Int) ≠ 0 := (show ¬ ((0 : Int) = 0) from h44)
              exfalso; omega
      · refine e_Ok.nrm (q := 25) (st' := [(0, 0)]) rfl rfl ?_
        refine e_Ok.if1 rfl (fun h45 => ?_) (fun h45 => ?_)
        · replace h45 : (0 : Int) = 0 := h45
          refine e_Ok.ps1 (x := (0, (-1))) (q := 54) 1 rfl ?_
          refine e_Ok.rets rfl rfl ?_
          exact ⟨_, rfl, Or.inl ⟨rfl, by omega⟩⟩
        · replace h45 : (0 : Int) ≠ 0 := (show ¬ ((0 : Int) = 0) from h45)
          exfalso; omega
  · refine e_Ok.nrm (q := 11) (st' := [(0, 0)]) rfl rfl ?_
    refine e_Ok.if1 rfl (fun h46 => ?_) (fun h46 => ?_)
    · replace h46 : (0 : Int) = 0 := h46
      refine e_Ok.ps1 (x := (0, (-1))) (q := 54) 1 rfl ?_
      refine e_Ok.rets rfl rfl ?_
      exact ⟨_, rfl, Or.inl ⟨rfl, by omega⟩⟩
    · replace h46 : (0 : Int) ≠ 0 := (show ¬ ((0 : Int) = 0) from h46)
      exfalso; omega
theorem m_278x {d : Nat} (hd : 24 ≤ d) {w : eW} (h : mRel w) {p1 p2 p3 p4 : Int} (g1 : -2147483648 ≤ p1 ∧ p1 ≤ 2147483647) (g2 : -2147483648 ≤ p2 ∧ p2 ≤ 2147483647) (g3 : -2147483648 ≤ p3 ∧ p3 ≤ 2147483647) (g4 : -2147483648 ≤ p4 ∧ p4 ≤ 2147483647) : e_Ok 20 elay ecode eI d 278 (0, [(0, (1, 275)), (1, (0, p1)), (2, (0, p2)), (3, (0, p3)), (4, (0, p4))], [], w) (fun r w' => ∃ z : Int, r = [(0, z)] ∧ mRel w' ∧ w' 275 3 = w 275 3 ∧ w' 275 9 = w 275 9 ∧ ((¬ ((-8000 ≤ p1 ∧ p1 ≤ 8000) ∧ (-8000 ≤ p2 ∧ p2 ≤ 8000) ∧ (0 ≤ p3 ∧ p3 ≤ 4095) ∧ (0 ≤ p4 ∧ p4 ≤ 800) ∧ w 275 3 = 0 ∧ w 275 10 ≤ 3) ∧ w' 275 10 = w 275 10) ∨ (((-8000 ≤ p1 ∧ p1 ≤ 8000) ∧ (-8000 ≤ p2 ∧ p2 ≤ 8000) ∧ (0 ≤ p3 ∧ p3 ≤ 4095) ∧ (0 ≤ p4 ∧ p4 ≤ 800) ∧ w 275 3 = 0 ∧ w 275 10 ≤ 3) ∧ w' 275 10 = w 275 10 + 1))) :=
  (c_278_x hd h.1 g1 g2 g3 g4).imp (fun r w' q => by
    obtain ⟨z, hr, q⟩ := q
    rcases q with ⟨rfl, q⟩ | ⟨q1, q2, q3, q4⟩
    · exact ⟨z, hr, h, rfl, rfl, Or.inl ⟨q, rfl⟩⟩
    · obtain ⟨r1, r2, r3⟩ := h.bld q1.2.2.2.2.1 q2 q3 (by decide) (by decide) (fun G g => g.arm q2 q3 q4)
      exact ⟨z, hr, r1, r2, r3, Or.inr ⟨q1, q4⟩⟩)
end
end
