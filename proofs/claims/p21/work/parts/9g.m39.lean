noncomputable section
set_option maxHeartbeats 4000000 in
theorem c_430 {d : Nat} (hd : 27 ≤ d) {w : eW} {G : Int → Gh} (hI : mInv w G) (hB : bkE w) (hE : w 276 5 ≤ 7000000) {p1 : Int} (g1 : -2147483648 ≤ p1 ∧ p1 ≤ 2147483647) : e_Ok 20 elay ecode eI d 430 (0, [(0, (1, 275)), (1, (0, p1))], [], w) (fun r w' => ∃ z : Int, r = [(0, z)] ∧ ((w = w' ∧ ¬ ((((0 ≤ p1 ∧ p1 ≤ 7) ∧ w 275 3 = 1 ∧ w 317 p1 ≠ 0 ∧ w 276 1 ≠ 1) ∧ (∀ i, 0 ≤ i → i < w 275 49 → w 276 (4 * i + 20836) ≠ 0 ∧ w 276 (4 * i + 20837) ≠ 0)) ∧ ¬ mBk w)) ∨ ((((0 ≤ p1 ∧ p1 ≤ 7) ∧ w 275 3 = 1 ∧ w 317 p1 ≠ 0 ∧ w 276 1 ≠ 1) ∧ (∀ i, 0 ≤ i → i < w 275 49 → w 276 (4 * i + 20836) ≠ 0 ∧ w 276 (4 * i + 20837) ≠ 0)) ∧ ¬ mBk w ∧ opS w w' G 5 p1 0 0 (nowF 319 [(0, (1, 275)), (1, (0, 3)), (2, (0, p1)), (3, (0, 0))] (wn w (fun k => rsW w (w 275 49) k))) ∧ evG w w'))) := by
  obtain ⟨d, rfl⟩ : ∃ e, d = e + 1 := ⟨d - 1, by omega⟩
  have hin := e_Has.get hI.1 (c := 275) (k := 49) (lo := 0) (hi := 8) rfl (by decide)
  have hpw := e_Has.get hI.1 (c := 276) (k := 1) (lo := 0) (hi := 1) rfl (by decide)
  refine e_Ok.run (t' := (6, [(0, (1, 275)), (1, (0, p1))], [(4, 7), (4, 0), (4, p1)], w)) 4 rfl ?_
  refine e_Ok.callS rfl (by omega) rfl rfl (c_266) (fun r1 w2 h3 => ?_)
  obtain ⟨z4, rfl, rfl, q5⟩ := h3
  obtain ⟨rfl, q5⟩ | ⟨rfl, q5⟩ := q5
  · show e_Ok 20 elay ecode eI (d + 1) 430 (9, [(0, (1, 275)), (1, (0, p1))], [(0, 1)], w) _
    refine e_Ok.if1 rfl (fun h6 => ?_) (fun h6 => ?_)
    · replace h6 : (1 : Int) ≠ 0 := h6
      refine e_Ok.run (t' := (15, [(0, (1, 275)), (1, (0, p1))], [(1, 275)], w)) 1 rfl ?_
      have h7 := (e_Has.get hI.1 (c := 275) (k := 3) (lo := 0) (hi := 1) rfl (by decide))
      refine e_Ok.getf (z := w 275 3) rfl (el_o rfl) rfl rfl rfl (by omega) ?_
      refine e_Ok.if1 rfl (fun h8 => ?_) (fun h8 => ?_)
      · replace h8 : (w 275 3 : Int) = 0 := h8
        refine e_Ok.run (t' := (42, [(0, (1, 275)), (1, (0, p1))], [(0, (-2))], w)) 1 rfl ?_
        refine e_Ok.rets rfl rfl ?_
        exact ⟨_, rfl, Or.inl ⟨rfl, fun hc => by first | exact hc.2 (by assumption) | (have h1 := hc.1.1; omega) | (have h1 := hc.1.2 y2 (by omega) (by omega); omega)⟩⟩
      · replace h8 : (w 275 3 : Int) ≠ 0 := by have q : ¬ ((w 275 3 : Int) = 0) := h8; omega
        refine e_Ok.run (t' := (22, [(0, (1, 275)), (1, (0, p1))], [(1, 275)], w)) 1 rfl ?_
        refine e_Ok.getr (z := 317) rfl (el_o rfl) rfl rfl (e_Has.eq hI.1 rfl) (by omega) ?_
        refine e_Ok.run (t' := (26, [(0, (1, 275)), (1, (0, p1))], [(0, p1), (1, 317)], w)) 1 rfl ?_
        have h9 := (e_Has.get hI.1 (c := 317) (k := p1) (lo := 0) (hi := 1) rfl (by decide))
        refine e_Ok.ald (z := w 317 p1) rfl (el_o rfl) rfl (by omega) rfl (by omega) ?_
        refine e_Ok.if1 rfl (fun h10 => ?_) (fun h10 => ?_)
        · replace h10 : (w 317 p1 : Int) = 0 := h10
          refine e_Ok.run (t' := (42, [(0, (1, 275)), (1, (0, p1))], [(0, (-2))], w)) 1 rfl ?_
          refine e_Ok.rets rfl rfl ?_
          exact ⟨_, rfl, Or.inl ⟨rfl, fun hc => by first | exact hc.2 (by assumption) | (have h1 := hc.1.1; omega) | (have h1 := hc.1.2 y2 (by omega) (by omega); omega)⟩⟩
        · replace h10 : (w 317 p1 : Int) ≠ 0 := by have q : ¬ ((w 317 p1 : Int) = 0) := h10; omega
          refine e_Ok.run (t' := (31, [(0, (1, 275)), (1, (0, p1))], [(1, 275)], w)) 1 rfl ?_
          refine e_Ok.getr (z := 276) rfl (el_o rfl) rfl rfl (e_Has.eq hI.1 rfl) (by omega) ?_
          refine e_Ok.run (t' := (35, [(0, (1, 275)), (1, (0, p1))], [(0, 1), (1, 276)], w)) 1 rfl ?_
          have h11 := (e_Has.get hI.1 (c := 276) (k := 1) (lo := 0) (hi := 1) rfl (by decide))
          refine e_Ok.ald (z := w 276 1) rfl (el_o rfl) rfl (by omega) rfl (by omega) ?_
          refine e_Ok.run (t' := (37, [(0, (1, 275)), (1, (0, p1))], [(0, 1), (0, w 276 1)], w)) 1 rfl ?_
          refine e_Ok.if2 rfl (fun h12 => ?_) (fun h12 => ?_)
          · replace h12 : (w 276 1 : Int) ≠ 1 := h12
            have hcond : ((0 ≤ p1 ∧ p1 ≤ 7) ∧ w 275 3 = 1 ∧ w 317 p1 ≠ 0 ∧ w 276 1 ≠ 1) := ⟨by omega, by omega, by omega, by omega⟩
            refine e_Ok.run (t' := (45, [(2, (0, 0)), (0, (1, 275)), (1, (0, p1))], [], w)) 2 rfl ?_
            have hL13 : ∀ (nn : Nat) (y2 : Int), (0 ≤ y2 ∧ y2 ≤ 8) ∧ (∀ i, 0 ≤ i → i < y2 → w 276 (4 * i + 20836) ≠ 0 ∧ w 276 (4 * i + 20837) ≠ 0) → 9 - y2 < nn → e_Ok 20 elay ecode eI (d + 1) 430 (45, [(0, (1, 275)), (1, (0, p1)), (2, (0, y2))], [], w) (fun r w' => ∃ z : Int, r = [(0, z)] ∧ ((w = w' ∧ ¬ ((((0 ≤ p1 ∧ p1 ≤ 7) ∧ w 275 3 = 1 ∧ w 317 p1 ≠ 0 ∧ w 276 1 ≠ 1) ∧ (∀ i, 0 ≤ i → i < w 275 49 → w 276 (4 * i + 20836) ≠ 0 ∧ w 276 (4 * i + 20837) ≠ 0)) ∧ ¬ mBk w)) ∨ ((((0 ≤ p1 ∧ p1 ≤ 7) ∧ w 275 3 = 1 ∧ w 317 p1 ≠ 0 ∧ w 276 1 ≠ 1) ∧ (∀ i, 0 ≤ i → i < w 275 49 → w 276 (4 * i + 20836) ≠ 0 ∧ w 276 (4 * i + 20837) ≠ 0)) ∧ ¬ mBk w ∧ opS w w' G 5 p1 0 0 (nowF 319 [(0, (1, 275)), (1, (0, 3)), (2, (0, p1)), (3, (0, 0))] (wn w (fun k => rsW w (w 275 49) k))) ∧ evG w w'))) := by
              intro nn
              induction nn with
              | zero => intro y2 hj hm; obtain ⟨j15, j16⟩ := hj; exfalso; omega
              | succ nn ih14 =>
                intro y2 hj hm
                obtain ⟨j15, j16⟩ := hj
                refine e_Ok.run (t' := (47, [(0, (1, 275)), (1, (0, p1)), (2, (0, y2))], [(1, 275), (0, y2)], w)) 2 rfl ?_
                have h17 := (e_Has.get hI.1 (c := 275) (k := 49) (lo := 0) (hi := 8) rfl (by decide))
                refine e_Ok.getf (z := w 275 49) rfl (el_o rfl) rfl rfl rfl (by omega) ?_
                refine e_Ok.if2 rfl (fun h18 => ?_) (fun h18 => ?_)
                · replace h18 : (y2 : Int) ≥ w 275 49 := h18
                  have hinf : (∀ i, 0 ≤ i → i < w 275 49 → w 276 (4 * i + 20836) ≠ 0 ∧ w 276 (4 * i + 20837) ≠ 0) := fun i g1 g2 => j16 i g1 (by omega)
                  refine e_Ok.run (t' := (95, [(0, (1, 275)), (1, (0, p1)), (2, (0, y2))], [(1, 275)], w)) 1 rfl ?_
                  refine e_Ok.callV rfl (by omega) rfl rfl rfl rfl (c_422_x hI.1 hB) (fun r19 w20 h21 => ?_)
                  obtain ⟨z22, rfl, rfl, q23⟩ := h21
                  obtain ⟨rfl, q23⟩ | ⟨rfl, q23⟩ := q23
                  · show e_Ok 20 elay ecode eI (d + 1) 430 (98, [(0, (1, 275)), (1, (0, p1)), (2, (0, y2))], [(0, 1)], w) _
                    refine e_Ok.if1 rfl (fun h24 => ?_) (fun h24 => ?_)
                    · replace h24 : (1 : Int) = 0 := h24
                      exfalso; omega
                    · replace h24 : (1 : Int) ≠ 0 := by have q : ¬ ((1 : Int) = 0) := h24; omega
                      refine e_Ok.run (t' := (103, [(0, (1, 275)), (1, (0, p1)), (2, (0, y2))], [(0, (-3))], w)) 1 rfl ?_
                      refine e_Ok.rets rfl rfl ?_
                      exact ⟨_, rfl, Or.inl ⟨rfl, fun hc => by first | exact hc.2 (by assumption) | (have h1 := hc.1.1; omega) | (have h1 := hc.1.2 y2 (by omega) (by omega); omega)⟩⟩
                  · show e_Ok 20 elay ecode eI (d + 1) 430 (98, [(0, (1, 275)), (1, (0, p1)), (2, (0, y2))], [(0, 0)], w) _
                    refine e_Ok.if1 rfl (fun h25 => ?_) (fun h25 => ?_)
                    · replace h25 : (0 : Int) = 0 := h25
                      refine e_Ok.run (t' := (106, [(2, (0, 0)), (0, (1, 275)), (1, (0, p1))], [], w)) 2 rfl ?_
                      have hL26 : ∀ (nn : Nat) (x2 : Int) (v1 : eW), e_fr mTi w v1 ∧ e_Has mTy v1 ∧ (0 ≤ x2 ∧ x2 ≤ 8 ∧ x2 ≤ w 275 49) ∧ e_fr mRs w v1 ∧ (∀ k, v1 276 k = rsI w x2 k) → 9 - x2 < nn → e_Ok 20 elay ecode eI (d + 1) 430 (106, [(0, (1, 275)), (1, (0, p1)), (2, (0, x2))], [], v1) (fun r w' => ∃ z : Int, r = [(0, z)] ∧ ((w = w' ∧ ¬ ((((0 ≤ p1 ∧ p1 ≤ 7) ∧ w 275 3 = 1 ∧ w 317 p1 ≠ 0 ∧ w 276 1 ≠ 1) ∧ (∀ i, 0 ≤ i → i < w 275 49 → w 276 (4 * i + 20836) ≠ 0 ∧ w 276 (4 * i + 20837) ≠ 0)) ∧ ¬ mBk w)) ∨ ((((0 ≤ p1 ∧ p1 ≤ 7) ∧ w 275 3 = 1 ∧ w 317 p1 ≠ 0 ∧ w 276 1 ≠ 1) ∧ (∀ i, 0 ≤ i → i < w 275 49 → w 276 (4 * i + 20836) ≠ 0 ∧ w 276 (4 * i + 20837) ≠ 0)) ∧ ¬ mBk w ∧ opS w w' G 5 p1 0 0 (nowF 319 [(0, (1, 275)), (1, (0, 3)), (2, (0, p1)), (3, (0, 0))] (wn w (fun k => rsW w (w 275 49) k))) ∧ evG w w'))) := by
                        intro nn
                        induction nn with
                        | zero => intro x2 v1 hj hm; obtain ⟨j28, j29, j30, j31, j32⟩ := hj; exfalso; omega
                        | succ nn ih27 =>
                          intro x2 v1 hj hm
                          obtain ⟨j28, j29, j30, j31, j32⟩ := hj
                          refine e_Ok.run (t' := (108, [(0, (1, 275)), (1, (0, p1)), (2, (0, x2))], [(1, 275), (0, x2)], v1)) 2 rfl ?_
                          refine e_Ok.getf (z := w 275 49) rfl (el_o rfl) rfl rfl ((j31 275 49 (by unfold mRs; omega)).trans rfl) (by omega) ?_
                          refine e_Ok.if2 rfl (fun h33 => ?_) (fun h33 => ?_)
                          · replace h33 : (x2 : Int) ≥ w 275 49 := h33
                            refine e_Ok.run (t' := (136, [(0, (1, 275)), (1, (0, p1)), (2, (0, x2))], [(1, 275)], v1)) 1 rfl ?_
                            refine e_Ok.getr (z := 276) rfl (el_o rfl) rfl rfl ((j31 275 0 (by unfold mRs; omega)).trans (e_Has.eq hI.1 rfl)) (by omega) ?_
                            refine e_Ok.run (t' := (141, [(0, (1, 275)), (1, (0, p1)), (2, (0, x2))], [(0, 1), (0, 1), (1, 276)], v1)) 2 rfl ?_
                            refine e_Ok.ast rfl (el_o rfl) rfl rfl (by omega) ?_
                            generalize hw34 : e_up v1 276 1 1 = w34
                            have f35 : e_fr mTi w w34 := e_fr.up j28 hw34 (by unfold mTi; omega)
                            have hT36 : e_Has mTy w34 := e_Has.upr j29 hw34 rfl (by omega)
                            have hx2 : x2 = w 275 49 := by omega
                            have hrs : ∀ k, w34 276 k = rsW w (w 275 49) k := fun k => by rw [← hx2]; exact rsW_of j32 hw34 k
                            have hI37 : mInv w34 G := mInv.power hI (e_fr.up j31 hw34 (by unfold mRs; omega)) hT36 (by rw [show w34 276 1 = 1 from (by rw [← hw34]; exact e_up_eq _ _ _ _)]; decide)
                            refine e_Ok.run (t' := (146, [(0, (1, 275)), (1, (0, p1)), (2, (0, x2))], [(0, 0), (0, p1), (0, 3), (1, 275)], w34)) 4 rfl ?_
                            have e5 : w34 276 5 = w 276 5 := (by rw [← hw34]; exact (e_up_ne _ _ (Or.inr (by omega))).trans ((j31 276 5 (by unfold mRs; omega)).trans rfl))
                            have e0 : w34 276 0 = w 276 0 := (by rw [← hw34]; exact (e_up_ne _ _ (Or.inr (by omega))).trans ((j31 276 0 (by unfold mRs; omega)).trans rfl))
                            refine e_Ok.callV rfl (by omega) rfl rfl rfl rfl (d_319 hT36 (by omega) (by omega) (by omega) (by omega)) (fun r38 w40 h41 => ?_)
                            obtain ⟨⟨rfl, q42, q42T, q42n⟩, q42x⟩ := h41
                            have f43 : e_fr mTi w w40 := e_fr.trans f35 (e_fr.mono q42 (fun c k q => by exact e_ti q))
                            have hI44 : mInv w40 G := mInv.same hI37 q42 q42T (fun c k q => e_idl q)
                            have q42o := q42 276 0 (by unfold mE; omega)
                            have q42y : ∀ k, w40 276 k = nowF 319 [(0, (1, 275)), (1, (0, 3)), (2, (0, p1)), (3, (0, 0))] (wn w (fun k => rsW w (w 275 49) k)) k := fun k => by rw [q42x k, nowF_eq (wn_low f35 hrs)]
                            show e_Ok 20 elay ecode eI (d + 1) 430 (149, [(0, (1, 275)), (1, (0, p1)), (2, (0, x2))], [], w40) _
                            refine e_Ok.run (t' := (154, [(0, (1, 275)), (1, (0, p1)), (2, (0, x2))], [(0, 0), (0, 0), (0, p1), (0, 5), (1, 275)], w40)) 5 rfl ?_
                            refine e_Ok.callV rfl (by omega) rfl rfl rfl rfl (c_423_u (by omega) q42T (bkE.fr hB (f43 275 5 (by unfold mTi; omega)) (f43 275 6 (by unfold mTi; omega)) (fun k => f43 356 k (by unfold mTi; omega))).1 (fun e => by have e5 : w40 275 5 = w 275 5 := f43 275 5 (by unfold mTi; omega); have e6 : w40 275 6 = w 275 6 := f43 275 6 (by unfold mTi; omega); have h1 := hB.1; have h2 := (show ¬ mBk w by assumption); unfold mBk at h2; omega) (by decide) (fun e => by omega)) (fun r45 w46 h47 => ?_)
                            obtain ⟨rfl, q48⟩ := h47
                            show e_Ok 20 elay ecode eI (d + 1) 430 (157, [(0, (1, 275)), (1, (0, p1)), (2, (0, x2))], [], w46) _
                            refine e_Ok.run (t' := (158, [(0, (1, 275)), (1, (0, p1)), (2, (0, x2))], [(0, 1)], w46)) 1 rfl ?_
                            refine e_Ok.rets rfl rfl ?_
                            have ek0 : w40 276 0 = w 276 0 := ((q42 276 0 (by unfold mE; omega)).trans (by rw [← hw34]; exact (e_up_ne _ _ (Or.inr (by omega))).trans ((j31 276 0 (by unfold mRs; omega)).trans rfl)))
                            have ek5 : w40 276 5 = w40 276 5 := rfl
                            exact ⟨_, rfl, Or.inr ⟨⟨hcond, hinf⟩, by assumption, opS.ev (wm := w40) (opS.of f43 hI44 q42y q48) q42y (by unfold evG; omega)⟩⟩
                          · replace h33 : (x2 : Int) < w 275 49 := by have q : ¬ ((x2 : Int) ≥ w 275 49) := h33; omega
                            refine e_Ok.run (t' := (115, [(0, (1, 275)), (1, (0, p1)), (2, (0, x2))], [(1, 275)], v1)) 1 rfl ?_
                            refine e_Ok.getr (z := 276) rfl (el_o rfl) rfl rfl ((j31 275 0 (by unfold mRs; omega)).trans (e_Has.eq hI.1 rfl)) (by omega) ?_
                            refine e_Ok.run (t' := (123, [(0, (1, 275)), (1, (0, p1)), (2, (0, x2))], [(0, x2), (0, 4), (0, 20836), (1, 276)], v1)) 3 rfl ?_
                            refine e_Ok.mul (z := 4 * x2) rfl (by omega) (by omega) ?_
                            refine e_Ok.add (z := 4 * x2 + 20836) rfl (by omega) (by omega) ?_
                            refine e_Ok.run (t' := (126, [(0, (1, 275)), (1, (0, p1)), (2, (0, x2))], [(0, 3), (0, 4 * x2 + 20836), (1, 276)], v1)) 1 rfl ?_
                            refine e_Ok.add (z := 4 * x2 + 20839) rfl (by omega) (by omega) ?_
                            refine e_Ok.run (t' := (128, [(0, (1, 275)), (1, (0, p1)), (2, (0, x2))], [(0, 0), (0, 4 * x2 + 20839), (1, 276)], v1)) 1 rfl ?_
                            refine e_Ok.ast rfl (el_o rfl) rfl rfl (by omega) ?_
                            generalize hw49 : e_up v1 276 (4 * x2 + 20839) 0 = w49
                            have f50 : e_fr mTi w w49 := e_fr.up j28 hw49 (by unfold mTi; omega)
                            have hT51 : e_Has mTy w49 := e_Has.upr j29 hw49 (nR_INPUT (i := x2) (f := 3) (by omega) (by decide)) (by omega)
                            refine e_Ok.inc (z := x2 + 1) rfl rfl (by omega) (by omega) ?_
                            show e_Ok 20 elay ecode eI (d + 1) 430 (132, [(2, (0, x2 + 1)), (0, (1, 275)), (1, (0, p1))], [], w49) _
                            refine e_Ok.run (t' := (106, [(2, (0, x2 + 1)), (0, (1, 275)), (1, (0, p1))], [], w49)) 1 rfl ?_
                            refine e_Ok.sub eAlk (e_sub_of rfl ?_) (ih27 (x2 + 1) w49 ⟨f50, hT51, by omega, (e_fr.up j31 hw49 (by unfold mRs; omega)), (fun k => rsI_step (by omega) j32 hw49 k)⟩ (by omega))
                            exact ⟨rfl, rfl, rfl, trivial⟩
                      refine e_Ok.sub eAlk (e_sub_of rfl ?_) (hL26 (9 + 1 : Int).toNat 0 w ⟨(e_fr.refl w), hI.1, by omega, (e_fr.refl w), (fun k => rsI_0 w k)⟩ (by omega))
                      exact ⟨rfl, rfl, rfl, trivial⟩
                    · replace h25 : (0 : Int) ≠ 0 := by have q : ¬ ((0 : Int) = 0) := h25; omega
                      exfalso; omega
                · replace h18 : (y2 : Int) < w 275 49 := by have q : ¬ ((y2 : Int) ≥ w 275 49) := h18; omega
                  refine e_Ok.run (t' := (54, [(0, (1, 275)), (1, (0, p1)), (2, (0, y2))], [(1, 275)], w)) 1 rfl ?_
                  refine e_Ok.getr (z := 276) rfl (el_o rfl) rfl rfl (e_Has.eq hI.1 rfl) (by omega) ?_
                  refine e_Ok.run (t' := (62, [(0, (1, 275)), (1, (0, p1)), (2, (0, y2))], [(0, y2), (0, 4), (0, 20836), (1, 276)], w)) 3 rfl ?_
                  refine e_Ok.mul (z := 4 * y2) rfl (by omega) (by omega) ?_
                  refine e_Ok.add (z := 4 * y2 + 20836) rfl (by omega) (by omega) ?_
                  have h52 := (e_Has.get hI.1 (c := 276) (k := 4 * y2 + 20836) (lo := 0) (hi := 1) (nR_INPUT (i := y2) (f := 0) (by omega) (by decide)) (by decide))
                  refine e_Ok.ald (z := w 276 (4 * y2 + 20836)) rfl (el_o rfl) rfl (by omega) rfl (by omega) ?_
                  refine e_Ok.if1 rfl (fun h53 => ?_) (fun h53 => ?_)
                  · replace h53 : (w 276 (4 * y2 + 20836) : Int) = 0 := h53
                    refine e_Ok.run (t' := (87, [(0, (1, 275)), (1, (0, p1)), (2, (0, y2))], [(0, (-2))], w)) 1 rfl ?_
                    refine e_Ok.rets rfl rfl ?_
                    exact ⟨_, rfl, Or.inl ⟨rfl, fun hc => by first | exact hc.2 (by assumption) | (have h1 := hc.1.1; omega) | (have h1 := hc.1.2 y2 (by omega) (by omega); omega)⟩⟩
                  · replace h53 : (w 276 (4 * y2 + 20836) : Int) ≠ 0 := by have q : ¬ ((w 276 (4 * y2 + 20836) : Int) = 0) := h53; omega
                    refine e_Ok.run (t' := (69, [(0, (1, 275)), (1, (0, p1)), (2, (0, y2))], [(1, 275)], w)) 1 rfl ?_
                    refine e_Ok.getr (z := 276) rfl (el_o rfl) rfl rfl (e_Has.eq hI.1 rfl) (by omega) ?_
                    refine e_Ok.run (t' := (77, [(0, (1, 275)), (1, (0, p1)), (2, (0, y2))], [(0, y2), (0, 4), (0, 20836), (1, 276)], w)) 3 rfl ?_
                    refine e_Ok.mul (z := 4 * y2) rfl (by omega) (by omega) ?_
                    refine e_Ok.add (z := 4 * y2 + 20836) rfl (by omega) (by omega) ?_
                    refine e_Ok.run (t' := (80, [(0, (1, 275)), (1, (0, p1)), (2, (0, y2))], [(0, 1), (0, 4 * y2 + 20836), (1, 276)], w)) 1 rfl ?_
                    refine e_Ok.add (z := 4 * y2 + 20837) rfl (by omega) (by omega) ?_
                    have h54 := (e_Has.get hI.1 (c := 276) (k := 4 * y2 + 20837) (lo := 0) (hi := 1) (nR_INPUT (i := y2) (f := 1) (by omega) (by decide)) (by decide))
                    refine e_Ok.ald (z := w 276 (4 * y2 + 20837)) rfl (el_o rfl) rfl (by omega) rfl (by omega) ?_
                    refine e_Ok.if1 rfl (fun h55 => ?_) (fun h55 => ?_)
                    · replace h55 : (w 276 (4 * y2 + 20837) : Int) ≠ 0 := h55
                      refine e_Ok.inc (z := y2 + 1) rfl rfl (by omega) (by omega) ?_
                      show e_Ok 20 elay ecode eI (d + 1) 430 (91, [(2, (0, y2 + 1)), (0, (1, 275)), (1, (0, p1))], [], w) _
                      refine e_Ok.run (t' := (45, [(2, (0, y2 + 1)), (0, (1, 275)), (1, (0, p1))], [], w)) 1 rfl ?_
                      refine e_Ok.sub eAlk (e_sub_of rfl ?_) (ih14 (y2 + 1) ⟨by omega, (fun i g1 g2 => Decidable.byCases (p := i = y2) (fun e => by rw [e]; omega) (fun e => j16 i g1 (by omega)))⟩ (by omega))
                      exact ⟨rfl, rfl, rfl, trivial⟩
                    · replace h55 : (w 276 (4 * y2 + 20837) : Int) = 0 := by have q : ¬ ((w 276 (4 * y2 + 20837) : Int) ≠ 0) := h55; omega
                      refine e_Ok.run (t' := (87, [(0, (1, 275)), (1, (0, p1)), (2, (0, y2))], [(0, (-2))], w)) 1 rfl ?_
                      refine e_Ok.rets rfl rfl ?_
                      exact ⟨_, rfl, Or.inl ⟨rfl, fun hc => by first | exact hc.2 (by assumption) | (have h1 := hc.1.1; omega) | (have h1 := hc.1.2 y2 (by omega) (by omega); omega)⟩⟩
            refine e_Ok.sub eAlk (e_sub_of rfl ?_) (hL13 (9 + 1 : Int).toNat 0 ⟨by omega, (fun i g1 g2 => by omega)⟩ (by omega))
            exact ⟨rfl, rfl, rfl, trivial⟩
          · replace h12 : (w 276 1 : Int) = 1 := by have q : ¬ ((w 276 1 : Int) ≠ 1) := h12; omega
            refine e_Ok.run (t' := (42, [(0, (1, 275)), (1, (0, p1))], [(0, (-2))], w)) 1 rfl ?_
            refine e_Ok.rets rfl rfl ?_
            exact ⟨_, rfl, Or.inl ⟨rfl, fun hc => by first | exact hc.2 (by assumption) | (have h1 := hc.1.1; omega) | (have h1 := hc.1.2 y2 (by omega) (by omega); omega)⟩⟩
    · replace h6 : (1 : Int) = 0 := by have q : ¬ ((1 : Int) ≠ 0) := h6; omega
      exfalso; omega
  · show e_Ok 20 elay ecode eI (d + 1) 430 (9, [(0, (1, 275)), (1, (0, p1))], [(0, 0)], w) _
    refine e_Ok.if1 rfl (fun h56 => ?_) (fun h56 => ?_)
    · replace h56 : (0 : Int) ≠ 0 := h56
      exfalso; omega
    · replace h56 : (0 : Int) = 0 := by have q : ¬ ((0 : Int) ≠ 0) := h56; omega
      refine e_Ok.run (t' := (13, [(0, (1, 275)), (1, (0, p1))], [(0, (-1))], w)) 1 rfl ?_
      refine e_Ok.rets rfl rfl ?_
      exact ⟨_, rfl, Or.inl ⟨rfl, fun hc => by first | exact hc.2 (by assumption) | (have h1 := hc.1.1; omega) | (have h1 := hc.1.2 y2 (by omega) (by omega); omega)⟩⟩
end
