noncomputable section
set_option maxHeartbeats 4000000 in
theorem c_428 {d : Nat} (hd : 27 ≤ d) {w : eW} {G : Int → Gh} (hI : mInv w G) (hB : bkE w) (hE : w 276 5 ≤ 7000000) {p1 p2 p3 : Int} (g1 : -2147483648 ≤ p1 ∧ p1 ≤ 2147483647) (g2 : -2147483648 ≤ p2 ∧ p2 ≤ 2147483647) (g3 : -2147483648 ≤ p3 ∧ p3 ≤ 2147483647) (hz3 : 0 ≤ p3 ∧ p3 ≤ 1) : e_Ok 20 elay ecode eI d 428 (0, [(0, (1, 275)), (1, (0, p1)), (2, (0, p2)), (3, (0, p3))], [], w) (fun r w' => ∃ z : Int, r = [(0, z)] ∧ ((w = w' ∧ ¬ ((0 ≤ p1 ∧ p1 ≤ 63 ∧ w 275 3 = 1) ∧ ¬ mBk w)) ∨ ((0 ≤ p1 ∧ p1 ≤ 63 ∧ w 275 3 = 1) ∧ ¬ mBk w ∧ opS w w' G 3 p1 p2 p3 (fun k => hcF (fcZ w p1 p2 p3) k) ∧ evG w w'))) := by
  obtain ⟨d, rfl⟩ : ∃ e, d = e + 1 := ⟨d - 1, by omega⟩
  refine e_Ok.run (t' := (2, [(0, (1, 275)), (1, (0, p1)), (2, (0, p2)), (3, (0, p3))], [(0, p1), (1, 275)], w)) 2 rfl ?_
  refine e_Ok.callV rfl (by omega) rfl rfl rfl rfl (c_424 (by omega)) (fun r1 w2 h3 => ?_)
  obtain ⟨z4, rfl, rfl, q5⟩ := h3
  obtain ⟨rfl, q5⟩ | ⟨rfl, q5⟩ := q5
  · show e_Ok 20 elay ecode eI (d + 1) 428 (5, [(0, (1, 275)), (1, (0, p1)), (2, (0, p2)), (3, (0, p3))], [(0, 1)], w) _
    refine e_Ok.if1 rfl (fun h6 => ?_) (fun h6 => ?_)
    · replace h6 : (1 : Int) ≠ 0 := h6
      refine e_Ok.run (t' := (11, [(0, (1, 275)), (1, (0, p1)), (2, (0, p2)), (3, (0, p3))], [(1, 275)], w)) 1 rfl ?_
      have h7 := (e_Has.get hI.1 (c := 275) (k := 3) (lo := 0) (hi := 1) rfl (by decide))
      refine e_Ok.getf (z := w 275 3) rfl (el_o rfl) rfl rfl rfl (by omega) ?_
      refine e_Ok.if1 rfl (fun h8 => ?_) (fun h8 => ?_)
      · replace h8 : (w 275 3 : Int) ≠ 0 := h8
        refine e_Ok.run (t' := (21, [(0, (1, 275)), (1, (0, p1)), (2, (0, p2)), (3, (0, p3))], [(1, 275)], w)) 1 rfl ?_
        refine e_Ok.callV rfl (by omega) rfl rfl rfl rfl (c_422_x hI.1 hB) (fun r9 w10 h11 => ?_)
        obtain ⟨z12, rfl, rfl, q13⟩ := h11
        obtain ⟨rfl, q13⟩ | ⟨rfl, q13⟩ := q13
        · show e_Ok 20 elay ecode eI (d + 1) 428 (24, [(0, (1, 275)), (1, (0, p1)), (2, (0, p2)), (3, (0, p3))], [(0, 1)], w) _
          refine e_Ok.if1 rfl (fun h14 => ?_) (fun h14 => ?_)
          · replace h14 : (1 : Int) = 0 := h14
            exfalso; omega
          · replace h14 : (1 : Int) ≠ 0 := by have q : ¬ ((1 : Int) = 0) := h14; omega
            refine e_Ok.run (t' := (29, [(0, (1, 275)), (1, (0, p1)), (2, (0, p2)), (3, (0, p3))], [(0, (-3))], w)) 1 rfl ?_
            refine e_Ok.rets rfl rfl ?_
            exact ⟨_, rfl, Or.inl ⟨rfl, fun hc => by first | exact hc.2 (by assumption) | (have h1 := hc.1; omega)⟩⟩
        · show e_Ok 20 elay ecode eI (d + 1) 428 (24, [(0, (1, 275)), (1, (0, p1)), (2, (0, p2)), (3, (0, p3))], [(0, 0)], w) _
          refine e_Ok.if1 rfl (fun h15 => ?_) (fun h15 => ?_)
          · replace h15 : (0 : Int) = 0 := h15
            refine e_Ok.run (t' := (31, [(0, (1, 275)), (1, (0, p1)), (2, (0, p2)), (3, (0, p3))], [(1, 275)], w)) 1 rfl ?_
            refine e_Ok.getr (z := 276) rfl (el_o rfl) rfl rfl (e_Has.eq hI.1 rfl) (by omega) ?_
            refine e_Ok.run (t' := (38, [(0, (1, 275)), (1, (0, p1)), (2, (0, p2)), (3, (0, p3))], [(0, p1), (0, 224), (1, 276)], w)) 2 rfl ?_
            refine e_Ok.add (z := p1 + 224) rfl (by omega) (by omega) ?_
            have h16 := (e_Has.get hI.1 (c := 276) (k := p1 + 224) (lo := 0) (hi := 1) (nR_FORCED (p := p1) (by omega)) (by decide))
            refine e_Ok.ald (z := w 276 (p1 + 224)) rfl (el_o rfl) rfl (by omega) rfl (by omega) ?_
            refine e_Ok.run (t' := (43, [(4, (0, w 276 (p1 + 224))), (0, (1, 275)), (1, (0, p1)), (2, (0, p2)), (3, (0, p3))], [(1, 275)], w)) 2 rfl ?_
            refine e_Ok.callV rfl (by omega) rfl rfl rfl rfl (d_321 (by omega) hI.1 hI.2.1) (fun r17 w18 h19 => ?_)
            obtain ⟨⟨rfl, q20, q20k⟩, q20x⟩ := h19
            have f21 : e_fr mTi w w18 := e_fr.trans (e_fr.refl w) (e_fr.mono q20 (fun c k q => by exact w_ti q))
            have q20T : e_Has mTy w18 := hI.1.low (fun c k q => q20 c k (K0_w q))
            have hI22 : mInv w18 G := mInv.same hI q20 q20T (fun c k q => w_idl q)
            show e_Ok 20 elay ecode eI (d + 1) 428 (46, [(4, (0, w 276 (p1 + 224))), (0, (1, 275)), (1, (0, p1)), (2, (0, p2)), (3, (0, p3))], [], w18) _
            refine e_Ok.run (t' := (47, [(4, (0, w 276 (p1 + 224))), (0, (1, 275)), (1, (0, p1)), (2, (0, p2)), (3, (0, p3))], [(1, 275)], w18)) 1 rfl ?_
            refine e_Ok.getr (z := 276) rfl (el_o rfl) rfl rfl ((q20 275 0 (by unfold mW; omega)).trans (e_Has.eq hI.1 rfl)) (by omega) ?_
            refine e_Ok.run (t' := (54, [(4, (0, w 276 (p1 + 224))), (0, (1, 275)), (1, (0, p1)), (2, (0, p2)), (3, (0, p3))], [(0, p1), (0, 224), (1, 276)], w18)) 2 rfl ?_
            refine e_Ok.add (z := p1 + 224) rfl (by omega) (by omega) ?_
            refine e_Ok.run (t' := (56, [(4, (0, w 276 (p1 + 224))), (0, (1, 275)), (1, (0, p1)), (2, (0, p2)), (3, (0, p3))], [(0, p3), (0, p1 + 224), (1, 276)], w18)) 1 rfl ?_
            refine e_Ok.if1 rfl (fun h23 => ?_) (fun h23 => ?_)
            · replace h23 : (p3 : Int) = 0 := h23
              refine e_Ok.run (t' := (64, [(4, (0, w 276 (p1 + 224))), (0, (1, 275)), (1, (0, p1)), (2, (0, p2)), (3, (0, p3))], [(0, 0), (0, p1 + 224), (1, 276)], w18)) 1 rfl ?_
              refine e_Ok.ast rfl (el_o rfl) rfl rfl (by omega) ?_
              generalize hw24 : e_up w18 276 (p1 + 224) 0 = w24
              have f25 : e_fr mTi w w24 := e_fr.up f21 hw24 (by unfold mTi; omega)
              have hT26 : e_Has mTy w24 := e_Has.upr q20T hw24 (nR_FORCED (p := p1) (by omega)) (by omega)
              refine e_Ok.run (t' := (66, [(4, (0, w 276 (p1 + 224))), (0, (1, 275)), (1, (0, p1)), (2, (0, p2)), (3, (0, p3))], [(1, 275)], w24)) 1 rfl ?_
              refine e_Ok.getr (z := 276) rfl (el_o rfl) rfl rfl (by rw [← hw24]; exact (e_up_ne _ _ (Or.inl (by omega))).trans ((q20 275 0 (by unfold mW; omega)).trans (e_Has.eq hI.1 rfl))) (by omega) ?_
              refine e_Ok.run (t' := (73, [(4, (0, w 276 (p1 + 224))), (0, (1, 275)), (1, (0, p1)), (2, (0, p2)), (3, (0, p3))], [(0, p1), (0, 288), (1, 276)], w24)) 2 rfl ?_
              refine e_Ok.add (z := p1 + 288) rfl (by omega) (by omega) ?_
              refine e_Ok.run (t' := (75, [(4, (0, w 276 (p1 + 224))), (0, (1, 275)), (1, (0, p1)), (2, (0, p2)), (3, (0, p3))], [(0, p3), (0, p1 + 288), (1, 276)], w24)) 1 rfl ?_
              refine e_Ok.if1 rfl (fun h27 => ?_) (fun h27 => ?_)
              · replace h27 : (p3 : Int) = 0 := h27
                refine e_Ok.run (t' := (83, [(4, (0, w 276 (p1 + 224))), (0, (1, 275)), (1, (0, p1)), (2, (0, p2)), (3, (0, p3))], [(0, 0), (0, p1 + 288), (1, 276)], w24)) 1 rfl ?_
                refine e_Ok.ast rfl (el_o rfl) rfl rfl (by omega) ?_
                generalize hw28 : e_up w24 276 (p1 + 288) 0 = w28
                have f29 : e_fr mTi w w28 := e_fr.up f25 hw28 (by unfold mTi; omega)
                have hT30 : e_Has mTy w28 := e_Has.upr hT26 hw28 (nR_FORCE (p := p1) (by omega)) (by omega)
                have hI31 : mInv w28 G := mInv.up1 (mInv.up1 hI22 hw24 hT26 (by unfold idl; omega)) hw28 hT30 (by unfold idl; omega)
                refine e_Ok.run (t' := (85, [(4, (0, w 276 (p1 + 224))), (0, (1, 275)), (1, (0, p1)), (2, (0, p2)), (3, (0, p3))], [(1, 275)], w28)) 1 rfl ?_
                refine e_Ok.callV rfl (by omega) rfl rfl rfl rfl (d_322 (by omega) hI31.1 hI31.2.1 (fun i g1 g2 => by rw [show w28 327 i = w18 327 i from (by rw [← hw28]; exact (e_up_ne _ _ (Or.inl (by omega))).trans (by rw [← hw24]; exact (e_up_ne _ _ (Or.inl (by omega))).trans rfl))]; exact q20k i g1 g2)) (fun r32 w33 h34 => ?_)
                obtain ⟨⟨rfl, q35, q35T⟩, q35x⟩ := h34
                have f36 : e_fr mTi w w33 := e_fr.trans f29 (e_fr.mono q35 (fun c k q => by exact r_ti q))
                have hI37 : mInv w33 G := mInv.same hI31 q35 q35T (fun c k q => r_idl q)
                have q35p3 : p3 = 0 := by omega
                have q35y : ∀ k, w33 276 k = hcF (fcZ w p1 p2 p3) k := fun k => by rw [q35x k, q35p3]; exact fc_eq q20 q20x hw24 hw28 (by rw [if_pos rfl]) k
                have q35e0 : w33 276 0 = w 276 0 := (q35 276 0 (by unfold mR; omega)).trans (by rw [← hw28]; exact (e_up_ne _ _ (Or.inr (by omega))).trans (by rw [← hw24]; exact (e_up_ne _ _ (Or.inr (by omega))).trans ((q20 276 0 (by unfold mW; omega)).trans rfl)))
                have q35e5 : w33 276 5 = w 276 5 := (q35 276 5 (by unfold mR; omega)).trans (by rw [← hw28]; exact (e_up_ne _ _ (Or.inr (by omega))).trans (by rw [← hw24]; exact (e_up_ne _ _ (Or.inr (by omega))).trans ((q20 276 5 (by unfold mW; omega)).trans rfl)))
                show e_Ok 20 elay ecode eI (d + 1) 428 (88, [(4, (0, w 276 (p1 + 224))), (0, (1, 275)), (1, (0, p1)), (2, (0, p2)), (3, (0, p3))], [], w33) _
                refine e_Ok.run (t' := (93, [(4, (0, w 276 (p1 + 224))), (0, (1, 275)), (1, (0, p1)), (2, (0, p2)), (3, (0, p3))], [(0, p3), (0, p2), (0, p1), (0, 3), (1, 275)], w33)) 5 rfl ?_
                refine e_Ok.if1 rfl (fun h38 => ?_) (fun h38 => ?_)
                · replace h38 : (p3 : Int) = 0 := h38
                  refine e_Ok.run (t' := (101, [(4, (0, w 276 (p1 + 224))), (0, (1, 275)), (1, (0, p1)), (2, (0, p2)), (3, (0, p3))], [(0, 0), (0, p2), (0, p1), (0, 3), (1, 275)], w33)) 1 rfl ?_
                  refine e_Ok.callV rfl (by omega) rfl rfl rfl rfl (c_423_u (by omega) q35T (bkE.fr hB (f36 275 5 (by unfold mTi; omega)) (f36 275 6 (by unfold mTi; omega)) (fun k => f36 356 k (by unfold mTi; omega))).1 (fun e => by have e5 : w33 275 5 = w 275 5 := f36 275 5 (by unfold mTi; omega); have e6 : w33 275 6 = w 275 6 := f36 275 6 (by unfold mTi; omega); have h1 := hB.1; have h2 := (show ¬ mBk w by assumption); unfold mBk at h2; omega) (by decide) (fun e => by omega)) (fun r40 w41 h42 => ?_)
                  obtain ⟨rfl, q43⟩ := h42
                  show e_Ok 20 elay ecode eI (d + 1) 428 (104, [(4, (0, w 276 (p1 + 224))), (0, (1, 275)), (1, (0, p1)), (2, (0, p2)), (3, (0, p3))], [], w41) _
                  refine e_Ok.run (t' := (106, [(4, (0, w 276 (p1 + 224))), (0, (1, 275)), (1, (0, p1)), (2, (0, p2)), (3, (0, p3))], [(0, w 276 (p1 + 224))], w41)) 1 rfl ?_
                  refine e_Ok.rets rfl rfl ?_
                  have ek0 : w33 276 0 = w 276 0 := ((q35 276 0 (by unfold mR; omega)).trans (by rw [← hw28]; exact (e_up_ne _ _ (Or.inr (by omega))).trans (by rw [← hw24]; exact (e_up_ne _ _ (Or.inr (by omega))).trans ((q20 276 0 (by unfold mW; omega)).trans rfl))))
                  have ek5 : w33 276 5 = w 276 5 := ((q35 276 5 (by unfold mR; omega)).trans (by rw [← hw28]; exact (e_up_ne _ _ (Or.inr (by omega))).trans (by rw [← hw24]; exact (e_up_ne _ _ (Or.inr (by omega))).trans ((q20 276 5 (by unfold mW; omega)).trans rfl))))
                  exact ⟨_, rfl, Or.inr ⟨⟨by omega, by omega, by omega⟩, by assumption, opS.ev (wm := w33) (opS.of f36 hI37 q35y (by rw [show p3 = 0 by omega]; exact q43)) q35y (by unfold evG; omega)⟩⟩
                · replace h38 : (p3 : Int) ≠ 0 := by have q : ¬ ((p3 : Int) = 0) := h38; omega
                  exfalso; omega
              · replace h27 : (p3 : Int) ≠ 0 := by have q : ¬ ((p3 : Int) = 0) := h27; omega
                exfalso; omega
            · replace h23 : (p3 : Int) ≠ 0 := by have q : ¬ ((p3 : Int) = 0) := h23; omega
              refine e_Ok.run (t' := (64, [(4, (0, w 276 (p1 + 224))), (0, (1, 275)), (1, (0, p1)), (2, (0, p2)), (3, (0, p3))], [(0, 1), (0, p1 + 224), (1, 276)], w18)) 2 rfl ?_
              refine e_Ok.ast rfl (el_o rfl) rfl rfl (by omega) ?_
              generalize hw44 : e_up w18 276 (p1 + 224) 1 = w44
              have f45 : e_fr mTi w w44 := e_fr.up f21 hw44 (by unfold mTi; omega)
              have hT46 : e_Has mTy w44 := e_Has.upr q20T hw44 (nR_FORCED (p := p1) (by omega)) (by omega)
              refine e_Ok.run (t' := (66, [(4, (0, w 276 (p1 + 224))), (0, (1, 275)), (1, (0, p1)), (2, (0, p2)), (3, (0, p3))], [(1, 275)], w44)) 1 rfl ?_
              refine e_Ok.getr (z := 276) rfl (el_o rfl) rfl rfl (by rw [← hw44]; exact (e_up_ne _ _ (Or.inl (by omega))).trans ((q20 275 0 (by unfold mW; omega)).trans (e_Has.eq hI.1 rfl))) (by omega) ?_
              refine e_Ok.run (t' := (73, [(4, (0, w 276 (p1 + 224))), (0, (1, 275)), (1, (0, p1)), (2, (0, p2)), (3, (0, p3))], [(0, p1), (0, 288), (1, 276)], w44)) 2 rfl ?_
              refine e_Ok.add (z := p1 + 288) rfl (by omega) (by omega) ?_
              refine e_Ok.run (t' := (75, [(4, (0, w 276 (p1 + 224))), (0, (1, 275)), (1, (0, p1)), (2, (0, p2)), (3, (0, p3))], [(0, p3), (0, p1 + 288), (1, 276)], w44)) 1 rfl ?_
              refine e_Ok.if1 rfl (fun h47 => ?_) (fun h47 => ?_)
              · replace h47 : (p3 : Int) = 0 := h47
                exfalso; omega
              · replace h47 : (p3 : Int) ≠ 0 := by have q : ¬ ((p3 : Int) = 0) := h47; omega
                refine e_Ok.run (t' := (83, [(4, (0, w 276 (p1 + 224))), (0, (1, 275)), (1, (0, p1)), (2, (0, p2)), (3, (0, p3))], [(0, p2), (0, p1 + 288), (1, 276)], w44)) 2 rfl ?_
                refine e_Ok.ast rfl (el_o rfl) rfl rfl (by omega) ?_
                generalize hw48 : e_up w44 276 (p1 + 288) p2 = w48
                have f49 : e_fr mTi w w48 := e_fr.up f45 hw48 (by unfold mTi; omega)
                have hT50 : e_Has mTy w48 := e_Has.upr hT46 hw48 (nR_FORCE (p := p1) (by omega)) (by omega)
                have hI51 : mInv w48 G := mInv.up1 (mInv.up1 hI22 hw44 hT46 (by unfold idl; omega)) hw48 hT50 (by unfold idl; omega)
                refine e_Ok.run (t' := (85, [(4, (0, w 276 (p1 + 224))), (0, (1, 275)), (1, (0, p1)), (2, (0, p2)), (3, (0, p3))], [(1, 275)], w48)) 1 rfl ?_
                refine e_Ok.callV rfl (by omega) rfl rfl rfl rfl (d_322 (by omega) hI51.1 hI51.2.1 (fun i g1 g2 => by rw [show w48 327 i = w18 327 i from (by rw [← hw48]; exact (e_up_ne _ _ (Or.inl (by omega))).trans (by rw [← hw44]; exact (e_up_ne _ _ (Or.inl (by omega))).trans rfl))]; exact q20k i g1 g2)) (fun r52 w53 h54 => ?_)
                obtain ⟨⟨rfl, q55, q55T⟩, q55x⟩ := h54
                have f56 : e_fr mTi w w53 := e_fr.trans f49 (e_fr.mono q55 (fun c k q => by exact r_ti q))
                have hI57 : mInv w53 G := mInv.same hI51 q55 q55T (fun c k q => r_idl q)
                have q55p3 : p3 = 1 := by omega
                have q55y : ∀ k, w53 276 k = hcF (fcZ w p1 p2 p3) k := fun k => by rw [q55x k, q55p3]; exact fc_eq q20 q20x hw44 hw48 (by rw [if_neg (by decide)]) k
                have q55e0 : w53 276 0 = w 276 0 := (q55 276 0 (by unfold mR; omega)).trans (by rw [← hw48]; exact (e_up_ne _ _ (Or.inr (by omega))).trans (by rw [← hw44]; exact (e_up_ne _ _ (Or.inr (by omega))).trans ((q20 276 0 (by unfold mW; omega)).trans rfl)))
                have q55e5 : w53 276 5 = w 276 5 := (q55 276 5 (by unfold mR; omega)).trans (by rw [← hw48]; exact (e_up_ne _ _ (Or.inr (by omega))).trans (by rw [← hw44]; exact (e_up_ne _ _ (Or.inr (by omega))).trans ((q20 276 5 (by unfold mW; omega)).trans rfl)))
                show e_Ok 20 elay ecode eI (d + 1) 428 (88, [(4, (0, w 276 (p1 + 224))), (0, (1, 275)), (1, (0, p1)), (2, (0, p2)), (3, (0, p3))], [], w53) _
                refine e_Ok.run (t' := (93, [(4, (0, w 276 (p1 + 224))), (0, (1, 275)), (1, (0, p1)), (2, (0, p2)), (3, (0, p3))], [(0, p3), (0, p2), (0, p1), (0, 3), (1, 275)], w53)) 5 rfl ?_
                refine e_Ok.if1 rfl (fun h58 => ?_) (fun h58 => ?_)
                · replace h58 : (p3 : Int) = 0 := h58
                  exfalso; omega
                · replace h58 : (p3 : Int) ≠ 0 := by have q : ¬ ((p3 : Int) = 0) := h58; omega
                  refine e_Ok.run (t' := (101, [(4, (0, w 276 (p1 + 224))), (0, (1, 275)), (1, (0, p1)), (2, (0, p2)), (3, (0, p3))], [(0, 1), (0, p2), (0, p1), (0, 3), (1, 275)], w53)) 2 rfl ?_
                  refine e_Ok.callV rfl (by omega) rfl rfl rfl rfl (c_423_u (by omega) q55T (bkE.fr hB (f56 275 5 (by unfold mTi; omega)) (f56 275 6 (by unfold mTi; omega)) (fun k => f56 356 k (by unfold mTi; omega))).1 (fun e => by have e5 : w53 275 5 = w 275 5 := f56 275 5 (by unfold mTi; omega); have e6 : w53 275 6 = w 275 6 := f56 275 6 (by unfold mTi; omega); have h1 := hB.1; have h2 := (show ¬ mBk w by assumption); unfold mBk at h2; omega) (by decide) (fun e => by omega)) (fun r59 w60 h61 => ?_)
                  obtain ⟨rfl, q62⟩ := h61
                  show e_Ok 20 elay ecode eI (d + 1) 428 (104, [(4, (0, w 276 (p1 + 224))), (0, (1, 275)), (1, (0, p1)), (2, (0, p2)), (3, (0, p3))], [], w60) _
                  refine e_Ok.run (t' := (106, [(4, (0, w 276 (p1 + 224))), (0, (1, 275)), (1, (0, p1)), (2, (0, p2)), (3, (0, p3))], [(0, w 276 (p1 + 224))], w60)) 1 rfl ?_
                  refine e_Ok.rets rfl rfl ?_
                  have ek0 : w53 276 0 = w 276 0 := ((q55 276 0 (by unfold mR; omega)).trans (by rw [← hw48]; exact (e_up_ne _ _ (Or.inr (by omega))).trans (by rw [← hw44]; exact (e_up_ne _ _ (Or.inr (by omega))).trans ((q20 276 0 (by unfold mW; omega)).trans rfl))))
                  have ek5 : w53 276 5 = w 276 5 := ((q55 276 5 (by unfold mR; omega)).trans (by rw [← hw48]; exact (e_up_ne _ _ (Or.inr (by omega))).trans (by rw [← hw44]; exact (e_up_ne _ _ (Or.inr (by omega))).trans ((q20 276 5 (by unfold mW; omega)).trans rfl))))
                  exact ⟨_, rfl, Or.inr ⟨⟨by omega, by omega, by omega⟩, by assumption, opS.ev (wm := w53) (opS.of f56 hI57 q55y (by rw [show p3 = 1 by omega]; exact q62)) q55y (by unfold evG; omega)⟩⟩
          · replace h15 : (0 : Int) ≠ 0 := by have q : ¬ ((0 : Int) = 0) := h15; omega
            exfalso; omega
      · replace h8 : (w 275 3 : Int) = 0 := by have q : ¬ ((w 275 3 : Int) ≠ 0) := h8; omega
        refine e_Ok.run (t' := (19, [(0, (1, 275)), (1, (0, p1)), (2, (0, p2)), (3, (0, p3))], [(0, (-2))], w)) 1 rfl ?_
        refine e_Ok.rets rfl rfl ?_
        exact ⟨_, rfl, Or.inl ⟨rfl, fun hc => by first | exact hc.2 (by assumption) | (have h1 := hc.1; omega)⟩⟩
    · replace h6 : (1 : Int) = 0 := by have q : ¬ ((1 : Int) ≠ 0) := h6; omega
      exfalso; omega
  · show e_Ok 20 elay ecode eI (d + 1) 428 (5, [(0, (1, 275)), (1, (0, p1)), (2, (0, p2)), (3, (0, p3))], [(0, 0)], w) _
    refine e_Ok.if1 rfl (fun h63 => ?_) (fun h63 => ?_)
    · replace h63 : (0 : Int) ≠ 0 := h63
      exfalso; omega
    · replace h63 : (0 : Int) = 0 := by have q : ¬ ((0 : Int) ≠ 0) := h63; omega
      refine e_Ok.run (t' := (9, [(0, (1, 275)), (1, (0, p1)), (2, (0, p2)), (3, (0, p3))], [(0, (-1))], w)) 1 rfl ?_
      refine e_Ok.rets rfl rfl ?_
      exact ⟨_, rfl, Or.inl ⟨rfl, fun hc => by first | exact hc.2 (by assumption) | (have h1 := hc.1; omega)⟩⟩
end
