noncomputable section
theorem nR_AIM {k : Int} (h : 8 ≤ k ∧ k ≤ 13) : mTy 276 k = (-2147483648, 2147483647) := by
  obtain rfl | rfl | rfl | rfl | rfl | rfl : k = 8 ∨ k = 9 ∨ k = 10 ∨ k = 11 ∨ k = 12 ∨ k = 13 := by omega
  all_goals rfl
theorem d_359 {d : Nat} (hd : 21 ≤ d) {w : eW} (hT : e_Has mTy w) {a q : Int} (ha : 0 ≤ a ∧ a ≤ 3) (hq : 0 ≤ q ∧ q ≤ 31) (hent : 0 ≤ w 337 (32 * a + q) ∧ w 337 (32 * a + q) ≤ 9999) (htm : w 276 0 ≤ 6000) : e_Ok 20 elay ecode eI d 359 (0, [(0, (1, 275)), (1, (0, a)), (2, (0, q))], [], w) (fun r w' => (∃ z : Int, r = [(0, z)] ∧ ((z = -1 ∧ w = w') ∨ ((0 ≤ z ∧ z ≤ 15) ∧ (w 276 (1260 * z + 416) = 0 ∨ w 276 (1260 * z + 416) = 6) ∧ e_fr (mNt z) w w' ∧ e_Has mTy w' ∧ w' 276 (1260 * z + 416) = 1 ∧ w' 276 (1260 * z + 417) = a ∧ w' 276 (1260 * z + 424) = -1 ∧ w' 276 (1260 * z + 428) = 1 ∧ w' 276 (1260 * z + 429) = 0 ∧ w' 276 (1260 * z + 436) = w 337 (32 * a + q) ∧ w' 276 (1260 * z + 437) = 0))) ∧ ∀ k, w' 276 k = nowF 359 [(0, (1, 275)), (1, (0, a)), (2, (0, q))] w k) :=
  (e_Ok.detN (l := [(0, (1, 275)), (1, (0, a)), (2, (0, q))]) (show ([0, 1, 2] : List Nat).Nodup by decide) (fun u hu => c_359 hd (hT.low hu) ha hq (by rw [hu 337 _ (K0_code _ (by omega))]; exact hent) (by rw [hu 276 0 (K0_now 0)]; exact htm)) (fun u r v hu q => by
    obtain ⟨z, -, ⟨-, rfl⟩ | q⟩ := q
    · exact hT.low hu
    · exact q.2.2.2.1)).imp (fun r v h => ⟨h.1, h.2.1⟩)
theorem nt_ti {z c k : Int} (q : mNt z c k) : mTi c k := by unfold mNt at q; unfold mTi; omega
theorem tr_ti {c k : Int} (q : mTr c k) : mTi c k := by unfold mTr at q; unfold mTi; omega
theorem br_ti {c k : Int} (q : mBr c k) : mTi c k := by unfold mBr at q; unfold mTi; omega
theorem no_9b_0 : ¬ mTi 275 5 := by unfold mTi; omega
theorem no_9b_1 : ¬ mTi 275 6 := by unfold mTi; omega
theorem no_9b_2 {k : Int} : ¬ mTi 356 k := by unfold mTi; omega
set_option maxHeartbeats 4000000 in
theorem c_434 {d : Nat} (hd : 25 ≤ d) {w : eW} {G : Int → Gh} (hI : mInv w G) (hB : bkE w) (hE : w 276 5 ≤ 7000000) {p1 p2 : Int} (g1 : -2147483648 ≤ p1 ∧ p1 ≤ 2147483647) (g2 : -2147483648 ≤ p2 ∧ p2 ≤ 2147483647) : e_Ok 20 elay ecode eI d 434 (0, [(0, (1, 275)), (1, (0, p1)), (2, (0, p2))], [], w) (fun r w' => ∃ z : Int, r = [(0, z)] ∧ ((w = w' ∧ ¬ ((0 ≤ p1 ∧ p1 ≤ 5 ∧ w 275 3 = 1) ∧ ¬ mBk w)) ∨ ((0 ≤ p1 ∧ p1 ≤ 5 ∧ w 275 3 = 1) ∧ ¬ mBk w ∧ opS w w' G 9 p1 p2 0 (fun k => e_up w 276 (p1 + 8) p2 276 k) ∧ evG w w'))) := by
  obtain ⟨d, rfl⟩ : ∃ e, d = e + 1 := ⟨d - 1, by omega⟩
  refine e_Ok.run (t' := (6, [(0, (1, 275)), (1, (0, p1)), (2, (0, p2))], [(4, 5), (4, 0), (4, p1)], w)) 4 rfl ?_
  refine e_Ok.callS rfl (by omega) rfl rfl (c_266) (fun r1 w2 h3 => ?_)
  obtain ⟨z4, rfl, rfl, q5⟩ := h3
  obtain ⟨rfl, q5⟩ | ⟨rfl, q5⟩ := q5
  · show e_Ok 20 elay ecode eI (d + 1) 434 (9, [(0, (1, 275)), (1, (0, p1)), (2, (0, p2))], [(0, 1)], w) _
    refine e_Ok.if1 rfl (fun h6 => ?_) (fun h6 => ?_)
    · replace h6 : (1 : Int) ≠ 0 := h6
      refine e_Ok.run (t' := (15, [(0, (1, 275)), (1, (0, p1)), (2, (0, p2))], [(1, 275)], w)) 1 rfl ?_
      have h7 := (e_Has.get hI.1 (c := 275) (k := 3) (lo := 0) (hi := 1) rfl (by decide))
      refine e_Ok.getf (z := w 275 3) rfl (el_o rfl) rfl rfl rfl (by omega) ?_
      refine e_Ok.if1 rfl (fun h8 => ?_) (fun h8 => ?_)
      · replace h8 : (w 275 3 : Int) ≠ 0 := h8
        refine e_Ok.run (t' := (25, [(0, (1, 275)), (1, (0, p1)), (2, (0, p2))], [(1, 275)], w)) 1 rfl ?_
        refine e_Ok.callV rfl (by omega) rfl rfl rfl rfl (c_422_x hI.1 hB) (fun r9 w10 h11 => ?_)
        obtain ⟨z12, rfl, rfl, q13⟩ := h11
        obtain ⟨rfl, q13⟩ | ⟨rfl, q13⟩ := q13
        · show e_Ok 20 elay ecode eI (d + 1) 434 (28, [(0, (1, 275)), (1, (0, p1)), (2, (0, p2))], [(0, 1)], w) _
          refine e_Ok.if1 rfl (fun h14 => ?_) (fun h14 => ?_)
          · replace h14 : (1 : Int) = 0 := h14
            exfalso; omega
          · replace h14 : (1 : Int) ≠ 0 := by have q : ¬ ((1 : Int) = 0) := h14; omega
            refine e_Ok.run (t' := (33, [(0, (1, 275)), (1, (0, p1)), (2, (0, p2))], [(0, (-3))], w)) 1 rfl ?_
            refine e_Ok.rets rfl rfl ?_
            exact ⟨_, rfl, Or.inl ⟨rfl, fun hc => by first | exact hc.2 (by assumption) | (have h1 := hc.1; omega)⟩⟩
        · show e_Ok 20 elay ecode eI (d + 1) 434 (28, [(0, (1, 275)), (1, (0, p1)), (2, (0, p2))], [(0, 0)], w) _
          refine e_Ok.if1 rfl (fun h15 => ?_) (fun h15 => ?_)
          · replace h15 : (0 : Int) = 0 := h15
            refine e_Ok.run (t' := (35, [(0, (1, 275)), (1, (0, p1)), (2, (0, p2))], [(1, 275)], w)) 1 rfl ?_
            refine e_Ok.getr (z := 276) rfl (el_o rfl) rfl rfl (e_Has.eq hI.1 rfl) (by omega) ?_
            refine e_Ok.run (t' := (41, [(0, (1, 275)), (1, (0, p1)), (2, (0, p2))], [(0, p1), (0, 8), (1, 276)], w)) 2 rfl ?_
            refine e_Ok.add (z := p1 + 8) rfl (by omega) (by omega) ?_
            refine e_Ok.run (t' := (43, [(0, (1, 275)), (1, (0, p1)), (2, (0, p2))], [(0, p2), (0, p1 + 8), (1, 276)], w)) 1 rfl ?_
            refine e_Ok.ast rfl (el_o rfl) rfl rfl (by omega) ?_
            generalize hw16 : e_up w 276 (p1 + 8) p2 = w16
            have f17 : e_fr mTi w w16 := e_fr.up (e_fr.refl w) hw16 (by unfold mTi; omega)
            have hT18 : e_Has mTy w16 := e_Has.upr hI.1 hw16 (nR_AIM (by omega)) (by omega)
            have hI19 : mInv w16 G := (mInv.up1 hI hw16 hT18 (by unfold idl; omega))
            refine e_Ok.run (t' := (50, [(0, (1, 275)), (1, (0, p1)), (2, (0, p2))], [(0, 0), (0, p2), (0, p1), (0, 9), (1, 275)], w16)) 5 rfl ?_
            refine e_Ok.callV rfl (by omega) rfl rfl rfl rfl (c_423_u (by omega) hT18 (bkE.fr hB (f17 275 5 no_9b_0) (f17 275 6 no_9b_1) (fun k => f17 356 k no_9b_2)).1 (fun e => by have e5 : w16 275 5 = w 275 5 := f17 275 5 no_9b_0; have e6 : w16 275 6 = w 275 6 := f17 275 6 no_9b_1; have h1 := hB.1; have h2 := (show ¬ mBk w by assumption); unfold mBk at h2; omega) (by decide) (fun e => by omega)) (fun r20 w21 h22 => ?_)
            obtain ⟨rfl, q23⟩ := h22
            show e_Ok 20 elay ecode eI (d + 1) 434 (53, [(0, (1, 275)), (1, (0, p1)), (2, (0, p2))], [], w21) _
            refine e_Ok.run (t' := (54, [(0, (1, 275)), (1, (0, p1)), (2, (0, p2))], [(0, 0)], w21)) 1 rfl ?_
            refine e_Ok.rets rfl rfl ?_
            have ek0 : w16 276 0 = w 276 0 := (by rw [← hw16]; exact (e_up_ne _ _ (Or.inr (by omega))).trans rfl)
            have ek5 : w16 276 5 = w 276 5 := (by rw [← hw16]; exact (e_up_ne _ _ (Or.inr (by omega))).trans rfl)
            exact ⟨_, rfl, Or.inr ⟨⟨by omega, by omega, by omega⟩, by assumption, opS.ev (wm := w16) (opS.of f17 hI19 (fun k => rfl) q23) (fun k => rfl) (by unfold evG; omega)⟩⟩
          · replace h15 : (0 : Int) ≠ 0 := by have q : ¬ ((0 : Int) = 0) := h15; omega
            exfalso; omega
      · replace h8 : (w 275 3 : Int) = 0 := by have q : ¬ ((w 275 3 : Int) ≠ 0) := h8; omega
        refine e_Ok.run (t' := (23, [(0, (1, 275)), (1, (0, p1)), (2, (0, p2))], [(0, (-2))], w)) 1 rfl ?_
        refine e_Ok.rets rfl rfl ?_
        exact ⟨_, rfl, Or.inl ⟨rfl, fun hc => by first | exact hc.2 (by assumption) | (have h1 := hc.1; omega)⟩⟩
    · replace h6 : (1 : Int) = 0 := by have q : ¬ ((1 : Int) ≠ 0) := h6; omega
      exfalso; omega
  · show e_Ok 20 elay ecode eI (d + 1) 434 (9, [(0, (1, 275)), (1, (0, p1)), (2, (0, p2))], [(0, 0)], w) _
    refine e_Ok.if1 rfl (fun h24 => ?_) (fun h24 => ?_)
    · replace h24 : (0 : Int) ≠ 0 := h24
      exfalso; omega
    · replace h24 : (0 : Int) = 0 := by have q : ¬ ((0 : Int) ≠ 0) := h24; omega
      refine e_Ok.run (t' := (13, [(0, (1, 275)), (1, (0, p1)), (2, (0, p2))], [(0, (-1))], w)) 1 rfl ?_
      refine e_Ok.rets rfl rfl ?_
      exact ⟨_, rfl, Or.inl ⟨rfl, fun hc => by first | exact hc.2 (by assumption) | (have h1 := hc.1; omega)⟩⟩
set_option maxHeartbeats 4000000 in
theorem c_429 {d : Nat} (hd : 25 ≤ d) {w : eW} {G : Int → Gh} (hI : mInv w G) (hB : bkE w) (hE : w 276 5 ≤ 7000000) {p1 p2 p3 : Int} (g1 : -2147483648 ≤ p1 ∧ p1 ≤ 2147483647) (g2 : -2147483648 ≤ p2 ∧ p2 ≤ 2147483647) (g3 : -2147483648 ≤ p3 ∧ p3 ≤ 2147483647) (hz2 : 0 ≤ p2 ∧ p2 ≤ 1) (hz3 : 0 ≤ p3 ∧ p3 ≤ 1) : e_Ok 20 elay ecode eI d 429 (0, [(0, (1, 275)), (1, (0, p1)), (2, (0, p2)), (3, (0, p3))], [], w) (fun r w' => ∃ z : Int, r = [(0, z)] ∧ ((w = w' ∧ ¬ ((0 ≤ p1 ∧ p1 < w 275 49 ∧ w 275 3 = 1) ∧ ¬ mBk w)) ∨ ((0 ≤ p1 ∧ p1 < w 275 49 ∧ w 275 3 = 1) ∧ ¬ mBk w ∧ opS w w' G 4 p1 p2 p3 (fun k => e_up (e_up w 276 (4 * p1 + 20836) p2) 276 (4 * p1 + 20837) p3 276 k) ∧ evG w w'))) := by
  obtain ⟨d, rfl⟩ : ∃ e, d = e + 1 := ⟨d - 1, by omega⟩
  refine e_Ok.run (t' := (4, [(0, (1, 275)), (1, (0, p1)), (2, (0, p2)), (3, (0, p3))], [(1, 275), (4, 0), (4, p1)], w)) 4 rfl ?_
  have h1 := (e_Has.get hI.1 (c := 275) (k := 49) (lo := 0) (hi := 8) rfl (by decide))
  refine e_Ok.getf (z := w 275 49) rfl (el_o rfl) rfl rfl rfl (by omega) ?_
  refine e_Ok.run (t' := (8, [(0, (1, 275)), (1, (0, p1)), (2, (0, p2)), (3, (0, p3))], [(0, 1), (0, w 275 49), (4, 0), (4, p1)], w)) 1 rfl ?_
  refine e_Ok.sub' (z := w 275 49 - 1) rfl (by omega) (by omega) ?_
  refine e_Ok.run (t' := (10, [(0, (1, 275)), (1, (0, p1)), (2, (0, p2)), (3, (0, p3))], [(4, w 275 49 - 1), (4, 0), (4, p1)], w)) 1 rfl ?_
  refine e_Ok.callS rfl (by omega) rfl rfl (c_266) (fun r2 w3 h4 => ?_)
  obtain ⟨z5, rfl, rfl, q6⟩ := h4
  obtain ⟨rfl, q6⟩ | ⟨rfl, q6⟩ := q6
  · show e_Ok 20 elay ecode eI (d + 1) 429 (13, [(0, (1, 275)), (1, (0, p1)), (2, (0, p2)), (3, (0, p3))], [(0, 1)], w) _
    refine e_Ok.if1 rfl (fun h7 => ?_) (fun h7 => ?_)
    · replace h7 : (1 : Int) ≠ 0 := h7
      refine e_Ok.run (t' := (19, [(0, (1, 275)), (1, (0, p1)), (2, (0, p2)), (3, (0, p3))], [(1, 275)], w)) 1 rfl ?_
      have h8 := (e_Has.get hI.1 (c := 275) (k := 3) (lo := 0) (hi := 1) rfl (by decide))
      refine e_Ok.getf (z := w 275 3) rfl (el_o rfl) rfl rfl rfl (by omega) ?_
      refine e_Ok.if1 rfl (fun h9 => ?_) (fun h9 => ?_)
      · replace h9 : (w 275 3 : Int) ≠ 0 := h9
        refine e_Ok.run (t' := (29, [(0, (1, 275)), (1, (0, p1)), (2, (0, p2)), (3, (0, p3))], [(1, 275)], w)) 1 rfl ?_
        refine e_Ok.callV rfl (by omega) rfl rfl rfl rfl (c_422_x hI.1 hB) (fun r10 w11 h12 => ?_)
        obtain ⟨z13, rfl, rfl, q14⟩ := h12
        obtain ⟨rfl, q14⟩ | ⟨rfl, q14⟩ := q14
        · show e_Ok 20 elay ecode eI (d + 1) 429 (32, [(0, (1, 275)), (1, (0, p1)), (2, (0, p2)), (3, (0, p3))], [(0, 1)], w) _
          refine e_Ok.if1 rfl (fun h15 => ?_) (fun h15 => ?_)
          · replace h15 : (1 : Int) = 0 := h15
            exfalso; omega
          · replace h15 : (1 : Int) ≠ 0 := by have q : ¬ ((1 : Int) = 0) := h15; omega
            refine e_Ok.run (t' := (37, [(0, (1, 275)), (1, (0, p1)), (2, (0, p2)), (3, (0, p3))], [(0, (-3))], w)) 1 rfl ?_
            refine e_Ok.rets rfl rfl ?_
            exact ⟨_, rfl, Or.inl ⟨rfl, fun hc => by first | exact hc.2 (by assumption) | (have h1 := hc.1; omega)⟩⟩
        · show e_Ok 20 elay ecode eI (d + 1) 429 (32, [(0, (1, 275)), (1, (0, p1)), (2, (0, p2)), (3, (0, p3))], [(0, 0)], w) _
          refine e_Ok.if1 rfl (fun h16 => ?_) (fun h16 => ?_)
          · replace h16 : (0 : Int) = 0 := h16
            refine e_Ok.run (t' := (39, [(0, (1, 275)), (1, (0, p1)), (2, (0, p2)), (3, (0, p3))], [(1, 275)], w)) 1 rfl ?_
            refine e_Ok.getr (z := 276) rfl (el_o rfl) rfl rfl (e_Has.eq hI.1 rfl) (by omega) ?_
            refine e_Ok.run (t' := (47, [(0, (1, 275)), (1, (0, p1)), (2, (0, p2)), (3, (0, p3))], [(0, p1), (0, 4), (0, 20836), (1, 276)], w)) 3 rfl ?_
            refine e_Ok.mul (z := 4 * p1) rfl (by omega) (by omega) ?_
            refine e_Ok.add (z := 4 * p1 + 20836) rfl (by omega) (by omega) ?_
            refine e_Ok.run (t' := (50, [(0, (1, 275)), (1, (0, p1)), (2, (0, p2)), (3, (0, p3))], [(0, p2), (0, 4 * p1 + 20836), (1, 276)], w)) 1 rfl ?_
            refine e_Ok.if1 rfl (fun h17 => ?_) (fun h17 => ?_)
            · replace h17 : (p2 : Int) = 0 := h17
              refine e_Ok.run (t' := (58, [(0, (1, 275)), (1, (0, p1)), (2, (0, p2)), (3, (0, p3))], [(0, 0), (0, 4 * p1 + 20836), (1, 276)], w)) 1 rfl ?_
              refine e_Ok.ast rfl (el_o rfl) rfl rfl (by omega) ?_
              generalize hw18 : e_up w 276 (4 * p1 + 20836) 0 = w18
              have f19 : e_fr mTi w w18 := e_fr.up (e_fr.refl w) hw18 (by unfold mTi; omega)
              have hT20 : e_Has mTy w18 := e_Has.upr hI.1 hw18 (nR_INPUT (i := p1) (f := 0) (by omega) (by decide)) (by omega)
              refine e_Ok.run (t' := (60, [(0, (1, 275)), (1, (0, p1)), (2, (0, p2)), (3, (0, p3))], [(1, 275)], w18)) 1 rfl ?_
              refine e_Ok.getr (z := 276) rfl (el_o rfl) rfl rfl (by rw [← hw18]; exact (e_up_ne _ _ (Or.inl (by omega))).trans (e_Has.eq hI.1 rfl)) (by omega) ?_
              refine e_Ok.run (t' := (68, [(0, (1, 275)), (1, (0, p1)), (2, (0, p2)), (3, (0, p3))], [(0, p1), (0, 4), (0, 20836), (1, 276)], w18)) 3 rfl ?_
              refine e_Ok.mul (z := 4 * p1) rfl (by omega) (by omega) ?_
              refine e_Ok.add (z := 4 * p1 + 20836) rfl (by omega) (by omega) ?_
              refine e_Ok.run (t' := (71, [(0, (1, 275)), (1, (0, p1)), (2, (0, p2)), (3, (0, p3))], [(0, 1), (0, 4 * p1 + 20836), (1, 276)], w18)) 1 rfl ?_
              refine e_Ok.add (z := 4 * p1 + 20837) rfl (by omega) (by omega) ?_
              refine e_Ok.run (t' := (73, [(0, (1, 275)), (1, (0, p1)), (2, (0, p2)), (3, (0, p3))], [(0, p3), (0, 4 * p1 + 20837), (1, 276)], w18)) 1 rfl ?_
              refine e_Ok.if1 rfl (fun h21 => ?_) (fun h21 => ?_)
              · replace h21 : (p3 : Int) = 0 := h21
                refine e_Ok.run (t' := (81, [(0, (1, 275)), (1, (0, p1)), (2, (0, p2)), (3, (0, p3))], [(0, 0), (0, 4 * p1 + 20837), (1, 276)], w18)) 1 rfl ?_
                refine e_Ok.ast rfl (el_o rfl) rfl rfl (by omega) ?_
                generalize hw22 : e_up w18 276 (4 * p1 + 20837) 0 = w22
                have f23 : e_fr mTi w w22 := e_fr.up f19 hw22 (by unfold mTi; omega)
                have hT24 : e_Has mTy w22 := e_Has.upr hT20 hw22 (nR_INPUT (i := p1) (f := 1) (by omega) (by decide)) (by omega)
                have hI25 : mInv w22 G := (mInv.up1 (mInv.up1 hI hw18 hT20 (by unfold idl; omega)) hw22 hT24 (by unfold idl; omega))
                refine e_Ok.run (t' := (86, [(0, (1, 275)), (1, (0, p1)), (2, (0, p2)), (3, (0, p3))], [(0, p2), (0, p1), (0, 4), (1, 275)], w22)) 4 rfl ?_
                refine e_Ok.if1 rfl (fun h26 => ?_) (fun h26 => ?_)
                · replace h26 : (p2 : Int) = 0 := h26
                  refine e_Ok.run (t' := (95, [(0, (1, 275)), (1, (0, p1)), (2, (0, p2)), (3, (0, p3))], [(0, p3), (0, 0), (0, p1), (0, 4), (1, 275)], w22)) 2 rfl ?_
                  refine e_Ok.if1 rfl (fun h27 => ?_) (fun h27 => ?_)
                  · replace h27 : (p3 : Int) = 0 := h27
                    refine e_Ok.run (t' := (103, [(0, (1, 275)), (1, (0, p1)), (2, (0, p2)), (3, (0, p3))], [(0, 0), (0, 0), (0, p1), (0, 4), (1, 275)], w22)) 1 rfl ?_
                    refine e_Ok.callV rfl (by omega) rfl rfl rfl rfl (c_423_u (by omega) hT24 (bkE.fr hB (f23 275 5 no_9b_0) (f23 275 6 no_9b_1) (fun k => f23 356 k no_9b_2)).1 (fun e => by have e5 : w22 275 5 = w 275 5 := f23 275 5 no_9b_0; have e6 : w22 275 6 = w 275 6 := f23 275 6 no_9b_1; have h1 := hB.1; have h2 := (show ¬ mBk w by assumption); unfold mBk at h2; omega) (by decide) (fun e => by omega)) (fun r28 w29 h30 => ?_)
                    obtain ⟨rfl, q31⟩ := h30
                    show e_Ok 20 elay ecode eI (d + 1) 429 (106, [(0, (1, 275)), (1, (0, p1)), (2, (0, p2)), (3, (0, p3))], [], w29) _
                    refine e_Ok.run (t' := (107, [(0, (1, 275)), (1, (0, p1)), (2, (0, p2)), (3, (0, p3))], [(0, 0)], w29)) 1 rfl ?_
                    refine e_Ok.rets rfl rfl ?_
                    have ek0 : w22 276 0 = w 276 0 := (by rw [← hw22]; exact (e_up_ne _ _ (Or.inr (by omega))).trans (by rw [← hw18]; exact (e_up_ne _ _ (Or.inr (by omega))).trans rfl))
                    have ek5 : w22 276 5 = w 276 5 := (by rw [← hw22]; exact (e_up_ne _ _ (Or.inr (by omega))).trans (by rw [← hw18]; exact (e_up_ne _ _ (Or.inr (by omega))).trans rfl))
                    exact ⟨_, rfl, Or.inr ⟨⟨by omega, by omega, by omega⟩, by assumption, opS.ev (wm := w22) (opS.of f23 hI25 (fun k => by show w22 276 k = e_up (e_up w 276 (4 * p1 + 20836) p2) 276 (4 * p1 + 20837) p3 276 k; rw [show p2 = 0 by omega, show p3 = 0 by omega, hw18, hw22]) (by rw [show p2 = 0 by omega, show p3 = 0 by omega]; exact q31)) (fun k => by show w22 276 k = e_up (e_up w 276 (4 * p1 + 20836) p2) 276 (4 * p1 + 20837) p3 276 k; rw [show p2 = 0 by omega, show p3 = 0 by omega, hw18, hw22]) (by unfold evG; omega)⟩⟩
                  · replace h27 : (p3 : Int) ≠ 0 := by have q : ¬ ((p3 : Int) = 0) := h27; omega
                    exfalso; omega
                · replace h26 : (p2 : Int) ≠ 0 := by have q : ¬ ((p2 : Int) = 0) := h26; omega
                  exfalso; omega
              · replace h21 : (p3 : Int) ≠ 0 := by have q : ¬ ((p3 : Int) = 0) := h21; omega
                refine e_Ok.run (t' := (81, [(0, (1, 275)), (1, (0, p1)), (2, (0, p2)), (3, (0, p3))], [(0, 1), (0, 4 * p1 + 20837), (1, 276)], w18)) 2 rfl ?_
                refine e_Ok.ast rfl (el_o rfl) rfl rfl (by omega) ?_
                generalize hw32 : e_up w18 276 (4 * p1 + 20837) 1 = w32
                have f33 : e_fr mTi w w32 := e_fr.up f19 hw32 (by unfold mTi; omega)
                have hT34 : e_Has mTy w32 := e_Has.upr hT20 hw32 (nR_INPUT (i := p1) (f := 1) (by omega) (by decide)) (by omega)
                have hI35 : mInv w32 G := (mInv.up1 (mInv.up1 hI hw18 hT20 (by unfold idl; omega)) hw32 hT34 (by unfold idl; omega))
                refine e_Ok.run (t' := (86, [(0, (1, 275)), (1, (0, p1)), (2, (0, p2)), (3, (0, p3))], [(0, p2), (0, p1), (0, 4), (1, 275)], w32)) 4 rfl ?_
                refine e_Ok.if1 rfl (fun h36 => ?_) (fun h36 => ?_)
                · replace h36 : (p2 : Int) = 0 := h36
                  refine e_Ok.run (t' := (95, [(0, (1, 275)), (1, (0, p1)), (2, (0, p2)), (3, (0, p3))], [(0, p3), (0, 0), (0, p1), (0, 4), (1, 275)], w32)) 2 rfl ?_
                  refine e_Ok.if1 rfl (fun h37 => ?_) (fun h37 => ?_)
                  · replace h37 : (p3 : Int) = 0 := h37
                    exfalso; omega
                  · replace h37 : (p3 : Int) ≠ 0 := by have q : ¬ ((p3 : Int) = 0) := h37; omega
                    refine e_Ok.run (t' := (103, [(0, (1, 275)), (1, (0, p1)), (2, (0, p2)), (3, (0, p3))], [(0, 1), (0, 0), (0, p1), (0, 4), (1, 275)], w32)) 2 rfl ?_
                    refine e_Ok.callV rfl (by omega) rfl rfl rfl rfl (c_423_u (by omega) hT34 (bkE.fr hB (f33 275 5 no_9b_0) (f33 275 6 no_9b_1) (fun k => f33 356 k no_9b_2)).1 (fun e => by have e5 : w32 275 5 = w 275 5 := f33 275 5 no_9b_0; have e6 : w32 275 6 = w 275 6 := f33 275 6 no_9b_1; have h1 := hB.1; have h2 := (show ¬ mBk w by assumption); unfold mBk at h2; omega) (by decide) (fun e => by omega)) (fun r38 w40 h41 => ?_)
                    obtain ⟨rfl, q42⟩ := h41
                    show e_Ok 20 elay ecode eI (d + 1) 429 (106, [(0, (1, 275)), (1, (0, p1)), (2, (0, p2)), (3, (0, p3))], [], w40) _
                    refine e_Ok.run (t' := (107, [(0, (1, 275)), (1, (0, p1)), (2, (0, p2)), (3, (0, p3))], [(0, 0)], w40)) 1 rfl ?_
                    refine e_Ok.rets rfl rfl ?_
                    have ek0 : w32 276 0 = w 276 0 := (by rw [← hw32]; exact (e_up_ne _ _ (Or.inr (by omega))).trans (by rw [← hw18]; exact (e_up_ne _ _ (Or.inr (by omega))).trans rfl))
                    have ek5 : w32 276 5 = w 276 5 := (by rw [← hw32]; exact (e_up_ne _ _ (Or.inr (by omega))).trans (by rw [← hw18]; exact (e_up_ne _ _ (Or.inr (by omega))).trans rfl))
                    exact ⟨_, rfl, Or.inr ⟨⟨by omega, by omega, by omega⟩, by assumption, opS.ev (wm := w32) (opS.of f33 hI35 (fun k => by show w32 276 k = e_up (e_up w 276 (4 * p1 + 20836) p2) 276 (4 * p1 + 20837) p3 276 k; rw [show p2 = 0 by omega, show p3 = 1 by omega, hw18, hw32]) (by rw [show p2 = 0 by omega, show p3 = 1 by omega]; exact q42)) (fun k => by show w32 276 k = e_up (e_up w 276 (4 * p1 + 20836) p2) 276 (4 * p1 + 20837) p3 276 k; rw [show p2 = 0 by omega, show p3 = 1 by omega, hw18, hw32]) (by unfold evG; omega)⟩⟩
                · replace h36 : (p2 : Int) ≠ 0 := by have q : ¬ ((p2 : Int) = 0) := h36; omega
                  exfalso; omega
            · replace h17 : (p2 : Int) ≠ 0 := by have q : ¬ ((p2 : Int) = 0) := h17; omega
              refine e_Ok.run (t' := (58, [(0, (1, 275)), (1, (0, p1)), (2, (0, p2)), (3, (0, p3))], [(0, 1), (0, 4 * p1 + 20836), (1, 276)], w)) 2 rfl ?_
              refine e_Ok.ast rfl (el_o rfl) rfl rfl (by omega) ?_
              generalize hw43 : e_up w 276 (4 * p1 + 20836) 1 = w43
              have f44 : e_fr mTi w w43 := e_fr.up (e_fr.refl w) hw43 (by unfold mTi; omega)
              have hT45 : e_Has mTy w43 := e_Has.upr hI.1 hw43 (nR_INPUT (i := p1) (f := 0) (by omega) (by decide)) (by omega)
              refine e_Ok.run (t' := (60, [(0, (1, 275)), (1, (0, p1)), (2, (0, p2)), (3, (0, p3))], [(1, 275)], w43)) 1 rfl ?_
              refine e_Ok.getr (z := 276) rfl (el_o rfl) rfl rfl (by rw [← hw43]; exact (e_up_ne _ _ (Or.inl (by omega))).trans (e_Has.eq hI.1 rfl)) (by omega) ?_
              refine e_Ok.run (t' := (68, [(0, (1, 275)), (1, (0, p1)), (2, (0, p2)), (3, (0, p3))], [(0, p1), (0, 4), (0, 20836), (1, 276)], w43)) 3 rfl ?_
              refine e_Ok.mul (z := 4 * p1) rfl (by omega) (by omega) ?_
              refine e_Ok.add (z := 4 * p1 + 20836) rfl (by omega) (by omega) ?_
              refine e_Ok.run (t' := (71, [(0, (1, 275)), (1, (0, p1)), (2, (0, p2)), (3, (0, p3))], [(0, 1), (0, 4 * p1 + 20836), (1, 276)], w43)) 1 rfl ?_
              refine e_Ok.add (z := 4 * p1 + 20837) rfl (by omega) (by omega) ?_
              refine e_Ok.run (t' := (73, [(0, (1, 275)), (1, (0, p1)), (2, (0, p2)), (3, (0, p3))], [(0, p3), (0, 4 * p1 + 20837), (1, 276)], w43)) 1 rfl ?_
              refine e_Ok.if1 rfl (fun h46 => ?_) (fun h46 => ?_)
              · replace h46 : (p3 : Int) = 0 := h46
                refine e_Ok.run (t' := (81, [(0, (1, 275)), (1, (0, p1)), (2, (0, p2)), (3, (0, p3))], [(0, 0), (0, 4 * p1 + 20837), (1, 276)], w43)) 1 rfl ?_
                refine e_Ok.ast rfl (el_o rfl) rfl rfl (by omega) ?_
                generalize hw47 : e_up w43 276 (4 * p1 + 20837) 0 = w47
                have f48 : e_fr mTi w w47 := e_fr.up f44 hw47 (by unfold mTi; omega)
                have hT49 : e_Has mTy w47 := e_Has.upr hT45 hw47 (nR_INPUT (i := p1) (f := 1) (by omega) (by decide)) (by omega)
                have hI50 : mInv w47 G := (mInv.up1 (mInv.up1 hI hw43 hT45 (by unfold idl; omega)) hw47 hT49 (by unfold idl; omega))
                refine e_Ok.run (t' := (86, [(0, (1, 275)), (1, (0, p1)), (2, (0, p2)), (3, (0, p3))], [(0, p2), (0, p1), (0, 4), (1, 275)], w47)) 4 rfl ?_
                refine e_Ok.if1 rfl (fun h51 => ?_) (fun h51 => ?_)
                · replace h51 : (p2 : Int) = 0 := h51
                  exfalso; omega
                · replace h51 : (p2 : Int) ≠ 0 := by have q : ¬ ((p2 : Int) = 0) := h51; omega
                  refine e_Ok.run (t' := (95, [(0, (1, 275)), (1, (0, p1)), (2, (0, p2)), (3, (0, p3))], [(0, p3), (0, 1), (0, p1), (0, 4), (1, 275)], w47)) 3 rfl ?_
                  refine e_Ok.if1 rfl (fun h52 => ?_) (fun h52 => ?_)
                  · replace h52 : (p3 : Int) = 0 := h52
                    refine e_Ok.run (t' := (103, [(0, (1, 275)), (1, (0, p1)), (2, (0, p2)), (3, (0, p3))], [(0, 0), (0, 1), (0, p1), (0, 4), (1, 275)], w47)) 1 rfl ?_
                    refine e_Ok.callV rfl (by omega) rfl rfl rfl rfl (c_423_u (by omega) hT49 (bkE.fr hB (f48 275 5 no_9b_0) (f48 275 6 no_9b_1) (fun k => f48 356 k no_9b_2)).1 (fun e => by have e5 : w47 275 5 = w 275 5 := f48 275 5 no_9b_0; have e6 : w47 275 6 = w 275 6 := f48 275 6 no_9b_1; have h1 := hB.1; have h2 := (show ¬ mBk w by assumption); unfold mBk at h2; omega) (by decide) (fun e => by omega)) (fun r53 w54 h55 => ?_)
                    obtain ⟨rfl, q56⟩ := h55
                    show e_Ok 20 elay ecode eI (d + 1) 429 (106, [(0, (1, 275)), (1, (0, p1)), (2, (0, p2)), (3, (0, p3))], [], w54) _
                    refine e_Ok.run (t' := (107, [(0, (1, 275)), (1, (0, p1)), (2, (0, p2)), (3, (0, p3))], [(0, 0)], w54)) 1 rfl ?_
                    refine e_Ok.rets rfl rfl ?_
                    have ek0 : w47 276 0 = w 276 0 := (by rw [← hw47]; exact (e_up_ne _ _ (Or.inr (by omega))).trans (by rw [← hw43]; exact (e_up_ne _ _ (Or.inr (by omega))).trans rfl))
                    have ek5 : w47 276 5 = w 276 5 := (by rw [← hw47]; exact (e_up_ne _ _ (Or.inr (by omega))).trans (by rw [← hw43]; exact (e_up_ne _ _ (Or.inr (by omega))).trans rfl))
                    exact ⟨_, rfl, Or.inr ⟨⟨by omega, by omega, by omega⟩, by assumption, opS.ev (wm := w47) (opS.of f48 hI50 (fun k => by show w47 276 k = e_up (e_up w 276 (4 * p1 + 20836) p2) 276 (4 * p1 + 20837) p3 276 k; rw [show p2 = 1 by omega, show p3 = 0 by omega, hw43, hw47]) (by rw [show p2 = 1 by omega, show p3 = 0 by omega]; exact q56)) (fun k => by show w47 276 k = e_up (e_up w 276 (4 * p1 + 20836) p2) 276 (4 * p1 + 20837) p3 276 k; rw [show p2 = 1 by omega, show p3 = 0 by omega, hw43, hw47]) (by unfold evG; omega)⟩⟩
                  · replace h52 : (p3 : Int) ≠ 0 := by have q : ¬ ((p3 : Int) = 0) := h52; omega
                    exfalso; omega
              · replace h46 : (p3 : Int) ≠ 0 := by have q : ¬ ((p3 : Int) = 0) := h46; omega
                refine e_Ok.run (t' := (81, [(0, (1, 275)), (1, (0, p1)), (2, (0, p2)), (3, (0, p3))], [(0, 1), (0, 4 * p1 + 20837), (1, 276)], w43)) 2 rfl ?_
                refine e_Ok.ast rfl (el_o rfl) rfl rfl (by omega) ?_
                generalize hw57 : e_up w43 276 (4 * p1 + 20837) 1 = w57
                have f58 : e_fr mTi w w57 := e_fr.up f44 hw57 (by unfold mTi; omega)
                have hT59 : e_Has mTy w57 := e_Has.upr hT45 hw57 (nR_INPUT (i := p1) (f := 1) (by omega) (by decide)) (by omega)
                have hI60 : mInv w57 G := (mInv.up1 (mInv.up1 hI hw43 hT45 (by unfold idl; omega)) hw57 hT59 (by unfold idl; omega))
                refine e_Ok.run (t' := (86, [(0, (1, 275)), (1, (0, p1)), (2, (0, p2)), (3, (0, p3))], [(0, p2), (0, p1), (0, 4), (1, 275)], w57)) 4 rfl ?_
                refine e_Ok.if1 rfl (fun h61 => ?_) (fun h61 => ?_)
                · replace h61 : (p2 : Int) = 0 := h61
                  exfalso; omega
                · replace h61 : (p2 : Int) ≠ 0 := by have q : ¬ ((p2 : Int) = 0) := h61; omega
                  refine e_Ok.run (t' := (95, [(0, (1, 275)), (1, (0, p1)), (2, (0, p2)), (3, (0, p3))], [(0, p3), (0, 1), (0, p1), (0, 4), (1, 275)], w57)) 3 rfl ?_
                  refine e_Ok.if1 rfl (fun h62 => ?_) (fun h62 => ?_)
                  · replace h62 : (p3 : Int) = 0 := h62
                    exfalso; omega
                  · replace h62 : (p3 : Int) ≠ 0 := by have q : ¬ ((p3 : Int) = 0) := h62; omega
                    refine e_Ok.run (t' := (103, [(0, (1, 275)), (1, (0, p1)), (2, (0, p2)), (3, (0, p3))], [(0, 1), (0, 1), (0, p1), (0, 4), (1, 275)], w57)) 2 rfl ?_
                    refine e_Ok.callV rfl (by omega) rfl rfl rfl rfl (c_423_u (by omega) hT59 (bkE.fr hB (f58 275 5 no_9b_0) (f58 275 6 no_9b_1) (fun k => f58 356 k no_9b_2)).1 (fun e => by have e5 : w57 275 5 = w 275 5 := f58 275 5 no_9b_0; have e6 : w57 275 6 = w 275 6 := f58 275 6 no_9b_1; have h1 := hB.1; have h2 := (show ¬ mBk w by assumption); unfold mBk at h2; omega) (by decide) (fun e => by omega)) (fun r63 w64 h65 => ?_)
                    obtain ⟨rfl, q66⟩ := h65
                    show e_Ok 20 elay ecode eI (d + 1) 429 (106, [(0, (1, 275)), (1, (0, p1)), (2, (0, p2)), (3, (0, p3))], [], w64) _
                    refine e_Ok.run (t' := (107, [(0, (1, 275)), (1, (0, p1)), (2, (0, p2)), (3, (0, p3))], [(0, 0)], w64)) 1 rfl ?_
                    refine e_Ok.rets rfl rfl ?_
                    have ek0 : w57 276 0 = w 276 0 := (by rw [← hw57]; exact (e_up_ne _ _ (Or.inr (by omega))).trans (by rw [← hw43]; exact (e_up_ne _ _ (Or.inr (by omega))).trans rfl))
                    have ek5 : w57 276 5 = w 276 5 := (by rw [← hw57]; exact (e_up_ne _ _ (Or.inr (by omega))).trans (by rw [← hw43]; exact (e_up_ne _ _ (Or.inr (by omega))).trans rfl))
                    exact ⟨_, rfl, Or.inr ⟨⟨by omega, by omega, by omega⟩, by assumption, opS.ev (wm := w57) (opS.of f58 hI60 (fun k => by show w57 276 k = e_up (e_up w 276 (4 * p1 + 20836) p2) 276 (4 * p1 + 20837) p3 276 k; rw [show p2 = 1 by omega, show p3 = 1 by omega, hw43, hw57]) (by rw [show p2 = 1 by omega, show p3 = 1 by omega]; exact q66)) (fun k => by show w57 276 k = e_up (e_up w 276 (4 * p1 + 20836) p2) 276 (4 * p1 + 20837) p3 276 k; rw [show p2 = 1 by omega, show p3 = 1 by omega, hw43, hw57]) (by unfold evG; omega)⟩⟩
          · replace h16 : (0 : Int) ≠ 0 := by have q : ¬ ((0 : Int) = 0) := h16; omega
            exfalso; omega
      · replace h9 : (w 275 3 : Int) = 0 := by have q : ¬ ((w 275 3 : Int) ≠ 0) := h9; omega
        refine e_Ok.run (t' := (27, [(0, (1, 275)), (1, (0, p1)), (2, (0, p2)), (3, (0, p3))], [(0, (-2))], w)) 1 rfl ?_
        refine e_Ok.rets rfl rfl ?_
        exact ⟨_, rfl, Or.inl ⟨rfl, fun hc => by first | exact hc.2 (by assumption) | (have h1 := hc.1; omega)⟩⟩
    · replace h7 : (1 : Int) = 0 := by have q : ¬ ((1 : Int) ≠ 0) := h7; omega
      exfalso; omega
  · show e_Ok 20 elay ecode eI (d + 1) 429 (13, [(0, (1, 275)), (1, (0, p1)), (2, (0, p2)), (3, (0, p3))], [(0, 0)], w) _
    refine e_Ok.if1 rfl (fun h67 => ?_) (fun h67 => ?_)
    · replace h67 : (0 : Int) ≠ 0 := h67
      exfalso; omega
    · replace h67 : (0 : Int) = 0 := by have q : ¬ ((0 : Int) ≠ 0) := h67; omega
      refine e_Ok.run (t' := (17, [(0, (1, 275)), (1, (0, p1)), (2, (0, p2)), (3, (0, p3))], [(0, (-1))], w)) 1 rfl ?_
      refine e_Ok.rets rfl rfl ?_
      exact ⟨_, rfl, Or.inl ⟨rfl, fun hc => by first | exact hc.2 (by assumption) | (have h1 := hc.1; omega)⟩⟩
set_option maxHeartbeats 4000000 in
theorem c_432 {d : Nat} (hd : 25 ≤ d) {w : eW} {G : Int → Gh} (hI : mInv w G) (hB : bkE w) (hE : w 276 5 ≤ 7000000) {p1 : Int} (g1 : -2147483648 ≤ p1 ∧ p1 ≤ 2147483647) : e_Ok 20 elay ecode eI d 432 (0, [(0, (1, 275)), (1, (0, p1))], [], w) (fun r w' => ∃ z : Int, r = [(0, z)] ∧ ((w = w' ∧ ¬ ((0 ≤ p1 ∧ p1 < w 275 10 ∧ w 275 3 = 1 ∧ 0 ≤ w 276 (36 * p1 + 18)) ∧ ¬ mBk w)) ∨ ((0 ≤ p1 ∧ p1 < w 275 10 ∧ w 275 3 = 1 ∧ 0 ≤ w 276 (36 * p1 + 18)) ∧ ¬ mBk w ∧ opS w w' G 7 p1 0 0 (fun k => e_up (e_up w 276 (1260 * w 276 (36 * p1 + 18) + 416) 6) 276 (36 * p1 + 18) (-1) 276 k) ∧ evG w w'))) := by
  obtain ⟨d, rfl⟩ : ∃ e, d = e + 1 := ⟨d - 1, by omega⟩
  refine e_Ok.run (t' := (2, [(0, (1, 275)), (1, (0, p1))], [(0, p1), (1, 275)], w)) 2 rfl ?_
  refine e_Ok.callV rfl (by omega) rfl rfl rfl rfl (c_270 (by omega) hI.1) (fun r1 w2 h3 => ?_)
  have h4 := e_Has.get hI.1 (c := 275) (k := 10) (lo := 0) (hi := 4) rfl (by decide)
  obtain ⟨z5, rfl, rfl, q6⟩ := h3
  obtain ⟨rfl, q6⟩ | ⟨rfl, q6⟩ := q6
  · show e_Ok 20 elay ecode eI (d + 1) 432 (5, [(0, (1, 275)), (1, (0, p1))], [(0, 1)], w) _
    refine e_Ok.if1 rfl (fun h7 => ?_) (fun h7 => ?_)
    · replace h7 : (1 : Int) ≠ 0 := h7
      refine e_Ok.run (t' := (11, [(0, (1, 275)), (1, (0, p1))], [(1, 275)], w)) 1 rfl ?_
      refine e_Ok.getr (z := 276) rfl (el_o rfl) rfl rfl (e_Has.eq hI.1 rfl) (by omega) ?_
      refine e_Ok.run (t' := (15, [(0, (1, 275)), (1, (0, p1))], [(0, p1), (1, 276)], w)) 1 rfl ?_
      refine e_Ok.callS rfl (by omega) rfl rfl (c_268 (by omega)) (fun r8 w9 h10 => ?_)
      obtain ⟨rfl, rfl⟩ := h10
      show e_Ok 20 elay ecode eI (d + 1) 432 (18, [(0, (1, 275)), (1, (0, p1))], [(0, 36 * p1 + 16), (1, 276)], w) _
      refine e_Ok.run (t' := (19, [(0, (1, 275)), (1, (0, p1))], [(0, 2), (0, 36 * p1 + 16), (1, 276)], w)) 1 rfl ?_
      refine e_Ok.add (z := 36 * p1 + 18) rfl (by omega) (by omega) ?_
      have h11 := (e_Has.get hI.1 (c := 276) (k := 36 * p1 + 18) (lo := (-1)) (hi := 15) (nR_STUCK (a := p1) (by omega)) (by decide))
      refine e_Ok.ald (z := w 276 (36 * p1 + 18)) rfl (el_o rfl) rfl (by omega) rfl (by omega) ?_
      refine e_Ok.run (t' := (23, [(2, (0, w 276 (36 * p1 + 18))), (0, (1, 275)), (1, (0, p1))], [(1, 275)], w)) 2 rfl ?_
      have h12 := (e_Has.get hI.1 (c := 275) (k := 3) (lo := 0) (hi := 1) rfl (by decide))
      refine e_Ok.getf (z := w 275 3) rfl (el_o rfl) rfl rfl rfl (by omega) ?_
      refine e_Ok.if1 rfl (fun h13 => ?_) (fun h13 => ?_)
      · replace h13 : (w 275 3 : Int) = 0 := h13
        refine e_Ok.run (t' := (35, [(2, (0, w 276 (36 * p1 + 18))), (0, (1, 275)), (1, (0, p1))], [(0, (-2))], w)) 1 rfl ?_
        refine e_Ok.rets rfl rfl ?_
        exact ⟨_, rfl, Or.inl ⟨rfl, fun hc => by first | exact hc.2 (by assumption) | (have h1 := hc.1; omega)⟩⟩
      · replace h13 : (w 275 3 : Int) ≠ 0 := by have q : ¬ ((w 275 3 : Int) = 0) := h13; omega
        refine e_Ok.run (t' := (30, [(2, (0, w 276 (36 * p1 + 18))), (0, (1, 275)), (1, (0, p1))], [(0, w 276 (36 * p1 + 18))], w)) 1 rfl ?_
        refine e_Ok.if1 rfl (fun h14 => ?_) (fun h14 => ?_)
        · replace h14 : (w 276 (36 * p1 + 18) : Int) ≥ 0 := h14
          refine e_Ok.run (t' := (37, [(2, (0, w 276 (36 * p1 + 18))), (0, (1, 275)), (1, (0, p1))], [(1, 275)], w)) 1 rfl ?_
          refine e_Ok.callV rfl (by omega) rfl rfl rfl rfl (c_422_x hI.1 hB) (fun r15 w16 h17 => ?_)
          obtain ⟨z18, rfl, rfl, q19⟩ := h17
          obtain ⟨rfl, q19⟩ | ⟨rfl, q19⟩ := q19
          · show e_Ok 20 elay ecode eI (d + 1) 432 (40, [(2, (0, w 276 (36 * p1 + 18))), (0, (1, 275)), (1, (0, p1))], [(0, 1)], w) _
            refine e_Ok.if1 rfl (fun h20 => ?_) (fun h20 => ?_)
            · replace h20 : (1 : Int) = 0 := h20
              exfalso; omega
            · replace h20 : (1 : Int) ≠ 0 := by have q : ¬ ((1 : Int) = 0) := h20; omega
              refine e_Ok.run (t' := (45, [(2, (0, w 276 (36 * p1 + 18))), (0, (1, 275)), (1, (0, p1))], [(0, (-3))], w)) 1 rfl ?_
              refine e_Ok.rets rfl rfl ?_
              exact ⟨_, rfl, Or.inl ⟨rfl, fun hc => by first | exact hc.2 (by assumption) | (have h1 := hc.1; omega)⟩⟩
          · show e_Ok 20 elay ecode eI (d + 1) 432 (40, [(2, (0, w 276 (36 * p1 + 18))), (0, (1, 275)), (1, (0, p1))], [(0, 0)], w) _
            refine e_Ok.if1 rfl (fun h21 => ?_) (fun h21 => ?_)
            · replace h21 : (0 : Int) = 0 := h21
              refine e_Ok.run (t' := (47, [(2, (0, w 276 (36 * p1 + 18))), (0, (1, 275)), (1, (0, p1))], [(1, 275)], w)) 1 rfl ?_
              refine e_Ok.getr (z := 276) rfl (el_o rfl) rfl rfl (e_Has.eq hI.1 rfl) (by omega) ?_
              refine e_Ok.run (t' := (51, [(2, (0, w 276 (36 * p1 + 18))), (0, (1, 275)), (1, (0, p1))], [(0, w 276 (36 * p1 + 18)), (1, 276)], w)) 1 rfl ?_
              refine e_Ok.callS rfl (by omega) rfl rfl (c_269 (by omega)) (fun r22 w23 h24 => ?_)
              obtain ⟨rfl, rfl⟩ := h24
              show e_Ok 20 elay ecode eI (d + 1) 432 (54, [(2, (0, w 276 (36 * p1 + 18))), (0, (1, 275)), (1, (0, p1))], [(0, 1260 * w 276 (36 * p1 + 18) + 416), (1, 276)], w) _
              refine e_Ok.run (t' := (56, [(2, (0, w 276 (36 * p1 + 18))), (0, (1, 275)), (1, (0, p1))], [(0, 6), (0, 1260 * w 276 (36 * p1 + 18) + 416), (1, 276)], w)) 1 rfl ?_
              refine e_Ok.ast rfl (el_o rfl) rfl rfl (by omega) ?_
              generalize hw25 : e_up w 276 (1260 * w 276 (36 * p1 + 18) + 416) 6 = w25
              have f26 : e_fr mTi w w25 := e_fr.up (e_fr.refl w) hw25 (by unfold mTi; omega)
              have hT27 : e_Has mTy w25 := e_Has.upr hI.1 hw25 (nR_TSTATE (t := w 276 (36 * p1 + 18)) (by omega)) (by omega)
              refine e_Ok.run (t' := (58, [(2, (0, w 276 (36 * p1 + 18))), (0, (1, 275)), (1, (0, p1))], [(1, 275)], w25)) 1 rfl ?_
              refine e_Ok.getr (z := 276) rfl (el_o rfl) rfl rfl (by rw [← hw25]; exact (e_up_ne _ _ (Or.inl (by omega))).trans (e_Has.eq hI.1 rfl)) (by omega) ?_
              refine e_Ok.run (t' := (62, [(2, (0, w 276 (36 * p1 + 18))), (0, (1, 275)), (1, (0, p1))], [(0, p1), (1, 276)], w25)) 1 rfl ?_
              refine e_Ok.callS rfl (by omega) rfl rfl (c_268 (by omega)) (fun r28 w29 h30 => ?_)
              obtain ⟨rfl, rfl⟩ := h30
              show e_Ok 20 elay ecode eI (d + 1) 432 (65, [(2, (0, w 276 (36 * p1 + 18))), (0, (1, 275)), (1, (0, p1))], [(0, 36 * p1 + 16), (1, 276)], w25) _
              refine e_Ok.run (t' := (66, [(2, (0, w 276 (36 * p1 + 18))), (0, (1, 275)), (1, (0, p1))], [(0, 2), (0, 36 * p1 + 16), (1, 276)], w25)) 1 rfl ?_
              refine e_Ok.add (z := 36 * p1 + 18) rfl (by omega) (by omega) ?_
              refine e_Ok.run (t' := (68, [(2, (0, w 276 (36 * p1 + 18))), (0, (1, 275)), (1, (0, p1))], [(0, (-1)), (0, 36 * p1 + 18), (1, 276)], w25)) 1 rfl ?_
              refine e_Ok.ast rfl (el_o rfl) rfl rfl (by omega) ?_
              generalize hw31 : e_up w25 276 (36 * p1 + 18) (-1) = w31
              have f32 : e_fr mTi w w31 := e_fr.up f26 hw31 (by unfold mTi; omega)
              have hT33 : e_Has mTy w31 := e_Has.upr hT27 hw31 (nR_STUCK (a := p1) (by omega)) (by omega)
              have hI34 : mInv w31 G := mInv.ack hI (by omega) (by omega) hw25 hw31 hT33
              refine e_Ok.run (t' := (75, [(2, (0, w 276 (36 * p1 + 18))), (0, (1, 275)), (1, (0, p1))], [(0, 0), (0, 0), (0, p1), (0, 7), (1, 275)], w31)) 5 rfl ?_
              refine e_Ok.callV rfl (by omega) rfl rfl rfl rfl (c_423_u (by omega) hT33 (bkE.fr hB (f32 275 5 no_9b_0) (f32 275 6 no_9b_1) (fun k => f32 356 k no_9b_2)).1 (fun e => by have e5 : w31 275 5 = w 275 5 := f32 275 5 no_9b_0; have e6 : w31 275 6 = w 275 6 := f32 275 6 no_9b_1; have h1 := hB.1; have h2 := (show ¬ mBk w by assumption); unfold mBk at h2; omega) (by decide) (fun e => by omega)) (fun r35 w36 h37 => ?_)
              obtain ⟨rfl, q38⟩ := h37
              show e_Ok 20 elay ecode eI (d + 1) 432 (78, [(2, (0, w 276 (36 * p1 + 18))), (0, (1, 275)), (1, (0, p1))], [], w36) _
              refine e_Ok.run (t' := (79, [(2, (0, w 276 (36 * p1 + 18))), (0, (1, 275)), (1, (0, p1))], [(0, w 276 (36 * p1 + 18))], w36)) 1 rfl ?_
              refine e_Ok.rets rfl rfl ?_
              have ek0 : w31 276 0 = w 276 0 := (by rw [← hw31]; exact (e_up_ne _ _ (Or.inr (by omega))).trans (by rw [← hw25]; exact (e_up_ne _ _ (Or.inr (by omega))).trans rfl))
              have ek5 : w31 276 5 = w 276 5 := (by rw [← hw31]; exact (e_up_ne _ _ (Or.inr (by omega))).trans (by rw [← hw25]; exact (e_up_ne _ _ (Or.inr (by omega))).trans rfl))
              exact ⟨_, rfl, Or.inr ⟨⟨by omega, by omega, by omega, by omega⟩, by assumption, opS.ev (wm := w31) (opS.of f32 hI34 (fun k => rfl) q38) (fun k => rfl) (by unfold evG; omega)⟩⟩
            · replace h21 : (0 : Int) ≠ 0 := by have q : ¬ ((0 : Int) = 0) := h21; omega
              exfalso; omega
        · replace h14 : (w 276 (36 * p1 + 18) : Int) < 0 := by have q : ¬ ((w 276 (36 * p1 + 18) : Int) ≥ 0) := h14; omega
          refine e_Ok.run (t' := (35, [(2, (0, w 276 (36 * p1 + 18))), (0, (1, 275)), (1, (0, p1))], [(0, (-2))], w)) 1 rfl ?_
          refine e_Ok.rets rfl rfl ?_
          exact ⟨_, rfl, Or.inl ⟨rfl, fun hc => by first | exact hc.2 (by assumption) | (have h1 := hc.1; omega)⟩⟩
    · replace h7 : (1 : Int) = 0 := by have q : ¬ ((1 : Int) ≠ 0) := h7; omega
      exfalso; omega
  · show e_Ok 20 elay ecode eI (d + 1) 432 (5, [(0, (1, 275)), (1, (0, p1))], [(0, 0)], w) _
    refine e_Ok.if1 rfl (fun h40 => ?_) (fun h40 => ?_)
    · replace h40 : (0 : Int) ≠ 0 := h40
      exfalso; omega
    · replace h40 : (0 : Int) = 0 := by have q : ¬ ((0 : Int) ≠ 0) := h40; omega
      refine e_Ok.run (t' := (9, [(0, (1, 275)), (1, (0, p1))], [(0, (-1))], w)) 1 rfl ?_
      refine e_Ok.rets rfl rfl ?_
      exact ⟨_, rfl, Or.inl ⟨rfl, fun hc => by first | exact hc.2 (by assumption) | (have h1 := hc.1; omega)⟩⟩
theorem no_9b_3 : ¬ mTr 276 0 := by unfold mTr; omega
theorem no_9b_4 : ¬ mBr 276 0 := by unfold mBr; omega
set_option maxHeartbeats 4000000 in
theorem c_431 {d : Nat} (hd : 27 ≤ d) {w : eW} {G : Int → Gh} (hI : mInv w G) (hB : bkE w) (hE : w 276 5 ≤ 7000000) {p1 : Int} (g1 : -2147483648 ≤ p1 ∧ p1 ≤ 2147483647) : e_Ok 20 elay ecode eI d 431 (0, [(0, (1, 275)), (1, (0, p1))], [], w) (fun r w' => ∃ z : Int, r = [(0, z)] ∧ ((w = w' ∧ ¬ (((p1 = -1 ∨ (0 ≤ p1 ∧ p1 < w 275 10)) ∧ w 275 3 = 1 ∧ (p1 = -1 → w 276 1 ≠ 0)) ∧ ¬ mBk w)) ∨ (((p1 = -1 ∨ (0 ≤ p1 ∧ p1 < w 275 10)) ∧ w 275 3 = 1 ∧ (p1 = -1 → w 276 1 ≠ 0)) ∧ ¬ mBk w ∧ opS w w' G 6 p1 0 0 (fun k => if p1 = -1 then nowF 385 [(0, (1, 275)), (1, (0, 4)), (2, (0, 0))] w k else nowF 384 [(0, (1, 275)), (1, (0, p1))] w k) ∧ evG w w'))) := by
  obtain ⟨d, rfl⟩ : ∃ e, d = e + 1 := ⟨d - 1, by omega⟩
  refine e_Ok.run (t' := (2, [(0, (1, 275)), (1, (0, p1))], [(0, (-1)), (0, p1)], w)) 2 rfl ?_
  refine e_Ok.if2 rfl (fun h1 => ?_) (fun h1 => ?_)
  · replace h1 : (p1 : Int) = (-1) := h1
    refine e_Ok.run (t' := (16, [(0, (1, 275)), (1, (0, p1))], [(1, 275)], w)) 1 rfl ?_
    have h2 := (e_Has.get hI.1 (c := 275) (k := 3) (lo := 0) (hi := 1) rfl (by decide))
    refine e_Ok.getf (z := w 275 3) rfl (el_o rfl) rfl rfl rfl (by omega) ?_
    refine e_Ok.if1 rfl (fun h3 => ?_) (fun h3 => ?_)
    · replace h3 : (w 275 3 : Int) = 0 := h3
      refine e_Ok.run (t' := (38, [(0, (1, 275)), (1, (0, p1))], [(0, (-2))], w)) 1 rfl ?_
      refine e_Ok.rets rfl rfl ?_
      exact ⟨_, rfl, Or.inl ⟨rfl, fun hc => by first | exact hc.2 (by assumption) | (have h1 := hc.1; omega)⟩⟩
    · replace h3 : (w 275 3 : Int) ≠ 0 := by have q : ¬ ((w 275 3 : Int) = 0) := h3; omega
      refine e_Ok.run (t' := (24, [(0, (1, 275)), (1, (0, p1))], [(0, (-1)), (0, p1)], w)) 2 rfl ?_
      refine e_Ok.if2 rfl (fun h4 => ?_) (fun h4 => ?_)
      · replace h4 : (p1 : Int) ≠ (-1) := h4
        exfalso; omega
      · replace h4 : (p1 : Int) = (-1) := by have q : ¬ ((p1 : Int) ≠ (-1)) := h4; omega
        refine e_Ok.run (t' := (28, [(0, (1, 275)), (1, (0, p1))], [(1, 275)], w)) 1 rfl ?_
        refine e_Ok.getr (z := 276) rfl (el_o rfl) rfl rfl (e_Has.eq hI.1 rfl) (by omega) ?_
        refine e_Ok.run (t' := (32, [(0, (1, 275)), (1, (0, p1))], [(0, 1), (1, 276)], w)) 1 rfl ?_
        have h5 := (e_Has.get hI.1 (c := 276) (k := 1) (lo := 0) (hi := 1) rfl (by decide))
        refine e_Ok.ald (z := w 276 1) rfl (el_o rfl) rfl (by omega) rfl (by omega) ?_
        refine e_Ok.if1 rfl (fun h6 => ?_) (fun h6 => ?_)
        · replace h6 : (w 276 1 : Int) ≠ 0 := h6
          refine e_Ok.run (t' := (40, [(0, (1, 275)), (1, (0, p1))], [(1, 275)], w)) 1 rfl ?_
          refine e_Ok.callV rfl (by omega) rfl rfl rfl rfl (c_422_x hI.1 hB) (fun r7 w8 h9 => ?_)
          obtain ⟨z10, rfl, rfl, q11⟩ := h9
          obtain ⟨rfl, q11⟩ | ⟨rfl, q11⟩ := q11
          · show e_Ok 20 elay ecode eI (d + 1) 431 (43, [(0, (1, 275)), (1, (0, p1))], [(0, 1)], w) _
            refine e_Ok.if1 rfl (fun h12 => ?_) (fun h12 => ?_)
            · replace h12 : (1 : Int) = 0 := h12
              exfalso; omega
            · replace h12 : (1 : Int) ≠ 0 := by have q : ¬ ((1 : Int) = 0) := h12; omega
              refine e_Ok.run (t' := (48, [(0, (1, 275)), (1, (0, p1))], [(0, (-3))], w)) 1 rfl ?_
              refine e_Ok.rets rfl rfl ?_
              exact ⟨_, rfl, Or.inl ⟨rfl, fun hc => by first | exact hc.2 (by assumption) | (have h1 := hc.1; omega)⟩⟩
          · show e_Ok 20 elay ecode eI (d + 1) 431 (43, [(0, (1, 275)), (1, (0, p1))], [(0, 0)], w) _
            refine e_Ok.if1 rfl (fun h13 => ?_) (fun h13 => ?_)
            · replace h13 : (0 : Int) = 0 := h13
              refine e_Ok.run (t' := (53, [(2, (0, 0)), (0, (1, 275)), (1, (0, p1))], [(0, (-1)), (0, p1)], w)) 4 rfl ?_
              refine e_Ok.if2 rfl (fun h14 => ?_) (fun h14 => ?_)
              · replace h14 : (p1 : Int) ≠ (-1) := h14
                exfalso; omega
              · replace h14 : (p1 : Int) = (-1) := by have q : ¬ ((p1 : Int) ≠ (-1)) := h14; omega
                refine e_Ok.run (t' := (59, [(2, (0, 0)), (0, (1, 275)), (1, (0, p1))], [(0, 0), (0, 4), (1, 275)], w)) 3 rfl ?_
                refine e_Ok.callV rfl (by omega) rfl rfl rfl rfl (d_385 (by omega) hI.1 (by omega) (by omega) (by omega)) (fun r15 w16 h17 => ?_)
                obtain ⟨⟨rfl, q18, q18T, q18n, q18p, q18s, q18t, q18u⟩, q18x⟩ := h17
                have f19 : e_fr mTi w w16 := e_fr.trans (e_fr.refl w) (e_fr.mono q18 (fun c k q => by exact tr_ti q))
                have hI20 : mInv w16 G := mInv.trip hI q18 q18T q18s q18t q18u
                have q18o := q18 276 0 no_9b_3
                show e_Ok 20 elay ecode eI (d + 1) 431 (62, [(2, (0, 0)), (0, (1, 275)), (1, (0, p1))], [], w16) _
                refine e_Ok.run (t' := (88, [(2, (0, 0)), (0, (1, 275)), (1, (0, p1))], [(0, 0), (0, 0), (0, p1), (0, 6), (1, 275)], w16)) 6 rfl ?_
                refine e_Ok.callV rfl (by omega) rfl rfl rfl rfl (c_423_u (by omega) q18T (bkE.fr hB (f19 275 5 no_9b_0) (f19 275 6 no_9b_1) (fun k => f19 356 k no_9b_2)).1 (fun e => by have e5 : w16 275 5 = w 275 5 := f19 275 5 no_9b_0; have e6 : w16 275 6 = w 275 6 := f19 275 6 no_9b_1; have h1 := hB.1; have h2 := (show ¬ mBk w by assumption); unfold mBk at h2; omega) (by decide) (fun e => by omega)) (fun r21 w22 h23 => ?_)
                obtain ⟨rfl, q24⟩ := h23
                show e_Ok 20 elay ecode eI (d + 1) 431 (91, [(2, (0, 0)), (0, (1, 275)), (1, (0, p1))], [], w22) _
                refine e_Ok.run (t' := (92, [(2, (0, 0)), (0, (1, 275)), (1, (0, p1))], [(0, 0)], w22)) 1 rfl ?_
                refine e_Ok.rets rfl rfl ?_
                have ek0 : w16 276 0 = w 276 0 := ((q18 276 0 no_9b_3).trans rfl)
                have ek5 : w16 276 5 = w16 276 5 := rfl
                exact ⟨_, rfl, Or.inr ⟨⟨by omega, by omega, by omega⟩, by assumption, opS.ev (wm := w16) (opS.of f19 hI20 (fun k => by show w16 276 k = if p1 = -1 then _ else _; rw [if_pos (by omega)]; exact q18x k) q24) (fun k => by show w16 276 k = if p1 = -1 then _ else _; rw [if_pos (by omega)]; exact q18x k) (by unfold evG; omega)⟩⟩
            · replace h13 : (0 : Int) ≠ 0 := by have q : ¬ ((0 : Int) = 0) := h13; omega
              exfalso; omega
        · replace h6 : (w 276 1 : Int) = 0 := by have q : ¬ ((w 276 1 : Int) ≠ 0) := h6; omega
          refine e_Ok.run (t' := (38, [(0, (1, 275)), (1, (0, p1))], [(0, (-2))], w)) 1 rfl ?_
          refine e_Ok.rets rfl rfl ?_
          exact ⟨_, rfl, Or.inl ⟨rfl, fun hc => by first | exact hc.2 (by assumption) | (have h1 := hc.1; omega)⟩⟩
  · replace h1 : (p1 : Int) ≠ (-1) := by have q : ¬ ((p1 : Int) = (-1)) := h1; omega
    refine e_Ok.run (t' := (7, [(0, (1, 275)), (1, (0, p1))], [(0, p1), (1, 275)], w)) 2 rfl ?_
    refine e_Ok.callV rfl (by omega) rfl rfl rfl rfl (c_270 (by omega) hI.1) (fun r25 w26 h27 => ?_)
    have h28 := e_Has.get hI.1 (c := 275) (k := 10) (lo := 0) (hi := 4) rfl (by decide)
    obtain ⟨z29, rfl, rfl, q30⟩ := h27
    obtain ⟨rfl, q30⟩ | ⟨rfl, q30⟩ := q30
    · show e_Ok 20 elay ecode eI (d + 1) 431 (10, [(0, (1, 275)), (1, (0, p1))], [(0, 1)], w) _
      refine e_Ok.if1 rfl (fun h31 => ?_) (fun h31 => ?_)
      · replace h31 : (1 : Int) ≠ 0 := h31
        refine e_Ok.run (t' := (16, [(0, (1, 275)), (1, (0, p1))], [(1, 275)], w)) 1 rfl ?_
        have h32 := (e_Has.get hI.1 (c := 275) (k := 3) (lo := 0) (hi := 1) rfl (by decide))
        refine e_Ok.getf (z := w 275 3) rfl (el_o rfl) rfl rfl rfl (by omega) ?_
        refine e_Ok.if1 rfl (fun h33 => ?_) (fun h33 => ?_)
        · replace h33 : (w 275 3 : Int) = 0 := h33
          refine e_Ok.run (t' := (38, [(0, (1, 275)), (1, (0, p1))], [(0, (-2))], w)) 1 rfl ?_
          refine e_Ok.rets rfl rfl ?_
          exact ⟨_, rfl, Or.inl ⟨rfl, fun hc => by first | exact hc.2 (by assumption) | (have h1 := hc.1; omega)⟩⟩
        · replace h33 : (w 275 3 : Int) ≠ 0 := by have q : ¬ ((w 275 3 : Int) = 0) := h33; omega
          refine e_Ok.run (t' := (24, [(0, (1, 275)), (1, (0, p1))], [(0, (-1)), (0, p1)], w)) 2 rfl ?_
          refine e_Ok.if2 rfl (fun h34 => ?_) (fun h34 => ?_)
          · replace h34 : (p1 : Int) ≠ (-1) := h34
            refine e_Ok.run (t' := (40, [(0, (1, 275)), (1, (0, p1))], [(1, 275)], w)) 1 rfl ?_
            refine e_Ok.callV rfl (by omega) rfl rfl rfl rfl (c_422_x hI.1 hB) (fun r35 w36 h37 => ?_)
            obtain ⟨z38, rfl, rfl, q40⟩ := h37
            obtain ⟨rfl, q40⟩ | ⟨rfl, q40⟩ := q40
            · show e_Ok 20 elay ecode eI (d + 1) 431 (43, [(0, (1, 275)), (1, (0, p1))], [(0, 1)], w) _
              refine e_Ok.if1 rfl (fun h41 => ?_) (fun h41 => ?_)
              · replace h41 : (1 : Int) = 0 := h41
                exfalso; omega
              · replace h41 : (1 : Int) ≠ 0 := by have q : ¬ ((1 : Int) = 0) := h41; omega
                refine e_Ok.run (t' := (48, [(0, (1, 275)), (1, (0, p1))], [(0, (-3))], w)) 1 rfl ?_
                refine e_Ok.rets rfl rfl ?_
                exact ⟨_, rfl, Or.inl ⟨rfl, fun hc => by first | exact hc.2 (by assumption) | (have h1 := hc.1; omega)⟩⟩
            · show e_Ok 20 elay ecode eI (d + 1) 431 (43, [(0, (1, 275)), (1, (0, p1))], [(0, 0)], w) _
              refine e_Ok.if1 rfl (fun h42 => ?_) (fun h42 => ?_)
              · replace h42 : (0 : Int) = 0 := h42
                refine e_Ok.run (t' := (53, [(2, (0, 0)), (0, (1, 275)), (1, (0, p1))], [(0, (-1)), (0, p1)], w)) 4 rfl ?_
                refine e_Ok.if2 rfl (fun h43 => ?_) (fun h43 => ?_)
                · replace h43 : (p1 : Int) ≠ (-1) := h43
                  refine e_Ok.run (t' := (66, [(2, (0, 0)), (0, (1, 275)), (1, (0, p1))], [(1, 275)], w)) 1 rfl ?_
                  refine e_Ok.getr (z := 276) rfl (el_o rfl) rfl rfl (e_Has.eq hI.1 rfl) (by omega) ?_
                  refine e_Ok.run (t' := (70, [(2, (0, 0)), (0, (1, 275)), (1, (0, p1))], [(0, p1), (1, 276)], w)) 1 rfl ?_
                  refine e_Ok.callS rfl (by omega) rfl rfl (c_268 (by omega)) (fun r44 w45 h46 => ?_)
                  obtain ⟨rfl, rfl⟩ := h46
                  show e_Ok 20 elay ecode eI (d + 1) 431 (73, [(2, (0, 0)), (0, (1, 275)), (1, (0, p1))], [(0, 36 * p1 + 16), (1, 276)], w) _
                  refine e_Ok.run (t' := (74, [(2, (0, 0)), (0, (1, 275)), (1, (0, p1))], [(0, 0), (0, 36 * p1 + 16), (1, 276)], w)) 1 rfl ?_
                  refine e_Ok.add (z := 36 * p1 + 16) rfl (by omega) (by omega) ?_
                  have h47 := (e_Has.get hI.1 (c := 276) (k := 36 * p1 + 16) (lo := 0) (hi := 2) (nR_STATE (a := p1) (by omega)) (by decide))
                  refine e_Ok.ald (z := w 276 (36 * p1 + 16)) rfl (el_o rfl) rfl (by omega) rfl (by omega) ?_
                  refine e_Ok.run (t' := (79, [(2, (0, w 276 (36 * p1 + 16))), (0, (1, 275)), (1, (0, p1))], [(0, p1), (1, 275)], w)) 3 rfl ?_
                  refine e_Ok.callV rfl (by omega) rfl rfl rfl rfl (d_384 (by omega) hI.1 (by omega) (by omega)) (fun r48 w49 h50 => ?_)
                  obtain ⟨⟨rfl, q51, q51T, q51n, q51s⟩, q51x⟩ := h50
                  have f52 : e_fr mTi w w49 := e_fr.trans (e_fr.refl w) (e_fr.mono q51 (fun c k q => by exact br_ti q))
                  have hI53 : mInv w49 G := mInv.brake hI q51 q51T q51s
                  have q51o := q51 276 0 no_9b_4
                  show e_Ok 20 elay ecode eI (d + 1) 431 (82, [(2, (0, w 276 (36 * p1 + 16))), (0, (1, 275)), (1, (0, p1))], [], w49) _
                  refine e_Ok.run (t' := (88, [(2, (0, w 276 (36 * p1 + 16))), (0, (1, 275)), (1, (0, p1))], [(0, 0), (0, 0), (0, p1), (0, 6), (1, 275)], w49)) 5 rfl ?_
                  refine e_Ok.callV rfl (by omega) rfl rfl rfl rfl (c_423_u (by omega) q51T (bkE.fr hB (f52 275 5 no_9b_0) (f52 275 6 no_9b_1) (fun k => f52 356 k no_9b_2)).1 (fun e => by have e5 : w49 275 5 = w 275 5 := f52 275 5 no_9b_0; have e6 : w49 275 6 = w 275 6 := f52 275 6 no_9b_1; have h1 := hB.1; have h2 := (show ¬ mBk w by assumption); unfold mBk at h2; omega) (by decide) (fun e => by omega)) (fun r54 w55 h56 => ?_)
                  obtain ⟨rfl, q57⟩ := h56
                  show e_Ok 20 elay ecode eI (d + 1) 431 (91, [(2, (0, w 276 (36 * p1 + 16))), (0, (1, 275)), (1, (0, p1))], [], w55) _
                  refine e_Ok.run (t' := (92, [(2, (0, w 276 (36 * p1 + 16))), (0, (1, 275)), (1, (0, p1))], [(0, w 276 (36 * p1 + 16))], w55)) 1 rfl ?_
                  refine e_Ok.rets rfl rfl ?_
                  have ek0 : w49 276 0 = w 276 0 := ((q51 276 0 no_9b_4).trans rfl)
                  have ek5 : w49 276 5 = w49 276 5 := rfl
                  exact ⟨_, rfl, Or.inr ⟨⟨by omega, by omega, by omega⟩, by assumption, opS.ev (wm := w49) (opS.of f52 hI53 (fun k => by show w49 276 k = if p1 = -1 then _ else _; rw [if_neg (by omega)]; exact q51x k) q57) (fun k => by show w49 276 k = if p1 = -1 then _ else _; rw [if_neg (by omega)]; exact q51x k) (by unfold evG; omega)⟩⟩
                · replace h43 : (p1 : Int) = (-1) := by have q : ¬ ((p1 : Int) ≠ (-1)) := h43; omega
                  exfalso; omega
              · replace h42 : (0 : Int) ≠ 0 := by have q : ¬ ((0 : Int) = 0) := h42; omega
                exfalso; omega
          · replace h34 : (p1 : Int) = (-1) := by have q : ¬ ((p1 : Int) ≠ (-1)) := h34; omega
            exfalso; omega
      · replace h31 : (1 : Int) = 0 := by have q : ¬ ((1 : Int) ≠ 0) := h31; omega
        exfalso; omega
    · show e_Ok 20 elay ecode eI (d + 1) 431 (10, [(0, (1, 275)), (1, (0, p1))], [(0, 0)], w) _
      refine e_Ok.if1 rfl (fun h58 => ?_) (fun h58 => ?_)
      · replace h58 : (0 : Int) ≠ 0 := h58
        exfalso; omega
      · replace h58 : (0 : Int) = 0 := by have q : ¬ ((0 : Int) ≠ 0) := h58; omega
        refine e_Ok.run (t' := (14, [(0, (1, 275)), (1, (0, p1))], [(0, (-1))], w)) 1 rfl ?_
        refine e_Ok.rets rfl rfl ?_
        exact ⟨_, rfl, Or.inl ⟨rfl, fun hc => by first | exact hc.2 (by assumption) | (have h1 := hc.1; omega)⟩⟩
end
