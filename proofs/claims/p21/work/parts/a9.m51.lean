noncomputable section
theorem c_278_b {d : Nat} (hd : 24 ≤ d) {w : eW} (hT : e_Has mTy w) {p1 p2 p3 p4 : Int} (g1 : (-2147483648) ≤ p1 ∧ p1 ≤ 2147483647) (g2 : (-2147483648) ≤ p2 ∧ p2 ≤ 2147483647) (g3 : (-2147483648) ≤ p3 ∧ p3 ≤ 2147483647) (g4 : (-2147483648) ≤ p4 ∧ p4 ≤ 2147483647) : e_Ok 20 elay ecode eI d 278 (0, [(0, (1, 275)), (1, (0, p1)), (2, (0, p2)), (3, (0, p3)), (4, (0, p4))], [], w) (fun r w' => ∃ z : Int, r = [(0, z)] ∧ (w = w' ∨ (w 275 3 = 0 ∧ e_fr (mF 10 282 285) w w' ∧ e_Has mTy w' ∧ w' 275 10 = w 275 10 + 1))) := by
  obtain ⟨d, rfl⟩ : ∃ e, d = e + 1 := ⟨d - 1, by omega⟩
  have hop := e_Has.get hT (c := 275) (k := 3) (lo := 0) (hi := 1) rfl (by decide)
  have hr := e_Has.get hT (c := 275) (k := 10) (lo := 0) (hi := 4) rfl (by decide)
  refine e_Ok.run (t' := (8, [(0, (1, 275)), (1, (0, p1)), (2, (0, p2)), (3, (0, p3)), (4, (0, p4))], [(4, 8000), (4, (-8000)), (4, p1)], w)) 4 rfl ?_
  refine e_Ok.callS rfl (by omega) rfl rfl (c_266) (fun r1 w2 h3 => ?_)
  obtain ⟨z4, rfl, rfl, q5⟩ := h3
  obtain ⟨rfl, q5⟩ | ⟨rfl, q5⟩ := q5
  · show e_Ok 20 elay ecode eI (d + 1) 278 (11, [(0, (1, 275)), (1, (0, p1)), (2, (0, p2)), (3, (0, p3)), (4, (0, p4))], [(0, 1)], w) _
    refine e_Ok.if1 rfl (fun h6 => ?_) (fun h6 => ?_)
    · replace h6 : (1 : Int) = 0 := h6
      exfalso; omega
    · replace h6 : (1 : Int) ≠ 0 := by have q : ¬ ((1 : Int) = 0) := h6; omega
      refine e_Ok.run (t' := (22, [(0, (1, 275)), (1, (0, p1)), (2, (0, p2)), (3, (0, p3)), (4, (0, p4))], [(4, 8000), (4, (-8000)), (4, p2)], w)) 4 rfl ?_
      refine e_Ok.callS rfl (by omega) rfl rfl (c_266) (fun r7 w8 h9 => ?_)
      obtain ⟨z10, rfl, rfl, q11⟩ := h9
      obtain ⟨rfl, q11⟩ | ⟨rfl, q11⟩ := q11
      · show e_Ok 20 elay ecode eI (d + 1) 278 (25, [(0, (1, 275)), (1, (0, p1)), (2, (0, p2)), (3, (0, p3)), (4, (0, p4))], [(0, 1)], w) _
        refine e_Ok.if1 rfl (fun h12 => ?_) (fun h12 => ?_)
        · replace h12 : (1 : Int) = 0 := h12
          exfalso; omega
        · replace h12 : (1 : Int) ≠ 0 := by have q : ¬ ((1 : Int) = 0) := h12; omega
          refine e_Ok.run (t' := (34, [(0, (1, 275)), (1, (0, p1)), (2, (0, p2)), (3, (0, p3)), (4, (0, p4))], [(4, 4095), (4, 0), (4, p3)], w)) 4 rfl ?_
          refine e_Ok.callS rfl (by omega) rfl rfl (c_266) (fun r13 w14 h15 => ?_)
          obtain ⟨z16, rfl, rfl, q17⟩ := h15
          obtain ⟨rfl, q17⟩ | ⟨rfl, q17⟩ := q17
          · show e_Ok 20 elay ecode eI (d + 1) 278 (37, [(0, (1, 275)), (1, (0, p1)), (2, (0, p2)), (3, (0, p3)), (4, (0, p4))], [(0, 1)], w) _
            refine e_Ok.if1 rfl (fun h18 => ?_) (fun h18 => ?_)
            · replace h18 : (1 : Int) = 0 := h18
              exfalso; omega
            · replace h18 : (1 : Int) ≠ 0 := by have q : ¬ ((1 : Int) = 0) := h18; omega
              refine e_Ok.run (t' := (47, [(0, (1, 275)), (1, (0, p1)), (2, (0, p2)), (3, (0, p3)), (4, (0, p4))], [(4, 800), (4, 0), (4, p4)], w)) 4 rfl ?_
              refine e_Ok.callS rfl (by omega) rfl rfl (c_266) (fun r19 w20 h21 => ?_)
              obtain ⟨z22, rfl, rfl, q23⟩ := h21
              obtain ⟨rfl, q23⟩ | ⟨rfl, q23⟩ := q23
              · show e_Ok 20 elay ecode eI (d + 1) 278 (50, [(0, (1, 275)), (1, (0, p1)), (2, (0, p2)), (3, (0, p3)), (4, (0, p4))], [(0, 1)], w) _
                refine e_Ok.if1 rfl (fun h24 => ?_) (fun h24 => ?_)
                · replace h24 : (1 : Int) ≠ 0 := h24
                  refine e_Ok.run (t' := (56, [(0, (1, 275)), (1, (0, p1)), (2, (0, p2)), (3, (0, p3)), (4, (0, p4))], [(1, 275)], w)) 1 rfl ?_
                  refine e_Ok.getf (z := w 275 3) rfl (el_o rfl) rfl rfl rfl (by omega) ?_
                  refine e_Ok.if1 rfl (fun h25 => ?_) (fun h25 => ?_)
                  · replace h25 : (w 275 3 : Int) = 0 := h25
                    refine e_Ok.run (t' := (66, [(0, (1, 275)), (1, (0, p1)), (2, (0, p2)), (3, (0, p3)), (4, (0, p4))], [(1, 275)], w)) 1 rfl ?_
                    refine e_Ok.getf (z := w 275 10) rfl (el_o rfl) rfl rfl rfl (by omega) ?_
                    refine e_Ok.run (t' := (70, [(0, (1, 275)), (1, (0, p1)), (2, (0, p2)), (3, (0, p3)), (4, (0, p4))], [(0, 4), (0, w 275 10)], w)) 1 rfl ?_
                    refine e_Ok.if2 rfl (fun h26 => ?_) (fun h26 => ?_)
                    · replace h26 : (w 275 10 : Int) ≠ 4 := h26
                      refine e_Ok.run (t' := (77, [(0, (1, 275)), (1, (0, p1)), (2, (0, p2)), (3, (0, p3)), (4, (0, p4))], [(1, 275)], w)) 1 rfl ?_
                      refine e_Ok.getr (z := 282) rfl (el_o rfl) rfl rfl (e_Has.eq hT rfl) (by omega) ?_
                      refine e_Ok.run (t' := (81, [(0, (1, 275)), (1, (0, p1)), (2, (0, p2)), (3, (0, p3)), (4, (0, p4))], [(1, 275), (1, 282)], w)) 1 rfl ?_
                      refine e_Ok.getf (z := w 275 10) rfl (el_o rfl) rfl rfl rfl (by omega) ?_
                      refine e_Ok.run (t' := (85, [(0, (1, 275)), (1, (0, p1)), (2, (0, p2)), (3, (0, p3)), (4, (0, p4))], [(0, p1), (0, w 275 10), (1, 282)], w)) 1 rfl ?_
                      refine e_Ok.ast rfl (el_o rfl) rfl rfl (by omega) ?_
                      generalize hw27 : e_up w 282 (w 275 10) p1 = w27
                      have f28 : e_fr (mF 10 282 285) w w27 := e_fr.up (e_fr.refl w) hw27 (by unfold mF; omega)
                      have hT29 : e_Has mTy w27 := e_Has.upr hT hw27 rfl (by omega)
                      refine e_Ok.run (t' := (87, [(0, (1, 275)), (1, (0, p1)), (2, (0, p2)), (3, (0, p3)), (4, (0, p4))], [(1, 275)], w27)) 1 rfl ?_
                      refine e_Ok.getr (z := 283) rfl (el_o rfl) rfl rfl (by rw [← hw27]; exact (e_up_ne _ _ (Or.inl (by omega))).trans (e_Has.eq hT rfl)) (by omega) ?_
                      refine e_Ok.run (t' := (91, [(0, (1, 275)), (1, (0, p1)), (2, (0, p2)), (3, (0, p3)), (4, (0, p4))], [(1, 275), (1, 283)], w27)) 1 rfl ?_
                      refine e_Ok.getf (z := w 275 10) rfl (el_o rfl) rfl rfl (by rw [← hw27]; exact (e_up_ne _ _ (Or.inl (by omega))).trans rfl) (by omega) ?_
                      refine e_Ok.run (t' := (95, [(0, (1, 275)), (1, (0, p1)), (2, (0, p2)), (3, (0, p3)), (4, (0, p4))], [(0, p2), (0, w 275 10), (1, 283)], w27)) 1 rfl ?_
                      refine e_Ok.ast rfl (el_o rfl) rfl rfl (by omega) ?_
                      generalize hw30 : e_up w27 283 (w 275 10) p2 = w30
                      have f31 : e_fr (mF 10 282 285) w w30 := e_fr.up f28 hw30 (by unfold mF; omega)
                      have hT32 : e_Has mTy w30 := e_Has.upr hT29 hw30 rfl (by omega)
                      refine e_Ok.run (t' := (97, [(0, (1, 275)), (1, (0, p1)), (2, (0, p2)), (3, (0, p3)), (4, (0, p4))], [(1, 275)], w30)) 1 rfl ?_
                      refine e_Ok.getr (z := 284) rfl (el_o rfl) rfl rfl (by rw [← hw30]; exact (e_up_ne _ _ (Or.inl (by omega))).trans (by rw [← hw27]; exact (e_up_ne _ _ (Or.inl (by omega))).trans (e_Has.eq hT rfl))) (by omega) ?_
                      refine e_Ok.run (t' := (101, [(0, (1, 275)), (1, (0, p1)), (2, (0, p2)), (3, (0, p3)), (4, (0, p4))], [(1, 275), (1, 284)], w30)) 1 rfl ?_
                      refine e_Ok.getf (z := w 275 10) rfl (el_o rfl) rfl rfl (by rw [← hw30]; exact (e_up_ne _ _ (Or.inl (by omega))).trans (by rw [← hw27]; exact (e_up_ne _ _ (Or.inl (by omega))).trans rfl)) (by omega) ?_
                      refine e_Ok.run (t' := (105, [(0, (1, 275)), (1, (0, p1)), (2, (0, p2)), (3, (0, p3)), (4, (0, p4))], [(0, p3), (0, w 275 10), (1, 284)], w30)) 1 rfl ?_
                      refine e_Ok.ast rfl (el_o rfl) rfl rfl (by omega) ?_
                      generalize hw33 : e_up w30 284 (w 275 10) p3 = w33
                      have f34 : e_fr (mF 10 282 285) w w33 := e_fr.up f31 hw33 (by unfold mF; omega)
                      have hT35 : e_Has mTy w33 := e_Has.upr hT32 hw33 rfl (by omega)
                      refine e_Ok.run (t' := (107, [(0, (1, 275)), (1, (0, p1)), (2, (0, p2)), (3, (0, p3)), (4, (0, p4))], [(1, 275)], w33)) 1 rfl ?_
                      refine e_Ok.getr (z := 285) rfl (el_o rfl) rfl rfl (by rw [← hw33]; exact (e_up_ne _ _ (Or.inl (by omega))).trans (by rw [← hw30]; exact (e_up_ne _ _ (Or.inl (by omega))).trans (by rw [← hw27]; exact (e_up_ne _ _ (Or.inl (by omega))).trans (e_Has.eq hT rfl)))) (by omega) ?_
                      refine e_Ok.run (t' := (111, [(0, (1, 275)), (1, (0, p1)), (2, (0, p2)), (3, (0, p3)), (4, (0, p4))], [(1, 275), (1, 285)], w33)) 1 rfl ?_
                      refine e_Ok.getf (z := w 275 10) rfl (el_o rfl) rfl rfl (by rw [← hw33]; exact (e_up_ne _ _ (Or.inl (by omega))).trans (by rw [← hw30]; exact (e_up_ne _ _ (Or.inl (by omega))).trans (by rw [← hw27]; exact (e_up_ne _ _ (Or.inl (by omega))).trans rfl))) (by omega) ?_
                      refine e_Ok.run (t' := (116, [(0, (1, 275)), (1, (0, p1)), (2, (0, p2)), (3, (0, p3)), (4, (0, p4))], [(0, p4), (0, w 275 10), (1, 285)], w33)) 1 rfl ?_
                      refine e_Ok.ast rfl (el_o rfl) rfl rfl (by omega) ?_
                      generalize hw36 : e_up w33 285 (w 275 10) p4 = w36
                      have f37 : e_fr (mF 10 282 285) w w36 := e_fr.up f34 hw36 (by unfold mF; omega)
                      have hT38 : e_Has mTy w36 := e_Has.upr hT35 hw36 rfl (by omega)
                      refine e_Ok.run (t' := (119, [(0, (1, 275)), (1, (0, p1)), (2, (0, p2)), (3, (0, p3)), (4, (0, p4))], [(1, 275), (1, 275)], w36)) 2 rfl ?_
                      refine e_Ok.getf (z := w 275 10) rfl (el_o rfl) rfl rfl (by rw [← hw36]; exact (e_up_ne _ _ (Or.inl (by omega))).trans (by rw [← hw33]; exact (e_up_ne _ _ (Or.inl (by omega))).trans (by rw [← hw30]; exact (e_up_ne _ _ (Or.inl (by omega))).trans (by rw [← hw27]; exact (e_up_ne _ _ (Or.inl (by omega))).trans rfl)))) (by omega) ?_
                      refine e_Ok.run (t' := (123, [(0, (1, 275)), (1, (0, p1)), (2, (0, p2)), (3, (0, p3)), (4, (0, p4))], [(0, 1), (0, w 275 10), (1, 275)], w36)) 1 rfl ?_
                      refine e_Ok.add (z := w 275 10 + 1) rfl (by omega) (by omega) ?_
                      refine e_Ok.putf rfl (el_o rfl) rfl rfl ?_
                      generalize hw40 : e_up w36 275 10 (w 275 10 + 1) = w40
                      have f41 : e_fr (mF 10 282 285) w w40 := e_fr.up f37 hw40 (by unfold mF; omega)
                      have hT42 : e_Has mTy w40 := e_Has.upr hT38 hw40 rfl (by omega)
                      refine e_Ok.run (t' := (128, [(0, (1, 275)), (1, (0, p1)), (2, (0, p2)), (3, (0, p3)), (4, (0, p4))], [(1, 275)], w40)) 1 rfl ?_
                      refine e_Ok.getf (z := w 275 10 + 1) rfl (el_o rfl) rfl rfl (by rw [← hw40]; exact e_up_eq _ _ _ _) (by omega) ?_
                      refine e_Ok.run (t' := (132, [(0, (1, 275)), (1, (0, p1)), (2, (0, p2)), (3, (0, p3)), (4, (0, p4))], [(0, 1), (0, w 275 10 + 1)], w40)) 1 rfl ?_
                      refine e_Ok.sub' (z := w 275 10) rfl (by omega) (by omega) ?_
                      refine e_Ok.rets rfl rfl ?_
                      have e10 : w40 275 10 = w 275 10 + 1 := (by rw [← hw40]; exact e_up_eq _ _ _ _)
                      exact ⟨_, rfl, Or.inr ⟨by omega, f41, hT42, by omega⟩⟩
                    · replace h26 : (w 275 10 : Int) = 4 := by have q : ¬ ((w 275 10 : Int) ≠ 4) := h26; omega
                      refine e_Ok.run (t' := (75, [(0, (1, 275)), (1, (0, p1)), (2, (0, p2)), (3, (0, p3)), (4, (0, p4))], [(0, (-3))], w)) 1 rfl ?_
                      refine e_Ok.rets rfl rfl ?_
                      exact ⟨_, rfl, Or.inl rfl⟩
                  · replace h25 : (w 275 3 : Int) ≠ 0 := by have q : ¬ ((w 275 3 : Int) = 0) := h25; omega
                    refine e_Ok.run (t' := (64, [(0, (1, 275)), (1, (0, p1)), (2, (0, p2)), (3, (0, p3)), (4, (0, p4))], [(0, (-2))], w)) 1 rfl ?_
                    refine e_Ok.rets rfl rfl ?_
                    exact ⟨_, rfl, Or.inl rfl⟩
                · replace h24 : (1 : Int) = 0 := by have q : ¬ ((1 : Int) ≠ 0) := h24; omega
                  exfalso; omega
              · show e_Ok 20 elay ecode eI (d + 1) 278 (50, [(0, (1, 275)), (1, (0, p1)), (2, (0, p2)), (3, (0, p3)), (4, (0, p4))], [(0, 0)], w) _
                refine e_Ok.if1 rfl (fun h43 => ?_) (fun h43 => ?_)
                · replace h43 : (0 : Int) ≠ 0 := h43
                  exfalso; omega
                · replace h43 : (0 : Int) = 0 := by have q : ¬ ((0 : Int) ≠ 0) := h43; omega
                  refine e_Ok.run (t' := (54, [(0, (1, 275)), (1, (0, p1)), (2, (0, p2)), (3, (0, p3)), (4, (0, p4))], [(0, (-1))], w)) 1 rfl ?_
                  refine e_Ok.rets rfl rfl ?_
                  exact ⟨_, rfl, Or.inl rfl⟩
          · show e_Ok 20 elay ecode eI (d + 1) 278 (37, [(0, (1, 275)), (1, (0, p1)), (2, (0, p2)), (3, (0, p3)), (4, (0, p4))], [(0, 0)], w) _
            refine e_Ok.if1 rfl (fun h44 => ?_) (fun h44 => ?_)
            · replace h44 : (0 : Int) = 0 := h44
              refine e_Ok.run (t' := (54, [(0, (1, 275)), (1, (0, p1)), (2, (0, p2)), (3, (0, p3)), (4, (0, p4))], [(0, (-1))], w)) 1 rfl ?_
              refine e_Ok.rets rfl rfl ?_
              exact ⟨_, rfl, Or.inl rfl⟩
            · replace h44 : (0 : Int) ≠ 0 := by have q : ¬ ((0 : Int) = 0) := h44; omega
              exfalso; omega
      · show e_Ok 20 elay ecode eI (d + 1) 278 (25, [(0, (1, 275)), (1, (0, p1)), (2, (0, p2)), (3, (0, p3)), (4, (0, p4))], [(0, 0)], w) _
        refine e_Ok.if1 rfl (fun h45 => ?_) (fun h45 => ?_)
        · replace h45 : (0 : Int) = 0 := h45
          refine e_Ok.run (t' := (54, [(0, (1, 275)), (1, (0, p1)), (2, (0, p2)), (3, (0, p3)), (4, (0, p4))], [(0, (-1))], w)) 1 rfl ?_
          refine e_Ok.rets rfl rfl ?_
          exact ⟨_, rfl, Or.inl rfl⟩
        · replace h45 : (0 : Int) ≠ 0 := by have q : ¬ ((0 : Int) = 0) := h45; omega
          exfalso; omega
  · show e_Ok 20 elay ecode eI (d + 1) 278 (11, [(0, (1, 275)), (1, (0, p1)), (2, (0, p2)), (3, (0, p3)), (4, (0, p4))], [(0, 0)], w) _
    refine e_Ok.if1 rfl (fun h46 => ?_) (fun h46 => ?_)
    · replace h46 : (0 : Int) = 0 := h46
      refine e_Ok.run (t' := (54, [(0, (1, 275)), (1, (0, p1)), (2, (0, p2)), (3, (0, p3)), (4, (0, p4))], [(0, (-1))], w)) 1 rfl ?_
      refine e_Ok.rets rfl rfl ?_
      exact ⟨_, rfl, Or.inl rfl⟩
    · replace h46 : (0 : Int) ≠ 0 := by have q : ¬ ((0 : Int) = 0) := h46; omega
      exfalso; omega
theorem c_280_b {d : Nat} (hd : 24 ≤ d) {w : eW} (hT : e_Has mTy w) {p1 p2 p3 : Int} (g1 : (-2147483648) ≤ p1 ∧ p1 ≤ 2147483647) (g2 : (-2147483648) ≤ p2 ∧ p2 ≤ 2147483647) (g3 : (-2147483648) ≤ p3 ∧ p3 ≤ 2147483647) : e_Ok 20 elay ecode eI d 280 (0, [(0, (1, 275)), (1, (0, p1)), (2, (0, p2)), (3, (0, p3))], [], w) (fun r w' => ∃ z : Int, r = [(0, z)] ∧ (w = w' ∨ (w 275 3 = 0 ∧ e_fr (mF (-1) 293 293) w w' ∧ e_Has mTy w' ∧ True))) := by
  obtain ⟨d, rfl⟩ : ∃ e, d = e + 1 := ⟨d - 1, by omega⟩
  have hop := e_Has.get hT (c := 275) (k := 3) (lo := 0) (hi := 1) rfl (by decide)
  refine e_Ok.run (t' := (3, [(0, (1, 275)), (1, (0, p1)), (2, (0, p2)), (3, (0, p3))], [(0, p2), (0, p1), (1, 275)], w)) 3 rfl ?_
  refine e_Ok.callV rfl (by omega) rfl rfl rfl rfl (c_271 (by omega) hT) (fun r1 w2 h3 => ?_)
  obtain ⟨z4, rfl, rfl, q5⟩ := h3
  have h6 := e_Has.get hT (c := 275) (k := 10) (lo := 0) (hi := 4) rfl (by decide)
  have h7 := e_Has.get hT (c := 286) (k := p1) (lo := 0) (hi := 6) rfl (by decide)
  obtain ⟨rfl, q5⟩ | ⟨rfl, q5⟩ := q5
  · show e_Ok 20 elay ecode eI (d + 1) 280 (6, [(0, (1, 275)), (1, (0, p1)), (2, (0, p2)), (3, (0, p3))], [(0, 1)], w) _
    refine e_Ok.if1 rfl (fun h8 => ?_) (fun h8 => ?_)
    · replace h8 : (1 : Int) = 0 := h8
      exfalso; omega
    · replace h8 : (1 : Int) ≠ 0 := by have q : ¬ ((1 : Int) = 0) := h8; omega
      refine e_Ok.run (t' := (15, [(0, (1, 275)), (1, (0, p1)), (2, (0, p2)), (3, (0, p3))], [(4, 800), (4, 0), (4, p3)], w)) 4 rfl ?_
      refine e_Ok.callS rfl (by omega) rfl rfl (c_266) (fun r9 w10 h11 => ?_)
      obtain ⟨z12, rfl, rfl, q13⟩ := h11
      obtain ⟨rfl, q13⟩ | ⟨rfl, q13⟩ := q13
      · show e_Ok 20 elay ecode eI (d + 1) 280 (18, [(0, (1, 275)), (1, (0, p1)), (2, (0, p2)), (3, (0, p3))], [(0, 1)], w) _
        refine e_Ok.if1 rfl (fun h14 => ?_) (fun h14 => ?_)
        · replace h14 : (1 : Int) ≠ 0 := h14
          refine e_Ok.run (t' := (24, [(0, (1, 275)), (1, (0, p1)), (2, (0, p2)), (3, (0, p3))], [(1, 275)], w)) 1 rfl ?_
          refine e_Ok.getf (z := w 275 3) rfl (el_o rfl) rfl rfl rfl (by omega) ?_
          refine e_Ok.if1 rfl (fun h15 => ?_) (fun h15 => ?_)
          · replace h15 : (w 275 3 : Int) = 0 := h15
            refine e_Ok.run (t' := (34, [(0, (1, 275)), (1, (0, p1)), (2, (0, p2)), (3, (0, p3))], [(1, 275)], w)) 1 rfl ?_
            refine e_Ok.getr (z := 293) rfl (el_o rfl) rfl rfl (e_Has.eq hT rfl) (by omega) ?_
            refine e_Ok.run (t' := (40, [(0, (1, 275)), (1, (0, p1)), (2, (0, p2)), (3, (0, p3))], [(0, p1), (0, 6), (1, 293)], w)) 2 rfl ?_
            refine e_Ok.mul (z := 6 * p1) rfl (by omega) (by omega) ?_
            refine e_Ok.run (t' := (42, [(0, (1, 275)), (1, (0, p1)), (2, (0, p2)), (3, (0, p3))], [(0, p2), (0, 6 * p1), (1, 293)], w)) 1 rfl ?_
            refine e_Ok.add (z := 6 * p1 + p2) rfl (by omega) (by omega) ?_
            have h16 := (e_Has.get hT (c := 293) (k := 6 * p1 + p2) (lo := 0) (hi := 800) rfl (by decide))
            refine e_Ok.ald (z := w 293 (6 * p1 + p2)) rfl (el_o rfl) rfl (by omega) rfl (by omega) ?_
            refine e_Ok.run (t' := (47, [(4, (0, w 293 (6 * p1 + p2))), (0, (1, 275)), (1, (0, p1)), (2, (0, p2)), (3, (0, p3))], [(1, 275)], w)) 2 rfl ?_
            refine e_Ok.getr (z := 293) rfl (el_o rfl) rfl rfl (e_Has.eq hT rfl) (by omega) ?_
            refine e_Ok.run (t' := (53, [(4, (0, w 293 (6 * p1 + p2))), (0, (1, 275)), (1, (0, p1)), (2, (0, p2)), (3, (0, p3))], [(0, p1), (0, 6), (1, 293)], w)) 2 rfl ?_
            refine e_Ok.mul (z := 6 * p1) rfl (by omega) (by omega) ?_
            refine e_Ok.run (t' := (55, [(4, (0, w 293 (6 * p1 + p2))), (0, (1, 275)), (1, (0, p1)), (2, (0, p2)), (3, (0, p3))], [(0, p2), (0, 6 * p1), (1, 293)], w)) 1 rfl ?_
            refine e_Ok.add (z := 6 * p1 + p2) rfl (by omega) (by omega) ?_
            refine e_Ok.run (t' := (57, [(4, (0, w 293 (6 * p1 + p2))), (0, (1, 275)), (1, (0, p1)), (2, (0, p2)), (3, (0, p3))], [(0, p3), (0, 6 * p1 + p2), (1, 293)], w)) 1 rfl ?_
            refine e_Ok.ast rfl (el_o rfl) rfl rfl (by omega) ?_
            generalize hw17 : e_up w 293 (6 * p1 + p2) p3 = w17
            have f18 : e_fr (mF (-1) 293 293) w w17 := e_fr.up (e_fr.refl w) hw17 (by unfold mF; omega)
            have hT19 : e_Has mTy w17 := e_Has.upr hT hw17 rfl (by omega)
            refine e_Ok.run (t' := (60, [(4, (0, w 293 (6 * p1 + p2))), (0, (1, 275)), (1, (0, p1)), (2, (0, p2)), (3, (0, p3))], [(0, w 293 (6 * p1 + p2))], w17)) 1 rfl ?_
            refine e_Ok.rets rfl rfl ?_
            exact ⟨_, rfl, Or.inr ⟨by omega, f18, hT19, trivial⟩⟩
          · replace h15 : (w 275 3 : Int) ≠ 0 := by have q : ¬ ((w 275 3 : Int) = 0) := h15; omega
            refine e_Ok.run (t' := (32, [(0, (1, 275)), (1, (0, p1)), (2, (0, p2)), (3, (0, p3))], [(0, (-2))], w)) 1 rfl ?_
            refine e_Ok.rets rfl rfl ?_
            exact ⟨_, rfl, Or.inl rfl⟩
        · replace h14 : (1 : Int) = 0 := by have q : ¬ ((1 : Int) ≠ 0) := h14; omega
          exfalso; omega
      · show e_Ok 20 elay ecode eI (d + 1) 280 (18, [(0, (1, 275)), (1, (0, p1)), (2, (0, p2)), (3, (0, p3))], [(0, 0)], w) _
        refine e_Ok.if1 rfl (fun h20 => ?_) (fun h20 => ?_)
        · replace h20 : (0 : Int) ≠ 0 := h20
          exfalso; omega
        · replace h20 : (0 : Int) = 0 := by have q : ¬ ((0 : Int) ≠ 0) := h20; omega
          refine e_Ok.run (t' := (22, [(0, (1, 275)), (1, (0, p1)), (2, (0, p2)), (3, (0, p3))], [(0, (-1))], w)) 1 rfl ?_
          refine e_Ok.rets rfl rfl ?_
          exact ⟨_, rfl, Or.inl rfl⟩
  · show e_Ok 20 elay ecode eI (d + 1) 280 (6, [(0, (1, 275)), (1, (0, p1)), (2, (0, p2)), (3, (0, p3))], [(0, 0)], w) _
    refine e_Ok.if1 rfl (fun h21 => ?_) (fun h21 => ?_)
    · replace h21 : (0 : Int) = 0 := h21
      refine e_Ok.run (t' := (22, [(0, (1, 275)), (1, (0, p1)), (2, (0, p2)), (3, (0, p3))], [(0, (-1))], w)) 1 rfl ?_
      refine e_Ok.rets rfl rfl ?_
      exact ⟨_, rfl, Or.inl rfl⟩
    · replace h21 : (0 : Int) ≠ 0 := by have q : ¬ ((0 : Int) = 0) := h21; omega
      exfalso; omega
theorem c_281_b {d : Nat} (hd : 24 ≤ d) {w : eW} (hT : e_Has mTy w) {p1 p2 p3 p4 : Int} (g1 : (-2147483648) ≤ p1 ∧ p1 ≤ 2147483647) (g2 : (-2147483648) ≤ p2 ∧ p2 ≤ 2147483647) (g3 : (-2147483648) ≤ p3 ∧ p3 ≤ 2147483647) (g4 : (-2147483648) ≤ p4 ∧ p4 ≤ 2147483647) : e_Ok 20 elay ecode eI d 281 (0, [(0, (1, 275)), (1, (0, p1)), (2, (0, p2)), (3, (0, p3)), (4, (0, p4))], [], w) (fun r w' => ∃ z : Int, r = [(0, z)] ∧ (w = w' ∨ (w 275 3 = 0 ∧ e_fr (mF (-1) 290 291) w w' ∧ e_Has mTy w' ∧ ∀ k, (w' 290 k = w 290 k ∨ 1 ≤ w' 290 k) ∧ (w' 291 k = w 291 k ∨ 1 ≤ w' 291 k)))) := by
  obtain ⟨d, rfl⟩ : ∃ e, d = e + 1 := ⟨d - 1, by omega⟩
  have hop := e_Has.get hT (c := 275) (k := 3) (lo := 0) (hi := 1) rfl (by decide)
  refine e_Ok.run (t' := (3, [(0, (1, 275)), (1, (0, p1)), (2, (0, p2)), (3, (0, p3)), (4, (0, p4))], [(0, p2), (0, p1), (1, 275)], w)) 3 rfl ?_
  refine e_Ok.callV rfl (by omega) rfl rfl rfl rfl (c_271 (by omega) hT) (fun r1 w2 h3 => ?_)
  obtain ⟨z4, rfl, rfl, q5⟩ := h3
  have h6 := e_Has.get hT (c := 275) (k := 10) (lo := 0) (hi := 4) rfl (by decide)
  have h7 := e_Has.get hT (c := 286) (k := p1) (lo := 0) (hi := 6) rfl (by decide)
  obtain ⟨rfl, q5⟩ | ⟨rfl, q5⟩ := q5
  · show e_Ok 20 elay ecode eI (d + 1) 281 (6, [(0, (1, 275)), (1, (0, p1)), (2, (0, p2)), (3, (0, p3)), (4, (0, p4))], [(0, 1)], w) _
    refine e_Ok.if1 rfl (fun h8 => ?_) (fun h8 => ?_)
    · replace h8 : (1 : Int) = 0 := h8
      exfalso; omega
    · replace h8 : (1 : Int) ≠ 0 := by have q : ¬ ((1 : Int) = 0) := h8; omega
      refine e_Ok.run (t' := (15, [(0, (1, 275)), (1, (0, p1)), (2, (0, p2)), (3, (0, p3)), (4, (0, p4))], [(4, 2000), (4, 1), (4, p3)], w)) 4 rfl ?_
      refine e_Ok.callS rfl (by omega) rfl rfl (c_266) (fun r9 w10 h11 => ?_)
      obtain ⟨z12, rfl, rfl, q13⟩ := h11
      obtain ⟨rfl, q13⟩ | ⟨rfl, q13⟩ := q13
      · show e_Ok 20 elay ecode eI (d + 1) 281 (18, [(0, (1, 275)), (1, (0, p1)), (2, (0, p2)), (3, (0, p3)), (4, (0, p4))], [(0, 1)], w) _
        refine e_Ok.if1 rfl (fun h14 => ?_) (fun h14 => ?_)
        · replace h14 : (1 : Int) = 0 := h14
          exfalso; omega
        · replace h14 : (1 : Int) ≠ 0 := by have q : ¬ ((1 : Int) = 0) := h14; omega
          refine e_Ok.run (t' := (28, [(0, (1, 275)), (1, (0, p1)), (2, (0, p2)), (3, (0, p3)), (4, (0, p4))], [(4, 2000), (4, 1), (4, p4)], w)) 4 rfl ?_
          refine e_Ok.callS rfl (by omega) rfl rfl (c_266) (fun r15 w16 h17 => ?_)
          obtain ⟨z18, rfl, rfl, q19⟩ := h17
          obtain ⟨rfl, q19⟩ | ⟨rfl, q19⟩ := q19
          · show e_Ok 20 elay ecode eI (d + 1) 281 (31, [(0, (1, 275)), (1, (0, p1)), (2, (0, p2)), (3, (0, p3)), (4, (0, p4))], [(0, 1)], w) _
            refine e_Ok.if1 rfl (fun h20 => ?_) (fun h20 => ?_)
            · replace h20 : (1 : Int) ≠ 0 := h20
              refine e_Ok.run (t' := (37, [(0, (1, 275)), (1, (0, p1)), (2, (0, p2)), (3, (0, p3)), (4, (0, p4))], [(1, 275)], w)) 1 rfl ?_
              refine e_Ok.getf (z := w 275 3) rfl (el_o rfl) rfl rfl rfl (by omega) ?_
              refine e_Ok.if1 rfl (fun h21 => ?_) (fun h21 => ?_)
              · replace h21 : (w 275 3 : Int) = 0 := h21
                refine e_Ok.run (t' := (47, [(0, (1, 275)), (1, (0, p1)), (2, (0, p2)), (3, (0, p3)), (4, (0, p4))], [(1, 275)], w)) 1 rfl ?_
                refine e_Ok.getr (z := 290) rfl (el_o rfl) rfl rfl (e_Has.eq hT rfl) (by omega) ?_
                refine e_Ok.run (t' := (53, [(0, (1, 275)), (1, (0, p1)), (2, (0, p2)), (3, (0, p3)), (4, (0, p4))], [(0, p1), (0, 6), (1, 290)], w)) 2 rfl ?_
                refine e_Ok.mul (z := 6 * p1) rfl (by omega) (by omega) ?_
                refine e_Ok.run (t' := (55, [(0, (1, 275)), (1, (0, p1)), (2, (0, p2)), (3, (0, p3)), (4, (0, p4))], [(0, p2), (0, 6 * p1), (1, 290)], w)) 1 rfl ?_
                refine e_Ok.add (z := 6 * p1 + p2) rfl (by omega) (by omega) ?_
                refine e_Ok.run (t' := (57, [(0, (1, 275)), (1, (0, p1)), (2, (0, p2)), (3, (0, p3)), (4, (0, p4))], [(0, p3), (0, 6 * p1 + p2), (1, 290)], w)) 1 rfl ?_
                refine e_Ok.ast rfl (el_o rfl) rfl rfl (by omega) ?_
                generalize hw22 : e_up w 290 (6 * p1 + p2) p3 = w22
                have f23 : e_fr (mF (-1) 290 291) w w22 := e_fr.up (e_fr.refl w) hw22 (by unfold mF; omega)
                have hT24 : e_Has mTy w22 := e_Has.upr hT hw22 rfl (by omega)
                refine e_Ok.run (t' := (59, [(0, (1, 275)), (1, (0, p1)), (2, (0, p2)), (3, (0, p3)), (4, (0, p4))], [(1, 275)], w22)) 1 rfl ?_
                refine e_Ok.getr (z := 291) rfl (el_o rfl) rfl rfl (by rw [← hw22]; exact (e_up_ne _ _ (Or.inl (by omega))).trans (e_Has.eq hT rfl)) (by omega) ?_
                refine e_Ok.run (t' := (65, [(0, (1, 275)), (1, (0, p1)), (2, (0, p2)), (3, (0, p3)), (4, (0, p4))], [(0, p1), (0, 6), (1, 291)], w22)) 2 rfl ?_
                refine e_Ok.mul (z := 6 * p1) rfl (by omega) (by omega) ?_
                refine e_Ok.run (t' := (67, [(0, (1, 275)), (1, (0, p1)), (2, (0, p2)), (3, (0, p3)), (4, (0, p4))], [(0, p2), (0, 6 * p1), (1, 291)], w22)) 1 rfl ?_
                refine e_Ok.add (z := 6 * p1 + p2) rfl (by omega) (by omega) ?_
                refine e_Ok.run (t' := (70, [(0, (1, 275)), (1, (0, p1)), (2, (0, p2)), (3, (0, p3)), (4, (0, p4))], [(0, p4), (0, 6 * p1 + p2), (1, 291)], w22)) 1 rfl ?_
                refine e_Ok.ast rfl (el_o rfl) rfl rfl (by omega) ?_
                generalize hw25 : e_up w22 291 (6 * p1 + p2) p4 = w25
                have f26 : e_fr (mF (-1) 290 291) w w25 := e_fr.up f23 hw25 (by unfold mF; omega)
                have hT27 : e_Has mTy w25 := e_Has.upr hT24 hw25 rfl (by omega)
                refine e_Ok.run (t' := (72, [(0, (1, 275)), (1, (0, p1)), (2, (0, p2)), (3, (0, p3)), (4, (0, p4))], [(0, 0)], w25)) 1 rfl ?_
                refine e_Ok.rets rfl rfl ?_
                exact ⟨_, rfl, Or.inr ⟨by omega, f26, hT27, (fun k => ⟨Decidable.byCases (p := k = 6 * p1 + p2) (fun e => Or.inr (by rw [← hw25, ← hw22, e, e_up_ne _ _ (Or.inl (by decide)), e_up_eq]; omega)) (fun e => Or.inl (by rw [← hw25, ← hw22]; exact (e_up_ne _ _ (Or.inl (by decide))).trans (e_up_ne _ _ (Or.inr e)))), Decidable.byCases (p := k = 6 * p1 + p2) (fun e => Or.inr (by rw [← hw25, e, e_up_eq]; omega)) (fun e => Or.inl (by rw [← hw25, ← hw22]; exact (e_up_ne _ _ (Or.inr e)).trans (e_up_ne _ _ (Or.inl (by decide)))))⟩)⟩⟩
              · replace h21 : (w 275 3 : Int) ≠ 0 := by have q : ¬ ((w 275 3 : Int) = 0) := h21; omega
                refine e_Ok.run (t' := (45, [(0, (1, 275)), (1, (0, p1)), (2, (0, p2)), (3, (0, p3)), (4, (0, p4))], [(0, (-2))], w)) 1 rfl ?_
                refine e_Ok.rets rfl rfl ?_
                exact ⟨_, rfl, Or.inl rfl⟩
            · replace h20 : (1 : Int) = 0 := by have q : ¬ ((1 : Int) ≠ 0) := h20; omega
              exfalso; omega
          · show e_Ok 20 elay ecode eI (d + 1) 281 (31, [(0, (1, 275)), (1, (0, p1)), (2, (0, p2)), (3, (0, p3)), (4, (0, p4))], [(0, 0)], w) _
            refine e_Ok.if1 rfl (fun h28 => ?_) (fun h28 => ?_)
            · replace h28 : (0 : Int) ≠ 0 := h28
              exfalso; omega
            · replace h28 : (0 : Int) = 0 := by have q : ¬ ((0 : Int) ≠ 0) := h28; omega
              refine e_Ok.run (t' := (35, [(0, (1, 275)), (1, (0, p1)), (2, (0, p2)), (3, (0, p3)), (4, (0, p4))], [(0, (-1))], w)) 1 rfl ?_
              refine e_Ok.rets rfl rfl ?_
              exact ⟨_, rfl, Or.inl rfl⟩
      · show e_Ok 20 elay ecode eI (d + 1) 281 (18, [(0, (1, 275)), (1, (0, p1)), (2, (0, p2)), (3, (0, p3)), (4, (0, p4))], [(0, 0)], w) _
        refine e_Ok.if1 rfl (fun h29 => ?_) (fun h29 => ?_)
        · replace h29 : (0 : Int) = 0 := h29
          refine e_Ok.run (t' := (35, [(0, (1, 275)), (1, (0, p1)), (2, (0, p2)), (3, (0, p3)), (4, (0, p4))], [(0, (-1))], w)) 1 rfl ?_
          refine e_Ok.rets rfl rfl ?_
          exact ⟨_, rfl, Or.inl rfl⟩
        · replace h29 : (0 : Int) ≠ 0 := by have q : ¬ ((0 : Int) = 0) := h29; omega
          exfalso; omega
  · show e_Ok 20 elay ecode eI (d + 1) 281 (6, [(0, (1, 275)), (1, (0, p1)), (2, (0, p2)), (3, (0, p3)), (4, (0, p4))], [(0, 0)], w) _
    refine e_Ok.if1 rfl (fun h30 => ?_) (fun h30 => ?_)
    · replace h30 : (0 : Int) = 0 := h30
      refine e_Ok.run (t' := (35, [(0, (1, 275)), (1, (0, p1)), (2, (0, p2)), (3, (0, p3)), (4, (0, p4))], [(0, (-1))], w)) 1 rfl ?_
      refine e_Ok.rets rfl rfl ?_
      exact ⟨_, rfl, Or.inl rfl⟩
    · replace h30 : (0 : Int) ≠ 0 := by have q : ¬ ((0 : Int) = 0) := h30; omega
      exfalso; omega
theorem c_285_b {d : Nat} (hd : 24 ≤ d) {w : eW} (hT : e_Has mTy w) {p1 p2 p3 : Int} (g1 : (-2147483648) ≤ p1 ∧ p1 ≤ 2147483647) (g2 : (-2147483648) ≤ p2 ∧ p2 ≤ 2147483647) (g3 : (-2147483648) ≤ p3 ∧ p3 ≤ 2147483647) : e_Ok 20 elay ecode eI d 285 (0, [(0, (1, 275)), (1, (0, p1)), (2, (0, p2)), (3, (0, p3))], [], w) (fun r w' => ∃ z : Int, r = [(0, z)] ∧ (w = w' ∨ (w 275 3 = 0 ∧ e_fr (mF (-1) 299 299) w w' ∧ e_Has mTy w' ∧ True))) := by
  obtain ⟨d, rfl⟩ : ∃ e, d = e + 1 := ⟨d - 1, by omega⟩
  have hop := e_Has.get hT (c := 275) (k := 3) (lo := 0) (hi := 1) rfl (by decide)
  refine e_Ok.run (t' := (2, [(0, (1, 275)), (1, (0, p1)), (2, (0, p2)), (3, (0, p3))], [(0, p1), (1, 275)], w)) 2 rfl ?_
  refine e_Ok.callV rfl (by omega) rfl rfl rfl rfl (c_270 (by omega) hT) (fun r1 w2 h3 => ?_)
  have h4 := e_Has.get hT (c := 275) (k := 10) (lo := 0) (hi := 4) rfl (by decide)
  obtain ⟨z5, rfl, rfl, q6⟩ := h3
  obtain ⟨rfl, q6⟩ | ⟨rfl, q6⟩ := q6
  · show e_Ok 20 elay ecode eI (d + 1) 285 (5, [(0, (1, 275)), (1, (0, p1)), (2, (0, p2)), (3, (0, p3))], [(0, 1)], w) _
    refine e_Ok.if1 rfl (fun h7 => ?_) (fun h7 => ?_)
    · replace h7 : (1 : Int) = 0 := h7
      exfalso; omega
    · replace h7 : (1 : Int) ≠ 0 := by have q : ¬ ((1 : Int) = 0) := h7; omega
      refine e_Ok.run (t' := (14, [(0, (1, 275)), (1, (0, p1)), (2, (0, p2)), (3, (0, p3))], [(4, 6), (4, 0), (4, p2)], w)) 4 rfl ?_
      refine e_Ok.callS rfl (by omega) rfl rfl (c_266) (fun r8 w9 h10 => ?_)
      obtain ⟨z11, rfl, rfl, q12⟩ := h10
      obtain ⟨rfl, q12⟩ | ⟨rfl, q12⟩ := q12
      · show e_Ok 20 elay ecode eI (d + 1) 285 (17, [(0, (1, 275)), (1, (0, p1)), (2, (0, p2)), (3, (0, p3))], [(0, 1)], w) _
        refine e_Ok.if1 rfl (fun h13 => ?_) (fun h13 => ?_)
        · replace h13 : (1 : Int) = 0 := h13
          exfalso; omega
        · replace h13 : (1 : Int) ≠ 0 := by have q : ¬ ((1 : Int) = 0) := h13; omega
          refine e_Ok.run (t' := (24, [(0, (1, 275)), (1, (0, p1)), (2, (0, p2)), (3, (0, p3))], [(1, 275), (4, 0), (4, p3)], w)) 4 rfl ?_
          have h14 := (e_Has.get hT (c := 275) (k := 23) (lo := 0) (hi := 16) rfl (by decide))
          refine e_Ok.getf (z := w 275 23) rfl (el_o rfl) rfl rfl rfl (by omega) ?_
          refine e_Ok.run (t' := (28, [(0, (1, 275)), (1, (0, p1)), (2, (0, p2)), (3, (0, p3))], [(0, 1), (0, w 275 23), (4, 0), (4, p3)], w)) 1 rfl ?_
          refine e_Ok.sub' (z := w 275 23 - 1) rfl (by omega) (by omega) ?_
          refine e_Ok.run (t' := (30, [(0, (1, 275)), (1, (0, p1)), (2, (0, p2)), (3, (0, p3))], [(4, w 275 23 - 1), (4, 0), (4, p3)], w)) 1 rfl ?_
          refine e_Ok.callS rfl (by omega) rfl rfl (c_266) (fun r15 w16 h17 => ?_)
          obtain ⟨z18, rfl, rfl, q19⟩ := h17
          obtain ⟨rfl, q19⟩ | ⟨rfl, q19⟩ := q19
          · show e_Ok 20 elay ecode eI (d + 1) 285 (33, [(0, (1, 275)), (1, (0, p1)), (2, (0, p2)), (3, (0, p3))], [(0, 1)], w) _
            refine e_Ok.if1 rfl (fun h20 => ?_) (fun h20 => ?_)
            · replace h20 : (1 : Int) ≠ 0 := h20
              refine e_Ok.run (t' := (39, [(0, (1, 275)), (1, (0, p1)), (2, (0, p2)), (3, (0, p3))], [(1, 275)], w)) 1 rfl ?_
              refine e_Ok.getf (z := w 275 3) rfl (el_o rfl) rfl rfl rfl (by omega) ?_
              refine e_Ok.if1 rfl (fun h21 => ?_) (fun h21 => ?_)
              · replace h21 : (w 275 3 : Int) = 0 := h21
                refine e_Ok.run (t' := (51, [(0, (1, 275)), (1, (0, p1)), (2, (0, p2)), (3, (0, p3))], [(0, p1), (0, 112)], w)) 2 rfl ?_
                refine e_Ok.mul (z := 112 * p1) rfl (by omega) (by omega) ?_
                refine e_Ok.run (t' := (55, [(0, (1, 275)), (1, (0, p1)), (2, (0, p2)), (3, (0, p3))], [(0, p2), (0, 16), (0, 112 * p1)], w)) 2 rfl ?_
                refine e_Ok.mul (z := 16 * p2) rfl (by omega) (by omega) ?_
                refine e_Ok.add (z := 112 * p1 + 16 * p2) rfl (by omega) (by omega) ?_
                refine e_Ok.run (t' := (58, [(0, (1, 275)), (1, (0, p1)), (2, (0, p2)), (3, (0, p3))], [(0, p3), (0, 112 * p1 + 16 * p2)], w)) 1 rfl ?_
                refine e_Ok.add (z := 112 * p1 + 16 * p2 + p3) rfl (by omega) (by omega) ?_
                refine e_Ok.run (t' := (62, [(4, (0, 112 * p1 + 16 * p2 + p3)), (0, (1, 275)), (1, (0, p1)), (2, (0, p2)), (3, (0, p3))], [(1, 275)], w)) 2 rfl ?_
                refine e_Ok.getr (z := 299) rfl (el_o rfl) rfl rfl (e_Has.eq hT rfl) (by omega) ?_
                refine e_Ok.run (t' := (67, [(4, (0, 112 * p1 + 16 * p2 + p3)), (0, (1, 275)), (1, (0, p1)), (2, (0, p2)), (3, (0, p3))], [(0, 112 * p1 + 16 * p2 + p3), (1, 299)], w)) 1 rfl ?_
                have h22 := (e_Has.get hT (c := 299) (k := 112 * p1 + 16 * p2 + p3) (lo := 0) (hi := 1) rfl (by decide))
                refine e_Ok.ald (z := w 299 (112 * p1 + 16 * p2 + p3)) rfl (el_o rfl) rfl (by omega) rfl (by omega) ?_
                refine e_Ok.if1 rfl (fun h23 => ?_) (fun h23 => ?_)
                · replace h23 : (w 299 (112 * p1 + 16 * p2 + p3) : Int) = 0 := h23
                  refine e_Ok.run (t' := (79, [(5, (0, 1)), (4, (0, 112 * p1 + 16 * p2 + p3)), (0, (1, 275)), (1, (0, p1)), (2, (0, p2)), (3, (0, p3))], [(1, 275)], w)) 3 rfl ?_
                  refine e_Ok.getr (z := 299) rfl (el_o rfl) rfl rfl (e_Has.eq hT rfl) (by omega) ?_
                  refine e_Ok.run (t' := (85, [(5, (0, 1)), (4, (0, 112 * p1 + 16 * p2 + p3)), (0, (1, 275)), (1, (0, p1)), (2, (0, p2)), (3, (0, p3))], [(0, 1), (0, 112 * p1 + 16 * p2 + p3), (1, 299)], w)) 2 rfl ?_
                  refine e_Ok.ast rfl (el_o rfl) rfl (e_nar_b (by omega)) (by omega) ?_
                  generalize hw24 : e_up w 299 (112 * p1 + 16 * p2 + p3) 1 = w24
                  have f25 : e_fr (mF (-1) 299 299) w w24 := e_fr.up (e_fr.refl w) hw24 (by unfold mF; omega)
                  have hT26 : e_Has mTy w24 := e_Has.upr hT hw24 rfl (by omega)
                  refine e_Ok.run (t' := (88, [(5, (0, 1)), (4, (0, 112 * p1 + 16 * p2 + p3)), (0, (1, 275)), (1, (0, p1)), (2, (0, p2)), (3, (0, p3))], [(0, 1)], w24)) 1 rfl ?_
                  refine e_Ok.rets rfl rfl ?_
                  exact ⟨_, rfl, Or.inr ⟨by omega, f25, hT26, trivial⟩⟩
                · replace h23 : (w 299 (112 * p1 + 16 * p2 + p3) : Int) ≠ 0 := by have q : ¬ ((w 299 (112 * p1 + 16 * p2 + p3) : Int) = 0) := h23; omega
                  refine e_Ok.run (t' := (79, [(5, (0, 0)), (4, (0, 112 * p1 + 16 * p2 + p3)), (0, (1, 275)), (1, (0, p1)), (2, (0, p2)), (3, (0, p3))], [(1, 275)], w)) 4 rfl ?_
                  refine e_Ok.getr (z := 299) rfl (el_o rfl) rfl rfl (e_Has.eq hT rfl) (by omega) ?_
                  refine e_Ok.run (t' := (85, [(5, (0, 0)), (4, (0, 112 * p1 + 16 * p2 + p3)), (0, (1, 275)), (1, (0, p1)), (2, (0, p2)), (3, (0, p3))], [(0, 1), (0, 112 * p1 + 16 * p2 + p3), (1, 299)], w)) 2 rfl ?_
                  refine e_Ok.ast rfl (el_o rfl) rfl (e_nar_b (by omega)) (by omega) ?_
                  generalize hw27 : e_up w 299 (112 * p1 + 16 * p2 + p3) 1 = w27
                  have f28 : e_fr (mF (-1) 299 299) w w27 := e_fr.up (e_fr.refl w) hw27 (by unfold mF; omega)
                  have hT29 : e_Has mTy w27 := e_Has.upr hT hw27 rfl (by omega)
                  refine e_Ok.run (t' := (88, [(5, (0, 0)), (4, (0, 112 * p1 + 16 * p2 + p3)), (0, (1, 275)), (1, (0, p1)), (2, (0, p2)), (3, (0, p3))], [(0, 0)], w27)) 1 rfl ?_
                  refine e_Ok.rets rfl rfl ?_
                  exact ⟨_, rfl, Or.inr ⟨by omega, f28, hT29, trivial⟩⟩
              · replace h21 : (w 275 3 : Int) ≠ 0 := by have q : ¬ ((w 275 3 : Int) = 0) := h21; omega
                refine e_Ok.run (t' := (47, [(0, (1, 275)), (1, (0, p1)), (2, (0, p2)), (3, (0, p3))], [(0, (-2))], w)) 1 rfl ?_
                refine e_Ok.rets rfl rfl ?_
                exact ⟨_, rfl, Or.inl rfl⟩
            · replace h20 : (1 : Int) = 0 := by have q : ¬ ((1 : Int) ≠ 0) := h20; omega
              exfalso; omega
          · show e_Ok 20 elay ecode eI (d + 1) 285 (33, [(0, (1, 275)), (1, (0, p1)), (2, (0, p2)), (3, (0, p3))], [(0, 0)], w) _
            refine e_Ok.if1 rfl (fun h30 => ?_) (fun h30 => ?_)
            · replace h30 : (0 : Int) ≠ 0 := h30
              exfalso; omega
            · replace h30 : (0 : Int) = 0 := by have q : ¬ ((0 : Int) ≠ 0) := h30; omega
              refine e_Ok.run (t' := (37, [(0, (1, 275)), (1, (0, p1)), (2, (0, p2)), (3, (0, p3))], [(0, (-1))], w)) 1 rfl ?_
              refine e_Ok.rets rfl rfl ?_
              exact ⟨_, rfl, Or.inl rfl⟩
      · show e_Ok 20 elay ecode eI (d + 1) 285 (17, [(0, (1, 275)), (1, (0, p1)), (2, (0, p2)), (3, (0, p3))], [(0, 0)], w) _
        refine e_Ok.if1 rfl (fun h31 => ?_) (fun h31 => ?_)
        · replace h31 : (0 : Int) = 0 := h31
          refine e_Ok.run (t' := (37, [(0, (1, 275)), (1, (0, p1)), (2, (0, p2)), (3, (0, p3))], [(0, (-1))], w)) 1 rfl ?_
          refine e_Ok.rets rfl rfl ?_
          exact ⟨_, rfl, Or.inl rfl⟩
        · replace h31 : (0 : Int) ≠ 0 := by have q : ¬ ((0 : Int) = 0) := h31; omega
          exfalso; omega
  · show e_Ok 20 elay ecode eI (d + 1) 285 (5, [(0, (1, 275)), (1, (0, p1)), (2, (0, p2)), (3, (0, p3))], [(0, 0)], w) _
    refine e_Ok.if1 rfl (fun h32 => ?_) (fun h32 => ?_)
    · replace h32 : (0 : Int) = 0 := h32
      refine e_Ok.run (t' := (37, [(0, (1, 275)), (1, (0, p1)), (2, (0, p2)), (3, (0, p3))], [(0, (-1))], w)) 1 rfl ?_
      refine e_Ok.rets rfl rfl ?_
      exact ⟨_, rfl, Or.inl rfl⟩
    · replace h32 : (0 : Int) ≠ 0 := by have q : ¬ ((0 : Int) = 0) := h32; omega
      exfalso; omega
set_option maxHeartbeats 4000000 in
theorem c_286_b {d : Nat} (hd : 24 ≤ d) {w : eW} (hT : e_Has mTy w) {p1 p2 p3 p4 p5 : Int} (g1 : (-2147483648) ≤ p1 ∧ p1 ≤ 2147483647) (g2 : (-2147483648) ≤ p2 ∧ p2 ≤ 2147483647) (g3 : (-2147483648) ≤ p3 ∧ p3 ≤ 2147483647) (g4 : (-2147483648) ≤ p4 ∧ p4 ≤ 2147483647) (g5 : (-2147483648) ≤ p5 ∧ p5 ≤ 2147483647) : e_Ok 20 elay ecode eI d 286 (0, [(0, (1, 275)), (1, (0, p1)), (2, (0, p2)), (3, (0, p3)), (4, (0, p4)), (5, (0, p5))], [], w) (fun r w' => ∃ z : Int, r = [(0, z)] ∧ (w = w' ∨ (w 275 3 = 0 ∧ e_fr (mF 30 300 306) w w' ∧ e_Has mTy w' ∧ True))) := by
  obtain ⟨d, rfl⟩ : ∃ e, d = e + 1 := ⟨d - 1, by omega⟩
  have hop := e_Has.get hT (c := 275) (k := 3) (lo := 0) (hi := 1) rfl (by decide)
  refine e_Ok.run (t' := (2, [(0, (1, 275)), (1, (0, p1)), (2, (0, p2)), (3, (0, p3)), (4, (0, p4)), (5, (0, p5))], [(0, p2), (0, p1)], w)) 2 rfl ?_
  refine e_Ok.callS rfl (by omega) rfl rfl (c_272 (by omega)) (fun r1 w2 h3 => ?_)
  obtain ⟨z4, rfl, rfl, q5⟩ := h3
  obtain ⟨rfl, q5⟩ | ⟨rfl, q5⟩ := q5
  · show e_Ok 20 elay ecode eI (d + 1) 286 (5, [(0, (1, 275)), (1, (0, p1)), (2, (0, p2)), (3, (0, p3)), (4, (0, p4)), (5, (0, p5))], [(0, 1)], w) _
    refine e_Ok.if1 rfl (fun h6 => ?_) (fun h6 => ?_)
    · replace h6 : (1 : Int) = 0 := h6
      exfalso; omega
    · replace h6 : (1 : Int) ≠ 0 := by have q : ¬ ((1 : Int) = 0) := h6; omega
      refine e_Ok.run (t' := (14, [(0, (1, 275)), (1, (0, p1)), (2, (0, p2)), (3, (0, p3)), (4, (0, p4)), (5, (0, p5))], [(4, 3), (4, 0), (4, p3)], w)) 4 rfl ?_
      refine e_Ok.callS rfl (by omega) rfl rfl (c_266) (fun r7 w8 h9 => ?_)
      obtain ⟨z10, rfl, rfl, q11⟩ := h9
      obtain ⟨rfl, q11⟩ | ⟨rfl, q11⟩ := q11
      · show e_Ok 20 elay ecode eI (d + 1) 286 (17, [(0, (1, 275)), (1, (0, p1)), (2, (0, p2)), (3, (0, p3)), (4, (0, p4)), (5, (0, p5))], [(0, 1)], w) _
        refine e_Ok.if1 rfl (fun h12 => ?_) (fun h12 => ?_)
        · replace h12 : (1 : Int) = 0 := h12
          exfalso; omega
        · replace h12 : (1 : Int) ≠ 0 := by have q : ¬ ((1 : Int) = 0) := h12; omega
          refine e_Ok.run (t' := (27, [(0, (1, 275)), (1, (0, p1)), (2, (0, p2)), (3, (0, p3)), (4, (0, p4)), (5, (0, p5))], [(4, 16000), (4, 0), (4, p4)], w)) 4 rfl ?_
          refine e_Ok.callS rfl (by omega) rfl rfl (c_266) (fun r13 w14 h15 => ?_)
          obtain ⟨z16, rfl, rfl, q17⟩ := h15
          obtain ⟨rfl, q17⟩ | ⟨rfl, q17⟩ := q17
          · show e_Ok 20 elay ecode eI (d + 1) 286 (30, [(0, (1, 275)), (1, (0, p1)), (2, (0, p2)), (3, (0, p3)), (4, (0, p4)), (5, (0, p5))], [(0, 1)], w) _
            refine e_Ok.if1 rfl (fun h18 => ?_) (fun h18 => ?_)
            · replace h18 : (1 : Int) = 0 := h18
              exfalso; omega
            · replace h18 : (1 : Int) ≠ 0 := by have q : ¬ ((1 : Int) = 0) := h18; omega
              refine e_Ok.run (t' := (40, [(0, (1, 275)), (1, (0, p1)), (2, (0, p2)), (3, (0, p3)), (4, (0, p4)), (5, (0, p5))], [(4, 2000), (4, 0), (4, p5)], w)) 4 rfl ?_
              refine e_Ok.callS rfl (by omega) rfl rfl (c_266) (fun r19 w20 h21 => ?_)
              obtain ⟨z22, rfl, rfl, q23⟩ := h21
              obtain ⟨rfl, q23⟩ | ⟨rfl, q23⟩ := q23
              · show e_Ok 20 elay ecode eI (d + 1) 286 (43, [(0, (1, 275)), (1, (0, p1)), (2, (0, p2)), (3, (0, p3)), (4, (0, p4)), (5, (0, p5))], [(0, 1)], w) _
                refine e_Ok.if1 rfl (fun h24 => ?_) (fun h24 => ?_)
                · replace h24 : (1 : Int) ≠ 0 := h24
                  have hC99 : e_Ok 20 elay ecode eI (d + 1) 286 (99, [(0, (1, 275)), (1, (0, p1)), (2, (0, p2)), (3, (0, p3)), (4, (0, p4)), (5, (0, p5))], [], w) (fun r w' => ∃ z : Int, r = [(0, z)] ∧ (w = w' ∨ (w 275 3 = 0 ∧ e_fr (mF 30 300 306) w w' ∧ e_Has mTy w' ∧ True))) := by
                    refine e_Ok.run (t' := (100, [(0, (1, 275)), (1, (0, p1)), (2, (0, p2)), (3, (0, p3)), (4, (0, p4)), (5, (0, p5))], [(1, 275)], w)) 1 rfl ?_
                    refine e_Ok.getf (z := w 275 3) rfl (el_o rfl) rfl rfl rfl (by omega) ?_
                    refine e_Ok.if1 rfl (fun h25 => ?_) (fun h25 => ?_)
                    · replace h25 : (w 275 3 : Int) = 0 := h25
                      refine e_Ok.run (t' := (110, [(0, (1, 275)), (1, (0, p1)), (2, (0, p2)), (3, (0, p3)), (4, (0, p4)), (5, (0, p5))], [(1, 275)], w)) 1 rfl ?_
                      have h26 := (e_Has.get hT (c := 275) (k := 30) (lo := 0) (hi := 4) rfl (by decide))
                      refine e_Ok.getf (z := w 275 30) rfl (el_o rfl) rfl rfl rfl (by omega) ?_
                      refine e_Ok.run (t' := (114, [(0, (1, 275)), (1, (0, p1)), (2, (0, p2)), (3, (0, p3)), (4, (0, p4)), (5, (0, p5))], [(0, 4), (0, w 275 30)], w)) 1 rfl ?_
                      refine e_Ok.if2 rfl (fun h27 => ?_) (fun h27 => ?_)
                      · replace h27 : (w 275 30 : Int) ≠ 4 := h27
                        refine e_Ok.run (t' := (121, [(0, (1, 275)), (1, (0, p1)), (2, (0, p2)), (3, (0, p3)), (4, (0, p4)), (5, (0, p5))], [(1, 275)], w)) 1 rfl ?_
                        refine e_Ok.getr (z := 300) rfl (el_o rfl) rfl rfl (e_Has.eq hT rfl) (by omega) ?_
                        refine e_Ok.run (t' := (125, [(0, (1, 275)), (1, (0, p1)), (2, (0, p2)), (3, (0, p3)), (4, (0, p4)), (5, (0, p5))], [(1, 275), (1, 300)], w)) 1 rfl ?_
                        refine e_Ok.getf (z := w 275 30) rfl (el_o rfl) rfl rfl rfl (by omega) ?_
                        refine e_Ok.run (t' := (129, [(0, (1, 275)), (1, (0, p1)), (2, (0, p2)), (3, (0, p3)), (4, (0, p4)), (5, (0, p5))], [(0, p1), (0, w 275 30), (1, 300)], w)) 1 rfl ?_
                        refine e_Ok.ast rfl (el_o rfl) rfl rfl (by omega) ?_
                        generalize hw28 : e_up w 300 (w 275 30) p1 = w28
                        have f29 : e_fr (mF 30 300 306) w w28 := e_fr.up (e_fr.refl w) hw28 (by unfold mF; omega)
                        have hT30 : e_Has mTy w28 := e_Has.upr hT hw28 rfl (by omega)
                        refine e_Ok.run (t' := (131, [(0, (1, 275)), (1, (0, p1)), (2, (0, p2)), (3, (0, p3)), (4, (0, p4)), (5, (0, p5))], [(1, 275)], w28)) 1 rfl ?_
                        refine e_Ok.getr (z := 301) rfl (el_o rfl) rfl rfl (by rw [← hw28]; exact (e_up_ne _ _ (Or.inl (by omega))).trans (e_Has.eq hT rfl)) (by omega) ?_
                        refine e_Ok.run (t' := (135, [(0, (1, 275)), (1, (0, p1)), (2, (0, p2)), (3, (0, p3)), (4, (0, p4)), (5, (0, p5))], [(1, 275), (1, 301)], w28)) 1 rfl ?_
                        refine e_Ok.getf (z := w 275 30) rfl (el_o rfl) rfl rfl (by rw [← hw28]; exact (e_up_ne _ _ (Or.inl (by omega))).trans rfl) (by omega) ?_
                        refine e_Ok.run (t' := (139, [(0, (1, 275)), (1, (0, p1)), (2, (0, p2)), (3, (0, p3)), (4, (0, p4)), (5, (0, p5))], [(0, p2), (0, w 275 30), (1, 301)], w28)) 1 rfl ?_
                        refine e_Ok.ast rfl (el_o rfl) rfl rfl (by omega) ?_
                        generalize hw31 : e_up w28 301 (w 275 30) p2 = w31
                        have f32 : e_fr (mF 30 300 306) w w31 := e_fr.up f29 hw31 (by unfold mF; omega)
                        have hT33 : e_Has mTy w31 := e_Has.upr hT30 hw31 rfl (by omega)
                        refine e_Ok.run (t' := (141, [(0, (1, 275)), (1, (0, p1)), (2, (0, p2)), (3, (0, p3)), (4, (0, p4)), (5, (0, p5))], [(1, 275)], w31)) 1 rfl ?_
                        refine e_Ok.getr (z := 302) rfl (el_o rfl) rfl rfl (by rw [← hw31]; exact (e_up_ne _ _ (Or.inl (by omega))).trans (by rw [← hw28]; exact (e_up_ne _ _ (Or.inl (by omega))).trans (e_Has.eq hT rfl))) (by omega) ?_
                        refine e_Ok.run (t' := (145, [(0, (1, 275)), (1, (0, p1)), (2, (0, p2)), (3, (0, p3)), (4, (0, p4)), (5, (0, p5))], [(1, 275), (1, 302)], w31)) 1 rfl ?_
                        refine e_Ok.getf (z := w 275 30) rfl (el_o rfl) rfl rfl (by rw [← hw31]; exact (e_up_ne _ _ (Or.inl (by omega))).trans (by rw [← hw28]; exact (e_up_ne _ _ (Or.inl (by omega))).trans rfl)) (by omega) ?_
                        refine e_Ok.run (t' := (149, [(0, (1, 275)), (1, (0, p1)), (2, (0, p2)), (3, (0, p3)), (4, (0, p4)), (5, (0, p5))], [(0, p3), (0, w 275 30), (1, 302)], w31)) 1 rfl ?_
                        refine e_Ok.ast rfl (el_o rfl) rfl rfl (by omega) ?_
                        generalize hw34 : e_up w31 302 (w 275 30) p3 = w34
                        have f35 : e_fr (mF 30 300 306) w w34 := e_fr.up f32 hw34 (by unfold mF; omega)
                        have hT36 : e_Has mTy w34 := e_Has.upr hT33 hw34 rfl (by omega)
                        refine e_Ok.run (t' := (151, [(0, (1, 275)), (1, (0, p1)), (2, (0, p2)), (3, (0, p3)), (4, (0, p4)), (5, (0, p5))], [(1, 275)], w34)) 1 rfl ?_
                        refine e_Ok.getr (z := 303) rfl (el_o rfl) rfl rfl (by rw [← hw34]; exact (e_up_ne _ _ (Or.inl (by omega))).trans (by rw [← hw31]; exact (e_up_ne _ _ (Or.inl (by omega))).trans (by rw [← hw28]; exact (e_up_ne _ _ (Or.inl (by omega))).trans (e_Has.eq hT rfl)))) (by omega) ?_
                        refine e_Ok.run (t' := (155, [(0, (1, 275)), (1, (0, p1)), (2, (0, p2)), (3, (0, p3)), (4, (0, p4)), (5, (0, p5))], [(1, 275), (1, 303)], w34)) 1 rfl ?_
                        refine e_Ok.getf (z := w 275 30) rfl (el_o rfl) rfl rfl (by rw [← hw34]; exact (e_up_ne _ _ (Or.inl (by omega))).trans (by rw [← hw31]; exact (e_up_ne _ _ (Or.inl (by omega))).trans (by rw [← hw28]; exact (e_up_ne _ _ (Or.inl (by omega))).trans rfl))) (by omega) ?_
                        refine e_Ok.run (t' := (160, [(0, (1, 275)), (1, (0, p1)), (2, (0, p2)), (3, (0, p3)), (4, (0, p4)), (5, (0, p5))], [(0, p4), (0, w 275 30), (1, 303)], w34)) 1 rfl ?_
                        refine e_Ok.ast rfl (el_o rfl) rfl rfl (by omega) ?_
                        generalize hw37 : e_up w34 303 (w 275 30) p4 = w37
                        have f38 : e_fr (mF 30 300 306) w w37 := e_fr.up f35 hw37 (by unfold mF; omega)
                        have hT40 : e_Has mTy w37 := e_Has.upr hT36 hw37 rfl (by omega)
                        refine e_Ok.run (t' := (162, [(0, (1, 275)), (1, (0, p1)), (2, (0, p2)), (3, (0, p3)), (4, (0, p4)), (5, (0, p5))], [(1, 275)], w37)) 1 rfl ?_
                        refine e_Ok.getr (z := 304) rfl (el_o rfl) rfl rfl (by rw [← hw37]; exact (e_up_ne _ _ (Or.inl (by omega))).trans (by rw [← hw34]; exact (e_up_ne _ _ (Or.inl (by omega))).trans (by rw [← hw31]; exact (e_up_ne _ _ (Or.inl (by omega))).trans (by rw [← hw28]; exact (e_up_ne _ _ (Or.inl (by omega))).trans (e_Has.eq hT rfl))))) (by omega) ?_
                        refine e_Ok.run (t' := (166, [(0, (1, 275)), (1, (0, p1)), (2, (0, p2)), (3, (0, p3)), (4, (0, p4)), (5, (0, p5))], [(1, 275), (1, 304)], w37)) 1 rfl ?_
                        refine e_Ok.getf (z := w 275 30) rfl (el_o rfl) rfl rfl (by rw [← hw37]; exact (e_up_ne _ _ (Or.inl (by omega))).trans (by rw [← hw34]; exact (e_up_ne _ _ (Or.inl (by omega))).trans (by rw [← hw31]; exact (e_up_ne _ _ (Or.inl (by omega))).trans (by rw [← hw28]; exact (e_up_ne _ _ (Or.inl (by omega))).trans rfl)))) (by omega) ?_
                        refine e_Ok.run (t' := (170, [(0, (1, 275)), (1, (0, p1)), (2, (0, p2)), (3, (0, p3)), (4, (0, p4)), (5, (0, p5))], [(0, 0), (0, w 275 30), (1, 304)], w37)) 1 rfl ?_
                        refine e_Ok.ast rfl (el_o rfl) rfl rfl (by omega) ?_
                        generalize hw41 : e_up w37 304 (w 275 30) 0 = w41
                        have f42 : e_fr (mF 30 300 306) w w41 := e_fr.up f38 hw41 (by unfold mF; omega)
                        have hT43 : e_Has mTy w41 := e_Has.upr hT40 hw41 rfl (by omega)
                        refine e_Ok.run (t' := (172, [(0, (1, 275)), (1, (0, p1)), (2, (0, p2)), (3, (0, p3)), (4, (0, p4)), (5, (0, p5))], [(1, 275)], w41)) 1 rfl ?_
                        refine e_Ok.getr (z := 306) rfl (el_o rfl) rfl rfl (by rw [← hw41]; exact (e_up_ne _ _ (Or.inl (by omega))).trans (by rw [← hw37]; exact (e_up_ne _ _ (Or.inl (by omega))).trans (by rw [← hw34]; exact (e_up_ne _ _ (Or.inl (by omega))).trans (by rw [← hw31]; exact (e_up_ne _ _ (Or.inl (by omega))).trans (by rw [← hw28]; exact (e_up_ne _ _ (Or.inl (by omega))).trans (e_Has.eq hT rfl)))))) (by omega) ?_
                        refine e_Ok.run (t' := (176, [(0, (1, 275)), (1, (0, p1)), (2, (0, p2)), (3, (0, p3)), (4, (0, p4)), (5, (0, p5))], [(1, 275), (1, 306)], w41)) 1 rfl ?_
                        refine e_Ok.getf (z := w 275 30) rfl (el_o rfl) rfl rfl (by rw [← hw41]; exact (e_up_ne _ _ (Or.inl (by omega))).trans (by rw [← hw37]; exact (e_up_ne _ _ (Or.inl (by omega))).trans (by rw [← hw34]; exact (e_up_ne _ _ (Or.inl (by omega))).trans (by rw [← hw31]; exact (e_up_ne _ _ (Or.inl (by omega))).trans (by rw [← hw28]; exact (e_up_ne _ _ (Or.inl (by omega))).trans rfl))))) (by omega) ?_
                        refine e_Ok.run (t' := (180, [(0, (1, 275)), (1, (0, p1)), (2, (0, p2)), (3, (0, p3)), (4, (0, p4)), (5, (0, p5))], [(0, (-1)), (0, w 275 30), (1, 306)], w41)) 1 rfl ?_
                        refine e_Ok.ast rfl (el_o rfl) rfl rfl (by omega) ?_
                        generalize hw44 : e_up w41 306 (w 275 30) (-1) = w44
                        have f45 : e_fr (mF 30 300 306) w w44 := e_fr.up f42 hw44 (by unfold mF; omega)
                        have hT46 : e_Has mTy w44 := e_Has.upr hT43 hw44 rfl (by omega)
                        refine e_Ok.run (t' := (182, [(0, (1, 275)), (1, (0, p1)), (2, (0, p2)), (3, (0, p3)), (4, (0, p4)), (5, (0, p5))], [(1, 275)], w44)) 1 rfl ?_
                        refine e_Ok.getr (z := 305) rfl (el_o rfl) rfl rfl (by rw [← hw44]; exact (e_up_ne _ _ (Or.inl (by omega))).trans (by rw [← hw41]; exact (e_up_ne _ _ (Or.inl (by omega))).trans (by rw [← hw37]; exact (e_up_ne _ _ (Or.inl (by omega))).trans (by rw [← hw34]; exact (e_up_ne _ _ (Or.inl (by omega))).trans (by rw [← hw31]; exact (e_up_ne _ _ (Or.inl (by omega))).trans (by rw [← hw28]; exact (e_up_ne _ _ (Or.inl (by omega))).trans (e_Has.eq hT rfl))))))) (by omega) ?_
                        refine e_Ok.run (t' := (186, [(0, (1, 275)), (1, (0, p1)), (2, (0, p2)), (3, (0, p3)), (4, (0, p4)), (5, (0, p5))], [(1, 275), (1, 305)], w44)) 1 rfl ?_
                        refine e_Ok.getf (z := w 275 30) rfl (el_o rfl) rfl rfl (by rw [← hw44]; exact (e_up_ne _ _ (Or.inl (by omega))).trans (by rw [← hw41]; exact (e_up_ne _ _ (Or.inl (by omega))).trans (by rw [← hw37]; exact (e_up_ne _ _ (Or.inl (by omega))).trans (by rw [← hw34]; exact (e_up_ne _ _ (Or.inl (by omega))).trans (by rw [← hw31]; exact (e_up_ne _ _ (Or.inl (by omega))).trans (by rw [← hw28]; exact (e_up_ne _ _ (Or.inl (by omega))).trans rfl)))))) (by omega) ?_
                        refine e_Ok.run (t' := (191, [(0, (1, 275)), (1, (0, p1)), (2, (0, p2)), (3, (0, p3)), (4, (0, p4)), (5, (0, p5))], [(0, p5), (0, w 275 30), (1, 305)], w44)) 1 rfl ?_
                        refine e_Ok.ast rfl (el_o rfl) rfl rfl (by omega) ?_
                        generalize hw47 : e_up w44 305 (w 275 30) p5 = w47
                        have f48 : e_fr (mF 30 300 306) w w47 := e_fr.up f45 hw47 (by unfold mF; omega)
                        have hT49 : e_Has mTy w47 := e_Has.upr hT46 hw47 rfl (by omega)
                        refine e_Ok.run (t' := (194, [(0, (1, 275)), (1, (0, p1)), (2, (0, p2)), (3, (0, p3)), (4, (0, p4)), (5, (0, p5))], [(1, 275), (1, 275)], w47)) 2 rfl ?_
                        refine e_Ok.getf (z := w 275 30) rfl (el_o rfl) rfl rfl (by rw [← hw47]; exact (e_up_ne _ _ (Or.inl (by omega))).trans (by rw [← hw44]; exact (e_up_ne _ _ (Or.inl (by omega))).trans (by rw [← hw41]; exact (e_up_ne _ _ (Or.inl (by omega))).trans (by rw [← hw37]; exact (e_up_ne _ _ (Or.inl (by omega))).trans (by rw [← hw34]; exact (e_up_ne _ _ (Or.inl (by omega))).trans (by rw [← hw31]; exact (e_up_ne _ _ (Or.inl (by omega))).trans (by rw [← hw28]; exact (e_up_ne _ _ (Or.inl (by omega))).trans rfl))))))) (by omega) ?_
                        refine e_Ok.run (t' := (198, [(0, (1, 275)), (1, (0, p1)), (2, (0, p2)), (3, (0, p3)), (4, (0, p4)), (5, (0, p5))], [(0, 1), (0, w 275 30), (1, 275)], w47)) 1 rfl ?_
                        refine e_Ok.add (z := w 275 30 + 1) rfl (by omega) (by omega) ?_
                        refine e_Ok.putf rfl (el_o rfl) rfl rfl ?_
                        generalize hw50 : e_up w47 275 30 (w 275 30 + 1) = w50
                        have f51 : e_fr (mF 30 300 306) w w50 := e_fr.up f48 hw50 (by unfold mF; omega)
                        have hT52 : e_Has mTy w50 := e_Has.upr hT49 hw50 rfl (by omega)
                        refine e_Ok.run (t' := (203, [(0, (1, 275)), (1, (0, p1)), (2, (0, p2)), (3, (0, p3)), (4, (0, p4)), (5, (0, p5))], [(1, 275)], w50)) 1 rfl ?_
                        refine e_Ok.getf (z := w 275 30 + 1) rfl (el_o rfl) rfl rfl (by rw [← hw50]; exact e_up_eq _ _ _ _) (by omega) ?_
                        refine e_Ok.run (t' := (207, [(0, (1, 275)), (1, (0, p1)), (2, (0, p2)), (3, (0, p3)), (4, (0, p4)), (5, (0, p5))], [(0, 1), (0, w 275 30 + 1)], w50)) 1 rfl ?_
                        refine e_Ok.sub' (z := w 275 30) rfl (by omega) (by omega) ?_
                        refine e_Ok.rets rfl rfl ?_
                        exact ⟨_, rfl, Or.inr ⟨by omega, f51, hT52, trivial⟩⟩
                      · replace h27 : (w 275 30 : Int) = 4 := by have q : ¬ ((w 275 30 : Int) ≠ 4) := h27; omega
                        refine e_Ok.run (t' := (119, [(0, (1, 275)), (1, (0, p1)), (2, (0, p2)), (3, (0, p3)), (4, (0, p4)), (5, (0, p5))], [(0, (-3))], w)) 1 rfl ?_
                        refine e_Ok.rets rfl rfl ?_
                        exact ⟨_, rfl, Or.inl rfl⟩
                    · replace h25 : (w 275 3 : Int) ≠ 0 := by have q : ¬ ((w 275 3 : Int) = 0) := h25; omega
                      refine e_Ok.run (t' := (108, [(0, (1, 275)), (1, (0, p1)), (2, (0, p2)), (3, (0, p3)), (4, (0, p4)), (5, (0, p5))], [(0, (-2))], w)) 1 rfl ?_
                      refine e_Ok.rets rfl rfl ?_
                      exact ⟨_, rfl, Or.inl rfl⟩
                  refine e_Ok.run (t' := (50, [(0, (1, 275)), (1, (0, p1)), (2, (0, p2)), (3, (0, p3)), (4, (0, p4)), (5, (0, p5))], [(0, 2), (0, p3)], w)) 2 rfl ?_
                  refine e_Ok.if2 rfl (fun h53 => ?_) (fun h53 => ?_)
                  · replace h53 : (p3 : Int) ≥ 2 := h53
                    refine e_Ok.run (t' := (60, [(0, (1, 275)), (1, (0, p1)), (2, (0, p2)), (3, (0, p3)), (4, (0, p4)), (5, (0, p5))], [(0, p4)], w)) 1 rfl ?_
                    refine e_Ok.neg (z := -p4) rfl (by omega) (by omega) ?_
                    refine e_Ok.run (t' := (65, [(6, (0, -p4)), (0, (1, 275)), (1, (0, p1)), (2, (0, p2)), (3, (0, p3)), (4, (0, p4)), (5, (0, p5))], [(0, 2), (0, p3)], w)) 3 rfl ?_
                    refine e_Ok.remn (fun z54 hz54 => ?_) rfl (by omega) (by omega)
                    replace hz54 : z54 = p3 % 2 := hz54
                    have z54r : 0 ≤ z54 ∧ z54 ≤ 1 := by omega
                    refine e_Ok.if1 rfl (fun h55 => ?_) (fun h55 => ?_)
                    · replace h55 : (z54 : Int) ≠ 0 := h55
                      refine e_Ok.run (t' := (79, [(6, (0, -p4)), (0, (1, 275)), (1, (0, p1)), (2, (0, p2)), (3, (0, p3)), (4, (0, p4)), (5, (0, p5))], [(0, 2), (0, p3), (0, p1)], w)) 3 rfl ?_
                      refine e_Ok.remn (fun z56 hz56 => ?_) rfl (by omega) (by omega)
                      replace hz56 : z56 = p3 % 2 := hz56
                      have z56r : 0 ≤ z56 ∧ z56 ≤ 1 := by omega
                      refine e_Ok.if1 rfl (fun h57 => ?_) (fun h57 => ?_)
                      · replace h57 : (z56 : Int) ≠ 0 := h57
                        refine e_Ok.run (t' := (90, [(6, (0, -p4)), (0, (1, 275)), (1, (0, p1)), (2, (0, p2)), (3, (0, p3)), (4, (0, p4)), (5, (0, p5))], [(0, -p4), (0, p2), (0, p1)], w)) 2 rfl ?_
                        refine e_Ok.add (z := p2 - p4) rfl (by omega) (by omega) ?_
                        refine e_Ok.callS rfl (by omega) rfl rfl (c_272 (by omega)) (fun r58 w59 h60 => ?_)
                        obtain ⟨z61, rfl, rfl, q62⟩ := h60
                        obtain ⟨rfl, q62⟩ | ⟨rfl, q62⟩ := q62
                        · show e_Ok 20 elay ecode eI (d + 1) 286 (94, [(6, (0, -p4)), (0, (1, 275)), (1, (0, p1)), (2, (0, p2)), (3, (0, p3)), (4, (0, p4)), (5, (0, p5))], [(0, 1)], w) _
                          refine e_Ok.if1 rfl (fun h63 => ?_) (fun h63 => ?_)
                          · replace h63 : (1 : Int) ≠ 0 := h63
                            refine e_Ok.sub eAlk (e_sub_of rfl ?_) hC99
                            exact ⟨rfl, rfl, rfl, rfl, rfl, rfl, trivial⟩
                          · replace h63 : (1 : Int) = 0 := by have q : ¬ ((1 : Int) ≠ 0) := h63; omega
                            exfalso; omega
                        · show e_Ok 20 elay ecode eI (d + 1) 286 (94, [(6, (0, -p4)), (0, (1, 275)), (1, (0, p1)), (2, (0, p2)), (3, (0, p3)), (4, (0, p4)), (5, (0, p5))], [(0, 0)], w) _
                          refine e_Ok.if1 rfl (fun h64 => ?_) (fun h64 => ?_)
                          · replace h64 : (0 : Int) ≠ 0 := h64
                            exfalso; omega
                          · replace h64 : (0 : Int) = 0 := by have q : ¬ ((0 : Int) ≠ 0) := h64; omega
                            refine e_Ok.run (t' := (98, [(6, (0, -p4)), (0, (1, 275)), (1, (0, p1)), (2, (0, p2)), (3, (0, p3)), (4, (0, p4)), (5, (0, p5))], [(0, (-1))], w)) 1 rfl ?_
                            refine e_Ok.rets rfl rfl ?_
                            exact ⟨_, rfl, Or.inl rfl⟩
                      · replace h57 : (z56 : Int) = 0 := by have q : ¬ ((z56 : Int) ≠ 0) := h57; omega
                        refine e_Ok.run (t' := (91, [(6, (0, -p4)), (0, (1, 275)), (1, (0, p1)), (2, (0, p2)), (3, (0, p3)), (4, (0, p4)), (5, (0, p5))], [(0, p2), (0, p1)], w)) 2 rfl ?_
                        refine e_Ok.callS rfl (by omega) rfl rfl (c_272 (by omega)) (fun r65 w66 h67 => ?_)
                        obtain ⟨z68, rfl, rfl, q69⟩ := h67
                        obtain ⟨rfl, q69⟩ | ⟨rfl, q69⟩ := q69
                        · show e_Ok 20 elay ecode eI (d + 1) 286 (94, [(6, (0, -p4)), (0, (1, 275)), (1, (0, p1)), (2, (0, p2)), (3, (0, p3)), (4, (0, p4)), (5, (0, p5))], [(0, 1)], w) _
                          refine e_Ok.if1 rfl (fun h70 => ?_) (fun h70 => ?_)
                          · replace h70 : (1 : Int) ≠ 0 := h70
                            refine e_Ok.sub eAlk (e_sub_of rfl ?_) hC99
                            exact ⟨rfl, rfl, rfl, rfl, rfl, rfl, trivial⟩
                          · replace h70 : (1 : Int) = 0 := by have q : ¬ ((1 : Int) ≠ 0) := h70; omega
                            exfalso; omega
                        · show e_Ok 20 elay ecode eI (d + 1) 286 (94, [(6, (0, -p4)), (0, (1, 275)), (1, (0, p1)), (2, (0, p2)), (3, (0, p3)), (4, (0, p4)), (5, (0, p5))], [(0, 0)], w) _
                          refine e_Ok.if1 rfl (fun h71 => ?_) (fun h71 => ?_)
                          · replace h71 : (0 : Int) ≠ 0 := h71
                            exfalso; omega
                          · replace h71 : (0 : Int) = 0 := by have q : ¬ ((0 : Int) ≠ 0) := h71; omega
                            refine e_Ok.run (t' := (98, [(6, (0, -p4)), (0, (1, 275)), (1, (0, p1)), (2, (0, p2)), (3, (0, p3)), (4, (0, p4)), (5, (0, p5))], [(0, (-1))], w)) 1 rfl ?_
                            refine e_Ok.rets rfl rfl ?_
                            exact ⟨_, rfl, Or.inl rfl⟩
                    · replace h55 : (z54 : Int) = 0 := by have q : ¬ ((z54 : Int) ≠ 0) := h55; omega
                      refine e_Ok.run (t' := (72, [(6, (0, -p4)), (0, (1, 275)), (1, (0, p1)), (2, (0, p2)), (3, (0, p3)), (4, (0, p4)), (5, (0, p5))], [(0, -p4), (0, p1)], w)) 2 rfl ?_
                      refine e_Ok.add (z := p1 - p4) rfl (by omega) (by omega) ?_
                      refine e_Ok.run (t' := (79, [(6, (0, -p4)), (0, (1, 275)), (1, (0, p1)), (2, (0, p2)), (3, (0, p3)), (4, (0, p4)), (5, (0, p5))], [(0, 2), (0, p3), (0, p1 - p4)], w)) 3 rfl ?_
                      refine e_Ok.remn (fun z72 hz72 => ?_) rfl (by omega) (by omega)
                      replace hz72 : z72 = p3 % 2 := hz72
                      have z72r : 0 ≤ z72 ∧ z72 ≤ 1 := by omega
                      refine e_Ok.if1 rfl (fun h73 => ?_) (fun h73 => ?_)
                      · replace h73 : (z72 : Int) ≠ 0 := h73
                        refine e_Ok.run (t' := (90, [(6, (0, -p4)), (0, (1, 275)), (1, (0, p1)), (2, (0, p2)), (3, (0, p3)), (4, (0, p4)), (5, (0, p5))], [(0, -p4), (0, p2), (0, p1 - p4)], w)) 2 rfl ?_
                        refine e_Ok.add (z := p2 - p4) rfl (by omega) (by omega) ?_
                        refine e_Ok.callS rfl (by omega) rfl rfl (c_272 (by omega)) (fun r74 w75 h76 => ?_)
                        obtain ⟨z77, rfl, rfl, q78⟩ := h76
                        obtain ⟨rfl, q78⟩ | ⟨rfl, q78⟩ := q78
                        · show e_Ok 20 elay ecode eI (d + 1) 286 (94, [(6, (0, -p4)), (0, (1, 275)), (1, (0, p1)), (2, (0, p2)), (3, (0, p3)), (4, (0, p4)), (5, (0, p5))], [(0, 1)], w) _
                          refine e_Ok.if1 rfl (fun h79 => ?_) (fun h79 => ?_)
                          · replace h79 : (1 : Int) ≠ 0 := h79
                            refine e_Ok.sub eAlk (e_sub_of rfl ?_) hC99
                            exact ⟨rfl, rfl, rfl, rfl, rfl, rfl, trivial⟩
                          · replace h79 : (1 : Int) = 0 := by have q : ¬ ((1 : Int) ≠ 0) := h79; omega
                            exfalso; omega
                        · show e_Ok 20 elay ecode eI (d + 1) 286 (94, [(6, (0, -p4)), (0, (1, 275)), (1, (0, p1)), (2, (0, p2)), (3, (0, p3)), (4, (0, p4)), (5, (0, p5))], [(0, 0)], w) _
                          refine e_Ok.if1 rfl (fun h80 => ?_) (fun h80 => ?_)
                          · replace h80 : (0 : Int) ≠ 0 := h80
                            exfalso; omega
                          · replace h80 : (0 : Int) = 0 := by have q : ¬ ((0 : Int) ≠ 0) := h80; omega
                            refine e_Ok.run (t' := (98, [(6, (0, -p4)), (0, (1, 275)), (1, (0, p1)), (2, (0, p2)), (3, (0, p3)), (4, (0, p4)), (5, (0, p5))], [(0, (-1))], w)) 1 rfl ?_
                            refine e_Ok.rets rfl rfl ?_
                            exact ⟨_, rfl, Or.inl rfl⟩
                      · replace h73 : (z72 : Int) = 0 := by have q : ¬ ((z72 : Int) ≠ 0) := h73; omega
                        refine e_Ok.run (t' := (91, [(6, (0, -p4)), (0, (1, 275)), (1, (0, p1)), (2, (0, p2)), (3, (0, p3)), (4, (0, p4)), (5, (0, p5))], [(0, p2), (0, p1 - p4)], w)) 2 rfl ?_
                        refine e_Ok.callS rfl (by omega) rfl rfl (c_272 (by omega)) (fun r81 w82 h83 => ?_)
                        obtain ⟨z84, rfl, rfl, q85⟩ := h83
                        obtain ⟨rfl, q85⟩ | ⟨rfl, q85⟩ := q85
                        · show e_Ok 20 elay ecode eI (d + 1) 286 (94, [(6, (0, -p4)), (0, (1, 275)), (1, (0, p1)), (2, (0, p2)), (3, (0, p3)), (4, (0, p4)), (5, (0, p5))], [(0, 1)], w) _
                          refine e_Ok.if1 rfl (fun h86 => ?_) (fun h86 => ?_)
                          · replace h86 : (1 : Int) ≠ 0 := h86
                            refine e_Ok.sub eAlk (e_sub_of rfl ?_) hC99
                            exact ⟨rfl, rfl, rfl, rfl, rfl, rfl, trivial⟩
                          · replace h86 : (1 : Int) = 0 := by have q : ¬ ((1 : Int) ≠ 0) := h86; omega
                            exfalso; omega
                        · show e_Ok 20 elay ecode eI (d + 1) 286 (94, [(6, (0, -p4)), (0, (1, 275)), (1, (0, p1)), (2, (0, p2)), (3, (0, p3)), (4, (0, p4)), (5, (0, p5))], [(0, 0)], w) _
                          refine e_Ok.if1 rfl (fun h87 => ?_) (fun h87 => ?_)
                          · replace h87 : (0 : Int) ≠ 0 := h87
                            exfalso; omega
                          · replace h87 : (0 : Int) = 0 := by have q : ¬ ((0 : Int) ≠ 0) := h87; omega
                            refine e_Ok.run (t' := (98, [(6, (0, -p4)), (0, (1, 275)), (1, (0, p1)), (2, (0, p2)), (3, (0, p3)), (4, (0, p4)), (5, (0, p5))], [(0, (-1))], w)) 1 rfl ?_
                            refine e_Ok.rets rfl rfl ?_
                            exact ⟨_, rfl, Or.inl rfl⟩
                  · replace h53 : (p3 : Int) < 2 := by have q : ¬ ((p3 : Int) ≥ 2) := h53; omega
                    refine e_Ok.run (t' := (65, [(6, (0, p4)), (0, (1, 275)), (1, (0, p1)), (2, (0, p2)), (3, (0, p3)), (4, (0, p4)), (5, (0, p5))], [(0, 2), (0, p3)], w)) 5 rfl ?_
                    refine e_Ok.remn (fun z88 hz88 => ?_) rfl (by omega) (by omega)
                    replace hz88 : z88 = p3 % 2 := hz88
                    have z88r : 0 ≤ z88 ∧ z88 ≤ 1 := by omega
                    refine e_Ok.if1 rfl (fun h89 => ?_) (fun h89 => ?_)
                    · replace h89 : (z88 : Int) ≠ 0 := h89
                      refine e_Ok.run (t' := (79, [(6, (0, p4)), (0, (1, 275)), (1, (0, p1)), (2, (0, p2)), (3, (0, p3)), (4, (0, p4)), (5, (0, p5))], [(0, 2), (0, p3), (0, p1)], w)) 3 rfl ?_
                      refine e_Ok.remn (fun z90 hz90 => ?_) rfl (by omega) (by omega)
                      replace hz90 : z90 = p3 % 2 := hz90
                      have z90r : 0 ≤ z90 ∧ z90 ≤ 1 := by omega
                      refine e_Ok.if1 rfl (fun h91 => ?_) (fun h91 => ?_)
                      · replace h91 : (z90 : Int) ≠ 0 := h91
                        refine e_Ok.run (t' := (90, [(6, (0, p4)), (0, (1, 275)), (1, (0, p1)), (2, (0, p2)), (3, (0, p3)), (4, (0, p4)), (5, (0, p5))], [(0, p4), (0, p2), (0, p1)], w)) 2 rfl ?_
                        refine e_Ok.add (z := p2 + p4) rfl (by omega) (by omega) ?_
                        refine e_Ok.callS rfl (by omega) rfl rfl (c_272 (by omega)) (fun r92 w93 h94 => ?_)
                        obtain ⟨z95, rfl, rfl, q101⟩ := h94
                        obtain ⟨rfl, q101⟩ | ⟨rfl, q101⟩ := q101
                        · show e_Ok 20 elay ecode eI (d + 1) 286 (94, [(6, (0, p4)), (0, (1, 275)), (1, (0, p1)), (2, (0, p2)), (3, (0, p3)), (4, (0, p4)), (5, (0, p5))], [(0, 1)], w) _
                          refine e_Ok.if1 rfl (fun h103 => ?_) (fun h103 => ?_)
                          · replace h103 : (1 : Int) ≠ 0 := h103
                            refine e_Ok.sub eAlk (e_sub_of rfl ?_) hC99
                            exact ⟨rfl, rfl, rfl, rfl, rfl, rfl, trivial⟩
                          · replace h103 : (1 : Int) = 0 := by have q : ¬ ((1 : Int) ≠ 0) := h103; omega
                            exfalso; omega
                        · show e_Ok 20 elay ecode eI (d + 1) 286 (94, [(6, (0, p4)), (0, (1, 275)), (1, (0, p1)), (2, (0, p2)), (3, (0, p3)), (4, (0, p4)), (5, (0, p5))], [(0, 0)], w) _
                          refine e_Ok.if1 rfl (fun h104 => ?_) (fun h104 => ?_)
                          · replace h104 : (0 : Int) ≠ 0 := h104
                            exfalso; omega
                          · replace h104 : (0 : Int) = 0 := by have q : ¬ ((0 : Int) ≠ 0) := h104; omega
                            refine e_Ok.run (t' := (98, [(6, (0, p4)), (0, (1, 275)), (1, (0, p1)), (2, (0, p2)), (3, (0, p3)), (4, (0, p4)), (5, (0, p5))], [(0, (-1))], w)) 1 rfl ?_
                            refine e_Ok.rets rfl rfl ?_
                            exact ⟨_, rfl, Or.inl rfl⟩
                      · replace h91 : (z90 : Int) = 0 := by have q : ¬ ((z90 : Int) ≠ 0) := h91; omega
                        refine e_Ok.run (t' := (91, [(6, (0, p4)), (0, (1, 275)), (1, (0, p1)), (2, (0, p2)), (3, (0, p3)), (4, (0, p4)), (5, (0, p5))], [(0, p2), (0, p1)], w)) 2 rfl ?_
                        refine e_Ok.callS rfl (by omega) rfl rfl (c_272 (by omega)) (fun r105 w106 h107 => ?_)
                        obtain ⟨z108, rfl, rfl, q109⟩ := h107
                        obtain ⟨rfl, q109⟩ | ⟨rfl, q109⟩ := q109
                        · show e_Ok 20 elay ecode eI (d + 1) 286 (94, [(6, (0, p4)), (0, (1, 275)), (1, (0, p1)), (2, (0, p2)), (3, (0, p3)), (4, (0, p4)), (5, (0, p5))], [(0, 1)], w) _
                          refine e_Ok.if1 rfl (fun h110 => ?_) (fun h110 => ?_)
                          · replace h110 : (1 : Int) ≠ 0 := h110
                            refine e_Ok.sub eAlk (e_sub_of rfl ?_) hC99
                            exact ⟨rfl, rfl, rfl, rfl, rfl, rfl, trivial⟩
                          · replace h110 : (1 : Int) = 0 := by have q : ¬ ((1 : Int) ≠ 0) := h110; omega
                            exfalso; omega
                        · show e_Ok 20 elay ecode eI (d + 1) 286 (94, [(6, (0, p4)), (0, (1, 275)), (1, (0, p1)), (2, (0, p2)), (3, (0, p3)), (4, (0, p4)), (5, (0, p5))], [(0, 0)], w) _
                          refine e_Ok.if1 rfl (fun h111 => ?_) (fun h111 => ?_)
                          · replace h111 : (0 : Int) ≠ 0 := h111
                            exfalso; omega
                          · replace h111 : (0 : Int) = 0 := by have q : ¬ ((0 : Int) ≠ 0) := h111; omega
                            refine e_Ok.run (t' := (98, [(6, (0, p4)), (0, (1, 275)), (1, (0, p1)), (2, (0, p2)), (3, (0, p3)), (4, (0, p4)), (5, (0, p5))], [(0, (-1))], w)) 1 rfl ?_
                            refine e_Ok.rets rfl rfl ?_
                            exact ⟨_, rfl, Or.inl rfl⟩
                    · replace h89 : (z88 : Int) = 0 := by have q : ¬ ((z88 : Int) ≠ 0) := h89; omega
                      refine e_Ok.run (t' := (72, [(6, (0, p4)), (0, (1, 275)), (1, (0, p1)), (2, (0, p2)), (3, (0, p3)), (4, (0, p4)), (5, (0, p5))], [(0, p4), (0, p1)], w)) 2 rfl ?_
                      refine e_Ok.add (z := p1 + p4) rfl (by omega) (by omega) ?_
                      refine e_Ok.run (t' := (79, [(6, (0, p4)), (0, (1, 275)), (1, (0, p1)), (2, (0, p2)), (3, (0, p3)), (4, (0, p4)), (5, (0, p5))], [(0, 2), (0, p3), (0, p1 + p4)], w)) 3 rfl ?_
                      refine e_Ok.remn (fun z112 hz112 => ?_) rfl (by omega) (by omega)
                      replace hz112 : z112 = p3 % 2 := hz112
                      have z112r : 0 ≤ z112 ∧ z112 ≤ 1 := by omega
                      refine e_Ok.if1 rfl (fun h113 => ?_) (fun h113 => ?_)
                      · replace h113 : (z112 : Int) ≠ 0 := h113
                        refine e_Ok.run (t' := (90, [(6, (0, p4)), (0, (1, 275)), (1, (0, p1)), (2, (0, p2)), (3, (0, p3)), (4, (0, p4)), (5, (0, p5))], [(0, p4), (0, p2), (0, p1 + p4)], w)) 2 rfl ?_
                        refine e_Ok.add (z := p2 + p4) rfl (by omega) (by omega) ?_
                        refine e_Ok.callS rfl (by omega) rfl rfl (c_272 (by omega)) (fun r114 w115 h116 => ?_)
                        obtain ⟨z117, rfl, rfl, q118⟩ := h116
                        obtain ⟨rfl, q118⟩ | ⟨rfl, q118⟩ := q118
                        · show e_Ok 20 elay ecode eI (d + 1) 286 (94, [(6, (0, p4)), (0, (1, 275)), (1, (0, p1)), (2, (0, p2)), (3, (0, p3)), (4, (0, p4)), (5, (0, p5))], [(0, 1)], w) _
                          refine e_Ok.if1 rfl (fun h119 => ?_) (fun h119 => ?_)
                          · replace h119 : (1 : Int) ≠ 0 := h119
                            refine e_Ok.sub eAlk (e_sub_of rfl ?_) hC99
                            exact ⟨rfl, rfl, rfl, rfl, rfl, rfl, trivial⟩
                          · replace h119 : (1 : Int) = 0 := by have q : ¬ ((1 : Int) ≠ 0) := h119; omega
                            exfalso; omega
                        · show e_Ok 20 elay ecode eI (d + 1) 286 (94, [(6, (0, p4)), (0, (1, 275)), (1, (0, p1)), (2, (0, p2)), (3, (0, p3)), (4, (0, p4)), (5, (0, p5))], [(0, 0)], w) _
                          refine e_Ok.if1 rfl (fun h120 => ?_) (fun h120 => ?_)
                          · replace h120 : (0 : Int) ≠ 0 := h120
                            exfalso; omega
                          · replace h120 : (0 : Int) = 0 := by have q : ¬ ((0 : Int) ≠ 0) := h120; omega
                            refine e_Ok.run (t' := (98, [(6, (0, p4)), (0, (1, 275)), (1, (0, p1)), (2, (0, p2)), (3, (0, p3)), (4, (0, p4)), (5, (0, p5))], [(0, (-1))], w)) 1 rfl ?_
                            refine e_Ok.rets rfl rfl ?_
                            exact ⟨_, rfl, Or.inl rfl⟩
                      · replace h113 : (z112 : Int) = 0 := by have q : ¬ ((z112 : Int) ≠ 0) := h113; omega
                        refine e_Ok.run (t' := (91, [(6, (0, p4)), (0, (1, 275)), (1, (0, p1)), (2, (0, p2)), (3, (0, p3)), (4, (0, p4)), (5, (0, p5))], [(0, p2), (0, p1 + p4)], w)) 2 rfl ?_
                        refine e_Ok.callS rfl (by omega) rfl rfl (c_272 (by omega)) (fun r121 w122 h123 => ?_)
                        obtain ⟨z124, rfl, rfl, q125⟩ := h123
                        obtain ⟨rfl, q125⟩ | ⟨rfl, q125⟩ := q125
                        · show e_Ok 20 elay ecode eI (d + 1) 286 (94, [(6, (0, p4)), (0, (1, 275)), (1, (0, p1)), (2, (0, p2)), (3, (0, p3)), (4, (0, p4)), (5, (0, p5))], [(0, 1)], w) _
                          refine e_Ok.if1 rfl (fun h126 => ?_) (fun h126 => ?_)
                          · replace h126 : (1 : Int) ≠ 0 := h126
                            refine e_Ok.sub eAlk (e_sub_of rfl ?_) hC99
                            exact ⟨rfl, rfl, rfl, rfl, rfl, rfl, trivial⟩
                          · replace h126 : (1 : Int) = 0 := by have q : ¬ ((1 : Int) ≠ 0) := h126; omega
                            exfalso; omega
                        · show e_Ok 20 elay ecode eI (d + 1) 286 (94, [(6, (0, p4)), (0, (1, 275)), (1, (0, p1)), (2, (0, p2)), (3, (0, p3)), (4, (0, p4)), (5, (0, p5))], [(0, 0)], w) _
                          refine e_Ok.if1 rfl (fun h127 => ?_) (fun h127 => ?_)
                          · replace h127 : (0 : Int) ≠ 0 := h127
                            exfalso; omega
                          · replace h127 : (0 : Int) = 0 := by have q : ¬ ((0 : Int) ≠ 0) := h127; omega
                            refine e_Ok.run (t' := (98, [(6, (0, p4)), (0, (1, 275)), (1, (0, p1)), (2, (0, p2)), (3, (0, p3)), (4, (0, p4)), (5, (0, p5))], [(0, (-1))], w)) 1 rfl ?_
                            refine e_Ok.rets rfl rfl ?_
                            exact ⟨_, rfl, Or.inl rfl⟩
                · replace h24 : (1 : Int) = 0 := by have q : ¬ ((1 : Int) ≠ 0) := h24; omega
                  exfalso; omega
              · show e_Ok 20 elay ecode eI (d + 1) 286 (43, [(0, (1, 275)), (1, (0, p1)), (2, (0, p2)), (3, (0, p3)), (4, (0, p4)), (5, (0, p5))], [(0, 0)], w) _
                refine e_Ok.if1 rfl (fun h128 => ?_) (fun h128 => ?_)
                · replace h128 : (0 : Int) ≠ 0 := h128
                  exfalso; omega
                · replace h128 : (0 : Int) = 0 := by have q : ¬ ((0 : Int) ≠ 0) := h128; omega
                  refine e_Ok.run (t' := (47, [(0, (1, 275)), (1, (0, p1)), (2, (0, p2)), (3, (0, p3)), (4, (0, p4)), (5, (0, p5))], [(0, (-1))], w)) 1 rfl ?_
                  refine e_Ok.rets rfl rfl ?_
                  exact ⟨_, rfl, Or.inl rfl⟩
          · show e_Ok 20 elay ecode eI (d + 1) 286 (30, [(0, (1, 275)), (1, (0, p1)), (2, (0, p2)), (3, (0, p3)), (4, (0, p4)), (5, (0, p5))], [(0, 0)], w) _
            refine e_Ok.if1 rfl (fun h129 => ?_) (fun h129 => ?_)
            · replace h129 : (0 : Int) = 0 := h129
              refine e_Ok.run (t' := (47, [(0, (1, 275)), (1, (0, p1)), (2, (0, p2)), (3, (0, p3)), (4, (0, p4)), (5, (0, p5))], [(0, (-1))], w)) 1 rfl ?_
              refine e_Ok.rets rfl rfl ?_
              exact ⟨_, rfl, Or.inl rfl⟩
            · replace h129 : (0 : Int) ≠ 0 := by have q : ¬ ((0 : Int) = 0) := h129; omega
              exfalso; omega
      · show e_Ok 20 elay ecode eI (d + 1) 286 (17, [(0, (1, 275)), (1, (0, p1)), (2, (0, p2)), (3, (0, p3)), (4, (0, p4)), (5, (0, p5))], [(0, 0)], w) _
        refine e_Ok.if1 rfl (fun h130 => ?_) (fun h130 => ?_)
        · replace h130 : (0 : Int) = 0 := h130
          refine e_Ok.run (t' := (47, [(0, (1, 275)), (1, (0, p1)), (2, (0, p2)), (3, (0, p3)), (4, (0, p4)), (5, (0, p5))], [(0, (-1))], w)) 1 rfl ?_
          refine e_Ok.rets rfl rfl ?_
          exact ⟨_, rfl, Or.inl rfl⟩
        · replace h130 : (0 : Int) ≠ 0 := by have q : ¬ ((0 : Int) = 0) := h130; omega
          exfalso; omega
  · show e_Ok 20 elay ecode eI (d + 1) 286 (5, [(0, (1, 275)), (1, (0, p1)), (2, (0, p2)), (3, (0, p3)), (4, (0, p4)), (5, (0, p5))], [(0, 0)], w) _
    refine e_Ok.if1 rfl (fun h131 => ?_) (fun h131 => ?_)
    · replace h131 : (0 : Int) = 0 := h131
      refine e_Ok.run (t' := (47, [(0, (1, 275)), (1, (0, p1)), (2, (0, p2)), (3, (0, p3)), (4, (0, p4)), (5, (0, p5))], [(0, (-1))], w)) 1 rfl ?_
      refine e_Ok.rets rfl rfl ?_
      exact ⟨_, rfl, Or.inl rfl⟩
    · replace h131 : (0 : Int) ≠ 0 := by have q : ¬ ((0 : Int) = 0) := h131; omega
      exfalso; omega
theorem c_287_b {d : Nat} (hd : 24 ≤ d) {w : eW} (hT : e_Has mTy w) {p1 p2 : Int} (g1 : (-2147483648) ≤ p1 ∧ p1 ≤ 2147483647) (g2 : (-2147483648) ≤ p2 ∧ p2 ≤ 2147483647) : e_Ok 20 elay ecode eI d 287 (0, [(0, (1, 275)), (1, (0, p1)), (2, (0, p2))], [], w) (fun r w' => ∃ z : Int, r = [(0, z)] ∧ (w = w' ∨ (w 275 3 = 0 ∧ e_fr (mF (-1) 304 304) w w' ∧ e_Has mTy w' ∧ True))) := by
  obtain ⟨d, rfl⟩ : ∃ e, d = e + 1 := ⟨d - 1, by omega⟩
  have hop := e_Has.get hT (c := 275) (k := 3) (lo := 0) (hi := 1) rfl (by decide)
  refine e_Ok.run (t' := (4, [(0, (1, 275)), (1, (0, p1)), (2, (0, p2))], [(1, 275), (4, 0), (4, p1)], w)) 4 rfl ?_
  have h1 := (e_Has.get hT (c := 275) (k := 30) (lo := 0) (hi := 4) rfl (by decide))
  refine e_Ok.getf (z := w 275 30) rfl (el_o rfl) rfl rfl rfl (by omega) ?_
  refine e_Ok.run (t' := (8, [(0, (1, 275)), (1, (0, p1)), (2, (0, p2))], [(0, 1), (0, w 275 30), (4, 0), (4, p1)], w)) 1 rfl ?_
  refine e_Ok.sub' (z := w 275 30 - 1) rfl (by omega) (by omega) ?_
  refine e_Ok.run (t' := (10, [(0, (1, 275)), (1, (0, p1)), (2, (0, p2))], [(4, w 275 30 - 1), (4, 0), (4, p1)], w)) 1 rfl ?_
  refine e_Ok.callS rfl (by omega) rfl rfl (c_266) (fun r2 w3 h4 => ?_)
  obtain ⟨z5, rfl, rfl, q6⟩ := h4
  obtain ⟨rfl, q6⟩ | ⟨rfl, q6⟩ := q6
  · show e_Ok 20 elay ecode eI (d + 1) 287 (13, [(0, (1, 275)), (1, (0, p1)), (2, (0, p2))], [(0, 1)], w) _
    refine e_Ok.if1 rfl (fun h7 => ?_) (fun h7 => ?_)
    · replace h7 : (1 : Int) = 0 := h7
      exfalso; omega
    · replace h7 : (1 : Int) ≠ 0 := by have q : ¬ ((1 : Int) = 0) := h7; omega
      refine e_Ok.run (t' := (22, [(0, (1, 275)), (1, (0, p1)), (2, (0, p2))], [(4, 100), (4, 0), (4, p2)], w)) 4 rfl ?_
      refine e_Ok.callS rfl (by omega) rfl rfl (c_266) (fun r8 w9 h10 => ?_)
      obtain ⟨z11, rfl, rfl, q12⟩ := h10
      obtain ⟨rfl, q12⟩ | ⟨rfl, q12⟩ := q12
      · show e_Ok 20 elay ecode eI (d + 1) 287 (25, [(0, (1, 275)), (1, (0, p1)), (2, (0, p2))], [(0, 1)], w) _
        refine e_Ok.if1 rfl (fun h13 => ?_) (fun h13 => ?_)
        · replace h13 : (1 : Int) ≠ 0 := h13
          refine e_Ok.run (t' := (31, [(0, (1, 275)), (1, (0, p1)), (2, (0, p2))], [(1, 275)], w)) 1 rfl ?_
          refine e_Ok.getf (z := w 275 3) rfl (el_o rfl) rfl rfl rfl (by omega) ?_
          refine e_Ok.if1 rfl (fun h14 => ?_) (fun h14 => ?_)
          · replace h14 : (w 275 3 : Int) = 0 := h14
            refine e_Ok.run (t' := (41, [(0, (1, 275)), (1, (0, p1)), (2, (0, p2))], [(1, 275)], w)) 1 rfl ?_
            refine e_Ok.getr (z := 304) rfl (el_o rfl) rfl rfl (e_Has.eq hT rfl) (by omega) ?_
            refine e_Ok.run (t' := (45, [(0, (1, 275)), (1, (0, p1)), (2, (0, p2))], [(0, p1), (1, 304)], w)) 1 rfl ?_
            have h15 := (e_Has.get hT (c := 304) (k := p1) (lo := 0) (hi := 100) rfl (by decide))
            refine e_Ok.ald (z := w 304 p1) rfl (el_o rfl) rfl (by omega) rfl (by omega) ?_
            refine e_Ok.run (t' := (48, [(3, (0, w 304 p1)), (0, (1, 275)), (1, (0, p1)), (2, (0, p2))], [(1, 275)], w)) 2 rfl ?_
            refine e_Ok.getr (z := 304) rfl (el_o rfl) rfl rfl (e_Has.eq hT rfl) (by omega) ?_
            refine e_Ok.run (t' := (53, [(3, (0, w 304 p1)), (0, (1, 275)), (1, (0, p1)), (2, (0, p2))], [(0, p2), (0, p1), (1, 304)], w)) 2 rfl ?_
            refine e_Ok.ast rfl (el_o rfl) rfl rfl (by omega) ?_
            generalize hw16 : e_up w 304 p1 p2 = w16
            have f17 : e_fr (mF (-1) 304 304) w w16 := e_fr.up (e_fr.refl w) hw16 (by unfold mF; omega)
            have hT18 : e_Has mTy w16 := e_Has.upr hT hw16 rfl (by omega)
            refine e_Ok.run (t' := (55, [(3, (0, w 304 p1)), (0, (1, 275)), (1, (0, p1)), (2, (0, p2))], [(0, w 304 p1)], w16)) 1 rfl ?_
            refine e_Ok.rets rfl rfl ?_
            exact ⟨_, rfl, Or.inr ⟨by omega, f17, hT18, trivial⟩⟩
          · replace h14 : (w 275 3 : Int) ≠ 0 := by have q : ¬ ((w 275 3 : Int) = 0) := h14; omega
            refine e_Ok.run (t' := (39, [(0, (1, 275)), (1, (0, p1)), (2, (0, p2))], [(0, (-2))], w)) 1 rfl ?_
            refine e_Ok.rets rfl rfl ?_
            exact ⟨_, rfl, Or.inl rfl⟩
        · replace h13 : (1 : Int) = 0 := by have q : ¬ ((1 : Int) ≠ 0) := h13; omega
          exfalso; omega
      · show e_Ok 20 elay ecode eI (d + 1) 287 (25, [(0, (1, 275)), (1, (0, p1)), (2, (0, p2))], [(0, 0)], w) _
        refine e_Ok.if1 rfl (fun h19 => ?_) (fun h19 => ?_)
        · replace h19 : (0 : Int) ≠ 0 := h19
          exfalso; omega
        · replace h19 : (0 : Int) = 0 := by have q : ¬ ((0 : Int) ≠ 0) := h19; omega
          refine e_Ok.run (t' := (29, [(0, (1, 275)), (1, (0, p1)), (2, (0, p2))], [(0, (-1))], w)) 1 rfl ?_
          refine e_Ok.rets rfl rfl ?_
          exact ⟨_, rfl, Or.inl rfl⟩
  · show e_Ok 20 elay ecode eI (d + 1) 287 (13, [(0, (1, 275)), (1, (0, p1)), (2, (0, p2))], [(0, 0)], w) _
    refine e_Ok.if1 rfl (fun h20 => ?_) (fun h20 => ?_)
    · replace h20 : (0 : Int) = 0 := h20
      refine e_Ok.run (t' := (29, [(0, (1, 275)), (1, (0, p1)), (2, (0, p2))], [(0, (-1))], w)) 1 rfl ?_
      refine e_Ok.rets rfl rfl ?_
      exact ⟨_, rfl, Or.inl rfl⟩
    · replace h20 : (0 : Int) ≠ 0 := by have q : ¬ ((0 : Int) = 0) := h20; omega
      exfalso; omega
theorem c_288_b {d : Nat} (hd : 24 ≤ d) {w : eW} (hT : e_Has mTy w) {p1 p2 p3 p4 : Int} (g1 : (-2147483648) ≤ p1 ∧ p1 ≤ 2147483647) (g2 : (-2147483648) ≤ p2 ∧ p2 ≤ 2147483647) (g3 : (-2147483648) ≤ p3 ∧ p3 ≤ 2147483647) (g4 : (-2147483648) ≤ p4 ∧ p4 ≤ 2147483647) : e_Ok 20 elay ecode eI d 288 (0, [(0, (1, 275)), (1, (0, p1)), (2, (0, p2)), (3, (0, p3)), (4, (0, p4))], [], w) (fun r w' => ∃ z : Int, r = [(0, z)] ∧ (w = w' ∨ (w 275 3 = 0 ∧ e_fr (mF (-1) 306 308) w w' ∧ e_Has mTy w' ∧ True))) := by
  obtain ⟨d, rfl⟩ : ∃ e, d = e + 1 := ⟨d - 1, by omega⟩
  have hop := e_Has.get hT (c := 275) (k := 3) (lo := 0) (hi := 1) rfl (by decide)
  refine e_Ok.run (t' := (4, [(0, (1, 275)), (1, (0, p1)), (2, (0, p2)), (3, (0, p3)), (4, (0, p4))], [(1, 275), (4, 0), (4, p1)], w)) 4 rfl ?_
  have h1 := (e_Has.get hT (c := 275) (k := 30) (lo := 0) (hi := 4) rfl (by decide))
  refine e_Ok.getf (z := w 275 30) rfl (el_o rfl) rfl rfl rfl (by omega) ?_
  refine e_Ok.run (t' := (8, [(0, (1, 275)), (1, (0, p1)), (2, (0, p2)), (3, (0, p3)), (4, (0, p4))], [(0, 1), (0, w 275 30), (4, 0), (4, p1)], w)) 1 rfl ?_
  refine e_Ok.sub' (z := w 275 30 - 1) rfl (by omega) (by omega) ?_
  refine e_Ok.run (t' := (10, [(0, (1, 275)), (1, (0, p1)), (2, (0, p2)), (3, (0, p3)), (4, (0, p4))], [(4, w 275 30 - 1), (4, 0), (4, p1)], w)) 1 rfl ?_
  refine e_Ok.callS rfl (by omega) rfl rfl (c_266) (fun r2 w3 h4 => ?_)
  obtain ⟨z5, rfl, rfl, q6⟩ := h4
  obtain ⟨rfl, q6⟩ | ⟨rfl, q6⟩ := q6
  · show e_Ok 20 elay ecode eI (d + 1) 288 (13, [(0, (1, 275)), (1, (0, p1)), (2, (0, p2)), (3, (0, p3)), (4, (0, p4))], [(0, 1)], w) _
    refine e_Ok.if1 rfl (fun h7 => ?_) (fun h7 => ?_)
    · replace h7 : (1 : Int) = 0 := h7
      exfalso; omega
    · replace h7 : (1 : Int) ≠ 0 := by have q : ¬ ((1 : Int) = 0) := h7; omega
      refine e_Ok.run (t' := (22, [(0, (1, 275)), (1, (0, p1)), (2, (0, p2)), (3, (0, p3)), (4, (0, p4))], [(4, 63), (4, 0), (4, p2)], w)) 4 rfl ?_
      refine e_Ok.callS rfl (by omega) rfl rfl (c_266) (fun r8 w9 h10 => ?_)
      obtain ⟨z11, rfl, rfl, q12⟩ := h10
      obtain ⟨rfl, q12⟩ | ⟨rfl, q12⟩ := q12
      · show e_Ok 20 elay ecode eI (d + 1) 288 (25, [(0, (1, 275)), (1, (0, p1)), (2, (0, p2)), (3, (0, p3)), (4, (0, p4))], [(0, 1)], w) _
        refine e_Ok.if1 rfl (fun h13 => ?_) (fun h13 => ?_)
        · replace h13 : (1 : Int) = 0 := h13
          exfalso; omega
        · replace h13 : (1 : Int) ≠ 0 := by have q : ¬ ((1 : Int) = 0) := h13; omega
          refine e_Ok.run (t' := (29, [(0, (1, 275)), (1, (0, p1)), (2, (0, p2)), (3, (0, p3)), (4, (0, p4))], [(0, p3)], w)) 1 rfl ?_
          refine e_Ok.if1 rfl (fun h14 => ?_) (fun h14 => ?_)
          · replace h14 : (p3 : Int) < 0 := h14
            refine e_Ok.run (t' := (39, [(0, (1, 275)), (1, (0, p1)), (2, (0, p2)), (3, (0, p3)), (4, (0, p4))], [(0, (-1))], w)) 1 rfl ?_
            refine e_Ok.rets rfl rfl ?_
            exact ⟨_, rfl, Or.inl rfl⟩
          · replace h14 : (p3 : Int) ≥ 0 := by have q : ¬ ((p3 : Int) < 0) := h14; omega
            refine e_Ok.run (t' := (35, [(0, (1, 275)), (1, (0, p1)), (2, (0, p2)), (3, (0, p3)), (4, (0, p4))], [(0, p3), (0, p4)], w)) 2 rfl ?_
            refine e_Ok.if2 rfl (fun h15 => ?_) (fun h15 => ?_)
            · replace h15 : (p4 : Int) ≥ p3 := h15
              refine e_Ok.run (t' := (41, [(0, (1, 275)), (1, (0, p1)), (2, (0, p2)), (3, (0, p3)), (4, (0, p4))], [(1, 275)], w)) 1 rfl ?_
              refine e_Ok.getf (z := w 275 3) rfl (el_o rfl) rfl rfl rfl (by omega) ?_
              refine e_Ok.if1 rfl (fun h16 => ?_) (fun h16 => ?_)
              · replace h16 : (w 275 3 : Int) = 0 := h16
                refine e_Ok.run (t' := (51, [(0, (1, 275)), (1, (0, p1)), (2, (0, p2)), (3, (0, p3)), (4, (0, p4))], [(1, 275)], w)) 1 rfl ?_
                refine e_Ok.getr (z := 306) rfl (el_o rfl) rfl rfl (e_Has.eq hT rfl) (by omega) ?_
                refine e_Ok.run (t' := (56, [(0, (1, 275)), (1, (0, p1)), (2, (0, p2)), (3, (0, p3)), (4, (0, p4))], [(0, p2), (0, p1), (1, 306)], w)) 2 rfl ?_
                refine e_Ok.ast rfl (el_o rfl) rfl rfl (by omega) ?_
                generalize hw17 : e_up w 306 p1 p2 = w17
                have f18 : e_fr (mF (-1) 306 308) w w17 := e_fr.up (e_fr.refl w) hw17 (by unfold mF; omega)
                have hT19 : e_Has mTy w17 := e_Has.upr hT hw17 rfl (by omega)
                refine e_Ok.run (t' := (58, [(0, (1, 275)), (1, (0, p1)), (2, (0, p2)), (3, (0, p3)), (4, (0, p4))], [(1, 275)], w17)) 1 rfl ?_
                refine e_Ok.getr (z := 307) rfl (el_o rfl) rfl rfl (by rw [← hw17]; exact (e_up_ne _ _ (Or.inl (by omega))).trans (e_Has.eq hT rfl)) (by omega) ?_
                refine e_Ok.run (t' := (63, [(0, (1, 275)), (1, (0, p1)), (2, (0, p2)), (3, (0, p3)), (4, (0, p4))], [(0, p3), (0, p1), (1, 307)], w17)) 2 rfl ?_
                refine e_Ok.ast rfl (el_o rfl) rfl rfl (by omega) ?_
                generalize hw20 : e_up w17 307 p1 p3 = w20
                have f21 : e_fr (mF (-1) 306 308) w w20 := e_fr.up f18 hw20 (by unfold mF; omega)
                have hT22 : e_Has mTy w20 := e_Has.upr hT19 hw20 rfl (by omega)
                refine e_Ok.run (t' := (65, [(0, (1, 275)), (1, (0, p1)), (2, (0, p2)), (3, (0, p3)), (4, (0, p4))], [(1, 275)], w20)) 1 rfl ?_
                refine e_Ok.getr (z := 308) rfl (el_o rfl) rfl rfl (by rw [← hw20]; exact (e_up_ne _ _ (Or.inl (by omega))).trans (by rw [← hw17]; exact (e_up_ne _ _ (Or.inl (by omega))).trans (e_Has.eq hT rfl))) (by omega) ?_
                refine e_Ok.run (t' := (71, [(0, (1, 275)), (1, (0, p1)), (2, (0, p2)), (3, (0, p3)), (4, (0, p4))], [(0, p4), (0, p1), (1, 308)], w20)) 2 rfl ?_
                refine e_Ok.ast rfl (el_o rfl) rfl rfl (by omega) ?_
                generalize hw23 : e_up w20 308 p1 p4 = w23
                have f24 : e_fr (mF (-1) 306 308) w w23 := e_fr.up f21 hw23 (by unfold mF; omega)
                have hT25 : e_Has mTy w23 := e_Has.upr hT22 hw23 rfl (by omega)
                refine e_Ok.run (t' := (73, [(0, (1, 275)), (1, (0, p1)), (2, (0, p2)), (3, (0, p3)), (4, (0, p4))], [(0, 0)], w23)) 1 rfl ?_
                refine e_Ok.rets rfl rfl ?_
                exact ⟨_, rfl, Or.inr ⟨by omega, f24, hT25, trivial⟩⟩
              · replace h16 : (w 275 3 : Int) ≠ 0 := by have q : ¬ ((w 275 3 : Int) = 0) := h16; omega
                refine e_Ok.run (t' := (49, [(0, (1, 275)), (1, (0, p1)), (2, (0, p2)), (3, (0, p3)), (4, (0, p4))], [(0, (-2))], w)) 1 rfl ?_
                refine e_Ok.rets rfl rfl ?_
                exact ⟨_, rfl, Or.inl rfl⟩
            · replace h15 : (p4 : Int) < p3 := by have q : ¬ ((p4 : Int) ≥ p3) := h15; omega
              refine e_Ok.run (t' := (39, [(0, (1, 275)), (1, (0, p1)), (2, (0, p2)), (3, (0, p3)), (4, (0, p4))], [(0, (-1))], w)) 1 rfl ?_
              refine e_Ok.rets rfl rfl ?_
              exact ⟨_, rfl, Or.inl rfl⟩
      · show e_Ok 20 elay ecode eI (d + 1) 288 (25, [(0, (1, 275)), (1, (0, p1)), (2, (0, p2)), (3, (0, p3)), (4, (0, p4))], [(0, 0)], w) _
        refine e_Ok.if1 rfl (fun h26 => ?_) (fun h26 => ?_)
        · replace h26 : (0 : Int) = 0 := h26
          refine e_Ok.run (t' := (39, [(0, (1, 275)), (1, (0, p1)), (2, (0, p2)), (3, (0, p3)), (4, (0, p4))], [(0, (-1))], w)) 1 rfl ?_
          refine e_Ok.rets rfl rfl ?_
          exact ⟨_, rfl, Or.inl rfl⟩
        · replace h26 : (0 : Int) ≠ 0 := by have q : ¬ ((0 : Int) = 0) := h26; omega
          exfalso; omega
  · show e_Ok 20 elay ecode eI (d + 1) 288 (13, [(0, (1, 275)), (1, (0, p1)), (2, (0, p2)), (3, (0, p3)), (4, (0, p4))], [(0, 0)], w) _
    refine e_Ok.if1 rfl (fun h27 => ?_) (fun h27 => ?_)
    · replace h27 : (0 : Int) = 0 := h27
      refine e_Ok.run (t' := (39, [(0, (1, 275)), (1, (0, p1)), (2, (0, p2)), (3, (0, p3)), (4, (0, p4))], [(0, (-1))], w)) 1 rfl ?_
      refine e_Ok.rets rfl rfl ?_
      exact ⟨_, rfl, Or.inl rfl⟩
    · replace h27 : (0 : Int) ≠ 0 := by have q : ¬ ((0 : Int) = 0) := h27; omega
      exfalso; omega
theorem c_291_b {d : Nat} (hd : 24 ≤ d) {w : eW} (hT : e_Has mTy w) {p1 p2 p3 p4 p5 : Int} (g1 : (-2147483648) ≤ p1 ∧ p1 ≤ 2147483647) (g2 : (-2147483648) ≤ p2 ∧ p2 ≤ 2147483647) (g3 : (-2147483648) ≤ p3 ∧ p3 ≤ 2147483647) (g4 : (-2147483648) ≤ p4 ∧ p4 ≤ 2147483647) (g5 : (-2147483648) ≤ p5 ∧ p5 ≤ 2147483647) : e_Ok 20 elay ecode eI d 291 (0, [(0, (1, 275)), (1, (0, p1)), (2, (0, p2)), (3, (0, p3)), (4, (0, p4)), (5, (0, p5))], [], w) (fun r w' => ∃ z : Int, r = [(0, z)] ∧ (w = w' ∨ (w 275 3 = 0 ∧ e_fr (mF 42 310 315) w w' ∧ e_Has mTy w' ∧ (w' 275 42 = w 275 42 + 1 ∧ w' 310 (w 275 42) = p1 ∧ p1 < w 275 10 ∧ ∀ k, k ≠ w 275 42 → w' 310 k = w 310 k)))) := by
  obtain ⟨d, rfl⟩ : ∃ e, d = e + 1 := ⟨d - 1, by omega⟩
  have hop := e_Has.get hT (c := 275) (k := 3) (lo := 0) (hi := 1) rfl (by decide)
  have hz := e_Has.get hT (c := 275) (k := 42) (lo := 0) (hi := 8) rfl (by decide)
  refine e_Ok.run (t' := (2, [(0, (1, 275)), (1, (0, p1)), (2, (0, p2)), (3, (0, p3)), (4, (0, p4)), (5, (0, p5))], [(0, p1), (1, 275)], w)) 2 rfl ?_
  refine e_Ok.callV rfl (by omega) rfl rfl rfl rfl (c_270 (by omega) hT) (fun r1 w2 h3 => ?_)
  have h4 := e_Has.get hT (c := 275) (k := 10) (lo := 0) (hi := 4) rfl (by decide)
  obtain ⟨z5, rfl, rfl, q6⟩ := h3
  obtain ⟨rfl, q6⟩ | ⟨rfl, q6⟩ := q6
  · show e_Ok 20 elay ecode eI (d + 1) 291 (5, [(0, (1, 275)), (1, (0, p1)), (2, (0, p2)), (3, (0, p3)), (4, (0, p4)), (5, (0, p5))], [(0, 1)], w) _
    refine e_Ok.if1 rfl (fun h7 => ?_) (fun h7 => ?_)
    · replace h7 : (1 : Int) = 0 := h7
      exfalso; omega
    · replace h7 : (1 : Int) ≠ 0 := by have q : ¬ ((1 : Int) = 0) := h7; omega
      refine e_Ok.run (t' := (14, [(0, (1, 275)), (1, (0, p1)), (2, (0, p2)), (3, (0, p3)), (4, (0, p4)), (5, (0, p5))], [(0, p5), (0, p4), (0, p3), (0, p2)], w)) 4 rfl ?_
      refine e_Ok.callS rfl (by omega) rfl rfl (c_273 (by omega) (by omega) (by omega)) (fun r8 w9 h10 => ?_)
      obtain ⟨z11, rfl, rfl, q12⟩ := h10
      obtain ⟨rfl, q12⟩ | ⟨rfl, q12⟩ := q12
      · show e_Ok 20 elay ecode eI (d + 1) 291 (17, [(0, (1, 275)), (1, (0, p1)), (2, (0, p2)), (3, (0, p3)), (4, (0, p4)), (5, (0, p5))], [(0, 1)], w) _
        refine e_Ok.if1 rfl (fun h13 => ?_) (fun h13 => ?_)
        · replace h13 : (1 : Int) ≠ 0 := h13
          refine e_Ok.run (t' := (23, [(0, (1, 275)), (1, (0, p1)), (2, (0, p2)), (3, (0, p3)), (4, (0, p4)), (5, (0, p5))], [(1, 275)], w)) 1 rfl ?_
          refine e_Ok.getf (z := w 275 3) rfl (el_o rfl) rfl rfl rfl (by omega) ?_
          refine e_Ok.if1 rfl (fun h14 => ?_) (fun h14 => ?_)
          · replace h14 : (w 275 3 : Int) = 0 := h14
            refine e_Ok.run (t' := (33, [(0, (1, 275)), (1, (0, p1)), (2, (0, p2)), (3, (0, p3)), (4, (0, p4)), (5, (0, p5))], [(1, 275)], w)) 1 rfl ?_
            refine e_Ok.getf (z := w 275 42) rfl (el_o rfl) rfl rfl rfl (by omega) ?_
            refine e_Ok.run (t' := (38, [(0, (1, 275)), (1, (0, p1)), (2, (0, p2)), (3, (0, p3)), (4, (0, p4)), (5, (0, p5))], [(0, 8), (0, w 275 42)], w)) 1 rfl ?_
            refine e_Ok.if2 rfl (fun h15 => ?_) (fun h15 => ?_)
            · replace h15 : (w 275 42 : Int) ≠ 8 := h15
              refine e_Ok.run (t' := (45, [(0, (1, 275)), (1, (0, p1)), (2, (0, p2)), (3, (0, p3)), (4, (0, p4)), (5, (0, p5))], [(1, 275)], w)) 1 rfl ?_
              refine e_Ok.getr (z := 310) rfl (el_o rfl) rfl rfl (e_Has.eq hT rfl) (by omega) ?_
              refine e_Ok.run (t' := (49, [(0, (1, 275)), (1, (0, p1)), (2, (0, p2)), (3, (0, p3)), (4, (0, p4)), (5, (0, p5))], [(1, 275), (1, 310)], w)) 1 rfl ?_
              refine e_Ok.getf (z := w 275 42) rfl (el_o rfl) rfl rfl rfl (by omega) ?_
              refine e_Ok.run (t' := (53, [(0, (1, 275)), (1, (0, p1)), (2, (0, p2)), (3, (0, p3)), (4, (0, p4)), (5, (0, p5))], [(0, p1), (0, w 275 42), (1, 310)], w)) 1 rfl ?_
              refine e_Ok.ast rfl (el_o rfl) rfl rfl (by omega) ?_
              generalize hw16 : e_up w 310 (w 275 42) p1 = w16
              have f17 : e_fr (mF 42 310 315) w w16 := e_fr.up (e_fr.refl w) hw16 (by unfold mF; omega)
              have hT18 : e_Has mTy w16 := e_Has.upr hT hw16 rfl (by omega)
              refine e_Ok.run (t' := (55, [(0, (1, 275)), (1, (0, p1)), (2, (0, p2)), (3, (0, p3)), (4, (0, p4)), (5, (0, p5))], [(1, 275)], w16)) 1 rfl ?_
              refine e_Ok.getr (z := 311) rfl (el_o rfl) rfl rfl (by rw [← hw16]; exact (e_up_ne _ _ (Or.inl (by omega))).trans (e_Has.eq hT rfl)) (by omega) ?_
              refine e_Ok.run (t' := (59, [(0, (1, 275)), (1, (0, p1)), (2, (0, p2)), (3, (0, p3)), (4, (0, p4)), (5, (0, p5))], [(1, 275), (1, 311)], w16)) 1 rfl ?_
              refine e_Ok.getf (z := w 275 42) rfl (el_o rfl) rfl rfl (by rw [← hw16]; exact (e_up_ne _ _ (Or.inl (by omega))).trans rfl) (by omega) ?_
              refine e_Ok.run (t' := (63, [(0, (1, 275)), (1, (0, p1)), (2, (0, p2)), (3, (0, p3)), (4, (0, p4)), (5, (0, p5))], [(0, p2), (0, w 275 42), (1, 311)], w16)) 1 rfl ?_
              refine e_Ok.ast rfl (el_o rfl) rfl rfl (by omega) ?_
              generalize hw19 : e_up w16 311 (w 275 42) p2 = w19
              have f20 : e_fr (mF 42 310 315) w w19 := e_fr.up f17 hw19 (by unfold mF; omega)
              have hT21 : e_Has mTy w19 := e_Has.upr hT18 hw19 rfl (by omega)
              refine e_Ok.run (t' := (65, [(0, (1, 275)), (1, (0, p1)), (2, (0, p2)), (3, (0, p3)), (4, (0, p4)), (5, (0, p5))], [(1, 275)], w19)) 1 rfl ?_
              refine e_Ok.getr (z := 312) rfl (el_o rfl) rfl rfl (by rw [← hw19]; exact (e_up_ne _ _ (Or.inl (by omega))).trans (by rw [← hw16]; exact (e_up_ne _ _ (Or.inl (by omega))).trans (e_Has.eq hT rfl))) (by omega) ?_
              refine e_Ok.run (t' := (69, [(0, (1, 275)), (1, (0, p1)), (2, (0, p2)), (3, (0, p3)), (4, (0, p4)), (5, (0, p5))], [(1, 275), (1, 312)], w19)) 1 rfl ?_
              refine e_Ok.getf (z := w 275 42) rfl (el_o rfl) rfl rfl (by rw [← hw19]; exact (e_up_ne _ _ (Or.inl (by omega))).trans (by rw [← hw16]; exact (e_up_ne _ _ (Or.inl (by omega))).trans rfl)) (by omega) ?_
              refine e_Ok.run (t' := (73, [(0, (1, 275)), (1, (0, p1)), (2, (0, p2)), (3, (0, p3)), (4, (0, p4)), (5, (0, p5))], [(0, p3), (0, w 275 42), (1, 312)], w19)) 1 rfl ?_
              refine e_Ok.ast rfl (el_o rfl) rfl rfl (by omega) ?_
              generalize hw22 : e_up w19 312 (w 275 42) p3 = w22
              have f23 : e_fr (mF 42 310 315) w w22 := e_fr.up f20 hw22 (by unfold mF; omega)
              have hT24 : e_Has mTy w22 := e_Has.upr hT21 hw22 rfl (by omega)
              refine e_Ok.run (t' := (75, [(0, (1, 275)), (1, (0, p1)), (2, (0, p2)), (3, (0, p3)), (4, (0, p4)), (5, (0, p5))], [(1, 275)], w22)) 1 rfl ?_
              refine e_Ok.getr (z := 313) rfl (el_o rfl) rfl rfl (by rw [← hw22]; exact (e_up_ne _ _ (Or.inl (by omega))).trans (by rw [← hw19]; exact (e_up_ne _ _ (Or.inl (by omega))).trans (by rw [← hw16]; exact (e_up_ne _ _ (Or.inl (by omega))).trans (e_Has.eq hT rfl)))) (by omega) ?_
              refine e_Ok.run (t' := (79, [(0, (1, 275)), (1, (0, p1)), (2, (0, p2)), (3, (0, p3)), (4, (0, p4)), (5, (0, p5))], [(1, 275), (1, 313)], w22)) 1 rfl ?_
              refine e_Ok.getf (z := w 275 42) rfl (el_o rfl) rfl rfl (by rw [← hw22]; exact (e_up_ne _ _ (Or.inl (by omega))).trans (by rw [← hw19]; exact (e_up_ne _ _ (Or.inl (by omega))).trans (by rw [← hw16]; exact (e_up_ne _ _ (Or.inl (by omega))).trans rfl))) (by omega) ?_
              refine e_Ok.run (t' := (84, [(0, (1, 275)), (1, (0, p1)), (2, (0, p2)), (3, (0, p3)), (4, (0, p4)), (5, (0, p5))], [(0, p4), (0, w 275 42), (1, 313)], w22)) 1 rfl ?_
              refine e_Ok.ast rfl (el_o rfl) rfl rfl (by omega) ?_
              generalize hw25 : e_up w22 313 (w 275 42) p4 = w25
              have f26 : e_fr (mF 42 310 315) w w25 := e_fr.up f23 hw25 (by unfold mF; omega)
              have hT27 : e_Has mTy w25 := e_Has.upr hT24 hw25 rfl (by omega)
              refine e_Ok.run (t' := (86, [(0, (1, 275)), (1, (0, p1)), (2, (0, p2)), (3, (0, p3)), (4, (0, p4)), (5, (0, p5))], [(1, 275)], w25)) 1 rfl ?_
              refine e_Ok.getr (z := 314) rfl (el_o rfl) rfl rfl (by rw [← hw25]; exact (e_up_ne _ _ (Or.inl (by omega))).trans (by rw [← hw22]; exact (e_up_ne _ _ (Or.inl (by omega))).trans (by rw [← hw19]; exact (e_up_ne _ _ (Or.inl (by omega))).trans (by rw [← hw16]; exact (e_up_ne _ _ (Or.inl (by omega))).trans (e_Has.eq hT rfl))))) (by omega) ?_
              refine e_Ok.run (t' := (90, [(0, (1, 275)), (1, (0, p1)), (2, (0, p2)), (3, (0, p3)), (4, (0, p4)), (5, (0, p5))], [(1, 275), (1, 314)], w25)) 1 rfl ?_
              refine e_Ok.getf (z := w 275 42) rfl (el_o rfl) rfl rfl (by rw [← hw25]; exact (e_up_ne _ _ (Or.inl (by omega))).trans (by rw [← hw22]; exact (e_up_ne _ _ (Or.inl (by omega))).trans (by rw [← hw19]; exact (e_up_ne _ _ (Or.inl (by omega))).trans (by rw [← hw16]; exact (e_up_ne _ _ (Or.inl (by omega))).trans rfl)))) (by omega) ?_
              refine e_Ok.run (t' := (95, [(0, (1, 275)), (1, (0, p1)), (2, (0, p2)), (3, (0, p3)), (4, (0, p4)), (5, (0, p5))], [(0, p5), (0, w 275 42), (1, 314)], w25)) 1 rfl ?_
              refine e_Ok.ast rfl (el_o rfl) rfl rfl (by omega) ?_
              generalize hw28 : e_up w25 314 (w 275 42) p5 = w28
              have f29 : e_fr (mF 42 310 315) w w28 := e_fr.up f26 hw28 (by unfold mF; omega)
              have hT30 : e_Has mTy w28 := e_Has.upr hT27 hw28 rfl (by omega)
              refine e_Ok.run (t' := (97, [(0, (1, 275)), (1, (0, p1)), (2, (0, p2)), (3, (0, p3)), (4, (0, p4)), (5, (0, p5))], [(1, 275)], w28)) 1 rfl ?_
              refine e_Ok.getr (z := 315) rfl (el_o rfl) rfl rfl (by rw [← hw28]; exact (e_up_ne _ _ (Or.inl (by omega))).trans (by rw [← hw25]; exact (e_up_ne _ _ (Or.inl (by omega))).trans (by rw [← hw22]; exact (e_up_ne _ _ (Or.inl (by omega))).trans (by rw [← hw19]; exact (e_up_ne _ _ (Or.inl (by omega))).trans (by rw [← hw16]; exact (e_up_ne _ _ (Or.inl (by omega))).trans (e_Has.eq hT rfl)))))) (by omega) ?_
              refine e_Ok.run (t' := (101, [(0, (1, 275)), (1, (0, p1)), (2, (0, p2)), (3, (0, p3)), (4, (0, p4)), (5, (0, p5))], [(1, 275), (1, 315)], w28)) 1 rfl ?_
              refine e_Ok.getf (z := w 275 42) rfl (el_o rfl) rfl rfl (by rw [← hw28]; exact (e_up_ne _ _ (Or.inl (by omega))).trans (by rw [← hw25]; exact (e_up_ne _ _ (Or.inl (by omega))).trans (by rw [← hw22]; exact (e_up_ne _ _ (Or.inl (by omega))).trans (by rw [← hw19]; exact (e_up_ne _ _ (Or.inl (by omega))).trans (by rw [← hw16]; exact (e_up_ne _ _ (Or.inl (by omega))).trans rfl))))) (by omega) ?_
              refine e_Ok.run (t' := (105, [(0, (1, 275)), (1, (0, p1)), (2, (0, p2)), (3, (0, p3)), (4, (0, p4)), (5, (0, p5))], [(0, (-1)), (0, w 275 42), (1, 315)], w28)) 1 rfl ?_
              refine e_Ok.ast rfl (el_o rfl) rfl rfl (by omega) ?_
              generalize hw31 : e_up w28 315 (w 275 42) (-1) = w31
              have f32 : e_fr (mF 42 310 315) w w31 := e_fr.up f29 hw31 (by unfold mF; omega)
              have hT33 : e_Has mTy w31 := e_Has.upr hT30 hw31 rfl (by omega)
              refine e_Ok.run (t' := (108, [(0, (1, 275)), (1, (0, p1)), (2, (0, p2)), (3, (0, p3)), (4, (0, p4)), (5, (0, p5))], [(1, 275), (1, 275)], w31)) 2 rfl ?_
              refine e_Ok.getf (z := w 275 42) rfl (el_o rfl) rfl rfl (by rw [← hw31]; exact (e_up_ne _ _ (Or.inl (by omega))).trans (by rw [← hw28]; exact (e_up_ne _ _ (Or.inl (by omega))).trans (by rw [← hw25]; exact (e_up_ne _ _ (Or.inl (by omega))).trans (by rw [← hw22]; exact (e_up_ne _ _ (Or.inl (by omega))).trans (by rw [← hw19]; exact (e_up_ne _ _ (Or.inl (by omega))).trans (by rw [← hw16]; exact (e_up_ne _ _ (Or.inl (by omega))).trans rfl)))))) (by omega) ?_
              refine e_Ok.run (t' := (112, [(0, (1, 275)), (1, (0, p1)), (2, (0, p2)), (3, (0, p3)), (4, (0, p4)), (5, (0, p5))], [(0, 1), (0, w 275 42), (1, 275)], w31)) 1 rfl ?_
              refine e_Ok.add (z := w 275 42 + 1) rfl (by omega) (by omega) ?_
              refine e_Ok.putf rfl (el_o rfl) rfl rfl ?_
              generalize hw34 : e_up w31 275 42 (w 275 42 + 1) = w34
              have f35 : e_fr (mF 42 310 315) w w34 := e_fr.up f32 hw34 (by unfold mF; omega)
              have hT36 : e_Has mTy w34 := e_Has.upr hT33 hw34 rfl (by omega)
              refine e_Ok.run (t' := (117, [(0, (1, 275)), (1, (0, p1)), (2, (0, p2)), (3, (0, p3)), (4, (0, p4)), (5, (0, p5))], [(1, 275)], w34)) 1 rfl ?_
              refine e_Ok.getf (z := w 275 42 + 1) rfl (el_o rfl) rfl rfl (by rw [← hw34]; exact e_up_eq _ _ _ _) (by omega) ?_
              refine e_Ok.run (t' := (121, [(0, (1, 275)), (1, (0, p1)), (2, (0, p2)), (3, (0, p3)), (4, (0, p4)), (5, (0, p5))], [(0, 1), (0, w 275 42 + 1)], w34)) 1 rfl ?_
              refine e_Ok.sub' (z := w 275 42) rfl (by omega) (by omega) ?_
              refine e_Ok.rets rfl rfl ?_
              have e42 : w34 275 42 = w 275 42 + 1 := (by rw [← hw34]; exact e_up_eq _ _ _ _)
              exact ⟨_, rfl, Or.inr ⟨by omega, f35, hT36, ⟨by omega, (by rw [← hw34]; exact (e_up_ne _ _ (Or.inl (by omega))).trans (by rw [← hw31]; exact (e_up_ne _ _ (Or.inl (by omega))).trans (by rw [← hw28]; exact (e_up_ne _ _ (Or.inl (by omega))).trans (by rw [← hw25]; exact (e_up_ne _ _ (Or.inl (by omega))).trans (by rw [← hw22]; exact (e_up_ne _ _ (Or.inl (by omega))).trans (by rw [← hw19]; exact (e_up_ne _ _ (Or.inl (by omega))).trans (by rw [← hw16]; exact e_up_eq _ _ _ _))))))), by omega, fun k q => (by rw [← hw34, ← hw31, ← hw28, ← hw25, ← hw22, ← hw19, ← hw16]; exact (e_up_ne _ _ (by omega)).trans ((e_up_ne _ _ (by omega)).trans ((e_up_ne _ _ (by omega)).trans ((e_up_ne _ _ (by omega)).trans ((e_up_ne _ _ (by omega)).trans ((e_up_ne _ _ (by omega)).trans ((e_up_ne _ _ (by omega)))))))))⟩⟩⟩
            · replace h15 : (w 275 42 : Int) = 8 := by have q : ¬ ((w 275 42 : Int) ≠ 8) := h15; omega
              refine e_Ok.run (t' := (43, [(0, (1, 275)), (1, (0, p1)), (2, (0, p2)), (3, (0, p3)), (4, (0, p4)), (5, (0, p5))], [(0, (-3))], w)) 1 rfl ?_
              refine e_Ok.rets rfl rfl ?_
              exact ⟨_, rfl, Or.inl rfl⟩
          · replace h14 : (w 275 3 : Int) ≠ 0 := by have q : ¬ ((w 275 3 : Int) = 0) := h14; omega
            refine e_Ok.run (t' := (31, [(0, (1, 275)), (1, (0, p1)), (2, (0, p2)), (3, (0, p3)), (4, (0, p4)), (5, (0, p5))], [(0, (-2))], w)) 1 rfl ?_
            refine e_Ok.rets rfl rfl ?_
            exact ⟨_, rfl, Or.inl rfl⟩
        · replace h13 : (1 : Int) = 0 := by have q : ¬ ((1 : Int) ≠ 0) := h13; omega
          exfalso; omega
      · show e_Ok 20 elay ecode eI (d + 1) 291 (17, [(0, (1, 275)), (1, (0, p1)), (2, (0, p2)), (3, (0, p3)), (4, (0, p4)), (5, (0, p5))], [(0, 0)], w) _
        refine e_Ok.if1 rfl (fun h37 => ?_) (fun h37 => ?_)
        · replace h37 : (0 : Int) ≠ 0 := h37
          exfalso; omega
        · replace h37 : (0 : Int) = 0 := by have q : ¬ ((0 : Int) ≠ 0) := h37; omega
          refine e_Ok.run (t' := (21, [(0, (1, 275)), (1, (0, p1)), (2, (0, p2)), (3, (0, p3)), (4, (0, p4)), (5, (0, p5))], [(0, (-1))], w)) 1 rfl ?_
          refine e_Ok.rets rfl rfl ?_
          exact ⟨_, rfl, Or.inl rfl⟩
  · show e_Ok 20 elay ecode eI (d + 1) 291 (5, [(0, (1, 275)), (1, (0, p1)), (2, (0, p2)), (3, (0, p3)), (4, (0, p4)), (5, (0, p5))], [(0, 0)], w) _
    refine e_Ok.if1 rfl (fun h38 => ?_) (fun h38 => ?_)
    · replace h38 : (0 : Int) = 0 := h38
      refine e_Ok.run (t' := (21, [(0, (1, 275)), (1, (0, p1)), (2, (0, p2)), (3, (0, p3)), (4, (0, p4)), (5, (0, p5))], [(0, (-1))], w)) 1 rfl ?_
      refine e_Ok.rets rfl rfl ?_
      exact ⟨_, rfl, Or.inl rfl⟩
    · replace h38 : (0 : Int) ≠ 0 := by have q : ¬ ((0 : Int) = 0) := h38; omega
      exfalso; omega
theorem c_292_b {d : Nat} (hd : 24 ≤ d) {w : eW} (hT : e_Has mTy w) {p1 p2 : Int} (g1 : (-2147483648) ≤ p1 ∧ p1 ≤ 2147483647) (g2 : (-2147483648) ≤ p2 ∧ p2 ≤ 2147483647) : e_Ok 20 elay ecode eI d 292 (0, [(0, (1, 275)), (1, (0, p1)), (2, (0, p2))], [], w) (fun r w' => ∃ z : Int, r = [(0, z)] ∧ (w = w' ∨ (w 275 3 = 0 ∧ e_fr (mF (-1) 315 315) w w' ∧ e_Has mTy w' ∧ True))) := by
  obtain ⟨d, rfl⟩ : ∃ e, d = e + 1 := ⟨d - 1, by omega⟩
  have hop := e_Has.get hT (c := 275) (k := 3) (lo := 0) (hi := 1) rfl (by decide)
  refine e_Ok.run (t' := (4, [(0, (1, 275)), (1, (0, p1)), (2, (0, p2))], [(1, 275), (4, 0), (4, p1)], w)) 4 rfl ?_
  have h1 := (e_Has.get hT (c := 275) (k := 42) (lo := 0) (hi := 8) rfl (by decide))
  refine e_Ok.getf (z := w 275 42) rfl (el_o rfl) rfl rfl rfl (by omega) ?_
  refine e_Ok.run (t' := (8, [(0, (1, 275)), (1, (0, p1)), (2, (0, p2))], [(0, 1), (0, w 275 42), (4, 0), (4, p1)], w)) 1 rfl ?_
  refine e_Ok.sub' (z := w 275 42 - 1) rfl (by omega) (by omega) ?_
  refine e_Ok.run (t' := (10, [(0, (1, 275)), (1, (0, p1)), (2, (0, p2))], [(4, w 275 42 - 1), (4, 0), (4, p1)], w)) 1 rfl ?_
  refine e_Ok.callS rfl (by omega) rfl rfl (c_266) (fun r2 w3 h4 => ?_)
  obtain ⟨z5, rfl, rfl, q6⟩ := h4
  obtain ⟨rfl, q6⟩ | ⟨rfl, q6⟩ := q6
  · show e_Ok 20 elay ecode eI (d + 1) 292 (13, [(0, (1, 275)), (1, (0, p1)), (2, (0, p2))], [(0, 1)], w) _
    refine e_Ok.if1 rfl (fun h7 => ?_) (fun h7 => ?_)
    · replace h7 : (1 : Int) = 0 := h7
      exfalso; omega
    · replace h7 : (1 : Int) ≠ 0 := by have q : ¬ ((1 : Int) = 0) := h7; omega
      refine e_Ok.run (t' := (24, [(0, (1, 275)), (1, (0, p1)), (2, (0, p2))], [(4, 32000), (4, (-1)), (4, p2)], w)) 4 rfl ?_
      refine e_Ok.callS rfl (by omega) rfl rfl (c_266) (fun r8 w9 h10 => ?_)
      obtain ⟨z11, rfl, rfl, q12⟩ := h10
      obtain ⟨rfl, q12⟩ | ⟨rfl, q12⟩ := q12
      · show e_Ok 20 elay ecode eI (d + 1) 292 (27, [(0, (1, 275)), (1, (0, p1)), (2, (0, p2))], [(0, 1)], w) _
        refine e_Ok.if1 rfl (fun h13 => ?_) (fun h13 => ?_)
        · replace h13 : (1 : Int) ≠ 0 := h13
          refine e_Ok.run (t' := (33, [(0, (1, 275)), (1, (0, p1)), (2, (0, p2))], [(1, 275)], w)) 1 rfl ?_
          refine e_Ok.getf (z := w 275 3) rfl (el_o rfl) rfl rfl rfl (by omega) ?_
          refine e_Ok.if1 rfl (fun h14 => ?_) (fun h14 => ?_)
          · replace h14 : (w 275 3 : Int) = 0 := h14
            refine e_Ok.run (t' := (43, [(0, (1, 275)), (1, (0, p1)), (2, (0, p2))], [(1, 275)], w)) 1 rfl ?_
            refine e_Ok.getr (z := 315) rfl (el_o rfl) rfl rfl (e_Has.eq hT rfl) (by omega) ?_
            refine e_Ok.run (t' := (47, [(0, (1, 275)), (1, (0, p1)), (2, (0, p2))], [(0, p1), (1, 315)], w)) 1 rfl ?_
            have h15 := (e_Has.get hT (c := 315) (k := p1) (lo := (-2147483648)) (hi := 2147483647) rfl (by decide))
            refine e_Ok.ald (z := w 315 p1) rfl (el_o rfl) rfl (by omega) rfl (by omega) ?_
            refine e_Ok.run (t' := (50, [(3, (0, w 315 p1)), (0, (1, 275)), (1, (0, p1)), (2, (0, p2))], [(1, 275)], w)) 2 rfl ?_
            refine e_Ok.getr (z := 315) rfl (el_o rfl) rfl rfl (e_Has.eq hT rfl) (by omega) ?_
            refine e_Ok.run (t' := (55, [(3, (0, w 315 p1)), (0, (1, 275)), (1, (0, p1)), (2, (0, p2))], [(0, p2), (0, p1), (1, 315)], w)) 2 rfl ?_
            refine e_Ok.ast rfl (el_o rfl) rfl rfl (by omega) ?_
            generalize hw16 : e_up w 315 p1 p2 = w16
            have f17 : e_fr (mF (-1) 315 315) w w16 := e_fr.up (e_fr.refl w) hw16 (by unfold mF; omega)
            have hT18 : e_Has mTy w16 := e_Has.upr hT hw16 rfl (by omega)
            refine e_Ok.run (t' := (57, [(3, (0, w 315 p1)), (0, (1, 275)), (1, (0, p1)), (2, (0, p2))], [(0, w 315 p1)], w16)) 1 rfl ?_
            refine e_Ok.rets rfl rfl ?_
            exact ⟨_, rfl, Or.inr ⟨by omega, f17, hT18, trivial⟩⟩
          · replace h14 : (w 275 3 : Int) ≠ 0 := by have q : ¬ ((w 275 3 : Int) = 0) := h14; omega
            refine e_Ok.run (t' := (41, [(0, (1, 275)), (1, (0, p1)), (2, (0, p2))], [(0, (-2))], w)) 1 rfl ?_
            refine e_Ok.rets rfl rfl ?_
            exact ⟨_, rfl, Or.inl rfl⟩
        · replace h13 : (1 : Int) = 0 := by have q : ¬ ((1 : Int) ≠ 0) := h13; omega
          exfalso; omega
      · show e_Ok 20 elay ecode eI (d + 1) 292 (27, [(0, (1, 275)), (1, (0, p1)), (2, (0, p2))], [(0, 0)], w) _
        refine e_Ok.if1 rfl (fun h19 => ?_) (fun h19 => ?_)
        · replace h19 : (0 : Int) ≠ 0 := h19
          exfalso; omega
        · replace h19 : (0 : Int) = 0 := by have q : ¬ ((0 : Int) ≠ 0) := h19; omega
          refine e_Ok.run (t' := (31, [(0, (1, 275)), (1, (0, p1)), (2, (0, p2))], [(0, (-1))], w)) 1 rfl ?_
          refine e_Ok.rets rfl rfl ?_
          exact ⟨_, rfl, Or.inl rfl⟩
  · show e_Ok 20 elay ecode eI (d + 1) 292 (13, [(0, (1, 275)), (1, (0, p1)), (2, (0, p2))], [(0, 0)], w) _
    refine e_Ok.if1 rfl (fun h20 => ?_) (fun h20 => ?_)
    · replace h20 : (0 : Int) = 0 := h20
      refine e_Ok.run (t' := (31, [(0, (1, 275)), (1, (0, p1)), (2, (0, p2))], [(0, (-1))], w)) 1 rfl ?_
      refine e_Ok.rets rfl rfl ?_
      exact ⟨_, rfl, Or.inl rfl⟩
    · replace h20 : (0 : Int) ≠ 0 := by have q : ¬ ((0 : Int) = 0) := h20; omega
      exfalso; omega
theorem c_293_b {d : Nat} (hd : 24 ≤ d) {w : eW} (hT : e_Has mTy w) {p1 : Int} (g1 : (-2147483648) ≤ p1 ∧ p1 ≤ 2147483647) : e_Ok 20 elay ecode eI d 293 (0, [(0, (1, 275)), (1, (0, p1))], [], w) (fun r w' => ∃ z : Int, r = [(0, z)] ∧ (w = w' ∨ (w 275 3 = 0 ∧ e_fr (mF 49 316 316) w w' ∧ e_Has mTy w' ∧ True))) := by
  obtain ⟨d, rfl⟩ : ∃ e, d = e + 1 := ⟨d - 1, by omega⟩
  have hop := e_Has.get hT (c := 275) (k := 3) (lo := 0) (hi := 1) rfl (by decide)
  refine e_Ok.run (t' := (6, [(0, (1, 275)), (1, (0, p1))], [(4, 1000), (4, 0), (4, p1)], w)) 4 rfl ?_
  refine e_Ok.callS rfl (by omega) rfl rfl (c_266) (fun r1 w2 h3 => ?_)
  obtain ⟨z4, rfl, rfl, q5⟩ := h3
  obtain ⟨rfl, q5⟩ | ⟨rfl, q5⟩ := q5
  · show e_Ok 20 elay ecode eI (d + 1) 293 (9, [(0, (1, 275)), (1, (0, p1))], [(0, 1)], w) _
    refine e_Ok.if1 rfl (fun h6 => ?_) (fun h6 => ?_)
    · replace h6 : (1 : Int) ≠ 0 := h6
      refine e_Ok.run (t' := (15, [(0, (1, 275)), (1, (0, p1))], [(1, 275)], w)) 1 rfl ?_
      refine e_Ok.getf (z := w 275 3) rfl (el_o rfl) rfl rfl rfl (by omega) ?_
      refine e_Ok.if1 rfl (fun h7 => ?_) (fun h7 => ?_)
      · replace h7 : (w 275 3 : Int) = 0 := h7
        refine e_Ok.run (t' := (25, [(0, (1, 275)), (1, (0, p1))], [(1, 275)], w)) 1 rfl ?_
        have h8 := (e_Has.get hT (c := 275) (k := 49) (lo := 0) (hi := 8) rfl (by decide))
        refine e_Ok.getf (z := w 275 49) rfl (el_o rfl) rfl rfl rfl (by omega) ?_
        refine e_Ok.run (t' := (30, [(0, (1, 275)), (1, (0, p1))], [(0, 8), (0, w 275 49)], w)) 1 rfl ?_
        refine e_Ok.if2 rfl (fun h9 => ?_) (fun h9 => ?_)
        · replace h9 : (w 275 49 : Int) ≠ 8 := h9
          refine e_Ok.run (t' := (37, [(0, (1, 275)), (1, (0, p1))], [(1, 275)], w)) 1 rfl ?_
          refine e_Ok.getr (z := 316) rfl (el_o rfl) rfl rfl (e_Has.eq hT rfl) (by omega) ?_
          refine e_Ok.run (t' := (41, [(0, (1, 275)), (1, (0, p1))], [(1, 275), (1, 316)], w)) 1 rfl ?_
          refine e_Ok.getf (z := w 275 49) rfl (el_o rfl) rfl rfl rfl (by omega) ?_
          refine e_Ok.run (t' := (45, [(0, (1, 275)), (1, (0, p1))], [(0, p1), (0, w 275 49), (1, 316)], w)) 1 rfl ?_
          refine e_Ok.ast rfl (el_o rfl) rfl rfl (by omega) ?_
          generalize hw10 : e_up w 316 (w 275 49) p1 = w10
          have f11 : e_fr (mF 49 316 316) w w10 := e_fr.up (e_fr.refl w) hw10 (by unfold mF; omega)
          have hT12 : e_Has mTy w10 := e_Has.upr hT hw10 rfl (by omega)
          refine e_Ok.run (t' := (48, [(0, (1, 275)), (1, (0, p1))], [(1, 275), (1, 275)], w10)) 2 rfl ?_
          refine e_Ok.getf (z := w 275 49) rfl (el_o rfl) rfl rfl (by rw [← hw10]; exact (e_up_ne _ _ (Or.inl (by omega))).trans rfl) (by omega) ?_
          refine e_Ok.run (t' := (52, [(0, (1, 275)), (1, (0, p1))], [(0, 1), (0, w 275 49), (1, 275)], w10)) 1 rfl ?_
          refine e_Ok.add (z := w 275 49 + 1) rfl (by omega) (by omega) ?_
          refine e_Ok.putf rfl (el_o rfl) rfl rfl ?_
          generalize hw13 : e_up w10 275 49 (w 275 49 + 1) = w13
          have f14 : e_fr (mF 49 316 316) w w13 := e_fr.up f11 hw13 (by unfold mF; omega)
          have hT15 : e_Has mTy w13 := e_Has.upr hT12 hw13 rfl (by omega)
          refine e_Ok.run (t' := (57, [(0, (1, 275)), (1, (0, p1))], [(1, 275)], w13)) 1 rfl ?_
          refine e_Ok.getf (z := w 275 49 + 1) rfl (el_o rfl) rfl rfl (by rw [← hw13]; exact e_up_eq _ _ _ _) (by omega) ?_
          refine e_Ok.run (t' := (61, [(0, (1, 275)), (1, (0, p1))], [(0, 1), (0, w 275 49 + 1)], w13)) 1 rfl ?_
          refine e_Ok.sub' (z := w 275 49) rfl (by omega) (by omega) ?_
          refine e_Ok.rets rfl rfl ?_
          exact ⟨_, rfl, Or.inr ⟨by omega, f14, hT15, trivial⟩⟩
        · replace h9 : (w 275 49 : Int) = 8 := by have q : ¬ ((w 275 49 : Int) ≠ 8) := h9; omega
          refine e_Ok.run (t' := (35, [(0, (1, 275)), (1, (0, p1))], [(0, (-3))], w)) 1 rfl ?_
          refine e_Ok.rets rfl rfl ?_
          exact ⟨_, rfl, Or.inl rfl⟩
      · replace h7 : (w 275 3 : Int) ≠ 0 := by have q : ¬ ((w 275 3 : Int) = 0) := h7; omega
        refine e_Ok.run (t' := (23, [(0, (1, 275)), (1, (0, p1))], [(0, (-2))], w)) 1 rfl ?_
        refine e_Ok.rets rfl rfl ?_
        exact ⟨_, rfl, Or.inl rfl⟩
    · replace h6 : (1 : Int) = 0 := by have q : ¬ ((1 : Int) ≠ 0) := h6; omega
      exfalso; omega
  · show e_Ok 20 elay ecode eI (d + 1) 293 (9, [(0, (1, 275)), (1, (0, p1))], [(0, 0)], w) _
    refine e_Ok.if1 rfl (fun h16 => ?_) (fun h16 => ?_)
    · replace h16 : (0 : Int) ≠ 0 := h16
      exfalso; omega
    · replace h16 : (0 : Int) = 0 := by have q : ¬ ((0 : Int) ≠ 0) := h16; omega
      refine e_Ok.run (t' := (13, [(0, (1, 275)), (1, (0, p1))], [(0, (-1))], w)) 1 rfl ?_
      refine e_Ok.rets rfl rfl ?_
      exact ⟨_, rfl, Or.inl rfl⟩
theorem c_294_b {d : Nat} (hd : 24 ≤ d) {w : eW} (hT : e_Has mTy w) {p1 p2 : Int} (g1 : (-2147483648) ≤ p1 ∧ p1 ≤ 2147483647) (g2 : 0 ≤ p2 ∧ p2 ≤ 1) : e_Ok 20 elay ecode eI d 294 (0, [(0, (1, 275)), (1, (0, p1)), (2, (0, p2))], [], w) (fun r w' => ∃ z : Int, r = [(0, z)] ∧ (w = w' ∨ (w 275 3 = 0 ∧ e_fr (mF (-1) 317 317) w w' ∧ e_Has mTy w' ∧ True))) := by
  obtain ⟨d, rfl⟩ : ∃ e, d = e + 1 := ⟨d - 1, by omega⟩
  have hop := e_Has.get hT (c := 275) (k := 3) (lo := 0) (hi := 1) rfl (by decide)
  refine e_Ok.run (t' := (6, [(0, (1, 275)), (1, (0, p1)), (2, (0, p2))], [(4, 7), (4, 0), (4, p1)], w)) 4 rfl ?_
  refine e_Ok.callS rfl (by omega) rfl rfl (c_266) (fun r1 w2 h3 => ?_)
  obtain ⟨z4, rfl, rfl, q5⟩ := h3
  obtain ⟨rfl, q5⟩ | ⟨rfl, q5⟩ := q5
  · show e_Ok 20 elay ecode eI (d + 1) 294 (9, [(0, (1, 275)), (1, (0, p1)), (2, (0, p2))], [(0, 1)], w) _
    refine e_Ok.if1 rfl (fun h6 => ?_) (fun h6 => ?_)
    · replace h6 : (1 : Int) ≠ 0 := h6
      refine e_Ok.run (t' := (15, [(0, (1, 275)), (1, (0, p1)), (2, (0, p2))], [(1, 275)], w)) 1 rfl ?_
      refine e_Ok.getf (z := w 275 3) rfl (el_o rfl) rfl rfl rfl (by omega) ?_
      refine e_Ok.if1 rfl (fun h7 => ?_) (fun h7 => ?_)
      · replace h7 : (w 275 3 : Int) = 0 := h7
        refine e_Ok.run (t' := (25, [(0, (1, 275)), (1, (0, p1)), (2, (0, p2))], [(1, 275)], w)) 1 rfl ?_
        refine e_Ok.getr (z := 317) rfl (el_o rfl) rfl rfl (e_Has.eq hT rfl) (by omega) ?_
        refine e_Ok.run (t' := (30, [(0, (1, 275)), (1, (0, p1)), (2, (0, p2))], [(0, p2), (0, p1), (1, 317)], w)) 2 rfl ?_
        refine e_Ok.ast rfl (el_o rfl) rfl (e_nar_b (by omega)) (by omega) ?_
        generalize hw8 : e_up w 317 p1 p2 = w8
        have f9 : e_fr (mF (-1) 317 317) w w8 := e_fr.up (e_fr.refl w) hw8 (by unfold mF; omega)
        have hT10 : e_Has mTy w8 := e_Has.upr hT hw8 rfl (by omega)
        refine e_Ok.run (t' := (32, [(0, (1, 275)), (1, (0, p1)), (2, (0, p2))], [(0, 0)], w8)) 1 rfl ?_
        refine e_Ok.rets rfl rfl ?_
        exact ⟨_, rfl, Or.inr ⟨by omega, f9, hT10, trivial⟩⟩
      · replace h7 : (w 275 3 : Int) ≠ 0 := by have q : ¬ ((w 275 3 : Int) = 0) := h7; omega
        refine e_Ok.run (t' := (23, [(0, (1, 275)), (1, (0, p1)), (2, (0, p2))], [(0, (-2))], w)) 1 rfl ?_
        refine e_Ok.rets rfl rfl ?_
        exact ⟨_, rfl, Or.inl rfl⟩
    · replace h6 : (1 : Int) = 0 := by have q : ¬ ((1 : Int) ≠ 0) := h6; omega
      exfalso; omega
  · show e_Ok 20 elay ecode eI (d + 1) 294 (9, [(0, (1, 275)), (1, (0, p1)), (2, (0, p2))], [(0, 0)], w) _
    refine e_Ok.if1 rfl (fun h11 => ?_) (fun h11 => ?_)
    · replace h11 : (0 : Int) ≠ 0 := h11
      exfalso; omega
    · replace h11 : (0 : Int) = 0 := by have q : ¬ ((0 : Int) ≠ 0) := h11; omega
      refine e_Ok.run (t' := (13, [(0, (1, 275)), (1, (0, p1)), (2, (0, p2))], [(0, (-1))], w)) 1 rfl ?_
      refine e_Ok.rets rfl rfl ?_
      exact ⟨_, rfl, Or.inl rfl⟩
theorem c_282_b {d : Nat} (hd : 24 ≤ d) {w : eW} (hT : e_Has mTy w) {p1 p2 p3 p4 p5 : Int} (g1 : 0 ≤ p1 ∧ p1 ≤ 1) (g2 : (-16000) ≤ p2 ∧ p2 ≤ 16000) (g3 : (-16000) ≤ p3 ∧ p3 ≤ 16000) (g4 : (-2147483648) ≤ p4 ∧ p4 ≤ 2147483647) (g5 : (-2147483648) ≤ p5 ∧ p5 ≤ 2147483647) : e_Ok 20 elay ecode eI d 282 (0, [(0, (1, 275)), (1, (0, p1)), (2, (0, p2)), (3, (0, p3)), (4, (0, p4)), (5, (0, p5))], [], w) (fun r w' => ∃ z : Int, r = [(0, z)] ∧ (w = w' ∨ (w 275 3 = 0 ∧ e_fr (mF 23 294 298) w w' ∧ e_Has mTy w' ∧ True))) := by
  have hop := e_Has.get hT (c := 275) (k := 3) (lo := 0) (hi := 1) rfl (by decide)
  refine e_Ok.run (t' := (1, [(0, (1, 275)), (1, (0, p1)), (2, (0, p2)), (3, (0, p3)), (4, (0, p4)), (5, (0, p5))], [(1, 275)], w)) 1 rfl ?_
  refine e_Ok.getf (z := w 275 3) rfl (el_o rfl) rfl rfl rfl (by omega) ?_
  refine e_Ok.if1 rfl (fun h1 => ?_) (fun h1 => ?_)
  · replace h1 : (w 275 3 : Int) = 0 := h1
    refine e_Ok.run (t' := (11, [(0, (1, 275)), (1, (0, p1)), (2, (0, p2)), (3, (0, p3)), (4, (0, p4)), (5, (0, p5))], [(1, 275)], w)) 1 rfl ?_
    have h2 := (e_Has.get hT (c := 275) (k := 23) (lo := 0) (hi := 16) rfl (by decide))
    refine e_Ok.getf (z := w 275 23) rfl (el_o rfl) rfl rfl rfl (by omega) ?_
    refine e_Ok.run (t' := (16, [(0, (1, 275)), (1, (0, p1)), (2, (0, p2)), (3, (0, p3)), (4, (0, p4)), (5, (0, p5))], [(0, 16), (0, w 275 23)], w)) 1 rfl ?_
    refine e_Ok.if2 rfl (fun h3 => ?_) (fun h3 => ?_)
    · replace h3 : (w 275 23 : Int) ≠ 16 := h3
      refine e_Ok.run (t' := (23, [(0, (1, 275)), (1, (0, p1)), (2, (0, p2)), (3, (0, p3)), (4, (0, p4)), (5, (0, p5))], [(1, 275)], w)) 1 rfl ?_
      refine e_Ok.getr (z := 294) rfl (el_o rfl) rfl rfl (e_Has.eq hT rfl) (by omega) ?_
      refine e_Ok.run (t' := (27, [(0, (1, 275)), (1, (0, p1)), (2, (0, p2)), (3, (0, p3)), (4, (0, p4)), (5, (0, p5))], [(1, 275), (1, 294)], w)) 1 rfl ?_
      refine e_Ok.getf (z := w 275 23) rfl (el_o rfl) rfl rfl rfl (by omega) ?_
      refine e_Ok.run (t' := (31, [(0, (1, 275)), (1, (0, p1)), (2, (0, p2)), (3, (0, p3)), (4, (0, p4)), (5, (0, p5))], [(0, p1), (0, w 275 23), (1, 294)], w)) 1 rfl ?_
      refine e_Ok.ast rfl (el_o rfl) rfl (e_nar_b (by omega)) (by omega) ?_
      generalize hw4 : e_up w 294 (w 275 23) p1 = w4
      have f5 : e_fr (mF 23 294 298) w w4 := e_fr.up (e_fr.refl w) hw4 (by unfold mF; omega)
      have hT6 : e_Has mTy w4 := e_Has.upr hT hw4 rfl (by omega)
      refine e_Ok.run (t' := (33, [(0, (1, 275)), (1, (0, p1)), (2, (0, p2)), (3, (0, p3)), (4, (0, p4)), (5, (0, p5))], [(1, 275)], w4)) 1 rfl ?_
      refine e_Ok.getr (z := 295) rfl (el_o rfl) rfl rfl (by rw [← hw4]; exact (e_up_ne _ _ (Or.inl (by omega))).trans (e_Has.eq hT rfl)) (by omega) ?_
      refine e_Ok.run (t' := (37, [(0, (1, 275)), (1, (0, p1)), (2, (0, p2)), (3, (0, p3)), (4, (0, p4)), (5, (0, p5))], [(1, 275), (1, 295)], w4)) 1 rfl ?_
      refine e_Ok.getf (z := w 275 23) rfl (el_o rfl) rfl rfl (by rw [← hw4]; exact (e_up_ne _ _ (Or.inl (by omega))).trans rfl) (by omega) ?_
      refine e_Ok.run (t' := (41, [(0, (1, 275)), (1, (0, p1)), (2, (0, p2)), (3, (0, p3)), (4, (0, p4)), (5, (0, p5))], [(0, p2), (0, w 275 23), (1, 295)], w4)) 1 rfl ?_
      refine e_Ok.ast rfl (el_o rfl) rfl rfl (by omega) ?_
      generalize hw7 : e_up w4 295 (w 275 23) p2 = w7
      have f8 : e_fr (mF 23 294 298) w w7 := e_fr.up f5 hw7 (by unfold mF; omega)
      have hT9 : e_Has mTy w7 := e_Has.upr hT6 hw7 rfl (by omega)
      refine e_Ok.run (t' := (43, [(0, (1, 275)), (1, (0, p1)), (2, (0, p2)), (3, (0, p3)), (4, (0, p4)), (5, (0, p5))], [(1, 275)], w7)) 1 rfl ?_
      refine e_Ok.getr (z := 296) rfl (el_o rfl) rfl rfl (by rw [← hw7]; exact (e_up_ne _ _ (Or.inl (by omega))).trans (by rw [← hw4]; exact (e_up_ne _ _ (Or.inl (by omega))).trans (e_Has.eq hT rfl))) (by omega) ?_
      refine e_Ok.run (t' := (47, [(0, (1, 275)), (1, (0, p1)), (2, (0, p2)), (3, (0, p3)), (4, (0, p4)), (5, (0, p5))], [(1, 275), (1, 296)], w7)) 1 rfl ?_
      refine e_Ok.getf (z := w 275 23) rfl (el_o rfl) rfl rfl (by rw [← hw7]; exact (e_up_ne _ _ (Or.inl (by omega))).trans (by rw [← hw4]; exact (e_up_ne _ _ (Or.inl (by omega))).trans rfl)) (by omega) ?_
      refine e_Ok.run (t' := (51, [(0, (1, 275)), (1, (0, p1)), (2, (0, p2)), (3, (0, p3)), (4, (0, p4)), (5, (0, p5))], [(0, p3), (0, w 275 23), (1, 296)], w7)) 1 rfl ?_
      refine e_Ok.ast rfl (el_o rfl) rfl rfl (by omega) ?_
      generalize hw10 : e_up w7 296 (w 275 23) p3 = w10
      have f11 : e_fr (mF 23 294 298) w w10 := e_fr.up f8 hw10 (by unfold mF; omega)
      have hT12 : e_Has mTy w10 := e_Has.upr hT9 hw10 rfl (by omega)
      refine e_Ok.run (t' := (53, [(0, (1, 275)), (1, (0, p1)), (2, (0, p2)), (3, (0, p3)), (4, (0, p4)), (5, (0, p5))], [(1, 275)], w10)) 1 rfl ?_
      refine e_Ok.getr (z := 297) rfl (el_o rfl) rfl rfl (by rw [← hw10]; exact (e_up_ne _ _ (Or.inl (by omega))).trans (by rw [← hw7]; exact (e_up_ne _ _ (Or.inl (by omega))).trans (by rw [← hw4]; exact (e_up_ne _ _ (Or.inl (by omega))).trans (e_Has.eq hT rfl)))) (by omega) ?_
      refine e_Ok.run (t' := (57, [(0, (1, 275)), (1, (0, p1)), (2, (0, p2)), (3, (0, p3)), (4, (0, p4)), (5, (0, p5))], [(1, 275), (1, 297)], w10)) 1 rfl ?_
      refine e_Ok.getf (z := w 275 23) rfl (el_o rfl) rfl rfl (by rw [← hw10]; exact (e_up_ne _ _ (Or.inl (by omega))).trans (by rw [← hw7]; exact (e_up_ne _ _ (Or.inl (by omega))).trans (by rw [← hw4]; exact (e_up_ne _ _ (Or.inl (by omega))).trans rfl))) (by omega) ?_
      refine e_Ok.run (t' := (62, [(0, (1, 275)), (1, (0, p1)), (2, (0, p2)), (3, (0, p3)), (4, (0, p4)), (5, (0, p5))], [(0, p4), (0, w 275 23), (1, 297)], w10)) 1 rfl ?_
      refine e_Ok.ast rfl (el_o rfl) rfl rfl (by omega) ?_
      generalize hw13 : e_up w10 297 (w 275 23) p4 = w13
      have f14 : e_fr (mF 23 294 298) w w13 := e_fr.up f11 hw13 (by unfold mF; omega)
      have hT15 : e_Has mTy w13 := e_Has.upr hT12 hw13 rfl (by omega)
      refine e_Ok.run (t' := (64, [(0, (1, 275)), (1, (0, p1)), (2, (0, p2)), (3, (0, p3)), (4, (0, p4)), (5, (0, p5))], [(1, 275)], w13)) 1 rfl ?_
      refine e_Ok.getr (z := 298) rfl (el_o rfl) rfl rfl (by rw [← hw13]; exact (e_up_ne _ _ (Or.inl (by omega))).trans (by rw [← hw10]; exact (e_up_ne _ _ (Or.inl (by omega))).trans (by rw [← hw7]; exact (e_up_ne _ _ (Or.inl (by omega))).trans (by rw [← hw4]; exact (e_up_ne _ _ (Or.inl (by omega))).trans (e_Has.eq hT rfl))))) (by omega) ?_
      refine e_Ok.run (t' := (68, [(0, (1, 275)), (1, (0, p1)), (2, (0, p2)), (3, (0, p3)), (4, (0, p4)), (5, (0, p5))], [(1, 275), (1, 298)], w13)) 1 rfl ?_
      refine e_Ok.getf (z := w 275 23) rfl (el_o rfl) rfl rfl (by rw [← hw13]; exact (e_up_ne _ _ (Or.inl (by omega))).trans (by rw [← hw10]; exact (e_up_ne _ _ (Or.inl (by omega))).trans (by rw [← hw7]; exact (e_up_ne _ _ (Or.inl (by omega))).trans (by rw [← hw4]; exact (e_up_ne _ _ (Or.inl (by omega))).trans rfl)))) (by omega) ?_
      refine e_Ok.run (t' := (73, [(0, (1, 275)), (1, (0, p1)), (2, (0, p2)), (3, (0, p3)), (4, (0, p4)), (5, (0, p5))], [(0, p5), (0, w 275 23), (1, 298)], w13)) 1 rfl ?_
      refine e_Ok.ast rfl (el_o rfl) rfl rfl (by omega) ?_
      generalize hw16 : e_up w13 298 (w 275 23) p5 = w16
      have f17 : e_fr (mF 23 294 298) w w16 := e_fr.up f14 hw16 (by unfold mF; omega)
      have hT18 : e_Has mTy w16 := e_Has.upr hT15 hw16 rfl (by omega)
      refine e_Ok.run (t' := (76, [(0, (1, 275)), (1, (0, p1)), (2, (0, p2)), (3, (0, p3)), (4, (0, p4)), (5, (0, p5))], [(1, 275), (1, 275)], w16)) 2 rfl ?_
      refine e_Ok.getf (z := w 275 23) rfl (el_o rfl) rfl rfl (by rw [← hw16]; exact (e_up_ne _ _ (Or.inl (by omega))).trans (by rw [← hw13]; exact (e_up_ne _ _ (Or.inl (by omega))).trans (by rw [← hw10]; exact (e_up_ne _ _ (Or.inl (by omega))).trans (by rw [← hw7]; exact (e_up_ne _ _ (Or.inl (by omega))).trans (by rw [← hw4]; exact (e_up_ne _ _ (Or.inl (by omega))).trans rfl))))) (by omega) ?_
      refine e_Ok.run (t' := (80, [(0, (1, 275)), (1, (0, p1)), (2, (0, p2)), (3, (0, p3)), (4, (0, p4)), (5, (0, p5))], [(0, 1), (0, w 275 23), (1, 275)], w16)) 1 rfl ?_
      refine e_Ok.add (z := w 275 23 + 1) rfl (by omega) (by omega) ?_
      refine e_Ok.putf rfl (el_o rfl) rfl rfl ?_
      generalize hw19 : e_up w16 275 23 (w 275 23 + 1) = w19
      have f20 : e_fr (mF 23 294 298) w w19 := e_fr.up f17 hw19 (by unfold mF; omega)
      have hT21 : e_Has mTy w19 := e_Has.upr hT18 hw19 rfl (by omega)
      refine e_Ok.run (t' := (85, [(0, (1, 275)), (1, (0, p1)), (2, (0, p2)), (3, (0, p3)), (4, (0, p4)), (5, (0, p5))], [(1, 275)], w19)) 1 rfl ?_
      refine e_Ok.getf (z := w 275 23 + 1) rfl (el_o rfl) rfl rfl (by rw [← hw19]; exact e_up_eq _ _ _ _) (by omega) ?_
      refine e_Ok.run (t' := (89, [(0, (1, 275)), (1, (0, p1)), (2, (0, p2)), (3, (0, p3)), (4, (0, p4)), (5, (0, p5))], [(0, 1), (0, w 275 23 + 1)], w19)) 1 rfl ?_
      refine e_Ok.sub' (z := w 275 23) rfl (by omega) (by omega) ?_
      refine e_Ok.rets rfl rfl ?_
      exact ⟨_, rfl, Or.inr ⟨by omega, f20, hT21, trivial⟩⟩
    · replace h3 : (w 275 23 : Int) = 16 := by have q : ¬ ((w 275 23 : Int) ≠ 16) := h3; omega
      refine e_Ok.run (t' := (21, [(0, (1, 275)), (1, (0, p1)), (2, (0, p2)), (3, (0, p3)), (4, (0, p4)), (5, (0, p5))], [(0, (-3))], w)) 1 rfl ?_
      refine e_Ok.rets rfl rfl ?_
      exact ⟨_, rfl, Or.inl rfl⟩
  · replace h1 : (w 275 3 : Int) ≠ 0 := by have q : ¬ ((w 275 3 : Int) = 0) := h1; omega
    refine e_Ok.run (t' := (9, [(0, (1, 275)), (1, (0, p1)), (2, (0, p2)), (3, (0, p3)), (4, (0, p4)), (5, (0, p5))], [(0, (-2))], w)) 1 rfl ?_
    refine e_Ok.rets rfl rfl ?_
    exact ⟨_, rfl, Or.inl rfl⟩
theorem c_283_b {d : Nat} (hd : 26 ≤ d) {w : eW} (hT : e_Has mTy w) {p1 p2 p3 : Int} (g1 : (-2147483648) ≤ p1 ∧ p1 ≤ 2147483647) (g2 : (-2147483648) ≤ p2 ∧ p2 ≤ 2147483647) (g3 : (-2147483648) ≤ p3 ∧ p3 ≤ 2147483647) : e_Ok 20 elay ecode eI d 283 (0, [(0, (1, 275)), (1, (0, p1)), (2, (0, p2)), (3, (0, p3))], [], w) (fun r w' => ∃ z : Int, r = [(0, z)] ∧ (w = w' ∨ (w 275 3 = 0 ∧ e_fr (mF 23 294 298) w w' ∧ e_Has mTy w' ∧ True))) := by
  obtain ⟨d, rfl⟩ : ∃ e, d = e + 1 := ⟨d - 1, by omega⟩
  have hop := e_Has.get hT (c := 275) (k := 3) (lo := 0) (hi := 1) rfl (by decide)
  refine e_Ok.run (t' := (2, [(0, (1, 275)), (1, (0, p1)), (2, (0, p2)), (3, (0, p3))], [(0, p2), (0, p1)], w)) 2 rfl ?_
  refine e_Ok.callS rfl (by omega) rfl rfl (c_272 (by omega)) (fun r1 w2 h3 => ?_)
  obtain ⟨z4, rfl, rfl, q5⟩ := h3
  obtain ⟨rfl, q5⟩ | ⟨rfl, q5⟩ := q5
  · show e_Ok 20 elay ecode eI (d + 1) 283 (5, [(0, (1, 275)), (1, (0, p1)), (2, (0, p2)), (3, (0, p3))], [(0, 1)], w) _
    refine e_Ok.if1 rfl (fun h6 => ?_) (fun h6 => ?_)
    · replace h6 : (1 : Int) = 0 := h6
      exfalso; omega
    · replace h6 : (1 : Int) ≠ 0 := by have q : ¬ ((1 : Int) = 0) := h6; omega
      refine e_Ok.run (t' := (14, [(0, (1, 275)), (1, (0, p1)), (2, (0, p2)), (3, (0, p3))], [(4, 8000), (4, 0), (4, p3)], w)) 4 rfl ?_
      refine e_Ok.callS rfl (by omega) rfl rfl (c_266) (fun r7 w8 h9 => ?_)
      obtain ⟨z10, rfl, rfl, q11⟩ := h9
      obtain ⟨rfl, q11⟩ | ⟨rfl, q11⟩ := q11
      · show e_Ok 20 elay ecode eI (d + 1) 283 (17, [(0, (1, 275)), (1, (0, p1)), (2, (0, p2)), (3, (0, p3))], [(0, 1)], w) _
        refine e_Ok.if1 rfl (fun h12 => ?_) (fun h12 => ?_)
        · replace h12 : (1 : Int) = 0 := h12
          exfalso; omega
        · replace h12 : (1 : Int) ≠ 0 := by have q : ¬ ((1 : Int) = 0) := h12; omega
          refine e_Ok.run (t' := (26, [(0, (1, 275)), (1, (0, p1)), (2, (0, p2)), (3, (0, p3))], [(0, 0), (0, p3), (0, p2), (0, p1), (0, 0), (1, 275)], w)) 6 rfl ?_
          refine e_Ok.callV rfl (by omega) rfl rfl rfl rfl (c_282_b (by omega) hT (by omega) (by omega) (by omega) (by omega) (by omega)) (fun r13 w14 h15 => ?_)
          obtain ⟨z16, rfl, q17⟩ := h15
          show e_Ok 20 elay ecode eI (d + 1) 283 (29, [(0, (1, 275)), (1, (0, p1)), (2, (0, p2)), (3, (0, p3))], [(0, z16)], w14) _
          refine e_Ok.run (t' := (33, [(0, (1, 275)), (1, (0, p1)), (2, (0, p2)), (3, (0, p3))], [(0, z16)], w14)) 1 rfl ?_
          refine e_Ok.rets rfl rfl ?_
          exact ⟨_, rfl, q17⟩
      · show e_Ok 20 elay ecode eI (d + 1) 283 (17, [(0, (1, 275)), (1, (0, p1)), (2, (0, p2)), (3, (0, p3))], [(0, 0)], w) _
        refine e_Ok.if1 rfl (fun h18 => ?_) (fun h18 => ?_)
        · replace h18 : (0 : Int) = 0 := h18
          refine e_Ok.run (t' := (33, [(0, (1, 275)), (1, (0, p1)), (2, (0, p2)), (3, (0, p3))], [(0, (-1))], w)) 1 rfl ?_
          refine e_Ok.rets rfl rfl ?_
          exact ⟨_, rfl, Or.inl rfl⟩
        · replace h18 : (0 : Int) ≠ 0 := by have q : ¬ ((0 : Int) = 0) := h18; omega
          exfalso; omega
  · show e_Ok 20 elay ecode eI (d + 1) 283 (5, [(0, (1, 275)), (1, (0, p1)), (2, (0, p2)), (3, (0, p3))], [(0, 0)], w) _
    refine e_Ok.if1 rfl (fun h19 => ?_) (fun h19 => ?_)
    · replace h19 : (0 : Int) = 0 := h19
      refine e_Ok.run (t' := (33, [(0, (1, 275)), (1, (0, p1)), (2, (0, p2)), (3, (0, p3))], [(0, (-1))], w)) 1 rfl ?_
      refine e_Ok.rets rfl rfl ?_
      exact ⟨_, rfl, Or.inl rfl⟩
    · replace h19 : (0 : Int) ≠ 0 := by have q : ¬ ((0 : Int) = 0) := h19; omega
      exfalso; omega
theorem c_284_b {d : Nat} (hd : 26 ≤ d) {w : eW} (hT : e_Has mTy w) {p1 p2 p3 p4 : Int} (g1 : (-2147483648) ≤ p1 ∧ p1 ≤ 2147483647) (g2 : (-2147483648) ≤ p2 ∧ p2 ≤ 2147483647) (g3 : (-2147483648) ≤ p3 ∧ p3 ≤ 2147483647) (g4 : (-2147483648) ≤ p4 ∧ p4 ≤ 2147483647) : e_Ok 20 elay ecode eI d 284 (0, [(0, (1, 275)), (1, (0, p1)), (2, (0, p2)), (3, (0, p3)), (4, (0, p4))], [], w) (fun r w' => ∃ z : Int, r = [(0, z)] ∧ (w = w' ∨ (w 275 3 = 0 ∧ e_fr (mF 23 294 298) w w' ∧ e_Has mTy w' ∧ True))) := by
  obtain ⟨d, rfl⟩ : ∃ e, d = e + 1 := ⟨d - 1, by omega⟩
  have hop := e_Has.get hT (c := 275) (k := 3) (lo := 0) (hi := 1) rfl (by decide)
  refine e_Ok.run (t' := (5, [(0, (1, 275)), (1, (0, p1)), (2, (0, p2)), (3, (0, p3)), (4, (0, p4))], [(0, p4), (0, p3), (0, p2), (0, p1)], w)) 4 rfl ?_
  refine e_Ok.callS rfl (by omega) rfl rfl (c_273 (by omega) (by omega) (by omega)) (fun r1 w2 h3 => ?_)
  obtain ⟨z4, rfl, rfl, q5⟩ := h3
  obtain ⟨rfl, q5⟩ | ⟨rfl, q5⟩ := q5
  · show e_Ok 20 elay ecode eI (d + 1) 284 (8, [(0, (1, 275)), (1, (0, p1)), (2, (0, p2)), (3, (0, p3)), (4, (0, p4))], [(0, 1)], w) _
    refine e_Ok.if1 rfl (fun h6 => ?_) (fun h6 => ?_)
    · replace h6 : (1 : Int) = 0 := h6
      exfalso; omega
    · replace h6 : (1 : Int) ≠ 0 := by have q : ¬ ((1 : Int) = 0) := h6; omega
      refine e_Ok.run (t' := (18, [(0, (1, 275)), (1, (0, p1)), (2, (0, p2)), (3, (0, p3)), (4, (0, p4))], [(0, p4), (0, p3), (0, p2), (0, p1), (0, 1), (1, 275)], w)) 6 rfl ?_
      refine e_Ok.callV rfl (by omega) rfl rfl rfl rfl (c_282_b (by omega) hT (by omega) (by omega) (by omega) (by omega) (by omega)) (fun r7 w8 h9 => ?_)
      obtain ⟨z10, rfl, q11⟩ := h9
      show e_Ok 20 elay ecode eI (d + 1) 284 (21, [(0, (1, 275)), (1, (0, p1)), (2, (0, p2)), (3, (0, p3)), (4, (0, p4))], [(0, z10)], w8) _
      refine e_Ok.run (t' := (25, [(0, (1, 275)), (1, (0, p1)), (2, (0, p2)), (3, (0, p3)), (4, (0, p4))], [(0, z10)], w8)) 1 rfl ?_
      refine e_Ok.rets rfl rfl ?_
      exact ⟨_, rfl, q11⟩
  · show e_Ok 20 elay ecode eI (d + 1) 284 (8, [(0, (1, 275)), (1, (0, p1)), (2, (0, p2)), (3, (0, p3)), (4, (0, p4))], [(0, 0)], w) _
    refine e_Ok.if1 rfl (fun h12 => ?_) (fun h12 => ?_)
    · replace h12 : (0 : Int) = 0 := h12
      refine e_Ok.run (t' := (25, [(0, (1, 275)), (1, (0, p1)), (2, (0, p2)), (3, (0, p3)), (4, (0, p4))], [(0, (-1))], w)) 1 rfl ?_
      refine e_Ok.rets rfl rfl ?_
      exact ⟨_, rfl, Or.inl rfl⟩
    · replace h12 : (0 : Int) ≠ 0 := by have q : ¬ ((0 : Int) = 0) := h12; omega
      exfalso; omega
end
