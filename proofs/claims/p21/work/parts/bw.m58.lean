noncomputable section
theorem c_278_x {d : Nat} (hd : 24 ≤ d) {w : eW} (hT : e_Has mTy w) {p1 p2 p3 p4 : Int} (g1 : -2147483648 ≤ p1 ∧ p1 ≤ 2147483647) (g2 : -2147483648 ≤ p2 ∧ p2 ≤ 2147483647) (g3 : -2147483648 ≤ p3 ∧ p3 ≤ 2147483647) (g4 : -2147483648 ≤ p4 ∧ p4 ≤ 2147483647) : e_Ok 20 elay ecode eI d 278 (0, [(0, (1, 275)), (1, (0, p1)), (2, (0, p2)), (3, (0, p3)), (4, (0, p4))], [], w) (fun r w' => ∃ z : Int, r = [(0, z)] ∧ ((w = w' ∧ ¬ ((-8000 ≤ p1 ∧ p1 ≤ 8000) ∧ (-8000 ≤ p2 ∧ p2 ≤ 8000) ∧ (0 ≤ p3 ∧ p3 ≤ 4095) ∧ (0 ≤ p4 ∧ p4 ≤ 800) ∧ w 275 3 = 0 ∧ w 275 10 ≤ 3)) ∨ (((-8000 ≤ p1 ∧ p1 ≤ 8000) ∧ (-8000 ≤ p2 ∧ p2 ≤ 8000) ∧ (0 ≤ p3 ∧ p3 ≤ 4095) ∧ (0 ≤ p4 ∧ p4 ≤ 800) ∧ w 275 3 = 0 ∧ w 275 10 ≤ 3) ∧ e_fr (mF 10 282 285) w w' ∧ e_Has mTy w' ∧ w' 275 10 = w 275 10 + 1))) := by
  obtain ⟨d, rfl⟩ : ∃ e, d = e + 1 := ⟨d - 1, by omega⟩
  have hop := e_Has.get hT (c := 275) (k := 3) (lo := 0) (hi := 1) rfl (by decide)
  have hr := e_Has.get hT (c := 275) (k := 10) (lo := 0) (hi := 4) rfl (by decide)
  refine e_Ok.run (t' := (8, [(0, (1, 275)), (1, (0, p1)), (2, (0, p2)), (3, (0, p3)), (4, (0, p4))], [(4, 8000), (4, (-8000)), (4, p1)], w)) 4 rfl ?_
  refine e_Ok.callS rfl (by omega) rfl rfl (c_266) (fun r1 w2 h3 => ?_)
  obtain ⟨z4, rfl, rfl, q5⟩ := h3
  obtain ⟨rfl, q5⟩ | ⟨rfl, q5⟩ := q5
  · show e_Ok 20 elay ecode eI (d + 1) 278 (11, [(0, (1, 275)), (1, (0, p1)), (2, (0, p2)), (3, (0, p3)), (4, (0, p4))], [(0, 1)], w) _
    refine e_Ok.if1 rfl (fun h6 => ?_) (fun h6 => ?_)
    · replace h6 : (1 : Int) = 0 := h6
      exfalso; omega
    · replace h6 : (1 : Int) ≠ 0 := by have q : ¬ ((1 : Int) = 0) := h6; omega
      refine e_Ok.run (t' := (22, [(0, (1, 275)), (1, (0, p1)), (2, (0, p2)), (3, (0, p3)), (4, (0, p4))], [(4, 8000), (4, (-8000)), (4, p2)], w)) 4 rfl ?_
      refine e_Ok.callS rfl (by omega) rfl rfl (c_266) (fun r7 w8 h9 => ?_)
      obtain ⟨z10, rfl, rfl, q11⟩ := h9
      obtain ⟨rfl, q11⟩ | ⟨rfl, q11⟩ := q11
      · show e_Ok 20 elay ecode eI (d + 1) 278 (25, [(0, (1, 275)), (1, (0, p1)), (2, (0, p2)), (3, (0, p3)), (4, (0, p4))], [(0, 1)], w) _
        refine e_Ok.if1 rfl (fun h12 => ?_) (fun h12 => ?_)
        · replace h12 : (1 : Int) = 0 := h12
          exfalso; omega
        · replace h12 : (1 : Int) ≠ 0 := by have q : ¬ ((1 : Int) = 0) := h12; omega
          refine e_Ok.run (t' := (34, [(0, (1, 275)), (1, (0, p1)), (2, (0, p2)), (3, (0, p3)), (4, (0, p4))], [(4, 4095), (4, 0), (4, p3)], w)) 4 rfl ?_
          refine e_Ok.callS rfl (by omega) rfl rfl (c_266) (fun r13 w14 h15 => ?_)
          obtain ⟨z16, rfl, rfl, q17⟩ := h15
          obtain ⟨rfl, q17⟩ | ⟨rfl, q17⟩ := q17
          · show e_Ok 20 elay ecode eI (d + 1) 278 (37, [(0, (1, 275)), (1, (0, p1)), (2, (0, p2)), (3, (0, p3)), (4, (0, p4))], [(0, 1)], w) _
            refine e_Ok.if1 rfl (fun h18 => ?_) (fun h18 => ?_)
            · replace h18 : (1 : Int) = 0 := h18
              exfalso; omega
            · replace h18 : (1 : Int) ≠ 0 := by have q : ¬ ((1 : Int) = 0) := h18; omega
              refine e_Ok.run (t' := (47, [(0, (1, 275)), (1, (0, p1)), (2, (0, p2)), (3, (0, p3)), (4, (0, p4))], [(4, 800), (4, 0), (4, p4)], w)) 4 rfl ?_
              refine e_Ok.callS rfl (by omega) rfl rfl (c_266) (fun r19 w20 h21 => ?_)
              obtain ⟨z22, rfl, rfl, q23⟩ := h21
              obtain ⟨rfl, q23⟩ | ⟨rfl, q23⟩ := q23
              · show e_Ok 20 elay ecode eI (d + 1) 278 (50, [(0, (1, 275)), (1, (0, p1)), (2, (0, p2)), (3, (0, p3)), (4, (0, p4))], [(0, 1)], w) _
                refine e_Ok.if1 rfl (fun h24 => ?_) (fun h24 => ?_)
                · replace h24 : (1 : Int) ≠ 0 := h24
                  refine e_Ok.run (t' := (56, [(0, (1, 275)), (1, (0, p1)), (2, (0, p2)), (3, (0, p3)), (4, (0, p4))], [(1, 275)], w)) 1 rfl ?_
                  refine e_Ok.getf (z := w 275 3) rfl (el_o rfl) rfl rfl rfl (by omega) ?_
                  refine e_Ok.if1 rfl (fun h25 => ?_) (fun h25 => ?_)
                  · replace h25 : (w 275 3 : Int) = 0 := h25
                    refine e_Ok.run (t' := (66, [(0, (1, 275)), (1, (0, p1)), (2, (0, p2)), (3, (0, p3)), (4, (0, p4))], [(1, 275)], w)) 1 rfl ?_
                    refine e_Ok.getf (z := w 275 10) rfl (el_o rfl) rfl rfl rfl (by omega) ?_
                    refine e_Ok.run (t' := (70, [(0, (1, 275)), (1, (0, p1)), (2, (0, p2)), (3, (0, p3)), (4, (0, p4))], [(0, 4), (0, w 275 10)], w)) 1 rfl ?_
                    refine e_Ok.if2 rfl (fun h26 => ?_) (fun h26 => ?_)
                    · replace h26 : (w 275 10 : Int) ≠ 4 := h26
                      refine e_Ok.run (t' := (77, [(0, (1, 275)), (1, (0, p1)), (2, (0, p2)), (3, (0, p3)), (4, (0, p4))], [(1, 275)], w)) 1 rfl ?_
                      refine e_Ok.getr (z := 282) rfl (el_o rfl) rfl rfl (e_Has.eq hT rfl) (by omega) ?_
                      refine e_Ok.run (t' := (81, [(0, (1, 275)), (1, (0, p1)), (2, (0, p2)), (3, (0, p3)), (4, (0, p4))], [(1, 275), (1, 282)], w)) 1 rfl ?_
                      refine e_Ok.getf (z := w 275 10) rfl (el_o rfl) rfl rfl rfl (by omega) ?_
                      refine e_Ok.run (t' := (85, [(0, (1, 275)), (1, (0, p1)), (2, (0, p2)), (3, (0, p3)), (4, (0, p4))], [(0, p1), (0, w 275 10), (1, 282)], w)) 1 rfl ?_
                      refine e_Ok.ast rfl (el_o rfl) rfl rfl (by omega) ?_
                      generalize hw27 : e_up w 282 (w 275 10) p1 = w27
                      have f28 : e_fr (mF 10 282 285) w w27 := e_fr.up (e_fr.refl w) hw27 (by unfold mF; omega)
                      have hT29 : e_Has mTy w27 := e_Has.upr hT hw27 rfl (by omega)
                      refine e_Ok.run (t' := (87, [(0, (1, 275)), (1, (0, p1)), (2, (0, p2)), (3, (0, p3)), (4, (0, p4))], [(1, 275)], w27)) 1 rfl ?_
                      refine e_Ok.getr (z := 283) rfl (el_o rfl) rfl rfl (by rw [← hw27]; exact (e_up_ne _ _ (Or.inl (by omega))).trans (e_Has.eq hT rfl)) (by omega) ?_
                      refine e_Ok.run (t' := (91, [(0, (1, 275)), (1, (0, p1)), (2, (0, p2)), (3, (0, p3)), (4, (0, p4))], [(1, 275), (1, 283)], w27)) 1 rfl ?_
                      refine e_Ok.getf (z := w 275 10) rfl (el_o rfl) rfl rfl (by rw [← hw27]; exact (e_up_ne _ _ (Or.inl (by omega))).trans rfl) (by omega) ?_
                      refine e_Ok.run (t' := (95, [(0, (1, 275)), (1, (0, p1)), (2, (0, p2)), (3, (0, p3)), (4, (0, p4))], [(0, p2), (0, w 275 10), (1, 283)], w27)) 1 rfl ?_
                      refine e_Ok.ast rfl (el_o rfl) rfl rfl (by omega) ?_
                      generalize hw30 : e_up w27 283 (w 275 10) p2 = w30
                      have f31 : e_fr (mF 10 282 285) w w30 := e_fr.up f28 hw30 (by unfold mF; omega)
                      have hT32 : e_Has mTy w30 := e_Has.upr hT29 hw30 rfl (by omega)
                      refine e_Ok.run (t' := (97, [(0, (1, 275)), (1, (0, p1)), (2, (0, p2)), (3, (0, p3)), (4, (0, p4))], [(1, 275)], w30)) 1 rfl ?_
                      refine e_Ok.getr (z := 284) rfl (el_o rfl) rfl rfl (by rw [← hw30]; exact (e_up_ne _ _ (Or.inl (by omega))).trans (by rw [← hw27]; exact (e_up_ne _ _ (Or.inl (by omega))).trans (e_Has.eq hT rfl))) (by omega) ?_
                      refine e_Ok.run (t' := (101, [(0, (1, 275)), (1, (0, p1)), (2, (0, p2)), (3, (0, p3)), (4, (0, p4))], [(1, 275), (1, 284)], w30)) 1 rfl ?_
                      refine e_Ok.getf (z := w 275 10) rfl (el_o rfl) rfl rfl (by rw [← hw30]; exact (e_up_ne _ _ (Or.inl (by omega))).trans (by rw [← hw27]; exact (e_up_ne _ _ (Or.inl (by omega))).trans rfl)) (by omega) ?_
                      refine e_Ok.run (t' := (105, [(0, (1, 275)), (1, (0, p1)), (2, (0, p2)), (3, (0, p3)), (4, (0, p4))], [(0, p3), (0, w 275 10), (1, 284)], w30)) 1 rfl ?_
                      refine e_Ok.ast rfl (el_o rfl) rfl rfl (by omega) ?_
                      generalize hw33 : e_up w30 284 (w 275 10) p3 = w33
                      have f34 : e_fr (mF 10 282 285) w w33 := e_fr.up f31 hw33 (by unfold mF; omega)
                      have hT35 : e_Has mTy w33 := e_Has.upr hT32 hw33 rfl (by omega)
                      refine e_Ok.run (t' := (107, [(0, (1, 275)), (1, (0, p1)), (2, (0, p2)), (3, (0, p3)), (4, (0, p4))], [(1, 275)], w33)) 1 rfl ?_
                      refine e_Ok.getr (z := 285) rfl (el_o rfl) rfl rfl (by rw [← hw33]; exact (e_up_ne _ _ (Or.inl (by omega))).trans (by rw [← hw30]; exact (e_up_ne _ _ (Or.inl (by omega))).trans (by rw [← hw27]; exact (e_up_ne _ _ (Or.inl (by omega))).trans (e_Has.eq hT rfl)))) (by omega) ?_
                      refine e_Ok.run (t' := (111, [(0, (1, 275)), (1, (0, p1)), (2, (0, p2)), (3, (0, p3)), (4, (0, p4))], [(1, 275), (1, 285)], w33)) 1 rfl ?_
                      refine e_Ok.getf (z := w 275 10) rfl (el_o rfl) rfl rfl (by rw [← hw33]; exact (e_up_ne _ _ (Or.inl (by omega))).trans (by rw [← hw30]; exact (e_up_ne _ _ (Or.inl (by omega))).trans (by rw [← hw27]; exact (e_up_ne _ _ (Or.inl (by omega))).trans rfl))) (by omega) ?_
                      refine e_Ok.run (t' := (116, [(0, (1, 275)), (1, (0, p1)), (2, (0, p2)), (3, (0, p3)), (4, (0, p4))], [(0, p4), (0, w 275 10), (1, 285)], w33)) 1 rfl ?_
                      refine e_Ok.ast rfl (el_o rfl) rfl rfl (by omega) ?_
                      generalize hw36 : e_up w33 285 (w 275 10) p4 = w36
                      have f37 : e_fr (mF 10 282 285) w w36 := e_fr.up f34 hw36 (by unfold mF; omega)
                      have hT38 : e_Has mTy w36 := e_Has.upr hT35 hw36 rfl (by omega)
                      refine e_Ok.run (t' := (119, [(0, (1, 275)), (1, (0, p1)), (2, (0, p2)), (3, (0, p3)), (4, (0, p4))], [(1, 275), (1, 275)], w36)) 2 rfl ?_
                      refine e_Ok.getf (z := w 275 10) rfl (el_o rfl) rfl rfl (by rw [← hw36]; exact (e_up_ne _ _ (Or.inl (by omega))).trans (by rw [← hw33]; exact (e_up_ne _ _ (Or.inl (by omega))).trans (by rw [← hw30]; exact (e_up_ne _ _ (Or.inl (by omega))).trans (by rw [← hw27]; exact (e_up_ne _ _ (Or.inl (by omega))).trans rfl)))) (by omega) ?_
                      refine e_Ok.run (t' := (123, [(0, (1, 275)), (1, (0, p1)), (2, (0, p2)), (3, (0, p3)), (4, (0, p4))], [(0, 1), (0, w 275 10), (1, 275)], w36)) 1 rfl ?_
                      refine e_Ok.add (z := w 275 10 + 1) rfl (by omega) (by omega) ?_
                      refine e_Ok.putf rfl (el_o rfl) rfl rfl ?_
                      generalize hw40 : e_up w36 275 10 (w 275 10 + 1) = w40
                      have f41 : e_fr (mF 10 282 285) w w40 := e_fr.up f37 hw40 (by unfold mF; omega)
                      have hT42 : e_Has mTy w40 := e_Has.upr hT38 hw40 rfl (by omega)
                      refine e_Ok.run (t' := (128, [(0, (1, 275)), (1, (0, p1)), (2, (0, p2)), (3, (0, p3)), (4, (0, p4))], [(1, 275)], w40)) 1 rfl ?_
                      refine e_Ok.getf (z := w 275 10 + 1) rfl (el_o rfl) rfl rfl (by rw [← hw40]; exact e_up_eq _ _ _ _) (by omega) ?_
                      refine e_Ok.run (t' := (132, [(0, (1, 275)), (1, (0, p1)), (2, (0, p2)), (3, (0, p3)), (4, (0, p4))], [(0, 1), (0, w 275 10 + 1)], w40)) 1 rfl ?_
                      refine e_Ok.sub' (z := w 275 10) rfl (by omega) (by omega) ?_
                      refine e_Ok.rets rfl rfl ?_
                      have e10 : w40 275 10 = w 275 10 + 1 := (by rw [← hw40]; exact e_up_eq _ _ _ _)
                      exact ⟨_, rfl, Or.inr ⟨by omega, f41, hT42, by omega⟩⟩
                    · replace h26 : (w 275 10 : Int) = 4 := by have q : ¬ ((w 275 10 : Int) ≠ 4) := h26; omega
                      refine e_Ok.run (t' := (75, [(0, (1, 275)), (1, (0, p1)), (2, (0, p2)), (3, (0, p3)), (4, (0, p4))], [(0, (-3))], w)) 1 rfl ?_
                      refine e_Ok.rets rfl rfl ?_
                      exact ⟨_, rfl, Or.inl ⟨rfl, by omega⟩⟩
                  · replace h25 : (w 275 3 : Int) ≠ 0 := by have q : ¬ ((w 275 3 : Int) = 0) := h25; omega
                    refine e_Ok.run (t' := (64, [(0, (1, 275)), (1, (0, p1)), (2, (0, p2)), (3, (0, p3)), (4, (0, p4))], [(0, (-2))], w)) 1 rfl ?_
                    refine e_Ok.rets rfl rfl ?_
                    exact ⟨_, rfl, Or.inl ⟨rfl, by omega⟩⟩
                · replace h24 : (1 : Int) = 0 := by have q : ¬ ((1 : Int) ≠ 0) := h24; omega
                  exfalso; omega
              · show e_Ok 20 elay ecode eI (d + 1) 278 (50, [(0, (1, 275)), (1, (0, p1)), (2, (0, p2)), (3, (0, p3)), (4, (0, p4))], [(0, 0)], w) _
                refine e_Ok.if1 rfl (fun h43 => ?_) (fun h43 => ?_)
                · replace h43 : (0 : Int) ≠ 0 := h43
                  exfalso; omega
                · replace h43 : (0 : Int) = 0 := by have q : ¬ ((0 : Int) ≠ 0) := h43; omega
                  refine e_Ok.run (t' := (54, [(0, (1, 275)), (1, (0, p1)), (2, (0, p2)), (3, (0, p3)), (4, (0, p4))], [(0, (-1))], w)) 1 rfl ?_
                  refine e_Ok.rets rfl rfl ?_
                  exact ⟨_, rfl, Or.inl ⟨rfl, by omega⟩⟩
          · show e_Ok 20 elay ecode eI (d + 1) 278 (37, [(0, (1, 275)), (1, (0, p1)), (2, (0, p2)), (3, (0, p3)), (4, (0, p4))], [(0, 0)], w) _
            refine e_Ok.if1 rfl (fun h44 => ?_) (fun h44 => ?_)
            · replace h44 : (0 : Int) = 0 := h44
              refine e_Ok.run (t' := (54, [(0, (1, 275)), (1, (0, p1)), (2, (0, p2)), (3, (0, p3)), (4, (0, p4))], [(0, (-1))], w)) 1 rfl ?_
              refine e_Ok.rets rfl rfl ?_
              exact ⟨_, rfl, Or.inl ⟨rfl, by omega⟩⟩
            · replace h44 : (0 : Int) ≠ 0 := by have q : ¬ ((0 : Int) = 0) := h44; omega
              exfalso; omega
      · show e_Ok 20 elay ecode eI (d + 1) 278 (25, [(0, (1, 275)), (1, (0, p1)), (2, (0, p2)), (3, (0, p3)), (4, (0, p4))], [(0, 0)], w) _
        refine e_Ok.if1 rfl (fun h45 => ?_) (fun h45 => ?_)
        · replace h45 : (0 : Int) = 0 := h45
          refine e_Ok.run (t' := (54, [(0, (1, 275)), (1, (0, p1)), (2, (0, p2)), (3, (0, p3)), (4, (0, p4))], [(0, (-1))], w)) 1 rfl ?_
          refine e_Ok.rets rfl rfl ?_
          exact ⟨_, rfl, Or.inl ⟨rfl, by omega⟩⟩
        · replace h45 : (0 : Int) ≠ 0 := by have q : ¬ ((0 : Int) = 0) := h45; omega
          exfalso; omega
  · show e_Ok 20 elay ecode eI (d + 1) 278 (11, [(0, (1, 275)), (1, (0, p1)), (2, (0, p2)), (3, (0, p3)), (4, (0, p4))], [(0, 0)], w) _
    refine e_Ok.if1 rfl (fun h46 => ?_) (fun h46 => ?_)
    · replace h46 : (0 : Int) = 0 := h46
      refine e_Ok.run (t' := (54, [(0, (1, 275)), (1, (0, p1)), (2, (0, p2)), (3, (0, p3)), (4, (0, p4))], [(0, (-1))], w)) 1 rfl ?_
      refine e_Ok.rets rfl rfl ?_
      exact ⟨_, rfl, Or.inl ⟨rfl, by omega⟩⟩
    · replace h46 : (0 : Int) ≠ 0 := by have q : ¬ ((0 : Int) = 0) := h46; omega
      exfalso; omega
theorem m_278x {d : Nat} (hd : 24 ≤ d) {w : eW} (h : mRel w) {p1 p2 p3 p4 : Int} (g1 : -2147483648 ≤ p1 ∧ p1 ≤ 2147483647) (g2 : -2147483648 ≤ p2 ∧ p2 ≤ 2147483647) (g3 : -2147483648 ≤ p3 ∧ p3 ≤ 2147483647) (g4 : -2147483648 ≤ p4 ∧ p4 ≤ 2147483647) : e_Ok 20 elay ecode eI d 278 (0, [(0, (1, 275)), (1, (0, p1)), (2, (0, p2)), (3, (0, p3)), (4, (0, p4))], [], w) (fun r w' => ∃ z : Int, r = [(0, z)] ∧ mRel w' ∧ w' 275 3 = w 275 3 ∧ w' 275 9 = w 275 9 ∧ ((¬ ((-8000 ≤ p1 ∧ p1 ≤ 8000) ∧ (-8000 ≤ p2 ∧ p2 ≤ 8000) ∧ (0 ≤ p3 ∧ p3 ≤ 4095) ∧ (0 ≤ p4 ∧ p4 ≤ 800) ∧ w 275 3 = 0 ∧ w 275 10 ≤ 3) ∧ w' 275 10 = w 275 10) ∨ (((-8000 ≤ p1 ∧ p1 ≤ 8000) ∧ (-8000 ≤ p2 ∧ p2 ≤ 8000) ∧ (0 ≤ p3 ∧ p3 ≤ 4095) ∧ (0 ≤ p4 ∧ p4 ≤ 800) ∧ w 275 3 = 0 ∧ w 275 10 ≤ 3) ∧ w' 275 10 = w 275 10 + 1))) :=
  (c_278_x hd h.1 g1 g2 g3 g4).imp (fun r w' q => by
    obtain ⟨z, hr, q⟩ := q
    rcases q with ⟨rfl, q⟩ | ⟨q1, q2, q3, q4⟩
    · exact ⟨z, hr, h, rfl, rfl, Or.inl ⟨q, rfl⟩⟩
    · obtain ⟨r1, r2, r3⟩ := h.bld q1.2.2.2.2.1 q2 q3 (by decide) (by decide) (fun G g => g.arm q2 q3 q4)
      exact ⟨z, hr, r1, r2, r3, Or.inr ⟨q1, q4⟩⟩)
end
