noncomputable section
/-! the class: what program answers -/
set_option maxHeartbeats 4000000 in
theorem c_210_r {d : Nat} (hd : 451 ≤ d) {w : eW} (hT : e_Has kTy w) (hH : e_Has kRy w) (hO : 0 ≤ w 0 13 ∧ w 0 13 ≤ 1) {cd a : Int} (hc : w 1 3 = cd) (hcd : isCd cd) (g_a : -2147483648 ≤ a ∧ a ≤ 2147483647) (hC : ∀ a, 0 ≤ a → a ≤ 3 → isCd (w (17 * a + 86) 7)) {Q : eW → Prop} (hQ : ∀ n d, e_Pn 20 elay kcode eI n d 119 (0, [(0, (1, 1))], [], w) (fun _ w' => Q w')) : e_Ok 20 elay kcode eI d 210 (0, [(0, (1, 0)), (1, (0, a))], [], w) (fun r w' => ∃ z : Int, r = [(0, z)] ∧ (((a < 0 ∨ w 0 11 ≤ a) ∧ z = -1) ∨ ((0 ≤ a ∧ a < w 0 11) ∧ ((w 0 13 = 1 ∧ z = -2) ∨ (w 0 13 = 0 ∧ ∃ w3, Q w3 ∧ ((w3 1 1 ≠ 0 ∧ z = e32 ((-10) - w3 1 2)) ∨ (w3 1 1 = 0 ∧ z = w3 cd 1))))))) := by
  obtain ⟨d, rfl⟩ : ∃ e, d = e + 1 := ⟨d - 1, by omega⟩
  have hw0 := e_Has.get hT (c := 0) (k := 11) (lo := 0) (hi := 4) rfl (by decide)
  have hcd2 := hcd; unfold isCd at hcd2
  have hcd3 : 2 ≤ cd ∧ cd ≤ 145 := by omega
  have h1r := e_Has.get hH (c := 1) (k := 2) (lo := (-2147483648)) (hi := 2147483647) rfl (by decide)
  refine e_Ok.run (t' := (2, [(0, (1, 0)), (1, (0, a))], [(0, a), (1, 0)], w)) 2 rfl ?_
  refine e_Ok.callV rfl (by omega) rfl rfl rfl rfl (c_246 (by omega) hT (by omega)) (fun r1 w2 h3 => ?_)
  obtain ⟨z4, rfl, rfl, q5⟩ := h3
  obtain ⟨rfl, q5⟩ | ⟨rfl, q5⟩ := q5
  · show e_Ok 20 elay kcode eI (d + 1) 210 (5, [(0, (1, 0)), (1, (0, a))], [(0, 1)], w) _
    refine e_Ok.if1 rfl (fun h6 => ?_) (fun h6 => ?_)
    · replace h6 : (1 : Int) ≠ 0 := h6
      have hca := hC a (by omega) (by omega); unfold isCd at hca
      refine e_Ok.run (t' := (11, [(0, (1, 0)), (1, (0, a))], [(1, 0)], w)) 1 rfl ?_
      refine e_Ok.getf (z := w 0 13) rfl rfl rfl rfl rfl (by omega) ?_
      refine e_Ok.if1 rfl (fun h7 => ?_) (fun h7 => ?_)
      · replace h7 : (w 0 13 : Int) = 0 := h7
        refine e_Ok.run (t' := (21, [(0, (1, 0)), (1, (0, a))], [(1, 0)], w)) 1 rfl ?_
        refine e_Ok.getr (z := 1) rfl rfl rfl rfl (Eq.trans (e_Has.eq hT rfl) (by omega)) (by omega) ?_
        refine e_Ok.callV rfl (by omega) rfl rfl rfl rfl (e_Ok.andP (show ([0] : List Nat).Nodup by decide) (c_119 (by omega) hT hH hc hcd) (fun n9 => hQ n9 _)) (fun r8 w9 h10 => ?_)
        obtain ⟨⟨rfl, qf, qT, qH, qc, qx⟩, qQ⟩ := h10
        have f11 : e_fr (kPg cd a) w w9 := e_fr.trans (e_fr.refl w) (e_fr.mono qf (fun c k q => by exact Or.inl q))
        show e_Ok 20 elay kcode eI (d + 1) 210 (27, [(0, (1, 0)), (1, (0, a))], [], w9) _
        refine e_Ok.run (t' := (28, [(0, (1, 0)), (1, (0, a))], [(1, 0)], w9)) 1 rfl ?_
        refine e_Ok.getr (z := 1) rfl rfl rfl rfl ((qf 0 0 (by unfold kRr; omega)).trans (Eq.trans (e_Has.eq hT rfl) (by omega))) (by omega) ?_
        refine e_Ok.run (t' := (32, [(0, (1, 0)), (1, (0, a))], [(0, 0), (1, 1)], w9)) 1 rfl ?_
        refine e_Ok.putf rfl rfl rfl rfl ?_
        generalize hw12 : e_up w9 1 0 0 = w12
        have f13 : e_fr (kPg cd a) w w12 := e_fr.up f11 hw12 (by unfold kPg kRr; omega)
        have hT14 : e_Has kTy w12 := e_Has.ups qT hw12 rfl
        have hH15 : e_Has kRy w12 := e_Has.upr qH hw12 rfl (by omega)
        refine e_Ok.run (t' := (36, [(0, (1, 0)), (1, (0, a))], [(1, 0)], w12)) 1 rfl ?_
        refine e_Ok.getr (z := 1) rfl rfl rfl rfl (by rw [← hw12]; exact (e_up_ne _ _ (Or.inl (by omega))).trans ((qf 0 0 (by unfold kRr; omega)).trans (Eq.trans (e_Has.eq hT rfl) (by omega)))) (by omega) ?_
        have h16 := (e_Has.get qH (c := 1) (k := 1) (lo := (-2147483648)) (hi := 2147483647) rfl (by decide))
        refine e_Ok.getf (z := w9 1 1) rfl rfl rfl rfl (by rw [← hw12]; exact (e_up_ne _ _ (Or.inr (by omega))).trans rfl) (by omega) ?_
        refine e_Ok.if1 rfl (fun h17 => ?_) (fun h17 => ?_)
        · replace h17 : (w9 1 1 : Int) = 0 := h17
          refine e_Ok.run (t' := (57, [(0, (1, 0)), (1, (0, a))], [(1, 0)], w12)) 1 rfl ?_
          refine e_Ok.getr (z := 1) rfl rfl rfl rfl (by rw [← hw12]; exact (e_up_ne _ _ (Or.inl (by omega))).trans ((qf 0 0 (by unfold kRr; omega)).trans (Eq.trans (e_Has.eq hT rfl) (by omega)))) (by omega) ?_
          refine e_Ok.run (t' := (61, [(0, (1, 0)), (1, (0, a))], [(1, 0), (1, 1)], w12)) 1 rfl ?_
          refine e_Ok.getr (z := 9) rfl rfl rfl rfl (by rw [← hw12]; exact (e_up_ne _ _ (Or.inl (by omega))).trans ((qf 0 2 (by unfold kRr; omega)).trans (Eq.trans (e_Has.eq hT rfl) (by omega)))) (by omega) ?_
          refine e_Ok.run (t' := (65, [(0, (1, 0)), (1, (0, a))], [(0, a), (1, 9), (1, 1)], w12)) 1 rfl ?_
          refine e_Ok.aald (z := 17 * a + 86) rfl rfl rfl (by omega) (by rw [← hw12]; exact (e_up_ne _ _ (Or.inl (by omega))).trans ((qf 9 a (by unfold kRr; omega)).trans (Eq.trans (e_Has.eq hT (k9 (by omega))) (by omega)))) (by omega) ?_
          refine e_Ok.run (t' := (67, [(0, (1, 0)), (1, (0, a))], [(1, 0), (1, 17 * a + 86), (1, 1)], w12)) 1 rfl ?_
          refine e_Ok.getr (z := 1) rfl rfl rfl rfl (by rw [← hw12]; exact (e_up_ne _ _ (Or.inl (by omega))).trans ((qf 0 0 (by unfold kRr; omega)).trans (Eq.trans (e_Has.eq hT rfl) (by omega)))) (by omega) ?_
          refine e_Ok.getr (z := cd) rfl rfl rfl rfl (by rw [← hw12]; exact (e_up_ne _ _ (Or.inr (by omega))).trans ((qf 1 3 (by unfold kRr; omega)).trans hc)) (by omega) ?_
          refine e_Ok.callV rfl (by omega) rfl (lA0 (a := a) (by omega) (by omega)) rfl rfl (c_4 hT14 (by omega) hcd (x := w (17 * a + 86) 7) (by rw [← hw12]; exact (e_up_ne _ _ (Or.inr (by omega))).trans ((qf (17 * a + 86) 7 (by unfold kRr; omega)).trans rfl)) (by omega)) (fun r18 w19 h20 => ?_)
          obtain ⟨rfl, ef, eT, ex⟩ := h20
          have f21 : e_fr (kPg cd a) w w19 := e_fr.trans f13 (e_fr.mono ef (fun c k q => by unfold kXc at q; unfold kPg kRr; omega))
          have eH : e_Has kRy w19 := H_fr ef (fun c k g => by unfold kXc at g; omega) hH15
          show e_Ok 20 elay kcode eI (d + 1) 210 (76, [(0, (1, 0)), (1, (0, a))], [(1, w (17 * a + 86) 7), (1, 1)], w19) _
          refine e_Ok.putr rfl rfl rfl rfl (by omega) ?_
          generalize hw22 : e_up w19 1 3 (w (17 * a + 86) 7) = w22
          have f23 : e_fr (kPg cd a) w w22 := e_fr.up f21 hw22 (by unfold kPg kRr; omega)
          have hT24 : e_Has kTy w22 := e_Has.ups eT hw22 rfl
          have hH25 : e_Has kRy w22 := e_Has.ups eH hw22 rfl
          refine e_Ok.run (t' := (80, [(0, (1, 0)), (1, (0, a))], [(1, 0)], w22)) 1 rfl ?_
          refine e_Ok.getr (z := 9) rfl rfl rfl rfl (by rw [← hw22]; exact (e_up_ne _ _ (Or.inl (by omega))).trans ((ef 0 2 (by unfold kXc; omega)).trans (by rw [← hw12]; exact (e_up_ne _ _ (Or.inl (by omega))).trans ((qf 0 2 (by unfold kRr; omega)).trans (Eq.trans (e_Has.eq hT rfl) (by omega)))))) (by omega) ?_
          refine e_Ok.run (t' := (84, [(0, (1, 0)), (1, (0, a))], [(0, a), (1, 9)], w22)) 1 rfl ?_
          refine e_Ok.aald (z := 17 * a + 86) rfl rfl rfl (by omega) (by rw [← hw22]; exact (e_up_ne _ _ (Or.inl (by omega))).trans ((ef 9 a (by unfold kXc; omega)).trans (by rw [← hw12]; exact (e_up_ne _ _ (Or.inl (by omega))).trans ((qf 9 a (by unfold kRr; omega)).trans (Eq.trans (e_Has.eq hT (k9 (by omega))) (by omega)))))) (by omega) ?_
          refine e_Ok.getr (z := cd) rfl (lA0 (a := a) (by omega) (by omega)) rfl rfl (by rw [← hw22]; exact (e_up_ne _ _ (Or.inr (by omega))).trans ex) (by omega) ?_
          have h26 := (e_Has.get qT (c := cd) (k := 1) (lo := 0) (hi := 32) (kD_1 hcd) (by decide))
          refine e_Ok.getf (z := w9 cd 1) rfl (lD0 hcd) rfl rfl (by rw [← hw22]; exact (e_up_ne _ _ (Or.inr (by omega))).trans ((ef cd 1 (by unfold kXc; omega)).trans (by rw [← hw12]; exact (e_up_ne _ _ (Or.inr (by omega))).trans rfl))) (by omega) ?_
          refine e_Ok.rets rfl rfl ?_
          exact ⟨_, rfl, Or.inr ⟨by omega, Or.inr ⟨by omega, w9, qQ, Or.inr ⟨by omega, by rfl⟩⟩⟩⟩
        · replace h17 : (w9 1 1 : Int) ≠ 0 := by have q : ¬ ((w9 1 1 : Int) = 0) := h17; omega
          refine e_Ok.run (t' := (48, [(0, (1, 0)), (1, (0, a))], [(1, 0), (0, (-10))], w12)) 2 rfl ?_
          refine e_Ok.getr (z := 1) rfl rfl rfl rfl (by rw [← hw12]; exact (e_up_ne _ _ (Or.inl (by omega))).trans ((qf 0 0 (by unfold kRr; omega)).trans (Eq.trans (e_Has.eq hT rfl) (by omega)))) (by omega) ?_
          have h27 := (e_Has.get qH (c := 1) (k := 2) (lo := (-2147483648)) (hi := 2147483647) rfl (by decide))
          refine e_Ok.getf (z := w9 1 2) rfl rfl rfl rfl (by rw [← hw12]; exact (e_up_ne _ _ (Or.inr (by omega))).trans rfl) (by omega) ?_
          refine e_Ok.step (t' := (55, [(0, (1, 0)), (1, (0, a))], [(0, e32 ((-10) - (w9 1 2)))], w12)) rfl rfl ?_
          refine e_Ok.rets rfl rfl ?_
          exact ⟨_, rfl, Or.inr ⟨by omega, Or.inr ⟨by omega, w9, qQ, Or.inl ⟨by omega, rfl⟩⟩⟩⟩
      · replace h7 : (w 0 13 : Int) ≠ 0 := by have q : ¬ ((w 0 13 : Int) = 0) := h7; omega
        refine e_Ok.run (t' := (19, [(0, (1, 0)), (1, (0, a))], [(0, (-2))], w)) 1 rfl ?_
        refine e_Ok.rets rfl rfl ?_
        exact ⟨_, rfl, Or.inr ⟨by omega, Or.inl ⟨by omega, rfl⟩⟩⟩
    · replace h6 : (1 : Int) = 0 := by have q : ¬ ((1 : Int) ≠ 0) := h6; omega
      exfalso; omega
  · show e_Ok 20 elay kcode eI (d + 1) 210 (5, [(0, (1, 0)), (1, (0, a))], [(0, 0)], w) _
    refine e_Ok.if1 rfl (fun h28 => ?_) (fun h28 => ?_)
    · replace h28 : (0 : Int) ≠ 0 := h28
      exfalso; omega
    · replace h28 : (0 : Int) = 0 := by have q : ¬ ((0 : Int) ≠ 0) := h28; omega
      refine e_Ok.run (t' := (9, [(0, (1, 0)), (1, (0, a))], [(0, (-1))], w)) 1 rfl ?_
      refine e_Ok.rets rfl rfl ?_
      exact ⟨_, rfl, Or.inl ⟨by omega, rfl⟩⟩
end
