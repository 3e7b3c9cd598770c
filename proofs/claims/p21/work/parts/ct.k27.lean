noncomputable section
/-! the class: guard -/
theorem hm_kTc {c k : Int} (g : kTc c k) : kHm c k := by
  unfold kTc at g
  unfold kHm
  simp [g.1, g.2.1, g.2.2]
theorem hm_74 {k : Int} (hk : k = 0 ∨ 4 ≤ k) : kHm 74 k := by
  unfold kHm
  simp [hk]
set_option maxHeartbeats 4000000 in
theorem c_262 {d : Nat} (hd : 26 ≤ d) {w : eW} (hT : e_Has kTy w) {OP OD CL : Int → Int → Int} {h t0 : Int} (q : kI w OP OD CL h t0) (he : w 74 1 ≤ 2147000000) : e_Ok 20 elay kcode eI d 262 (0, [(0, (1, 0))], [], w) (fun r w' => r = [] ∧ e_Has kTy w' ∧ (e_fr kNq w w' ∧ w' 74 0 = w 74 0) ∧ kI w' OP OD CL h t0 ∧ w 74 1 ≤ w' 74 1 ∧ w' 74 1 ≤ w 74 1 + 5) := by
  obtain ⟨d, rfl⟩ : ∃ e, d = e + 1 := ⟨d - 1, by omega⟩
  have h74 := e_Has.get hT (c := 74) (k := 1) (lo := 0) (hi := 2147483647) rfl (by decide)
  refine e_Ok.run (t' := (1, [(0, (1, 0))], [(1, 0)], w)) 1 rfl ?_
  refine e_Ok.getr (z := 74) rfl (el_o rfl) rfl rfl (Eq.trans (e_Has.eq hT rfl) (by omega)) (by omega) ?_
  have h1 := (e_Has.get hT (c := 74) (k := 7) (lo := 0) (hi := 1) rfl (by decide))
  refine e_Ok.getf (z := w 74 7) rfl (el_o rfl) rfl rfl rfl (by omega) ?_
  refine e_Ok.if1 rfl (fun h2 => ?_) (fun h2 => ?_)
  · replace h2 : (w 74 7 : Int) = 0 := h2
    refine e_Ok.run (t' := (15, [(0, (1, 0))], [(1, 0)], w)) 1 rfl ?_
    refine e_Ok.callV rfl (by omega) rfl rfl rfl rfl (c_263 (by omega) hT (fun b g1 g2 => (q.arm g1 g2).1)) (fun r3 w4 h5 => ?_)
    obtain ⟨z6, rfl, q7f, q7T, q7r⟩ := h5
    have f8 : e_fr kNq w w4 := e_fr.trans (e_fr.refl w) (e_fr.mono q7f (fun c k q => by exact nq_kTc q))
    have Q9 := kI.hm q q7T (e_fr.mono q7f (fun c k g => hm_kTc g))
    show e_Ok 20 elay kcode eI (d + 1) 262 (18, [(0, (1, 0))], [(0, z6)], w4) _
    refine e_Ok.run (t' := (20, [(1, (0, z6)), (0, (1, 0))], [(0, z6)], w4)) 2 rfl ?_
    refine e_Ok.if1 rfl (fun h10 => ?_) (fun h10 => ?_)
    · replace h10 : (z6 : Int) < 0 := h10
      refine e_Ok.run (t' := (42, [(1, (0, z6)), (0, (1, 0))], [(1, 0)], w4)) 1 rfl ?_
      refine e_Ok.getr (z := 74) rfl (el_o rfl) rfl rfl ((q7f 0 5 (by unfold kTc; omega)).trans (Eq.trans (e_Has.eq hT rfl) (by omega))) (by omega) ?_
      refine e_Ok.run (t' := (46, [(1, (0, z6)), (0, (1, 0))], [(0, 1), (1, 74)], w4)) 1 rfl ?_
      refine e_Ok.putb rfl (el_o rfl) rfl rfl (by omega) ?_
      generalize hw11 : e_up w4 74 7 1 = w11
      have f12 : e_fr kNq w w11 := e_fr.up f8 hw11 (by unfold kNq; omega)
      have hT13 : e_Has kTy w11 := e_Has.upr q7T hw11 rfl (by omega)
      have Q14 := kI.hu Q9 hT13 hw11 (hm_74 (by omega))
      refine e_Ok.run (t' := (50, [(1, (0, z6)), (0, (1, 0))], [(1, 0)], w11)) 1 rfl ?_
      refine e_Ok.getr (z := 250) rfl (el_o rfl) rfl rfl (by rw [← hw11]; exact (e_up_ne _ _ (Or.inl (by omega))).trans ((q7f 0 6 (by unfold kTc; omega)).trans (Eq.trans (e_Has.eq hT rfl) (by omega)))) (by omega) ?_
      refine e_Ok.run (t' := (54, [(1, (0, z6)), (0, (1, 0))], [(1, 0), (1, 250)], w11)) 1 rfl ?_
      refine e_Ok.getr (z := 9) rfl (el_o rfl) rfl rfl (by rw [← hw11]; exact (e_up_ne _ _ (Or.inl (by omega))).trans ((q7f 0 2 (by unfold kTc; omega)).trans (Eq.trans (e_Has.eq hT rfl) (by omega)))) (by omega) ?_
      refine e_Ok.callV rfl (by omega) rfl rfl rfl rfl (c_169 (by omega) hT13 (fun b g1 g2 => (Q14.arm g1 g2).1) (fun b g1 g2 => (Q14.arm g1 g2).2.1)) (fun r15 w16 h17 => ?_)
      obtain ⟨z19, rfl, rfl, q18r⟩ := h17
      show e_Ok 20 elay kcode eI (d + 1) 262 (60, [(1, (0, z6)), (0, (1, 0))], [(0, z19)], w11) _
      refine e_Ok.run (t' := (62, [(2, (0, z19)), (1, (0, z6)), (0, (1, 0))], [(0, z19)], w11)) 2 rfl ?_
      refine e_Ok.if1 rfl (fun h20 => ?_) (fun h20 => ?_)
      · replace h20 : (z19 : Int) < 0 := h20
        refine e_Ok.rets rfl rfl ?_
        exact ⟨rfl, hT13, ⟨f12, (by rw [← hw11]; exact (e_up_ne _ _ (Or.inr (by omega))).trans ((q7f 74 0 (by unfold kTc; omega)).trans rfl))⟩, Q14, by rw [show w11 74 1 = w 74 1 from (by rw [← hw11]; exact (e_up_ne _ _ (Or.inr (by omega))).trans ((q7f 74 1 (by unfold kTc; omega)).trans rfl))]; omega, by rw [show w11 74 1 = w 74 1 from (by rw [← hw11]; exact (e_up_ne _ _ (Or.inr (by omega))).trans ((q7f 74 1 (by unfold kTc; omega)).trans rfl))]; omega⟩
      · replace h20 : (z19 : Int) ≥ 0 := by have q : ¬ ((z19 : Int) < 0) := h20; omega
        refine e_Ok.run (t' := (68, [(2, (0, z19)), (1, (0, z6)), (0, (1, 0))], [(0, z19), (0, 3), (1, 0)], w11)) 3 rfl ?_
        have ev9 : w11 74 1 = w 74 1 := (by rw [← hw11]; exact (e_up_ne _ _ (Or.inr (by omega))).trans ((q7f 74 1 (by unfold kTc; omega)).trans rfl))
        have tm9 : w11 74 0 = w 74 0 := (by rw [← hw11]; exact (e_up_ne _ _ (Or.inr (by omega))).trans ((q7f 74 0 (by unfold kTc; omega)).trans rfl))
        refine e_Ok.callV rfl (by omega) rfl rfl rfl rfl (c_265 (by omega) hT13 (by omega) (by omega) Q14 (by omega)) (fun r21 w22 h23 => ?_)
        obtain ⟨rfl, q24T, q24f, q24x⟩ := h23
        have f25 : e_fr kNq w w22 := e_fr.trans f12 (e_fr.mono q24f.1 (fun c k q => by exact q))
        show e_Ok 20 elay kcode eI (d + 1) 262 (71, [(2, (0, z19)), (1, (0, z6)), (0, (1, 0))], [], w22) _
        refine e_Ok.rets rfl rfl ?_
        exact ⟨rfl, q24T, ⟨f25, q24f.2.trans tm9⟩, q24x.1, by have g := q24x.2.2; omega, by have g := q24x.2.2; omega⟩
    · replace h10 : (z6 : Int) ≥ 0 := by have q : ¬ ((z6 : Int) < 0) := h10; omega
      refine e_Ok.jp rfl ⟨rfl, q7T, fun b g1 g2 => (Q9.arm g1 g2).1⟩ (fun w26 hw26 => ?_)
      have fHv : e_fr kHv w4 w26 := by rw [← hw26]; exact e_hk_fr _
      have QH := kI.hk Q9 hw26
      have f27 : e_fr kNq w w26 := e_fr.trans f8 (e_fr.mono fHv (fun c k q => by exact nq_kHv q))
      refine e_Ok.run (t' := (37, [(1, (0, z6)), (0, (1, 0))], [(0, z6), (0, 2), (1, 0)], w26)) 3 rfl ?_
      have ev9 : w26 74 1 = w 74 1 := ((fHv 74 1 (by unfold kHv; omega)).trans ((q7f 74 1 (by unfold kTc; omega)).trans rfl))
      have tm9 : w26 74 0 = w 74 0 := ((fHv 74 0 (by unfold kHv; omega)).trans ((q7f 74 0 (by unfold kTc; omega)).trans rfl))
      refine e_Ok.callV rfl (by omega) rfl rfl rfl rfl (c_265 (by omega) QH.1 (by omega) (by omega) QH (by omega)) (fun r28 w29 h30 => ?_)
      obtain ⟨rfl, q31T, q31f, q31x⟩ := h30
      have f32 : e_fr kNq w w29 := e_fr.trans f27 (e_fr.mono q31f.1 (fun c k q => by exact q))
      show e_Ok 20 elay kcode eI (d + 1) 262 (40, [(1, (0, z6)), (0, (1, 0))], [], w29) _
      refine e_Ok.rets rfl rfl ?_
      exact ⟨rfl, q31T, ⟨f32, q31f.2.trans tm9⟩, q31x.1, by have g := q31x.2.2; omega, by have g := q31x.2.2; omega⟩
  · replace h2 : (w 74 7 : Int) ≠ 0 := by have q : ¬ ((w 74 7 : Int) = 0) := h2; omega
    refine e_Ok.run (t' := (20, [(1, (0, (-1))), (0, (1, 0))], [(0, (-1))], w)) 4 rfl ?_
    refine e_Ok.if1 rfl (fun h33 => ?_) (fun h33 => ?_)
    · replace h33 : ((-1) : Int) < 0 := h33
      refine e_Ok.run (t' := (42, [(1, (0, (-1))), (0, (1, 0))], [(1, 0)], w)) 1 rfl ?_
      refine e_Ok.getr (z := 74) rfl (el_o rfl) rfl rfl (Eq.trans (e_Has.eq hT rfl) (by omega)) (by omega) ?_
      refine e_Ok.run (t' := (46, [(1, (0, (-1))), (0, (1, 0))], [(0, 1), (1, 74)], w)) 1 rfl ?_
      refine e_Ok.putb rfl (el_o rfl) rfl rfl (by omega) ?_
      generalize hw34 : e_up w 74 7 1 = w34
      have f35 : e_fr kNq w w34 := e_fr.up (e_fr.refl w) hw34 (by unfold kNq; omega)
      have hT36 : e_Has kTy w34 := e_Has.upr hT hw34 rfl (by omega)
      have Q37 := kI.hu q hT36 hw34 (hm_74 (by omega))
      refine e_Ok.run (t' := (50, [(1, (0, (-1))), (0, (1, 0))], [(1, 0)], w34)) 1 rfl ?_
      refine e_Ok.getr (z := 250) rfl (el_o rfl) rfl rfl (by rw [← hw34]; exact (e_up_ne _ _ (Or.inl (by omega))).trans (Eq.trans (e_Has.eq hT rfl) (by omega))) (by omega) ?_
      refine e_Ok.run (t' := (54, [(1, (0, (-1))), (0, (1, 0))], [(1, 0), (1, 250)], w34)) 1 rfl ?_
      refine e_Ok.getr (z := 9) rfl (el_o rfl) rfl rfl (by rw [← hw34]; exact (e_up_ne _ _ (Or.inl (by omega))).trans (Eq.trans (e_Has.eq hT rfl) (by omega))) (by omega) ?_
      refine e_Ok.callV rfl (by omega) rfl rfl rfl rfl (c_169 (by omega) hT36 (fun b g1 g2 => (Q37.arm g1 g2).1) (fun b g1 g2 => (Q37.arm g1 g2).2.1)) (fun r38 w40 h41 => ?_)
      obtain ⟨z43, rfl, rfl, q42r⟩ := h41
      show e_Ok 20 elay kcode eI (d + 1) 262 (60, [(1, (0, (-1))), (0, (1, 0))], [(0, z43)], w34) _
      refine e_Ok.run (t' := (62, [(2, (0, z43)), (1, (0, (-1))), (0, (1, 0))], [(0, z43)], w34)) 2 rfl ?_
      refine e_Ok.if1 rfl (fun h44 => ?_) (fun h44 => ?_)
      · replace h44 : (z43 : Int) < 0 := h44
        refine e_Ok.rets rfl rfl ?_
        exact ⟨rfl, hT36, ⟨f35, (by rw [← hw34]; exact (e_up_ne _ _ (Or.inr (by omega))).trans rfl)⟩, Q37, by rw [show w34 74 1 = w 74 1 from (by rw [← hw34]; exact (e_up_ne _ _ (Or.inr (by omega))).trans rfl)]; omega, by rw [show w34 74 1 = w 74 1 from (by rw [← hw34]; exact (e_up_ne _ _ (Or.inr (by omega))).trans rfl)]; omega⟩
      · replace h44 : (z43 : Int) ≥ 0 := by have q : ¬ ((z43 : Int) < 0) := h44; omega
        refine e_Ok.run (t' := (68, [(2, (0, z43)), (1, (0, (-1))), (0, (1, 0))], [(0, z43), (0, 3), (1, 0)], w34)) 3 rfl ?_
        have ev9 : w34 74 1 = w 74 1 := (by rw [← hw34]; exact (e_up_ne _ _ (Or.inr (by omega))).trans rfl)
        have tm9 : w34 74 0 = w 74 0 := (by rw [← hw34]; exact (e_up_ne _ _ (Or.inr (by omega))).trans rfl)
        refine e_Ok.callV rfl (by omega) rfl rfl rfl rfl (c_265 (by omega) hT36 (by omega) (by omega) Q37 (by omega)) (fun r45 w46 h47 => ?_)
        obtain ⟨rfl, q48T, q48f, q48x⟩ := h47
        have f49 : e_fr kNq w w46 := e_fr.trans f35 (e_fr.mono q48f.1 (fun c k q => by exact q))
        show e_Ok 20 elay kcode eI (d + 1) 262 (71, [(2, (0, z43)), (1, (0, (-1))), (0, (1, 0))], [], w46) _
        refine e_Ok.rets rfl rfl ?_
        exact ⟨rfl, q48T, ⟨f49, q48f.2.trans tm9⟩, q48x.1, by have g := q48x.2.2; omega, by have g := q48x.2.2; omega⟩
    · replace h33 : ((-1) : Int) ≥ 0 := by have q : ¬ (((-1) : Int) < 0) := h33; omega
      exfalso; omega
end
