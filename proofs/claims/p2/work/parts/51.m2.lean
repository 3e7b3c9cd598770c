noncomputable section
theorem c_313 {d : Nat} (hd : 4 ≤ d) {w : eW} (hT : e_Has mTy w) {a i u b k t m : Int} (ha : 0 ≤ a ∧ a ≤ 3) (hi : 0 ≤ i ∧ (i < w 286 a ∨ (i = w 286 a ∧ 0 ≤ w 276 (36 * a + 17)))) (hu : 0 ≤ u ∧ u ≤ 28) (hb : 0 ≤ b ∧ b ≤ 3) (hk : 0 ≤ k ∧ (k < w 286 b ∨ (k = w 286 b ∧ 0 ≤ w 276 (36 * b + 17)))) (ht : 0 ≤ t ∧ t ≤ 28) (k1 : e_kn w 321 u (u + w 286 a)) (k2 : e_kn w 322 u (u + w 286 a)) (k3 : e_kn w 321 t (t + w 286 b)) (k4 : e_kn w 322 t (t + w 286 b)) : e_Ok 1 elay ecode eI d 313 (0, [(0, (1, 275)), (1, (0, a)), (2, (0, i)), (3, (0, u)), (4, (0, b)), (5, (0, k)), (6, (0, t)), (7, (0, m))], [], w) (fun r w' => ∃ z : Int, r = [(0, z)] ∧ e_fr mL w w' ∧ 0 ≤ z ∧ z ≤ 1) := by
  obtain ⟨d, rfl⟩ : ∃ e, d = e + 1 := ⟨d - 1, by omega⟩
  have hja := (e_Has.get hT (c := 286) (k := a) (lo := 0) (hi := 6) rfl (by decide))
  have hjb := (e_Has.get hT (c := 286) (k := b) (lo := 0) (hi := 6) rfl (by decide))
  refine e_Ok.run (t' := (4, [(0, (1, 275)), (1, (0, a)), (2, (0, i)), (3, (0, u)), (4, (0, b)), (5, (0, k)), (6, (0, t)), (7, (0, m))], [(0, u), (0, i), (0, a), (1, 275)], w)) 4 rfl ?_
  refine e_Ok.callV rfl (by omega) rfl rfl rfl rfl (c_305 (by omega) hT (by omega) (by omega) (by omega)) (fun r1 w2 h3 => ?_)
  obtain ⟨rfl, q4, q4a, q4b, q4c⟩ := h3
  have f5 : e_fr mL w w2 := e_fr.trans (e_fr.refl w) (e_fr.mono q4 (fun c k q => by unfold mB at q; unfold mL; omega))
  have l6 : w2 286 a = w 286 a := f5 286 a (by unfold mL; omega)
  have l7 : w2 286 b = w 286 b := f5 286 b (by unfold mL; omega)
  have l8 : w2 276 (36 * a + 17) = w 276 (36 * a + 17) := f5 276 (36 * a + 17) (by unfold mL; omega)
  have l9 : w2 276 (36 * b + 17) = w 276 (36 * b + 17) := f5 276 (36 * b + 17) (by unfold mL; omega)
  show e_Ok 1 elay ecode eI (d + 1) 313 (7, [(0, (1, 275)), (1, (0, a)), (2, (0, i)), (3, (0, u)), (4, (0, b)), (5, (0, k)), (6, (0, t)), (7, (0, m))], [], w2) _
  refine e_Ok.run (t' := (9, [(0, (1, 275)), (1, (0, a)), (2, (0, i)), (3, (0, u)), (4, (0, b)), (5, (0, k)), (6, (0, t)), (7, (0, m))], [(1, 275), (1, 275)], w2)) 2 rfl ?_
  refine e_Ok.getr (z := 324) rfl rfl rfl rfl ((f5 275 61 (by unfold mL; omega)).trans (e_Has.eq hT rfl)) (by omega) ?_
  refine e_Ok.callV rfl (by omega) rfl rfl rfl rfl (c_312_324 (by omega) (mT_L f5 hT) q4a rfl (by omega) (e_kn_sub (e_kn.fr f5 (fun k q => by unfold mL at q; omega) k1) (by omega) (by omega)) (e_kn_sub (e_kn.fr f5 (fun k q => by unfold mL at q; omega) k2) (by omega) (by omega)) (e_kn_sub (e_kn.fr f5 (fun k q => by unfold mL at q; omega) k1) (by omega) (by omega)) (e_kn_sub (e_kn.fr f5 (fun k q => by unfold mL at q; omega) k2) (by omega) (by omega))) (fun r10 w11 h12 => ?_)
  obtain ⟨rfl, q13, q13k⟩ := h12
  have f14 : e_fr mL w w11 := e_fr.trans f5 (e_fr.mono q13 (fun c k q => by unfold m1 at q; unfold mL; omega))
  have l15 : w11 286 a = w 286 a := f14 286 a (by unfold mL; omega)
  have l16 : w11 286 b = w 286 b := f14 286 b (by unfold mL; omega)
  have l17 : w11 276 (36 * a + 17) = w 276 (36 * a + 17) := f14 276 (36 * a + 17) (by unfold mL; omega)
  have l18 : w11 276 (36 * b + 17) = w 276 (36 * b + 17) := f14 276 (36 * b + 17) (by unfold mL; omega)
  show e_Ok 1 elay ecode eI (d + 1) 313 (15, [(0, (1, 275)), (1, (0, a)), (2, (0, i)), (3, (0, u)), (4, (0, b)), (5, (0, k)), (6, (0, t)), (7, (0, m))], [], w11) _
  refine e_Ok.run (t' := (16, [(0, (1, 275)), (1, (0, a)), (2, (0, i)), (3, (0, u)), (4, (0, b)), (5, (0, k)), (6, (0, t)), (7, (0, m))], [(1, 275)], w11)) 1 rfl ?_
  refine e_Ok.getf (z := w2 275 60) rfl rfl rfl rfl ((q13 275 60 (by unfold m1; omega)).trans rfl) (by omega) ?_
  refine e_Ok.run (t' := (28, [(8, (0, w2 275 60)), (0, (1, 275)), (1, (0, a)), (2, (0, i)), (3, (0, u)), (4, (0, b)), (5, (0, k)), (6, (0, t)), (7, (0, m))], [(0, t), (0, k), (0, b), (1, 275)], w11)) 5 rfl ?_
  refine e_Ok.callV rfl (by omega) rfl rfl rfl rfl (c_305 (by omega) (mT_L f14 hT) (by omega) (by omega) (by omega)) (fun r19 w20 h21 => ?_)
  obtain ⟨rfl, q22, q22a, q22b, q22c⟩ := h21
  have f23 : e_fr mL w w20 := e_fr.trans f14 (e_fr.mono q22 (fun c k q => by unfold mB at q; unfold mL; omega))
  have l24 : w20 286 a = w 286 a := f23 286 a (by unfold mL; omega)
  have l25 : w20 286 b = w 286 b := f23 286 b (by unfold mL; omega)
  have l26 : w20 276 (36 * a + 17) = w 276 (36 * a + 17) := f23 276 (36 * a + 17) (by unfold mL; omega)
  have l27 : w20 276 (36 * b + 17) = w 276 (36 * b + 17) := f23 276 (36 * b + 17) (by unfold mL; omega)
  show e_Ok 1 elay ecode eI (d + 1) 313 (31, [(8, (0, w2 275 60)), (0, (1, 275)), (1, (0, a)), (2, (0, i)), (3, (0, u)), (4, (0, b)), (5, (0, k)), (6, (0, t)), (7, (0, m))], [], w20) _
  refine e_Ok.run (t' := (33, [(8, (0, w2 275 60)), (0, (1, 275)), (1, (0, a)), (2, (0, i)), (3, (0, u)), (4, (0, b)), (5, (0, k)), (6, (0, t)), (7, (0, m))], [(1, 275), (1, 275)], w20)) 2 rfl ?_
  refine e_Ok.getr (z := 325) rfl rfl rfl rfl ((f23 275 62 (by unfold mL; omega)).trans (e_Has.eq hT rfl)) (by omega) ?_
  refine e_Ok.callV rfl (by omega) rfl rfl rfl rfl (c_312_325 (by omega) (mT_L f23 hT) q22a rfl (by omega) (e_kn_sub (e_kn.fr f23 (fun k q => by unfold mL at q; omega) k3) (by omega) (by omega)) (e_kn_sub (e_kn.fr f23 (fun k q => by unfold mL at q; omega) k4) (by omega) (by omega)) (e_kn_sub (e_kn.fr f23 (fun k q => by unfold mL at q; omega) k3) (by omega) (by omega)) (e_kn_sub (e_kn.fr f23 (fun k q => by unfold mL at q; omega) k4) (by omega) (by omega))) (fun r28 w29 h30 => ?_)
  obtain ⟨rfl, q31, q31k⟩ := h30
  have f32 : e_fr mL w w29 := e_fr.trans f23 (e_fr.mono q31 (fun c k q => by unfold m2 at q; unfold mL; omega))
  have l33 : w29 286 a = w 286 a := f32 286 a (by unfold mL; omega)
  have l34 : w29 286 b = w 286 b := f32 286 b (by unfold mL; omega)
  have l35 : w29 276 (36 * a + 17) = w 276 (36 * a + 17) := f32 276 (36 * a + 17) (by unfold mL; omega)
  have l36 : w29 276 (36 * b + 17) = w 276 (36 * b + 17) := f32 276 (36 * b + 17) (by unfold mL; omega)
  show e_Ok 1 elay ecode eI (d + 1) 313 (39, [(8, (0, w2 275 60)), (0, (1, 275)), (1, (0, a)), (2, (0, i)), (3, (0, u)), (4, (0, b)), (5, (0, k)), (6, (0, t)), (7, (0, m))], [], w29) _
  refine e_Ok.run (t' := (40, [(8, (0, w2 275 60)), (0, (1, 275)), (1, (0, a)), (2, (0, i)), (3, (0, u)), (4, (0, b)), (5, (0, k)), (6, (0, t)), (7, (0, m))], [(1, 275)], w29)) 1 rfl ?_
  refine e_Ok.getr (z := 324) rfl rfl rfl rfl ((f32 275 61 (by unfold mL; omega)).trans (e_Has.eq hT rfl)) (by omega) ?_
  refine e_Ok.run (t' := (44, [(8, (0, w2 275 60)), (0, (1, 275)), (1, (0, a)), (2, (0, i)), (3, (0, u)), (4, (0, b)), (5, (0, k)), (6, (0, t)), (7, (0, m))], [(1, 275), (1, 324)], w29)) 1 rfl ?_
  refine e_Ok.getr (z := 325) rfl rfl rfl rfl ((f32 275 62 (by unfold mL; omega)).trans (e_Has.eq hT rfl)) (by omega) ?_
  refine e_Ok.run (t' := (50, [(8, (0, w2 275 60)), (0, (1, 275)), (1, (0, a)), (2, (0, i)), (3, (0, u)), (4, (0, b)), (5, (0, k)), (6, (0, t)), (7, (0, m))], [(1, 275), (0, w2 275 60), (1, 325), (1, 324)], w29)) 2 rfl ?_
  refine e_Ok.getf (z := w20 275 60) rfl rfl rfl rfl ((q31 275 60 (by unfold m2; omega)).trans rfl) (by omega) ?_
  refine e_Ok.add (z := w2 275 60 + w20 275 60) rfl (by omega) (by omega) ?_
  refine e_Ok.run (t' := (56, [(8, (0, w2 275 60)), (0, (1, 275)), (1, (0, a)), (2, (0, i)), (3, (0, u)), (4, (0, b)), (5, (0, k)), (6, (0, t)), (7, (0, m))], [(0, m), (0, w2 275 60 + w20 275 60), (1, 325), (1, 324)], w29)) 1 rfl ?_
  refine e_Ok.any rfl (eF_add_any _ _) (fun z37 z37a z37b => ?_)
  refine e_Ok.run (t' := (58, [(8, (0, w2 275 60)), (0, (1, 275)), (1, (0, a)), (2, (0, i)), (3, (0, u)), (4, (0, b)), (5, (0, k)), (6, (0, t)), (7, (0, m))], [(4, z37), (1, 325), (1, 324)], w29)) 1 rfl ?_
  refine e_Ok.callS rfl (by omega) rfl rfl (c_310 (by omega) (e_kn.fr q31 (fun k q => by unfold m2 at q; omega) (e_kn.fr q22 (fun k q => by unfold mB at q; omega) q13k)) q31k) (fun r38 w39 h40 => ?_)
  obtain ⟨z41, rfl, rfl, q42a, q42b⟩ := h40
  show e_Ok 1 elay ecode eI (d + 1) 313 (61, [(8, (0, w2 275 60)), (0, (1, 275)), (1, (0, a)), (2, (0, i)), (3, (0, u)), (4, (0, b)), (5, (0, k)), (6, (0, t)), (7, (0, m))], [(0, z41)], w29) _
  refine e_Ok.retb rfl (by omega) ?_
  exact ⟨_, rfl, f32, by omega, by omega⟩
end
