noncomputable section
theorem no_51_0 {k : Int} : ¬ mL 286 k := by unfold mL; omega
theorem no_51_1 {k : Int} : ¬ mL 276 k := by unfold mL; omega
theorem no_51_2 : ¬ mL 275 61 := by unfold mL; omega
theorem no_51_3 {k : Int} : ¬ m1 275 k := by unfold m1; omega
theorem no_51_4 : ¬ mL 275 62 := by unfold mL; omega
theorem no_51_5 {k : Int} : ¬ m2 275 k := by unfold m2; omega
theorem su_51_19 {c k : Int} (q : mB c k) : mL c k := by
  unfold mB at q
  rcases q with ⟨q, ⟨q, q⟩⟩
  · exact Or.inl ⟨(by omega), ⟨(by omega), (by omega)⟩⟩
theorem su_51_20 {c k : Int} (q : m1 c k) : mL c k := by
  unfold m1 at q
  rcases q with q
  · exact Or.inr (Or.inl (by omega))
theorem su_51_21 {c k : Int} (q : m2 c k) : mL c k := by
  unfold m2 at q
  rcases q with q
  · exact Or.inr (Or.inr (by omega))
theorem c_313 {d : Nat} (hd : 23 ≤ d) {w : eW} (hT : e_Has mTy w) {a i u b k t m : Int} (ha : 0 ≤ a ∧ a ≤ 3) (hi : 0 ≤ i ∧ (i < w 286 a ∨ (i = w 286 a ∧ 0 ≤ w 276 (36 * a + 17)))) (hu : 0 ≤ u ∧ u ≤ 28) (hb : 0 ≤ b ∧ b ≤ 3) (hk : 0 ≤ k ∧ (k < w 286 b ∨ (k = w 286 b ∧ 0 ≤ w 276 (36 * b + 17)))) (ht : 0 ≤ t ∧ t ≤ 28) (k1 : e_kn w 321 u (u + w 286 a)) (k2 : e_kn w 322 u (u + w 286 a)) (k3 : e_kn w 321 t (t + w 286 b)) (k4 : e_kn w 322 t (t + w 286 b)) : e_Ok 20 elay ecode eI d 313 (0, [(0, (1, 275)), (1, (0, a)), (2, (0, i)), (3, (0, u)), (4, (0, b)), (5, (0, k)), (6, (0, t)), (7, (0, m))], [], w) (fun r w' => ∃ z : Int, r = [(0, z)] ∧ e_fr mL w w' ∧ 0 ≤ z ∧ z ≤ 1) := by
  obtain ⟨d, rfl⟩ : ∃ e, d = e + 1 := ⟨d - 1, by omega⟩
  have hja := (e_Has.get hT (c := 286) (k := a) (lo := 0) (hi := 6) rfl (by decide))
  have hjb := (e_Has.get hT (c := 286) (k := b) (lo := 0) (hi := 6) rfl (by decide))
  refine e_Ok.run (t' := (4, [(0, (1, 275)), (1, (0, a)), (2, (0, i)), (3, (0, u)), (4, (0, b)), (5, (0, k)), (6, (0, t)), (7, (0, m))], [(0, u), (0, i), (0, a), (1, 275)], w)) 4 rfl ?_
  refine e_Ok.callV rfl (by omega) rfl rfl rfl rfl (c_305 (by omega) hT (by omega) (by omega) (by omega)) (fun r1 w2 h3 => ?_)
  obtain ⟨rfl, q4, q4a, q4b, q4c⟩ := h3
  have f5 : e_fr mL w w2 := e_fr.trans (e_fr.refl w) (e_fr.mono q4 (fun c k q => su_51_19 q))
  have l6 : w2 286 a = w 286 a := f5 286 a no_51_0
  have l7 : w2 286 b = w 286 b := f5 286 b no_51_0
  have l8 : w2 276 (36 * a + 17) = w 276 (36 * a + 17) := f5 276 (36 * a + 17) no_51_1
  have l9 : w2 276 (36 * b + 17) = w 276 (36 * b + 17) := f5 276 (36 * b + 17) no_51_1
  show e_Ok 20 elay ecode eI (d + 1) 313 (7, [(0, (1, 275)), (1, (0, a)), (2, (0, i)), (3, (0, u)), (4, (0, b)), (5, (0, k)), (6, (0, t)), (7, (0, m))], [], w2) _
  refine e_Ok.run (t' := (9, [(0, (1, 275)), (1, (0, a)), (2, (0, i)), (3, (0, u)), (4, (0, b)), (5, (0, k)), (6, (0, t)), (7, (0, m))], [(1, 275), (1, 275)], w2)) 2 rfl ?_
  refine e_Ok.getr (z := 324) rfl (el_o rfl) rfl rfl ((f5 275 61 no_51_2).trans (e_Has.eq hT rfl)) (by omega) ?_
  refine e_Ok.callV rfl (by omega) rfl rfl rfl rfl (c_312_324 (by omega) (mT_L f5 hT) q4a rfl (by omega) (e_kn_sub (e_kn.fr f5 (fun k q => by unfold mL at q; omega) k1) (by omega) (by omega)) (e_kn_sub (e_kn.fr f5 (fun k q => by unfold mL at q; omega) k2) (by omega) (by omega)) (e_kn_sub (e_kn.fr f5 (fun k q => by unfold mL at q; omega) k1) (by omega) (by omega)) (e_kn_sub (e_kn.fr f5 (fun k q => by unfold mL at q; omega) k2) (by omega) (by omega))) (fun r10 w11 h12 => ?_)
  obtain ⟨rfl, q13, q13k⟩ := h12
  have f14 : e_fr mL w w11 := e_fr.trans f5 (e_fr.mono q13 (fun c k q => su_51_20 q))
  have l15 : w11 286 a = w 286 a := f14 286 a no_51_0
  have l16 : w11 286 b = w 286 b := f14 286 b no_51_0
  have l17 : w11 276 (36 * a + 17) = w 276 (36 * a + 17) := f14 276 (36 * a + 17) no_51_1
  have l18 : w11 276 (36 * b + 17) = w 276 (36 * b + 17) := f14 276 (36 * b + 17) no_51_1
  show e_Ok 20 elay ecode eI (d + 1) 313 (15, [(0, (1, 275)), (1, (0, a)), (2, (0, i)), (3, (0, u)), (4, (0, b)), (5, (0, k)), (6, (0, t)), (7, (0, m))], [], w11) _
  refine e_Ok.run (t' := (16, [(0, (1, 275)), (1, (0, a)), (2, (0, i)), (3, (0, u)), (4, (0, b)), (5, (0, k)), (6, (0, t)), (7, (0, m))], [(1, 275)], w11)) 1 rfl ?_
  refine e_Ok.getf (z := w2 275 60) rfl (el_o rfl) rfl rfl ((q13 275 60 no_51_3).trans rfl) (by omega) ?_
  refine e_Ok.run (t' := (28, [(8, (0, w2 275 60)), (0, (1, 275)), (1, (0, a)), (2, (0, i)), (3, (0, u)), (4, (0, b)), (5, (0, k)), (6, (0, t)), (7, (0, m))], [(0, t), (0, k), (0, b), (1, 275)], w11)) 5 rfl ?_
  refine e_Ok.callV rfl (by omega) rfl rfl rfl rfl (c_305 (by omega) (mT_L f14 hT) (by omega) (by omega) (by omega)) (fun r19 w20 h21 => ?_)
  obtain ⟨rfl, q22, q22a, q22b, q22c⟩ := h21
  have f23 : e_fr mL w w20 := e_fr.trans f14 (e_fr.mono q22 (fun c k q => su_51_19 q))
  have l24 : w20 286 a = w 286 a := f23 286 a no_51_0
  have l25 : w20 286 b = w 286 b := f23 286 b no_51_0
  have l26 : w20 276 (36 * a + 17) = w 276 (36 * a + 17) := f23 276 (36 * a + 17) no_51_1
  have l27 : w20 276 (36 * b + 17) = w 276 (36 * b + 17) := f23 276 (36 * b + 17) no_51_1
  show e_Ok 20 elay ecode eI (d + 1) 313 (31, [(8, (0, w2 275 60)), (0, (1, 275)), (1, (0, a)), (2, (0, i)), (3, (0, u)), (4, (0, b)), (5, (0, k)), (6, (0, t)), (7, (0, m))], [], w20) _
  refine e_Ok.run (t' := (33, [(8, (0, w2 275 60)), (0, (1, 275)), (1, (0, a)), (2, (0, i)), (3, (0, u)), (4, (0, b)), (5, (0, k)), (6, (0, t)), (7, (0, m))], [(1, 275), (1, 275)], w20)) 2 rfl ?_
  refine e_Ok.getr (z := 325) rfl (el_o rfl) rfl rfl ((f23 275 62 no_51_4).trans (e_Has.eq hT rfl)) (by omega) ?_
  refine e_Ok.callV rfl (by omega) rfl rfl rfl rfl (c_312_325 (by omega) (mT_L f23 hT) q22a rfl (by omega) (e_kn_sub (e_kn.fr f23 (fun k q => by unfold mL at q; omega) k3) (by omega) (by omega)) (e_kn_sub (e_kn.fr f23 (fun k q => by unfold mL at q; omega) k4) (by omega) (by omega)) (e_kn_sub (e_kn.fr f23 (fun k q => by unfold mL at q; omega) k3) (by omega) (by omega)) (e_kn_sub (e_kn.fr f23 (fun k q => by unfold mL at q; omega) k4) (by omega) (by omega))) (fun r28 w29 h30 => ?_)
  obtain ⟨rfl, q31, q31k⟩ := h30
  have f32 : e_fr mL w w29 := e_fr.trans f23 (e_fr.mono q31 (fun c k q => su_51_21 q))
  have l33 : w29 286 a = w 286 a := f32 286 a no_51_0
  have l34 : w29 286 b = w 286 b := f32 286 b no_51_0
  have l35 : w29 276 (36 * a + 17) = w 276 (36 * a + 17) := f32 276 (36 * a + 17) no_51_1
  have l36 : w29 276 (36 * b + 17) = w 276 (36 * b + 17) := f32 276 (36 * b + 17) no_51_1
  show e_Ok 20 elay ecode eI (d + 1) 313 (39, [(8, (0, w2 275 60)), (0, (1, 275)), (1, (0, a)), (2, (0, i)), (3, (0, u)), (4, (0, b)), (5, (0, k)), (6, (0, t)), (7, (0, m))], [], w29) _
  refine e_Ok.run (t' := (40, [(8, (0, w2 275 60)), (0, (1, 275)), (1, (0, a)), (2, (0, i)), (3, (0, u)), (4, (0, b)), (5, (0, k)), (6, (0, t)), (7, (0, m))], [(1, 275)], w29)) 1 rfl ?_
  refine e_Ok.getr (z := 324) rfl (el_o rfl) rfl rfl ((f32 275 61 no_51_2).trans (e_Has.eq hT rfl)) (by omega) ?_
  refine e_Ok.run (t' := (44, [(8, (0, w2 275 60)), (0, (1, 275)), (1, (0, a)), (2, (0, i)), (3, (0, u)), (4, (0, b)), (5, (0, k)), (6, (0, t)), (7, (0, m))], [(1, 275), (1, 324)], w29)) 1 rfl ?_
  refine e_Ok.getr (z := 325) rfl (el_o rfl) rfl rfl ((f32 275 62 no_51_4).trans (e_Has.eq hT rfl)) (by omega) ?_
  refine e_Ok.run (t' := (50, [(8, (0, w2 275 60)), (0, (1, 275)), (1, (0, a)), (2, (0, i)), (3, (0, u)), (4, (0, b)), (5, (0, k)), (6, (0, t)), (7, (0, m))], [(1, 275), (0, w2 275 60), (1, 325), (1, 324)], w29)) 2 rfl ?_
  refine e_Ok.getf (z := w20 275 60) rfl (el_o rfl) rfl rfl ((q31 275 60 no_51_5).trans rfl) (by omega) ?_
  refine e_Ok.add (z := w2 275 60 + w20 275 60) rfl (by omega) (by omega) ?_
  refine e_Ok.run (t' := (56, [(8, (0, w2 275 60)), (0, (1, 275)), (1, (0, a)), (2, (0, i)), (3, (0, u)), (4, (0, b)), (5, (0, k)), (6, (0, t)), (7, (0, m))], [(0, m), (0, w2 275 60 + w20 275 60), (1, 325), (1, 324)], w29)) 1 rfl ?_
  refine e_Ok.any rfl (eF_add_any _ _) (fun z37 z37a z37b => ?_)
  refine e_Ok.run (t' := (58, [(8, (0, w2 275 60)), (0, (1, 275)), (1, (0, a)), (2, (0, i)), (3, (0, u)), (4, (0, b)), (5, (0, k)), (6, (0, t)), (7, (0, m))], [(4, z37), (1, 325), (1, 324)], w29)) 1 rfl ?_
  refine e_Ok.callS rfl (by omega) rfl rfl (c_310 (by omega) (e_kn.fr q31 (fun k q => by unfold m2 at q; omega) (e_kn.fr q22 (fun k q => by unfold mB at q; omega) q13k)) q31k) (fun r38 w39 h40 => ?_)
  obtain ⟨z41, rfl, rfl, q42a, q42b⟩ := h40
  show e_Ok 20 elay ecode eI (d + 1) 313 (61, [(8, (0, w2 275 60)), (0, (1, 275)), (1, (0, a)), (2, (0, i)), (3, (0, u)), (4, (0, b)), (5, (0, k)), (6, (0, t)), (7, (0, m))], [(0, z41)], w29) _
  refine e_Ok.retb rfl (by omega) ?_
  exact ⟨_, rfl, f32, by omega, by omega⟩
theorem no_51_6 : ¬ mL 275 24 := by unfold mL; omega
theorem no_51_7 {k : Int} : ¬ mL 294 k := by unfold mL; omega
theorem no_51_8 : ¬ mL 275 25 := by unfold mL; omega
theorem no_51_9 {k : Int} : ¬ mL 295 k := by unfold mL; omega
theorem no_51_10 : ¬ mL 275 26 := by unfold mL; omega
theorem no_51_11 {k : Int} : ¬ mL 296 k := by unfold mL; omega
theorem no_51_12 : ¬ mL 275 27 := by unfold mL; omega
theorem no_51_13 {k : Int} : ¬ mL 297 k := by unfold mL; omega
theorem no_51_14 : ¬ mL 275 28 := by unfold mL; omega
theorem no_51_15 {k : Int} : ¬ mL 298 k := by unfold mL; omega
theorem c_314 {d : Nat} (hd : 23 ≤ d) {w : eW} (hT : e_Has mTy w) {a i u s m : Int} (ha : 0 ≤ a ∧ a ≤ 3) (hi : 0 ≤ i ∧ (i < w 286 a ∨ (i = w 286 a ∧ 0 ≤ w 276 (36 * a + 17)))) (hu : 0 ≤ u ∧ u ≤ 28) (hs : 0 ≤ s ∧ s ≤ 15) (k1 : e_kn w 321 u (u + w 286 a)) (k2 : e_kn w 322 u (u + w 286 a)) : e_Ok 20 elay ecode eI d 314 (0, [(0, (1, 275)), (1, (0, a)), (2, (0, i)), (3, (0, u)), (4, (0, s)), (5, (0, m))], [], w) (fun r w' => ∃ z : Int, r = [(0, z)] ∧ e_fr mL w w' ∧ 0 ≤ z ∧ z ≤ 1) := by
  obtain ⟨d, rfl⟩ : ∃ e, d = e + 1 := ⟨d - 1, by omega⟩
  have hja := (e_Has.get hT (c := 286) (k := a) (lo := 0) (hi := 6) rfl (by decide))
  refine e_Ok.run (t' := (4, [(0, (1, 275)), (1, (0, a)), (2, (0, i)), (3, (0, u)), (4, (0, s)), (5, (0, m))], [(0, u), (0, i), (0, a), (1, 275)], w)) 4 rfl ?_
  refine e_Ok.callV rfl (by omega) rfl rfl rfl rfl (c_305 (by omega) hT (by omega) (by omega) (by omega)) (fun r1 w2 h3 => ?_)
  obtain ⟨rfl, q4, q4a, q4b, q4c⟩ := h3
  have f5 : e_fr mL w w2 := e_fr.trans (e_fr.refl w) (e_fr.mono q4 (fun c k q => su_51_19 q))
  have l6 : w2 286 a = w 286 a := f5 286 a no_51_0
  have l7 : w2 276 (36 * a + 17) = w 276 (36 * a + 17) := f5 276 (36 * a + 17) no_51_1
  show e_Ok 20 elay ecode eI (d + 1) 314 (7, [(0, (1, 275)), (1, (0, a)), (2, (0, i)), (3, (0, u)), (4, (0, s)), (5, (0, m))], [], w2) _
  refine e_Ok.run (t' := (9, [(0, (1, 275)), (1, (0, a)), (2, (0, i)), (3, (0, u)), (4, (0, s)), (5, (0, m))], [(1, 275), (1, 275)], w2)) 2 rfl ?_
  refine e_Ok.getr (z := 324) rfl (el_o rfl) rfl rfl ((f5 275 61 no_51_2).trans (e_Has.eq hT rfl)) (by omega) ?_
  refine e_Ok.callV rfl (by omega) rfl rfl rfl rfl (c_312_324 (by omega) (mT_L f5 hT) q4a rfl (by omega) (e_kn_sub (e_kn.fr f5 (fun k q => by unfold mL at q; omega) k1) (by omega) (by omega)) (e_kn_sub (e_kn.fr f5 (fun k q => by unfold mL at q; omega) k2) (by omega) (by omega)) (e_kn_sub (e_kn.fr f5 (fun k q => by unfold mL at q; omega) k1) (by omega) (by omega)) (e_kn_sub (e_kn.fr f5 (fun k q => by unfold mL at q; omega) k2) (by omega) (by omega))) (fun r8 w9 h10 => ?_)
  obtain ⟨rfl, q11, q11k⟩ := h10
  have f12 : e_fr mL w w9 := e_fr.trans f5 (e_fr.mono q11 (fun c k q => su_51_20 q))
  have l13 : w9 286 a = w 286 a := f12 286 a no_51_0
  have l14 : w9 276 (36 * a + 17) = w 276 (36 * a + 17) := f12 276 (36 * a + 17) no_51_1
  show e_Ok 20 elay ecode eI (d + 1) 314 (15, [(0, (1, 275)), (1, (0, a)), (2, (0, i)), (3, (0, u)), (4, (0, s)), (5, (0, m))], [], w9) _
  refine e_Ok.run (t' := (16, [(0, (1, 275)), (1, (0, a)), (2, (0, i)), (3, (0, u)), (4, (0, s)), (5, (0, m))], [(1, 275)], w9)) 1 rfl ?_
  refine e_Ok.getf (z := w2 275 60) rfl (el_o rfl) rfl rfl ((q11 275 60 no_51_3).trans rfl) (by omega) ?_
  refine e_Ok.run (t' := (21, [(0, (1, 275)), (1, (0, a)), (2, (0, i)), (3, (0, u)), (4, (0, s)), (5, (0, m))], [(0, m), (0, w2 275 60)], w9)) 1 rfl ?_
  refine e_Ok.any rfl (eF_add_any _ _) (fun z15 z15a z15b => ?_)
  refine e_Ok.run (t' := (26, [(6, (4, z15)), (0, (1, 275)), (1, (0, a)), (2, (0, i)), (3, (0, u)), (4, (0, s)), (5, (0, m))], [(1, 275)], w9)) 3 rfl ?_
  refine e_Ok.getr (z := 294) rfl (el_o rfl) rfl rfl ((f12 275 24 no_51_6).trans (e_Has.eq hT rfl)) (by omega) ?_
  refine e_Ok.run (t' := (31, [(6, (4, z15)), (0, (1, 275)), (1, (0, a)), (2, (0, i)), (3, (0, u)), (4, (0, s)), (5, (0, m))], [(0, s), (1, 294)], w9)) 1 rfl ?_
  have h16 := (e_Has.get hT (c := 294) (k := s) (lo := 0) (hi := 1) rfl (by decide))
  refine e_Ok.ald (z := w 294 s) rfl (el_o rfl) rfl (by omega) ((f12 294 s no_51_7).trans rfl) (by omega) ?_
  refine e_Ok.if1 rfl (fun h17 => ?_) (fun h17 => ?_)
  · replace h17 : (w 294 s : Int) ≠ 0 := h17
    refine e_Ok.run (t' := (209, [(6, (4, z15)), (0, (1, 275)), (1, (0, a)), (2, (0, i)), (3, (0, u)), (4, (0, s)), (5, (0, m))], [(1, 275)], w9)) 1 rfl ?_
    refine e_Ok.getr (z := 295) rfl (el_o rfl) rfl rfl ((f12 275 25 no_51_8).trans (e_Has.eq hT rfl)) (by omega) ?_
    refine e_Ok.run (t' := (214, [(6, (4, z15)), (0, (1, 275)), (1, (0, a)), (2, (0, i)), (3, (0, u)), (4, (0, s)), (5, (0, m))], [(0, s), (1, 295)], w9)) 1 rfl ?_
    have h18 := (e_Has.get hT (c := 295) (k := s) (lo := (-16000)) (hi := 16000) rfl (by decide))
    refine e_Ok.ald (z := w 295 s) rfl (el_o rfl) rfl (by omega) ((f12 295 s no_51_9).trans rfl) (by omega) ?_
    refine e_Ok.run (t' := (218, [(8, (0, w 295 s)), (6, (4, z15)), (0, (1, 275)), (1, (0, a)), (2, (0, i)), (3, (0, u)), (4, (0, s)), (5, (0, m))], [(1, 275)], w9)) 2 rfl ?_
    refine e_Ok.getr (z := 296) rfl (el_o rfl) rfl rfl ((f12 275 26 no_51_10).trans (e_Has.eq hT rfl)) (by omega) ?_
    refine e_Ok.run (t' := (223, [(8, (0, w 295 s)), (6, (4, z15)), (0, (1, 275)), (1, (0, a)), (2, (0, i)), (3, (0, u)), (4, (0, s)), (5, (0, m))], [(0, s), (1, 296)], w9)) 1 rfl ?_
    have h19 := (e_Has.get hT (c := 296) (k := s) (lo := (-16000)) (hi := 16000) rfl (by decide))
    refine e_Ok.ald (z := w 296 s) rfl (el_o rfl) rfl (by omega) ((f12 296 s no_51_11).trans rfl) (by omega) ?_
    refine e_Ok.run (t' := (229, [(9, (0, w 296 s)), (8, (0, w 295 s)), (6, (4, z15)), (0, (1, 275)), (1, (0, a)), (2, (0, i)), (3, (0, u)), (4, (0, s)), (5, (0, m))], [(1, 275), (0, w 295 s)], w9)) 3 rfl ?_
    refine e_Ok.getr (z := 297) rfl (el_o rfl) rfl rfl ((f12 275 27 no_51_12).trans (e_Has.eq hT rfl)) (by omega) ?_
    refine e_Ok.run (t' := (234, [(9, (0, w 296 s)), (8, (0, w 295 s)), (6, (4, z15)), (0, (1, 275)), (1, (0, a)), (2, (0, i)), (3, (0, u)), (4, (0, s)), (5, (0, m))], [(0, s), (1, 297), (0, w 295 s)], w9)) 1 rfl ?_
    have h20 := (e_Has.get hT (c := 297) (k := s) (lo := (-2147483648)) (hi := 2147483647) rfl (by decide))
    refine e_Ok.ald (z := w 297 s) rfl (el_o rfl) rfl (by omega) ((f12 297 s no_51_13).trans rfl) (by omega) ?_
    refine e_Ok.any rfl (eF_add_any _ _) (fun z21 z21a z21b => ?_)
    refine e_Ok.run (t' := (241, [(10, (0, z21)), (9, (0, w 296 s)), (8, (0, w 295 s)), (6, (4, z15)), (0, (1, 275)), (1, (0, a)), (2, (0, i)), (3, (0, u)), (4, (0, s)), (5, (0, m))], [(1, 275), (0, w 296 s)], w9)) 3 rfl ?_
    refine e_Ok.getr (z := 298) rfl (el_o rfl) rfl rfl ((f12 275 28 no_51_14).trans (e_Has.eq hT rfl)) (by omega) ?_
    refine e_Ok.run (t' := (246, [(10, (0, z21)), (9, (0, w 296 s)), (8, (0, w 295 s)), (6, (4, z15)), (0, (1, 275)), (1, (0, a)), (2, (0, i)), (3, (0, u)), (4, (0, s)), (5, (0, m))], [(0, s), (1, 298), (0, w 296 s)], w9)) 1 rfl ?_
    have h22 := (e_Has.get hT (c := 298) (k := s) (lo := (-2147483648)) (hi := 2147483647) rfl (by decide))
    refine e_Ok.ald (z := w 298 s) rfl (el_o rfl) rfl (by omega) ((f12 298 s no_51_15).trans rfl) (by omega) ?_
    refine e_Ok.any rfl (eF_add_any _ _) (fun z23 z23a z23b => ?_)
    refine e_Ok.run (t' := (251, [(11, (0, z23)), (10, (0, z21)), (9, (0, w 296 s)), (8, (0, w 295 s)), (6, (4, z15)), (0, (1, 275)), (1, (0, a)), (2, (0, i)), (3, (0, u)), (4, (0, s)), (5, (0, m))], [(1, 275)], w9)) 2 rfl ?_
    refine e_Ok.getr (z := 324) rfl (el_o rfl) rfl rfl ((f12 275 61 no_51_2).trans (e_Has.eq hT rfl)) (by omega) ?_
    refine e_Ok.run (t' := (255, [(11, (0, z23)), (10, (0, z21)), (9, (0, w 296 s)), (8, (0, w 295 s)), (6, (4, z15)), (0, (1, 275)), (1, (0, a)), (2, (0, i)), (3, (0, u)), (4, (0, s)), (5, (0, m))], [(0, 0), (1, 324)], w9)) 1 rfl ?_
    have h24 := (q11k 0 (by omega) (by omega))
    refine e_Ok.ald (z := w9 324 0) rfl (el_o rfl) rfl (by omega) rfl (by omega) ?_
    refine e_Ok.run (t' := (263, [(11, (0, z23)), (10, (0, z21)), (9, (0, w 296 s)), (8, (0, w 295 s)), (6, (4, z15)), (0, (1, 275)), (1, (0, a)), (2, (0, i)), (3, (0, u)), (4, (0, s)), (5, (0, m))], [(4, z21), (4, w 295 s), (4, w9 324 0)], w9)) 5 rfl ?_
    refine e_Ok.callS rfl (by omega) rfl rfl (c_266) (fun r25 w26 h27 => ?_)
    obtain ⟨z28, rfl, rfl, q29⟩ := h27
    obtain ⟨rfl, q29⟩ | ⟨rfl, q29⟩ := q29
    · show e_Ok 20 elay ecode eI (d + 1) 314 (266, [(11, (0, z23)), (10, (0, z21)), (9, (0, w 296 s)), (8, (0, w 295 s)), (6, (4, z15)), (0, (1, 275)), (1, (0, a)), (2, (0, i)), (3, (0, u)), (4, (0, s)), (5, (0, m))], [(0, 1)], w9) _
      refine e_Ok.if1 rfl (fun h30 => ?_) (fun h30 => ?_)
      · replace h30 : (1 : Int) = 0 := h30
        exfalso; omega
      · replace h30 : (1 : Int) ≠ 0 := by have q : ¬ ((1 : Int) = 0) := h30; omega
        refine e_Ok.run (t' := (270, [(11, (0, z23)), (10, (0, z21)), (9, (0, w 296 s)), (8, (0, w 295 s)), (6, (4, z15)), (0, (1, 275)), (1, (0, a)), (2, (0, i)), (3, (0, u)), (4, (0, s)), (5, (0, m))], [(1, 275)], w9)) 1 rfl ?_
        refine e_Ok.getr (z := 324) rfl (el_o rfl) rfl rfl ((f12 275 61 no_51_2).trans (e_Has.eq hT rfl)) (by omega) ?_
        refine e_Ok.run (t' := (274, [(11, (0, z23)), (10, (0, z21)), (9, (0, w 296 s)), (8, (0, w 295 s)), (6, (4, z15)), (0, (1, 275)), (1, (0, a)), (2, (0, i)), (3, (0, u)), (4, (0, s)), (5, (0, m))], [(0, 1), (1, 324)], w9)) 1 rfl ?_
        have h31 := (q11k 1 (by omega) (by omega))
        refine e_Ok.ald (z := w9 324 1) rfl (el_o rfl) rfl (by omega) rfl (by omega) ?_
        refine e_Ok.run (t' := (282, [(11, (0, z23)), (10, (0, z21)), (9, (0, w 296 s)), (8, (0, w 295 s)), (6, (4, z15)), (0, (1, 275)), (1, (0, a)), (2, (0, i)), (3, (0, u)), (4, (0, s)), (5, (0, m))], [(4, z23), (4, w 296 s), (4, w9 324 1)], w9)) 5 rfl ?_
        refine e_Ok.callS rfl (by omega) rfl rfl (c_266) (fun r32 w33 h34 => ?_)
        obtain ⟨z35, rfl, rfl, q36⟩ := h34
        obtain ⟨rfl, q36⟩ | ⟨rfl, q36⟩ := q36
        · show e_Ok 20 elay ecode eI (d + 1) 314 (285, [(11, (0, z23)), (10, (0, z21)), (9, (0, w 296 s)), (8, (0, w 295 s)), (6, (4, z15)), (0, (1, 275)), (1, (0, a)), (2, (0, i)), (3, (0, u)), (4, (0, s)), (5, (0, m))], [(0, 1)], w9) _
          refine e_Ok.if1 rfl (fun h37 => ?_) (fun h37 => ?_)
          · replace h37 : (1 : Int) = 0 := h37
            exfalso; omega
          · replace h37 : (1 : Int) ≠ 0 := by have q : ¬ ((1 : Int) = 0) := h37; omega
            refine e_Ok.run (t' := (289, [(11, (0, z23)), (10, (0, z21)), (9, (0, w 296 s)), (8, (0, w 295 s)), (6, (4, z15)), (0, (1, 275)), (1, (0, a)), (2, (0, i)), (3, (0, u)), (4, (0, s)), (5, (0, m))], [(0, 1)], w9)) 1 rfl ?_
            refine e_Ok.rets rfl rfl ?_
            exact ⟨_, rfl, f12, by omega, by omega⟩
        · show e_Ok 20 elay ecode eI (d + 1) 314 (285, [(11, (0, z23)), (10, (0, z21)), (9, (0, w 296 s)), (8, (0, w 295 s)), (6, (4, z15)), (0, (1, 275)), (1, (0, a)), (2, (0, i)), (3, (0, u)), (4, (0, s)), (5, (0, m))], [(0, 0)], w9) _
          refine e_Ok.if1 rfl (fun h38 => ?_) (fun h38 => ?_)
          · replace h38 : (0 : Int) = 0 := h38
            refine e_Ok.run (t' := (296, [(13, (0, 0)), (12, (0, 0)), (11, (0, z23)), (10, (0, z21)), (9, (0, w 296 s)), (8, (0, w 295 s)), (6, (4, z15)), (0, (1, 275)), (1, (0, a)), (2, (0, i)), (3, (0, u)), (4, (0, s)), (5, (0, m))], [], w9)) 4 rfl ?_
            have hL39 : ∀ (n : Nat) (y1 : Int) (y2 : Int) (v1 : eW), e_fr mL w v1 ∧ e_kn v1 324 0 3 ∧ 0 ≤ y1 ∧ y1 ≤ 1 ∧ 0 ≤ y2 ∧ y2 ≤ 4 → 4 - y2 < n → e_Ok 20 elay ecode eI (d + 1) 314 (296, [(0, (1, 275)), (6, (4, z15)), (8, (0, w 295 s)), (9, (0, w 296 s)), (10, (0, z21)), (11, (0, z23)), (12, (0, y1)), (13, (0, y2))], [], v1) (fun r w' => ∃ z : Int, r = [(0, z)] ∧ e_fr mL w w' ∧ 0 ≤ z ∧ z ≤ 1) := by
              intro n
              induction n with
              | zero => intro y1 y2 v1 hj hm; obtain ⟨j41, j42, j43, j44⟩ := hj; exfalso; omega
              | succ n ih40 =>
                intro y1 y2 v1 hj hm
                obtain ⟨j41, j42, j43, j44⟩ := hj
                have l45 : v1 286 a = w 286 a := j41 286 a no_51_0
                have l46 : v1 276 (36 * a + 17) = w 276 (36 * a + 17) := j41 276 (36 * a + 17) no_51_1
                refine e_Ok.run (t' := (299, [(0, (1, 275)), (6, (4, z15)), (8, (0, w 295 s)), (9, (0, w 296 s)), (10, (0, z21)), (11, (0, z23)), (12, (0, y1)), (13, (0, y2))], [(0, 4), (0, y2)], v1)) 2 rfl ?_
                refine e_Ok.if2 rfl (fun h47 => ?_) (fun h47 => ?_)
                · replace h47 : (y2 : Int) ≥ 4 := h47
                  refine e_Ok.run (t' := (389, [(0, (1, 275)), (6, (4, z15)), (8, (0, w 295 s)), (9, (0, w 296 s)), (10, (0, z21)), (11, (0, z23)), (12, (0, y1)), (13, (0, y2))], [(0, y1)], v1)) 1 rfl ?_
                  refine e_Ok.retb rfl (by omega) ?_
                  exact ⟨_, rfl, j41, by omega, by omega⟩
                · replace h47 : (y2 : Int) < 4 := by have q : ¬ ((y2 : Int) ≥ 4) := h47; omega
                  refine e_Ok.run (t' := (304, [(0, (1, 275)), (6, (4, z15)), (8, (0, w 295 s)), (9, (0, w 296 s)), (10, (0, z21)), (11, (0, z23)), (12, (0, y1)), (13, (0, y2))], [(0, y1)], v1)) 1 rfl ?_
                  refine e_Ok.if1 rfl (fun h48 => ?_) (fun h48 => ?_)
                  · replace h48 : (y1 : Int) ≠ 0 := h48
                    refine e_Ok.run (t' := (389, [(0, (1, 275)), (6, (4, z15)), (8, (0, w 295 s)), (9, (0, w 296 s)), (10, (0, z21)), (11, (0, z23)), (12, (0, y1)), (13, (0, y2))], [(0, y1)], v1)) 1 rfl ?_
                    refine e_Ok.retb rfl (by omega) ?_
                    exact ⟨_, rfl, j41, by omega, by omega⟩
                  · replace h48 : (y1 : Int) = 0 := by have q : ¬ ((y1 : Int) ≠ 0) := h48; omega
                    refine e_Ok.run (t' := (309, [(0, (1, 275)), (6, (4, z15)), (8, (0, w 295 s)), (9, (0, w 296 s)), (10, (0, z21)), (11, (0, z23)), (12, (0, y1)), (13, (0, y2))], [(1, 275), (1, 275)], v1)) 2 rfl ?_
                    refine e_Ok.getr (z := 325) rfl (el_o rfl) rfl rfl ((j41 275 62 no_51_4).trans (e_Has.eq hT rfl)) (by omega) ?_
                    refine e_Ok.run (t' := (315, [(0, (1, 275)), (6, (4, z15)), (8, (0, w 295 s)), (9, (0, w 296 s)), (10, (0, z21)), (11, (0, z23)), (12, (0, y1)), (13, (0, y2))], [(0, 3), (0, y2), (1, 325), (1, 275)], v1)) 2 rfl ?_
                    have hJ51 : ∀ m50 : Int, (-16000) ≤ m50 ∧ m50 ≤ 2147483647 → e_Ok 20 elay ecode eI (d + 1) 314 (325, [(0, (1, 275)), (6, (4, z15)), (8, (0, w 295 s)), (9, (0, w 296 s)), (10, (0, z21)), (11, (0, z23)), (12, (0, y1)), (13, (0, y2))], [(0, m50), (1, 325), (1, 275)], v1) (fun r w' => ∃ z : Int, r = [(0, z)] ∧ e_fr mL w w' ∧ 0 ≤ z ∧ z ≤ 1) := by
                      intro m50 m50r
                      refine e_Ok.run (t' := (328, [(0, (1, 275)), (6, (4, z15)), (8, (0, w 295 s)), (9, (0, w 296 s)), (10, (0, z21)), (11, (0, z23)), (12, (0, y1)), (13, (0, y2))], [(0, 1), (0, y2), (0, m50), (1, 325), (1, 275)], v1)) 2 rfl ?_
                      have hJ54 : ∀ m53 : Int, (-2147483648) ≤ m53 ∧ m53 ≤ 2147483647 → e_Ok 20 elay ecode eI (d + 1) 314 (338, [(0, (1, 275)), (6, (4, z15)), (8, (0, w 295 s)), (9, (0, w 296 s)), (10, (0, z21)), (11, (0, z23)), (12, (0, y1)), (13, (0, y2))], [(0, m53), (0, m50), (1, 325), (1, 275)], v1) (fun r w' => ∃ z : Int, r = [(0, z)] ∧ e_fr mL w w' ∧ 0 ≤ z ∧ z ≤ 1) := by
                        intro m53 m53r
                        refine e_Ok.run (t' := (341, [(0, (1, 275)), (6, (4, z15)), (8, (0, w 295 s)), (9, (0, w 296 s)), (10, (0, z21)), (11, (0, z23)), (12, (0, y1)), (13, (0, y2))], [(0, 2), (0, y2), (0, m53), (0, m50), (1, 325), (1, 275)], v1)) 2 rfl ?_
                        have hJ57 : ∀ m56 : Int, (-16000) ≤ m56 ∧ m56 ≤ 2147483647 → e_Ok 20 elay ecode eI (d + 1) 314 (351, [(0, (1, 275)), (6, (4, z15)), (8, (0, w 295 s)), (9, (0, w 296 s)), (10, (0, z21)), (11, (0, z23)), (12, (0, y1)), (13, (0, y2))], [(0, m56), (0, m53), (0, m50), (1, 325), (1, 275)], v1) (fun r w' => ∃ z : Int, r = [(0, z)] ∧ e_fr mL w w' ∧ 0 ≤ z ∧ z ≤ 1) := by
                          intro m56 m56r
                          refine e_Ok.run (t' := (353, [(0, (1, 275)), (6, (4, z15)), (8, (0, w 295 s)), (9, (0, w 296 s)), (10, (0, z21)), (11, (0, z23)), (12, (0, y1)), (13, (0, y2))], [(0, y2), (0, m56), (0, m53), (0, m50), (1, 325), (1, 275)], v1)) 1 rfl ?_
                          have hJ60 : ∀ m59 : Int, (-2147483648) ≤ m59 ∧ m59 ≤ 2147483647 → e_Ok 20 elay ecode eI (d + 1) 314 (363, [(0, (1, 275)), (6, (4, z15)), (8, (0, w 295 s)), (9, (0, w 296 s)), (10, (0, z21)), (11, (0, z23)), (12, (0, y1)), (13, (0, y2))], [(0, m59), (0, m56), (0, m53), (0, m50), (1, 325), (1, 275)], v1) (fun r w' => ∃ z : Int, r = [(0, z)] ∧ e_fr mL w w' ∧ 0 ≤ z ∧ z ≤ 1) := by
                            intro m59 m59r
                            refine e_Ok.callV rfl (by omega) rfl rfl rfl rfl (c_311_325 (by omega) (by omega) (by omega) (by omega)) (fun r61 w62 h63 => ?_)
                            obtain ⟨rfl, q64, q64k⟩ := h63
                            have f65 : e_fr mL w w62 := e_fr.trans j41 (e_fr.mono q64 (fun c k q => su_51_21 q))
                            have l66 : w62 286 a = w 286 a := f65 286 a no_51_0
                            have l67 : w62 276 (36 * a + 17) = w 276 (36 * a + 17) := f65 276 (36 * a + 17) no_51_1
                            show e_Ok 20 elay ecode eI (d + 1) 314 (366, [(0, (1, 275)), (6, (4, z15)), (8, (0, w 295 s)), (9, (0, w 296 s)), (10, (0, z21)), (11, (0, z23)), (12, (0, y1)), (13, (0, y2))], [], w62) _
                            refine e_Ok.run (t' := (367, [(0, (1, 275)), (6, (4, z15)), (8, (0, w 295 s)), (9, (0, w 296 s)), (10, (0, z21)), (11, (0, z23)), (12, (0, y1)), (13, (0, y2))], [(1, 275)], w62)) 1 rfl ?_
                            refine e_Ok.getr (z := 324) rfl (el_o rfl) rfl rfl ((f65 275 61 no_51_2).trans (e_Has.eq hT rfl)) (by omega) ?_
                            refine e_Ok.run (t' := (371, [(0, (1, 275)), (6, (4, z15)), (8, (0, w 295 s)), (9, (0, w 296 s)), (10, (0, z21)), (11, (0, z23)), (12, (0, y1)), (13, (0, y2))], [(1, 275), (1, 324)], w62)) 1 rfl ?_
                            refine e_Ok.getr (z := 325) rfl (el_o rfl) rfl rfl ((f65 275 62 no_51_4).trans (e_Has.eq hT rfl)) (by omega) ?_
                            refine e_Ok.run (t' := (376, [(0, (1, 275)), (6, (4, z15)), (8, (0, w 295 s)), (9, (0, w 296 s)), (10, (0, z21)), (11, (0, z23)), (12, (0, y1)), (13, (0, y2))], [(4, z15), (1, 325), (1, 324)], w62)) 1 rfl ?_
                            refine e_Ok.callS rfl (by omega) rfl rfl (c_310 (by omega) (e_kn.fr q64 (fun k q => by unfold m2 at q; omega) j42) q64k) (fun r68 w69 h70 => ?_)
                            obtain ⟨z71, rfl, rfl, q72a, q72b⟩ := h70
                            show e_Ok 20 elay ecode eI (d + 1) 314 (379, [(0, (1, 275)), (6, (4, z15)), (8, (0, w 295 s)), (9, (0, w 296 s)), (10, (0, z21)), (11, (0, z23)), (12, (0, y1)), (13, (0, y2))], [(0, z71)], w62) _
                            refine e_Ok.run (t' := (381, [(12, (0, z71)), (0, (1, 275)), (6, (4, z15)), (8, (0, w 295 s)), (9, (0, w 296 s)), (10, (0, z21)), (11, (0, z23)), (13, (0, y2))], [], w62)) 1 rfl ?_
                            refine e_Ok.inc (z := y2 + 1) rfl rfl (by omega) (by omega) ?_
                            show e_Ok 20 elay ecode eI (d + 1) 314 (384, [(13, (0, y2 + 1)), (12, (0, z71)), (0, (1, 275)), (6, (4, z15)), (8, (0, w 295 s)), (9, (0, w 296 s)), (10, (0, z21)), (11, (0, z23))], [], w62) _
                            refine e_Ok.run (t' := (296, [(13, (0, y2 + 1)), (12, (0, z71)), (0, (1, 275)), (6, (4, z15)), (8, (0, w 295 s)), (9, (0, w 296 s)), (10, (0, z21)), (11, (0, z23))], [], w62)) 1 rfl ?_
                            refine e_Ok.sub eAlk (e_sub_of rfl ?_) (ih40 z71 (y2 + 1) w62 ⟨f65, (e_kn.fr q64 (fun k q => by unfold m2 at q; omega) j42), by omega, by omega⟩ (by omega))
                            exact ⟨rfl, rfl, rfl, rfl, rfl, rfl, rfl, rfl, trivial⟩
                          refine e_Ok.if1 rfl (fun h58 => ?_) (fun h58 => ?_)
                          · exact e_Ok.run 1 rfl (hJ60 z23 (by omega))
                          · exact e_Ok.run 2 rfl (hJ60 (w 296 s) (by omega))
                        refine e_Ok.if2 rfl (fun h55 => ?_) (fun h55 => ?_)
                        · exact e_Ok.run 1 rfl (hJ57 z21 (by omega))
                        · exact e_Ok.run 2 rfl (hJ57 (w 295 s) (by omega))
                      refine e_Ok.if2 rfl (fun h52 => ?_) (fun h52 => ?_)
                      · exact e_Ok.run 1 rfl (hJ54 (w 296 s) (by omega))
                      · exact e_Ok.run 2 rfl (hJ54 z23 (by omega))
                    refine e_Ok.if2 rfl (fun h49 => ?_) (fun h49 => ?_)
                    · exact e_Ok.run 1 rfl (hJ51 (w 295 s) (by omega))
                    · exact e_Ok.run 2 rfl (hJ51 z21 (by omega))
            refine e_Ok.sub eAlk (e_sub_of rfl ?_) (hL39 (4 + 1 : Int).toNat 0 0 w9 ⟨f12, q11k, by omega, by omega⟩ (by omega))
            exact ⟨rfl, rfl, rfl, rfl, rfl, rfl, rfl, rfl, trivial⟩
          · replace h38 : (0 : Int) ≠ 0 := by have q : ¬ ((0 : Int) = 0) := h38; omega
            exfalso; omega
    · show e_Ok 20 elay ecode eI (d + 1) 314 (266, [(11, (0, z23)), (10, (0, z21)), (9, (0, w 296 s)), (8, (0, w 295 s)), (6, (4, z15)), (0, (1, 275)), (1, (0, a)), (2, (0, i)), (3, (0, u)), (4, (0, s)), (5, (0, m))], [(0, 0)], w9) _
      refine e_Ok.if1 rfl (fun h73 => ?_) (fun h73 => ?_)
      · replace h73 : (0 : Int) = 0 := h73
        refine e_Ok.run (t' := (296, [(13, (0, 0)), (12, (0, 0)), (11, (0, z23)), (10, (0, z21)), (9, (0, w 296 s)), (8, (0, w 295 s)), (6, (4, z15)), (0, (1, 275)), (1, (0, a)), (2, (0, i)), (3, (0, u)), (4, (0, s)), (5, (0, m))], [], w9)) 4 rfl ?_
        have hL74 : ∀ (n : Nat) (y1 : Int) (y2 : Int) (v1 : eW), e_fr mL w v1 ∧ e_kn v1 324 0 3 ∧ 0 ≤ y1 ∧ y1 ≤ 1 ∧ 0 ≤ y2 ∧ y2 ≤ 4 → 4 - y2 < n → e_Ok 20 elay ecode eI (d + 1) 314 (296, [(0, (1, 275)), (6, (4, z15)), (8, (0, w 295 s)), (9, (0, w 296 s)), (10, (0, z21)), (11, (0, z23)), (12, (0, y1)), (13, (0, y2))], [], v1) (fun r w' => ∃ z : Int, r = [(0, z)] ∧ e_fr mL w w' ∧ 0 ≤ z ∧ z ≤ 1) := by
          intro n
          induction n with
          | zero => intro y1 y2 v1 hj hm; obtain ⟨j76, j77, j78, j79⟩ := hj; exfalso; omega
          | succ n ih75 =>
            intro y1 y2 v1 hj hm
            obtain ⟨j76, j77, j78, j79⟩ := hj
            have l80 : v1 286 a = w 286 a := j76 286 a no_51_0
            have l81 : v1 276 (36 * a + 17) = w 276 (36 * a + 17) := j76 276 (36 * a + 17) no_51_1
            refine e_Ok.run (t' := (299, [(0, (1, 275)), (6, (4, z15)), (8, (0, w 295 s)), (9, (0, w 296 s)), (10, (0, z21)), (11, (0, z23)), (12, (0, y1)), (13, (0, y2))], [(0, 4), (0, y2)], v1)) 2 rfl ?_
            refine e_Ok.if2 rfl (fun h82 => ?_) (fun h82 => ?_)
            · replace h82 : (y2 : Int) ≥ 4 := h82
              refine e_Ok.run (t' := (389, [(0, (1, 275)), (6, (4, z15)), (8, (0, w 295 s)), (9, (0, w 296 s)), (10, (0, z21)), (11, (0, z23)), (12, (0, y1)), (13, (0, y2))], [(0, y1)], v1)) 1 rfl ?_
              refine e_Ok.retb rfl (by omega) ?_
              exact ⟨_, rfl, j76, by omega, by omega⟩
            · replace h82 : (y2 : Int) < 4 := by have q : ¬ ((y2 : Int) ≥ 4) := h82; omega
              refine e_Ok.run (t' := (304, [(0, (1, 275)), (6, (4, z15)), (8, (0, w 295 s)), (9, (0, w 296 s)), (10, (0, z21)), (11, (0, z23)), (12, (0, y1)), (13, (0, y2))], [(0, y1)], v1)) 1 rfl ?_
              refine e_Ok.if1 rfl (fun h83 => ?_) (fun h83 => ?_)
              · replace h83 : (y1 : Int) ≠ 0 := h83
                refine e_Ok.run (t' := (389, [(0, (1, 275)), (6, (4, z15)), (8, (0, w 295 s)), (9, (0, w 296 s)), (10, (0, z21)), (11, (0, z23)), (12, (0, y1)), (13, (0, y2))], [(0, y1)], v1)) 1 rfl ?_
                refine e_Ok.retb rfl (by omega) ?_
                exact ⟨_, rfl, j76, by omega, by omega⟩
              · replace h83 : (y1 : Int) = 0 := by have q : ¬ ((y1 : Int) ≠ 0) := h83; omega
                refine e_Ok.run (t' := (309, [(0, (1, 275)), (6, (4, z15)), (8, (0, w 295 s)), (9, (0, w 296 s)), (10, (0, z21)), (11, (0, z23)), (12, (0, y1)), (13, (0, y2))], [(1, 275), (1, 275)], v1)) 2 rfl ?_
                refine e_Ok.getr (z := 325) rfl (el_o rfl) rfl rfl ((j76 275 62 no_51_4).trans (e_Has.eq hT rfl)) (by omega) ?_
                refine e_Ok.run (t' := (315, [(0, (1, 275)), (6, (4, z15)), (8, (0, w 295 s)), (9, (0, w 296 s)), (10, (0, z21)), (11, (0, z23)), (12, (0, y1)), (13, (0, y2))], [(0, 3), (0, y2), (1, 325), (1, 275)], v1)) 2 rfl ?_
                have hJ86 : ∀ m85 : Int, (-2147483648) ≤ m85 ∧ m85 ≤ 2147483647 → e_Ok 20 elay ecode eI (d + 1) 314 (325, [(0, (1, 275)), (6, (4, z15)), (8, (0, w 295 s)), (9, (0, w 296 s)), (10, (0, z21)), (11, (0, z23)), (12, (0, y1)), (13, (0, y2))], [(0, m85), (1, 325), (1, 275)], v1) (fun r w' => ∃ z : Int, r = [(0, z)] ∧ e_fr mL w w' ∧ 0 ≤ z ∧ z ≤ 1) := by
                  intro m85 m85r
                  refine e_Ok.run (t' := (328, [(0, (1, 275)), (6, (4, z15)), (8, (0, w 295 s)), (9, (0, w 296 s)), (10, (0, z21)), (11, (0, z23)), (12, (0, y1)), (13, (0, y2))], [(0, 1), (0, y2), (0, m85), (1, 325), (1, 275)], v1)) 2 rfl ?_
                  have hJ89 : ∀ m88 : Int, (-2147483648) ≤ m88 ∧ m88 ≤ 2147483647 → e_Ok 20 elay ecode eI (d + 1) 314 (338, [(0, (1, 275)), (6, (4, z15)), (8, (0, w 295 s)), (9, (0, w 296 s)), (10, (0, z21)), (11, (0, z23)), (12, (0, y1)), (13, (0, y2))], [(0, m88), (0, m85), (1, 325), (1, 275)], v1) (fun r w' => ∃ z : Int, r = [(0, z)] ∧ e_fr mL w w' ∧ 0 ≤ z ∧ z ≤ 1) := by
                    intro m88 m88r
                    refine e_Ok.run (t' := (341, [(0, (1, 275)), (6, (4, z15)), (8, (0, w 295 s)), (9, (0, w 296 s)), (10, (0, z21)), (11, (0, z23)), (12, (0, y1)), (13, (0, y2))], [(0, 2), (0, y2), (0, m88), (0, m85), (1, 325), (1, 275)], v1)) 2 rfl ?_
                    have hJ92 : ∀ m91 : Int, (-2147483648) ≤ m91 ∧ m91 ≤ 2147483647 → e_Ok 20 elay ecode eI (d + 1) 314 (351, [(0, (1, 275)), (6, (4, z15)), (8, (0, w 295 s)), (9, (0, w 296 s)), (10, (0, z21)), (11, (0, z23)), (12, (0, y1)), (13, (0, y2))], [(0, m91), (0, m88), (0, m85), (1, 325), (1, 275)], v1) (fun r w' => ∃ z : Int, r = [(0, z)] ∧ e_fr mL w w' ∧ 0 ≤ z ∧ z ≤ 1) := by
                      intro m91 m91r
                      refine e_Ok.run (t' := (353, [(0, (1, 275)), (6, (4, z15)), (8, (0, w 295 s)), (9, (0, w 296 s)), (10, (0, z21)), (11, (0, z23)), (12, (0, y1)), (13, (0, y2))], [(0, y2), (0, m91), (0, m88), (0, m85), (1, 325), (1, 275)], v1)) 1 rfl ?_
                      have hJ95 : ∀ m94 : Int, (-2147483648) ≤ m94 ∧ m94 ≤ 2147483647 → e_Ok 20 elay ecode eI (d + 1) 314 (363, [(0, (1, 275)), (6, (4, z15)), (8, (0, w 295 s)), (9, (0, w 296 s)), (10, (0, z21)), (11, (0, z23)), (12, (0, y1)), (13, (0, y2))], [(0, m94), (0, m91), (0, m88), (0, m85), (1, 325), (1, 275)], v1) (fun r w' => ∃ z : Int, r = [(0, z)] ∧ e_fr mL w w' ∧ 0 ≤ z ∧ z ≤ 1) := by
                        intro m94 m94r
                        refine e_Ok.callV rfl (by omega) rfl rfl rfl rfl (c_311_325 (by omega) (by omega) (by omega) (by omega)) (fun r96 w97 h98 => ?_)
                        obtain ⟨rfl, q99, q99k⟩ := h98
                        have f100 : e_fr mL w w97 := e_fr.trans j76 (e_fr.mono q99 (fun c k q => su_51_21 q))
                        have l101 : w97 286 a = w 286 a := f100 286 a no_51_0
                        have l102 : w97 276 (36 * a + 17) = w 276 (36 * a + 17) := f100 276 (36 * a + 17) no_51_1
                        show e_Ok 20 elay ecode eI (d + 1) 314 (366, [(0, (1, 275)), (6, (4, z15)), (8, (0, w 295 s)), (9, (0, w 296 s)), (10, (0, z21)), (11, (0, z23)), (12, (0, y1)), (13, (0, y2))], [], w97) _
                        refine e_Ok.run (t' := (367, [(0, (1, 275)), (6, (4, z15)), (8, (0, w 295 s)), (9, (0, w 296 s)), (10, (0, z21)), (11, (0, z23)), (12, (0, y1)), (13, (0, y2))], [(1, 275)], w97)) 1 rfl ?_
                        refine e_Ok.getr (z := 324) rfl (el_o rfl) rfl rfl ((f100 275 61 no_51_2).trans (e_Has.eq hT rfl)) (by omega) ?_
                        refine e_Ok.run (t' := (371, [(0, (1, 275)), (6, (4, z15)), (8, (0, w 295 s)), (9, (0, w 296 s)), (10, (0, z21)), (11, (0, z23)), (12, (0, y1)), (13, (0, y2))], [(1, 275), (1, 324)], w97)) 1 rfl ?_
                        refine e_Ok.getr (z := 325) rfl (el_o rfl) rfl rfl ((f100 275 62 no_51_4).trans (e_Has.eq hT rfl)) (by omega) ?_
                        refine e_Ok.run (t' := (376, [(0, (1, 275)), (6, (4, z15)), (8, (0, w 295 s)), (9, (0, w 296 s)), (10, (0, z21)), (11, (0, z23)), (12, (0, y1)), (13, (0, y2))], [(4, z15), (1, 325), (1, 324)], w97)) 1 rfl ?_
                        refine e_Ok.callS rfl (by omega) rfl rfl (c_310 (by omega) (e_kn.fr q99 (fun k q => by unfold m2 at q; omega) j77) q99k) (fun r103 w104 h105 => ?_)
                        obtain ⟨z106, rfl, rfl, q107a, q107b⟩ := h105
                        show e_Ok 20 elay ecode eI (d + 1) 314 (379, [(0, (1, 275)), (6, (4, z15)), (8, (0, w 295 s)), (9, (0, w 296 s)), (10, (0, z21)), (11, (0, z23)), (12, (0, y1)), (13, (0, y2))], [(0, z106)], w97) _
                        refine e_Ok.run (t' := (381, [(12, (0, z106)), (0, (1, 275)), (6, (4, z15)), (8, (0, w 295 s)), (9, (0, w 296 s)), (10, (0, z21)), (11, (0, z23)), (13, (0, y2))], [], w97)) 1 rfl ?_
                        refine e_Ok.inc (z := y2 + 1) rfl rfl (by omega) (by omega) ?_
                        show e_Ok 20 elay ecode eI (d + 1) 314 (384, [(13, (0, y2 + 1)), (12, (0, z106)), (0, (1, 275)), (6, (4, z15)), (8, (0, w 295 s)), (9, (0, w 296 s)), (10, (0, z21)), (11, (0, z23))], [], w97) _
                        refine e_Ok.run (t' := (296, [(13, (0, y2 + 1)), (12, (0, z106)), (0, (1, 275)), (6, (4, z15)), (8, (0, w 295 s)), (9, (0, w 296 s)), (10, (0, z21)), (11, (0, z23))], [], w97)) 1 rfl ?_
                        refine e_Ok.sub eAlk (e_sub_of rfl ?_) (ih75 z106 (y2 + 1) w97 ⟨f100, (e_kn.fr q99 (fun k q => by unfold m2 at q; omega) j77), by omega, by omega⟩ (by omega))
                        exact ⟨rfl, rfl, rfl, rfl, rfl, rfl, rfl, rfl, trivial⟩
                      refine e_Ok.if1 rfl (fun h93 => ?_) (fun h93 => ?_)
                      · exact e_Ok.run 1 rfl (hJ95 z23 (by omega))
                      · exact e_Ok.run 2 rfl (hJ95 (w 296 s) (by omega))
                    refine e_Ok.if2 rfl (fun h90 => ?_) (fun h90 => ?_)
                    · exact e_Ok.run 1 rfl (hJ92 z21 (by omega))
                    · exact e_Ok.run 2 rfl (hJ92 (w 295 s) (by omega))
                  refine e_Ok.if2 rfl (fun h87 => ?_) (fun h87 => ?_)
                  · exact e_Ok.run 1 rfl (hJ89 (w 296 s) (by omega))
                  · exact e_Ok.run 2 rfl (hJ89 z23 (by omega))
                refine e_Ok.if2 rfl (fun h84 => ?_) (fun h84 => ?_)
                · exact e_Ok.run 1 rfl (hJ86 (w 295 s) (by omega))
                · exact e_Ok.run 2 rfl (hJ86 z21 (by omega))
        refine e_Ok.sub eAlk (e_sub_of rfl ?_) (hL74 (4 + 1 : Int).toNat 0 0 w9 ⟨f12, q11k, by omega, by omega⟩ (by omega))
        exact ⟨rfl, rfl, rfl, rfl, rfl, rfl, rfl, rfl, trivial⟩
      · replace h73 : (0 : Int) ≠ 0 := by have q : ¬ ((0 : Int) = 0) := h73; omega
        exfalso; omega
  · replace h17 : (w 294 s : Int) = 0 := by have q : ¬ ((w 294 s : Int) ≠ 0) := h17; omega
    refine e_Ok.run (t' := (36, [(6, (4, z15)), (0, (1, 275)), (1, (0, a)), (2, (0, i)), (3, (0, u)), (4, (0, s)), (5, (0, m))], [(1, 275)], w9)) 1 rfl ?_
    refine e_Ok.getr (z := 295) rfl (el_o rfl) rfl rfl ((f12 275 25 no_51_8).trans (e_Has.eq hT rfl)) (by omega) ?_
    refine e_Ok.run (t' := (41, [(6, (4, z15)), (0, (1, 275)), (1, (0, a)), (2, (0, i)), (3, (0, u)), (4, (0, s)), (5, (0, m))], [(0, s), (1, 295)], w9)) 1 rfl ?_
    have h108 := (e_Has.get hT (c := 295) (k := s) (lo := (-16000)) (hi := 16000) rfl (by decide))
    refine e_Ok.ald (z := w 295 s) rfl (el_o rfl) rfl (by omega) ((f12 295 s no_51_9).trans rfl) (by omega) ?_
    refine e_Ok.run (t' := (44, [(6, (4, z15)), (0, (1, 275)), (1, (0, a)), (2, (0, i)), (3, (0, u)), (4, (0, s)), (5, (0, m))], [(1, 275), (4, w 295 s)], w9)) 2 rfl ?_
    refine e_Ok.getr (z := 295) rfl (el_o rfl) rfl rfl ((f12 275 25 no_51_8).trans (e_Has.eq hT rfl)) (by omega) ?_
    refine e_Ok.run (t' := (49, [(6, (4, z15)), (0, (1, 275)), (1, (0, a)), (2, (0, i)), (3, (0, u)), (4, (0, s)), (5, (0, m))], [(0, s), (1, 295), (4, w 295 s)], w9)) 1 rfl ?_
    refine e_Ok.ald (z := w 295 s) rfl (el_o rfl) rfl (by omega) ((f12 295 s no_51_9).trans rfl) (by omega) ?_
    refine e_Ok.run (t' := (52, [(6, (4, z15)), (0, (1, 275)), (1, (0, a)), (2, (0, i)), (3, (0, u)), (4, (0, s)), (5, (0, m))], [(1, 275), (4, w 295 s), (4, w 295 s)], w9)) 2 rfl ?_
    refine e_Ok.getr (z := 324) rfl (el_o rfl) rfl rfl ((f12 275 61 no_51_2).trans (e_Has.eq hT rfl)) (by omega) ?_
    refine e_Ok.run (t' := (56, [(6, (4, z15)), (0, (1, 275)), (1, (0, a)), (2, (0, i)), (3, (0, u)), (4, (0, s)), (5, (0, m))], [(0, 0), (1, 324), (4, w 295 s), (4, w 295 s)], w9)) 1 rfl ?_
    have h109 := (q11k 0 (by omega) (by omega))
    refine e_Ok.ald (z := w9 324 0) rfl (el_o rfl) rfl (by omega) rfl (by omega) ?_
    refine e_Ok.run (t' := (59, [(6, (4, z15)), (0, (1, 275)), (1, (0, a)), (2, (0, i)), (3, (0, u)), (4, (0, s)), (5, (0, m))], [(1, 275), (4, w9 324 0), (4, w 295 s), (4, w 295 s)], w9)) 2 rfl ?_
    refine e_Ok.getr (z := 324) rfl (el_o rfl) rfl rfl ((f12 275 61 no_51_2).trans (e_Has.eq hT rfl)) (by omega) ?_
    refine e_Ok.run (t' := (63, [(6, (4, z15)), (0, (1, 275)), (1, (0, a)), (2, (0, i)), (3, (0, u)), (4, (0, s)), (5, (0, m))], [(0, 2), (1, 324), (4, w9 324 0), (4, w 295 s), (4, w 295 s)], w9)) 1 rfl ?_
    have h110 := (q11k 2 (by omega) (by omega))
    refine e_Ok.ald (z := w9 324 2) rfl (el_o rfl) rfl (by omega) rfl (by omega) ?_
    refine e_Ok.run (t' := (68, [(6, (4, z15)), (0, (1, 275)), (1, (0, a)), (2, (0, i)), (3, (0, u)), (4, (0, s)), (5, (0, m))], [(1, 275), (4, z15), (4, w9 324 2), (4, w9 324 0), (4, w 295 s), (4, w 295 s)], w9)) 3 rfl ?_
    refine e_Ok.getr (z := 297) rfl (el_o rfl) rfl rfl ((f12 275 27 no_51_12).trans (e_Has.eq hT rfl)) (by omega) ?_
    refine e_Ok.run (t' := (73, [(6, (4, z15)), (0, (1, 275)), (1, (0, a)), (2, (0, i)), (3, (0, u)), (4, (0, s)), (5, (0, m))], [(0, s), (1, 297), (4, z15), (4, w9 324 2), (4, w9 324 0), (4, w 295 s), (4, w 295 s)], w9)) 1 rfl ?_
    have h111 := (e_Has.get hT (c := 297) (k := s) (lo := (-2147483648)) (hi := 2147483647) rfl (by decide))
    refine e_Ok.ald (z := w 297 s) rfl (el_o rfl) rfl (by omega) ((f12 297 s no_51_13).trans rfl) (by omega) ?_
    refine e_Ok.run (t' := (75, [(6, (4, z15)), (0, (1, 275)), (1, (0, a)), (2, (0, i)), (3, (0, u)), (4, (0, s)), (5, (0, m))], [(4, w 297 s), (4, z15), (4, w9 324 2), (4, w9 324 0), (4, w 295 s), (4, w 295 s)], w9)) 1 rfl ?_
    refine e_Ok.addL (z := z15 + w 297 s) rfl (by omega) (by omega) ?_
    refine e_Ok.callS rfl (by omega) rfl rfl (c_309) (fun r113 w114 h115 => ?_)
    obtain ⟨z116, rfl, rfl, q117a, q117b⟩ := h115
    show e_Ok 20 elay ecode eI (d + 1) 314 (79, [(6, (4, z15)), (0, (1, 275)), (1, (0, a)), (2, (0, i)), (3, (0, u)), (4, (0, s)), (5, (0, m))], [(0, z116)], w9) _
    refine e_Ok.if1 rfl (fun h118 => ?_) (fun h118 => ?_)
    · replace h118 : (z116 : Int) ≠ 0 := h118
      refine e_Ok.run (t' := (138, [(8, (0, 1)), (6, (4, z15)), (0, (1, 275)), (1, (0, a)), (2, (0, i)), (3, (0, u)), (4, (0, s)), (5, (0, m))], [(0, 1)], w9)) 4 rfl ?_
      refine e_Ok.if1 rfl (fun h119 => ?_) (fun h119 => ?_)
      · replace h119 : (1 : Int) ≠ 0 := h119
        refine e_Ok.run (t' := (207, [(8, (0, 1)), (6, (4, z15)), (0, (1, 275)), (1, (0, a)), (2, (0, i)), (3, (0, u)), (4, (0, s)), (5, (0, m))], [(0, 0)], w9)) 1 rfl ?_
        refine e_Ok.rets rfl rfl ?_
        exact ⟨_, rfl, f12, by omega, by omega⟩
      · replace h119 : (1 : Int) = 0 := by have q : ¬ ((1 : Int) ≠ 0) := h119; omega
        exfalso; omega
    · replace h118 : (z116 : Int) = 0 := by have q : ¬ ((z116 : Int) ≠ 0) := h118; omega
      refine e_Ok.run (t' := (83, [(6, (4, z15)), (0, (1, 275)), (1, (0, a)), (2, (0, i)), (3, (0, u)), (4, (0, s)), (5, (0, m))], [(1, 275)], w9)) 1 rfl ?_
      refine e_Ok.getr (z := 296) rfl (el_o rfl) rfl rfl ((f12 275 26 no_51_10).trans (e_Has.eq hT rfl)) (by omega) ?_
      refine e_Ok.run (t' := (88, [(6, (4, z15)), (0, (1, 275)), (1, (0, a)), (2, (0, i)), (3, (0, u)), (4, (0, s)), (5, (0, m))], [(0, s), (1, 296)], w9)) 1 rfl ?_
      have h120 := (e_Has.get hT (c := 296) (k := s) (lo := (-16000)) (hi := 16000) rfl (by decide))
      refine e_Ok.ald (z := w 296 s) rfl (el_o rfl) rfl (by omega) ((f12 296 s no_51_11).trans rfl) (by omega) ?_
      refine e_Ok.run (t' := (91, [(6, (4, z15)), (0, (1, 275)), (1, (0, a)), (2, (0, i)), (3, (0, u)), (4, (0, s)), (5, (0, m))], [(1, 275), (4, w 296 s)], w9)) 2 rfl ?_
      refine e_Ok.getr (z := 296) rfl (el_o rfl) rfl rfl ((f12 275 26 no_51_10).trans (e_Has.eq hT rfl)) (by omega) ?_
      refine e_Ok.run (t' := (96, [(6, (4, z15)), (0, (1, 275)), (1, (0, a)), (2, (0, i)), (3, (0, u)), (4, (0, s)), (5, (0, m))], [(0, s), (1, 296), (4, w 296 s)], w9)) 1 rfl ?_
      refine e_Ok.ald (z := w 296 s) rfl (el_o rfl) rfl (by omega) ((f12 296 s no_51_11).trans rfl) (by omega) ?_
      refine e_Ok.run (t' := (99, [(6, (4, z15)), (0, (1, 275)), (1, (0, a)), (2, (0, i)), (3, (0, u)), (4, (0, s)), (5, (0, m))], [(1, 275), (4, w 296 s), (4, w 296 s)], w9)) 2 rfl ?_
      refine e_Ok.getr (z := 324) rfl (el_o rfl) rfl rfl ((f12 275 61 no_51_2).trans (e_Has.eq hT rfl)) (by omega) ?_
      refine e_Ok.run (t' := (103, [(6, (4, z15)), (0, (1, 275)), (1, (0, a)), (2, (0, i)), (3, (0, u)), (4, (0, s)), (5, (0, m))], [(0, 1), (1, 324), (4, w 296 s), (4, w 296 s)], w9)) 1 rfl ?_
      have h121 := (q11k 1 (by omega) (by omega))
      refine e_Ok.ald (z := w9 324 1) rfl (el_o rfl) rfl (by omega) rfl (by omega) ?_
      refine e_Ok.run (t' := (106, [(6, (4, z15)), (0, (1, 275)), (1, (0, a)), (2, (0, i)), (3, (0, u)), (4, (0, s)), (5, (0, m))], [(1, 275), (4, w9 324 1), (4, w 296 s), (4, w 296 s)], w9)) 2 rfl ?_
      refine e_Ok.getr (z := 324) rfl (el_o rfl) rfl rfl ((f12 275 61 no_51_2).trans (e_Has.eq hT rfl)) (by omega) ?_
      refine e_Ok.run (t' := (110, [(6, (4, z15)), (0, (1, 275)), (1, (0, a)), (2, (0, i)), (3, (0, u)), (4, (0, s)), (5, (0, m))], [(0, 3), (1, 324), (4, w9 324 1), (4, w 296 s), (4, w 296 s)], w9)) 1 rfl ?_
      have h122 := (q11k 3 (by omega) (by omega))
      refine e_Ok.ald (z := w9 324 3) rfl (el_o rfl) rfl (by omega) rfl (by omega) ?_
      refine e_Ok.run (t' := (115, [(6, (4, z15)), (0, (1, 275)), (1, (0, a)), (2, (0, i)), (3, (0, u)), (4, (0, s)), (5, (0, m))], [(1, 275), (4, z15), (4, w9 324 3), (4, w9 324 1), (4, w 296 s), (4, w 296 s)], w9)) 3 rfl ?_
      refine e_Ok.getr (z := 297) rfl (el_o rfl) rfl rfl ((f12 275 27 no_51_12).trans (e_Has.eq hT rfl)) (by omega) ?_
      refine e_Ok.run (t' := (120, [(6, (4, z15)), (0, (1, 275)), (1, (0, a)), (2, (0, i)), (3, (0, u)), (4, (0, s)), (5, (0, m))], [(0, s), (1, 297), (4, z15), (4, w9 324 3), (4, w9 324 1), (4, w 296 s), (4, w 296 s)], w9)) 1 rfl ?_
      refine e_Ok.ald (z := w 297 s) rfl (el_o rfl) rfl (by omega) ((f12 297 s no_51_13).trans rfl) (by omega) ?_
      refine e_Ok.run (t' := (122, [(6, (4, z15)), (0, (1, 275)), (1, (0, a)), (2, (0, i)), (3, (0, u)), (4, (0, s)), (5, (0, m))], [(4, w 297 s), (4, z15), (4, w9 324 3), (4, w9 324 1), (4, w 296 s), (4, w 296 s)], w9)) 1 rfl ?_
      refine e_Ok.addL (z := z15 + w 297 s) rfl (by omega) (by omega) ?_
      refine e_Ok.callS rfl (by omega) rfl rfl (c_309) (fun r124 w125 h126 => ?_)
      obtain ⟨z127, rfl, rfl, q128a, q128b⟩ := h126
      show e_Ok 20 elay ecode eI (d + 1) 314 (126, [(6, (4, z15)), (0, (1, 275)), (1, (0, a)), (2, (0, i)), (3, (0, u)), (4, (0, s)), (5, (0, m))], [(0, z127)], w9) _
      refine e_Ok.if1 rfl (fun h129 => ?_) (fun h129 => ?_)
      · replace h129 : (z127 : Int) = 0 := h129
        refine e_Ok.run (t' := (138, [(8, (0, 0)), (6, (4, z15)), (0, (1, 275)), (1, (0, a)), (2, (0, i)), (3, (0, u)), (4, (0, s)), (5, (0, m))], [(0, 0)], w9)) 3 rfl ?_
        refine e_Ok.if1 rfl (fun h130 => ?_) (fun h130 => ?_)
        · replace h130 : (0 : Int) ≠ 0 := h130
          exfalso; omega
        · replace h130 : (0 : Int) = 0 := by have q : ¬ ((0 : Int) ≠ 0) := h130; omega
          refine e_Ok.run (t' := (142, [(8, (0, 0)), (6, (4, z15)), (0, (1, 275)), (1, (0, a)), (2, (0, i)), (3, (0, u)), (4, (0, s)), (5, (0, m))], [(1, 275)], w9)) 1 rfl ?_
          refine e_Ok.getr (z := 295) rfl (el_o rfl) rfl rfl ((f12 275 25 no_51_8).trans (e_Has.eq hT rfl)) (by omega) ?_
          refine e_Ok.run (t' := (147, [(8, (0, 0)), (6, (4, z15)), (0, (1, 275)), (1, (0, a)), (2, (0, i)), (3, (0, u)), (4, (0, s)), (5, (0, m))], [(0, s), (1, 295)], w9)) 1 rfl ?_
          refine e_Ok.ald (z := w 295 s) rfl (el_o rfl) rfl (by omega) ((f12 295 s no_51_9).trans rfl) (by omega) ?_
          refine e_Ok.run (t' := (150, [(8, (0, 0)), (6, (4, z15)), (0, (1, 275)), (1, (0, a)), (2, (0, i)), (3, (0, u)), (4, (0, s)), (5, (0, m))], [(1, 275), (4, w 295 s)], w9)) 2 rfl ?_
          refine e_Ok.getr (z := 296) rfl (el_o rfl) rfl rfl ((f12 275 26 no_51_10).trans (e_Has.eq hT rfl)) (by omega) ?_
          refine e_Ok.run (t' := (155, [(8, (0, 0)), (6, (4, z15)), (0, (1, 275)), (1, (0, a)), (2, (0, i)), (3, (0, u)), (4, (0, s)), (5, (0, m))], [(0, s), (1, 296), (4, w 295 s)], w9)) 1 rfl ?_
          refine e_Ok.ald (z := w 296 s) rfl (el_o rfl) rfl (by omega) ((f12 296 s no_51_11).trans rfl) (by omega) ?_
          refine e_Ok.run (t' := (158, [(8, (0, 0)), (6, (4, z15)), (0, (1, 275)), (1, (0, a)), (2, (0, i)), (3, (0, u)), (4, (0, s)), (5, (0, m))], [(1, 275), (4, w 296 s), (4, w 295 s)], w9)) 2 rfl ?_
          refine e_Ok.getr (z := 324) rfl (el_o rfl) rfl rfl ((f12 275 61 no_51_2).trans (e_Has.eq hT rfl)) (by omega) ?_
          refine e_Ok.run (t' := (162, [(8, (0, 0)), (6, (4, z15)), (0, (1, 275)), (1, (0, a)), (2, (0, i)), (3, (0, u)), (4, (0, s)), (5, (0, m))], [(0, 0), (1, 324), (4, w 296 s), (4, w 295 s)], w9)) 1 rfl ?_
          refine e_Ok.ald (z := w9 324 0) rfl (el_o rfl) rfl (by omega) rfl (by omega) ?_
          refine e_Ok.run (t' := (165, [(8, (0, 0)), (6, (4, z15)), (0, (1, 275)), (1, (0, a)), (2, (0, i)), (3, (0, u)), (4, (0, s)), (5, (0, m))], [(1, 275), (4, w9 324 0), (4, w 296 s), (4, w 295 s)], w9)) 2 rfl ?_
          refine e_Ok.getr (z := 324) rfl (el_o rfl) rfl rfl ((f12 275 61 no_51_2).trans (e_Has.eq hT rfl)) (by omega) ?_
          refine e_Ok.run (t' := (169, [(8, (0, 0)), (6, (4, z15)), (0, (1, 275)), (1, (0, a)), (2, (0, i)), (3, (0, u)), (4, (0, s)), (5, (0, m))], [(0, 1), (1, 324), (4, w9 324 0), (4, w 296 s), (4, w 295 s)], w9)) 1 rfl ?_
          refine e_Ok.ald (z := w9 324 1) rfl (el_o rfl) rfl (by omega) rfl (by omega) ?_
          refine e_Ok.run (t' := (172, [(8, (0, 0)), (6, (4, z15)), (0, (1, 275)), (1, (0, a)), (2, (0, i)), (3, (0, u)), (4, (0, s)), (5, (0, m))], [(1, 275), (4, w9 324 1), (4, w9 324 0), (4, w 296 s), (4, w 295 s)], w9)) 2 rfl ?_
          refine e_Ok.getr (z := 324) rfl (el_o rfl) rfl rfl ((f12 275 61 no_51_2).trans (e_Has.eq hT rfl)) (by omega) ?_
          refine e_Ok.run (t' := (176, [(8, (0, 0)), (6, (4, z15)), (0, (1, 275)), (1, (0, a)), (2, (0, i)), (3, (0, u)), (4, (0, s)), (5, (0, m))], [(0, 2), (1, 324), (4, w9 324 1), (4, w9 324 0), (4, w 296 s), (4, w 295 s)], w9)) 1 rfl ?_
          refine e_Ok.ald (z := w9 324 2) rfl (el_o rfl) rfl (by omega) rfl (by omega) ?_
          refine e_Ok.run (t' := (179, [(8, (0, 0)), (6, (4, z15)), (0, (1, 275)), (1, (0, a)), (2, (0, i)), (3, (0, u)), (4, (0, s)), (5, (0, m))], [(1, 275), (4, w9 324 2), (4, w9 324 1), (4, w9 324 0), (4, w 296 s), (4, w 295 s)], w9)) 2 rfl ?_
          refine e_Ok.getr (z := 324) rfl (el_o rfl) rfl rfl ((f12 275 61 no_51_2).trans (e_Has.eq hT rfl)) (by omega) ?_
          refine e_Ok.run (t' := (183, [(8, (0, 0)), (6, (4, z15)), (0, (1, 275)), (1, (0, a)), (2, (0, i)), (3, (0, u)), (4, (0, s)), (5, (0, m))], [(0, 3), (1, 324), (4, w9 324 2), (4, w9 324 1), (4, w9 324 0), (4, w 296 s), (4, w 295 s)], w9)) 1 rfl ?_
          refine e_Ok.ald (z := w9 324 3) rfl (el_o rfl) rfl (by omega) rfl (by omega) ?_
          refine e_Ok.run (t' := (188, [(8, (0, 0)), (6, (4, z15)), (0, (1, 275)), (1, (0, a)), (2, (0, i)), (3, (0, u)), (4, (0, s)), (5, (0, m))], [(1, 275), (4, z15), (4, w9 324 3), (4, w9 324 2), (4, w9 324 1), (4, w9 324 0), (4, w 296 s), (4, w 295 s)], w9)) 3 rfl ?_
          refine e_Ok.getr (z := 297) rfl (el_o rfl) rfl rfl ((f12 275 27 no_51_12).trans (e_Has.eq hT rfl)) (by omega) ?_
          refine e_Ok.run (t' := (193, [(8, (0, 0)), (6, (4, z15)), (0, (1, 275)), (1, (0, a)), (2, (0, i)), (3, (0, u)), (4, (0, s)), (5, (0, m))], [(0, s), (1, 297), (4, z15), (4, w9 324 3), (4, w9 324 2), (4, w9 324 1), (4, w9 324 0), (4, w 296 s), (4, w 295 s)], w9)) 1 rfl ?_
          refine e_Ok.ald (z := w 297 s) rfl (el_o rfl) rfl (by omega) ((f12 297 s no_51_13).trans rfl) (by omega) ?_
          refine e_Ok.run (t' := (195, [(8, (0, 0)), (6, (4, z15)), (0, (1, 275)), (1, (0, a)), (2, (0, i)), (3, (0, u)), (4, (0, s)), (5, (0, m))], [(4, w 297 s), (4, z15), (4, w9 324 3), (4, w9 324 2), (4, w9 324 1), (4, w9 324 0), (4, w 296 s), (4, w 295 s)], w9)) 1 rfl ?_
          refine e_Ok.addL (z := z15 + w 297 s) rfl (by omega) (by omega) ?_
          refine e_Ok.callS rfl (by omega) rfl rfl (c_307 (by omega)) (fun r132 w133 h134 => ?_)
          obtain ⟨z135, rfl, rfl, q136a, q136b⟩ := h134
          show e_Ok 20 elay ecode eI (d + 1) 314 (199, [(8, (0, 0)), (6, (4, z15)), (0, (1, 275)), (1, (0, a)), (2, (0, i)), (3, (0, u)), (4, (0, s)), (5, (0, m))], [(0, z135)], w9) _
          refine e_Ok.if1 rfl (fun h137 => ?_) (fun h137 => ?_)
          · replace h137 : (z135 : Int) = 0 := h137
            refine e_Ok.run (t' := (207, [(8, (0, 0)), (6, (4, z15)), (0, (1, 275)), (1, (0, a)), (2, (0, i)), (3, (0, u)), (4, (0, s)), (5, (0, m))], [(0, 0)], w9)) 1 rfl ?_
            refine e_Ok.rets rfl rfl ?_
            exact ⟨_, rfl, f12, by omega, by omega⟩
          · replace h137 : (z135 : Int) ≠ 0 := by have q : ¬ ((z135 : Int) = 0) := h137; omega
            refine e_Ok.run (t' := (207, [(8, (0, 0)), (6, (4, z15)), (0, (1, 275)), (1, (0, a)), (2, (0, i)), (3, (0, u)), (4, (0, s)), (5, (0, m))], [(0, 1)], w9)) 2 rfl ?_
            refine e_Ok.rets rfl rfl ?_
            exact ⟨_, rfl, f12, by omega, by omega⟩
      · replace h129 : (z127 : Int) ≠ 0 := by have q : ¬ ((z127 : Int) = 0) := h129; omega
        refine e_Ok.run (t' := (138, [(8, (0, 1)), (6, (4, z15)), (0, (1, 275)), (1, (0, a)), (2, (0, i)), (3, (0, u)), (4, (0, s)), (5, (0, m))], [(0, 1)], w9)) 4 rfl ?_
        refine e_Ok.if1 rfl (fun h138 => ?_) (fun h138 => ?_)
        · replace h138 : (1 : Int) ≠ 0 := h138
          refine e_Ok.run (t' := (207, [(8, (0, 1)), (6, (4, z15)), (0, (1, 275)), (1, (0, a)), (2, (0, i)), (3, (0, u)), (4, (0, s)), (5, (0, m))], [(0, 0)], w9)) 1 rfl ?_
          refine e_Ok.rets rfl rfl ?_
          exact ⟨_, rfl, f12, by omega, by omega⟩
        · replace h138 : (1 : Int) = 0 := by have q : ¬ ((1 : Int) ≠ 0) := h138; omega
          exfalso; omega
theorem no_51_16 : ¬ mL 275 23 := by unfold mL; omega
theorem no_51_17 : ¬ mL 275 29 := by unfold mL; omega
theorem no_51_18 {k : Int} : ¬ mL 299 k := by unfold mL; omega
theorem c_315 {d : Nat} (hd : 24 ≤ d) {w : eW} (hT : e_Has mTy w) {a u m : Int} (ha : 0 ≤ a ∧ a ≤ 3) (hu : 0 ≤ u ∧ u ≤ 28) (k1 : e_kn w 321 u (u + w 286 a)) (k2 : e_kn w 322 u (u + w 286 a)) : e_Ok 20 elay ecode eI d 315 (0, [(0, (1, 275)), (1, (0, a)), (2, (0, u)), (3, (0, m))], [], w) (fun r w' => ∃ z : Int, r = [(0, z)] ∧ e_fr mL w w' ∧ 0 ≤ z ∧ z ≤ 1) := by
  obtain ⟨d, rfl⟩ : ∃ e, d = e + 1 := ⟨d - 1, by omega⟩
  have hja := (e_Has.get hT (c := 286) (k := a) (lo := 0) (hi := 6) rfl (by decide))
  refine e_Ok.run (t' := (2, [(0, (1, 275)), (1, (0, a)), (2, (0, u)), (3, (0, m))], [(0, a), (1, 275)], w)) 2 rfl ?_
  refine e_Ok.callV rfl (by omega) rfl rfl rfl rfl (c_304 (by omega) hT (by omega)) (fun r1 w2 h3 => ?_)
  obtain ⟨z4, rfl, rfl, q5⟩ := h3
  have h6 := (e_Has.get hT (c := 286) (k := a) (lo := 0) (hi := 6) rfl (by decide))
  show e_Ok 20 elay ecode eI (d + 1) 315 (5, [(0, (1, 275)), (1, (0, a)), (2, (0, u)), (3, (0, m))], [(0, z4)], w) _
  refine e_Ok.run (t' := (10, [(5, (0, 0)), (4, (0, z4)), (0, (1, 275)), (1, (0, a)), (2, (0, u)), (3, (0, m))], [], w)) 3 rfl ?_
  have hL7 : ∀ (n : Nat) (y1 : Int) (v1 : eW), e_fr mL w v1 ∧ 0 ≤ y1 ∧ y1 ≤ 7 → 8 - y1 < n → e_Ok 20 elay ecode eI (d + 1) 315 (10, [(0, (1, 275)), (1, (0, a)), (2, (0, u)), (3, (0, m)), (4, (0, z4)), (5, (0, y1))], [], v1) (fun r w' => ∃ z : Int, r = [(0, z)] ∧ e_fr mL w w' ∧ 0 ≤ z ∧ z ≤ 1) := by
    intro n
    induction n with
    | zero => intro y1 v1 hj hm; obtain ⟨j9, j10⟩ := hj; exfalso; omega
    | succ n ih8 =>
      intro y1 v1 hj hm
      obtain ⟨j9, j10⟩ := hj
      have l11 : v1 286 a = w 286 a := j9 286 a no_51_0
      have l12 : v1 276 (36 * a + 17) = w 276 (36 * a + 17) := j9 276 (36 * a + 17) no_51_1
      refine e_Ok.run (t' := (14, [(0, (1, 275)), (1, (0, a)), (2, (0, u)), (3, (0, m)), (4, (0, z4)), (5, (0, y1))], [(0, z4), (0, y1)], v1)) 2 rfl ?_
      refine e_Ok.if2 rfl (fun h13 => ?_) (fun h13 => ?_)
      · replace h13 : (y1 : Int) ≥ z4 := h13
        refine e_Ok.run (t' := (116, [(0, (1, 275)), (1, (0, a)), (2, (0, u)), (3, (0, m)), (4, (0, z4)), (5, (0, y1))], [(0, 0)], v1)) 1 rfl ?_
        refine e_Ok.rets rfl rfl ?_
        exact ⟨_, rfl, j9, by omega, by omega⟩
      · replace h13 : (y1 : Int) < z4 := by have q : ¬ ((y1 : Int) ≥ z4) := h13; omega
        refine e_Ok.run (t' := (20, [(0, (1, 275)), (1, (0, a)), (2, (0, u)), (3, (0, m)), (4, (0, z4)), (5, (0, y1))], [(0, 2), (0, y1)], v1)) 2 rfl ?_
        refine e_Ok.add (z := y1 + 2) rfl (by omega) (by omega) ?_
        refine e_Ok.run (t' := (23, [(6, (0, y1 + 2)), (0, (1, 275)), (1, (0, a)), (2, (0, u)), (3, (0, m)), (4, (0, z4)), (5, (0, y1))], [], v1)) 1 rfl ?_
        have hL14 : ∀ (n : Nat) (y2 : Int) (v2 : eW), e_fr mL w v2 ∧ y1 + 2 ≤ y2 ∧ y2 ≤ 9 → 10 - y2 < n → e_Ok 20 elay ecode eI (d + 1) 315 (23, [(0, (1, 275)), (1, (0, a)), (2, (0, u)), (3, (0, m)), (4, (0, z4)), (5, (0, y1)), (6, (0, y2))], [], v2) (fun r w' => ∃ z : Int, r = [(0, z)] ∧ e_fr mL w w' ∧ 0 ≤ z ∧ z ≤ 1) := by
          intro n
          induction n with
          | zero => intro y2 v2 hj hm; obtain ⟨j16, j17⟩ := hj; exfalso; omega
          | succ n ih15 =>
            intro y2 v2 hj hm
            obtain ⟨j16, j17⟩ := hj
            have l18 : v2 286 a = w 286 a := j16 286 a no_51_0
            have l19 : v2 276 (36 * a + 17) = w 276 (36 * a + 17) := j16 276 (36 * a + 17) no_51_1
            refine e_Ok.run (t' := (27, [(0, (1, 275)), (1, (0, a)), (2, (0, u)), (3, (0, m)), (4, (0, z4)), (5, (0, y1)), (6, (0, y2))], [(0, z4), (0, y2)], v2)) 2 rfl ?_
            refine e_Ok.if2 rfl (fun h20 => ?_) (fun h20 => ?_)
            · replace h20 : (y2 : Int) ≥ z4 := h20
              refine e_Ok.run (t' := (57, [(6, (0, 0)), (0, (1, 275)), (1, (0, a)), (2, (0, u)), (3, (0, m)), (4, (0, z4)), (5, (0, y1))], [], v2)) 2 rfl ?_
              have hL21 : ∀ (n : Nat) (y3 : Int) (v3 : eW), e_fr mL w v3 ∧ 0 ≤ y3 ∧ y3 ≤ 16 → 17 - y3 < n → e_Ok 20 elay ecode eI (d + 1) 315 (57, [(0, (1, 275)), (1, (0, a)), (2, (0, u)), (3, (0, m)), (4, (0, z4)), (5, (0, y1)), (6, (0, y3))], [], v3) (fun r w' => ∃ z : Int, r = [(0, z)] ∧ e_fr mL w w' ∧ 0 ≤ z ∧ z ≤ 1) := by
                intro n
                induction n with
                | zero => intro y3 v3 hj hm; obtain ⟨j23, j24⟩ := hj; exfalso; omega
                | succ n ih22 =>
                  intro y3 v3 hj hm
                  obtain ⟨j23, j24⟩ := hj
                  have l25 : v3 286 a = w 286 a := j23 286 a no_51_0
                  have l26 : v3 276 (36 * a + 17) = w 276 (36 * a + 17) := j23 276 (36 * a + 17) no_51_1
                  refine e_Ok.run (t' := (60, [(0, (1, 275)), (1, (0, a)), (2, (0, u)), (3, (0, m)), (4, (0, z4)), (5, (0, y1)), (6, (0, y3))], [(1, 275), (0, y3)], v3)) 2 rfl ?_
                  have h27 := (e_Has.get hT (c := 275) (k := 23) (lo := 0) (hi := 16) rfl (by decide))
                  refine e_Ok.getf (z := w 275 23) rfl (el_o rfl) rfl rfl ((j23 275 23 no_51_16).trans rfl) (by omega) ?_
                  refine e_Ok.if2 rfl (fun h28 => ?_) (fun h28 => ?_)
                  · replace h28 : (y3 : Int) ≥ w 275 23 := h28
                    refine e_Ok.inc (z := y1 + 1) rfl rfl (by omega) (by omega) ?_
                    show e_Ok 20 elay ecode eI (d + 1) 315 (112, [(5, (0, y1 + 1)), (0, (1, 275)), (1, (0, a)), (2, (0, u)), (3, (0, m)), (4, (0, z4)), (6, (0, y3))], [], v3) _
                    refine e_Ok.run (t' := (10, [(5, (0, y1 + 1)), (0, (1, 275)), (1, (0, a)), (2, (0, u)), (3, (0, m)), (4, (0, z4)), (6, (0, y3))], [], v3)) 1 rfl ?_
                    refine e_Ok.sub eAlk (e_sub_of rfl ?_) (ih8 (y1 + 1) v3 ⟨j23, by omega⟩ (by omega))
                    exact ⟨rfl, rfl, rfl, rfl, rfl, rfl, trivial⟩
                  · replace h28 : (y3 : Int) < w 275 23 := by have q : ¬ ((y3 : Int) ≥ w 275 23) := h28; omega
                    refine e_Ok.run (t' := (67, [(0, (1, 275)), (1, (0, a)), (2, (0, u)), (3, (0, m)), (4, (0, z4)), (5, (0, y1)), (6, (0, y3))], [(1, 275)], v3)) 1 rfl ?_
                    refine e_Ok.getr (z := 299) rfl (el_o rfl) rfl rfl ((j23 275 29 no_51_17).trans (e_Has.eq hT rfl)) (by omega) ?_
                    refine e_Ok.run (t' := (73, [(0, (1, 275)), (1, (0, a)), (2, (0, u)), (3, (0, m)), (4, (0, z4)), (5, (0, y1)), (6, (0, y3))], [(0, a), (0, 112), (1, 299)], v3)) 2 rfl ?_
                    refine e_Ok.mul (z := 112 * a) rfl (by omega) (by omega) ?_
                    refine e_Ok.run (t' := (78, [(0, (1, 275)), (1, (0, a)), (2, (0, u)), (3, (0, m)), (4, (0, z4)), (5, (0, y1)), (6, (0, y3))], [(0, y1), (0, 16), (0, 112 * a), (1, 299)], v3)) 2 rfl ?_
                    refine e_Ok.mul (z := 16 * y1) rfl (by omega) (by omega) ?_
                    refine e_Ok.add (z := 112 * a + 16 * y1) rfl (by omega) (by omega) ?_
                    refine e_Ok.run (t' := (82, [(0, (1, 275)), (1, (0, a)), (2, (0, u)), (3, (0, m)), (4, (0, z4)), (5, (0, y1)), (6, (0, y3))], [(0, y3), (0, 112 * a + 16 * y1), (1, 299)], v3)) 1 rfl ?_
                    refine e_Ok.add (z := 112 * a + 16 * y1 + y3) rfl (by omega) (by omega) ?_
                    have h29 := (e_Has.get hT (c := 299) (k := 112 * a + 16 * y1 + y3) (lo := 0) (hi := 1) rfl (by decide))
                    refine e_Ok.ald (z := w 299 (112 * a + 16 * y1 + y3)) rfl (el_o rfl) rfl (by omega) ((j23 299 (112 * a + 16 * y1 + y3) no_51_18).trans rfl) (by omega) ?_
                    refine e_Ok.if1 rfl (fun h30 => ?_) (fun h30 => ?_)
                    · replace h30 : (w 299 (112 * a + 16 * y1 + y3) : Int) ≠ 0 := h30
                      refine e_Ok.inc (z := y3 + 1) rfl rfl (by omega) (by omega) ?_
                      show e_Ok 20 elay ecode eI (d + 1) 315 (106, [(6, (0, y3 + 1)), (0, (1, 275)), (1, (0, a)), (2, (0, u)), (3, (0, m)), (4, (0, z4)), (5, (0, y1))], [], v3) _
                      refine e_Ok.run (t' := (57, [(6, (0, y3 + 1)), (0, (1, 275)), (1, (0, a)), (2, (0, u)), (3, (0, m)), (4, (0, z4)), (5, (0, y1))], [], v3)) 1 rfl ?_
                      refine e_Ok.sub eAlk (e_sub_of rfl ?_) (ih22 (y3 + 1) v3 ⟨j23, by omega⟩ (by omega))
                      exact ⟨rfl, rfl, rfl, rfl, rfl, rfl, rfl, trivial⟩
                    · replace h30 : (w 299 (112 * a + 16 * y1 + y3) : Int) = 0 := by have q : ¬ ((w 299 (112 * a + 16 * y1 + y3) : Int) ≠ 0) := h30; omega
                      refine e_Ok.run (t' := (95, [(0, (1, 275)), (1, (0, a)), (2, (0, u)), (3, (0, m)), (4, (0, z4)), (5, (0, y1)), (6, (0, y3))], [(0, m), (0, y3), (0, u), (0, y1), (0, a), (1, 275)], v3)) 6 rfl ?_
                      refine e_Ok.callV rfl (by omega) rfl rfl rfl rfl (c_314 (by omega) (mT_L j23 hT) (by omega) (by omega) (by omega) (by omega) (e_kn_sub (e_kn.fr j23 (fun k q => by unfold mL at q; omega) k1) (by omega) (by omega)) (e_kn_sub (e_kn.fr j23 (fun k q => by unfold mL at q; omega) k2) (by omega) (by omega))) (fun r31 w32 h33 => ?_)
                      obtain ⟨z34, rfl, q35, q35a, q35b⟩ := h33
                      have f36 : e_fr mL w w32 := e_fr.trans j23 (e_fr.mono q35 (fun c k q => by exact q))
                      have l37 : w32 286 a = w 286 a := f36 286 a no_51_0
                      have l38 : w32 276 (36 * a + 17) = w 276 (36 * a + 17) := f36 276 (36 * a + 17) no_51_1
                      show e_Ok 20 elay ecode eI (d + 1) 315 (98, [(0, (1, 275)), (1, (0, a)), (2, (0, u)), (3, (0, m)), (4, (0, z4)), (5, (0, y1)), (6, (0, y3))], [(0, z34)], w32) _
                      refine e_Ok.if1 rfl (fun h39 => ?_) (fun h39 => ?_)
                      · replace h39 : (z34 : Int) = 0 := h39
                        refine e_Ok.inc (z := y3 + 1) rfl rfl (by omega) (by omega) ?_
                        show e_Ok 20 elay ecode eI (d + 1) 315 (106, [(6, (0, y3 + 1)), (0, (1, 275)), (1, (0, a)), (2, (0, u)), (3, (0, m)), (4, (0, z4)), (5, (0, y1))], [], w32) _
                        refine e_Ok.run (t' := (57, [(6, (0, y3 + 1)), (0, (1, 275)), (1, (0, a)), (2, (0, u)), (3, (0, m)), (4, (0, z4)), (5, (0, y1))], [], w32)) 1 rfl ?_
                        refine e_Ok.sub eAlk (e_sub_of rfl ?_) (ih22 (y3 + 1) w32 ⟨f36, by omega⟩ (by omega))
                        exact ⟨rfl, rfl, rfl, rfl, rfl, rfl, rfl, trivial⟩
                      · replace h39 : (z34 : Int) ≠ 0 := by have q : ¬ ((z34 : Int) = 0) := h39; omega
                        refine e_Ok.run (t' := (102, [(0, (1, 275)), (1, (0, a)), (2, (0, u)), (3, (0, m)), (4, (0, z4)), (5, (0, y1)), (6, (0, y3))], [(0, 1)], w32)) 1 rfl ?_
                        refine e_Ok.rets rfl rfl ?_
                        exact ⟨_, rfl, f36, by omega, by omega⟩
              refine e_Ok.sub eAlk (e_sub_of rfl ?_) (hL21 (17 + 1 : Int).toNat 0 v2 ⟨j16, by omega⟩ (by omega))
              exact ⟨rfl, rfl, rfl, rfl, rfl, rfl, rfl, trivial⟩
            · replace h20 : (y2 : Int) < z4 := by have q : ¬ ((y2 : Int) ≥ z4) := h20; omega
              refine e_Ok.run (t' := (40, [(0, (1, 275)), (1, (0, a)), (2, (0, u)), (3, (0, m)), (4, (0, z4)), (5, (0, y1)), (6, (0, y2))], [(0, m), (0, u), (0, y2), (0, a), (0, u), (0, y1), (0, a), (1, 275)], v2)) 8 rfl ?_
              refine e_Ok.callV rfl (by omega) rfl rfl rfl rfl (c_313 (by omega) (mT_L j16 hT) (by omega) (by omega) (by omega) (by omega) (by omega) (by omega) (e_kn_sub (e_kn.fr j16 (fun k q => by unfold mL at q; omega) k1) (by omega) (by omega)) (e_kn_sub (e_kn.fr j16 (fun k q => by unfold mL at q; omega) k2) (by omega) (by omega)) (e_kn_sub (e_kn.fr j16 (fun k q => by unfold mL at q; omega) k1) (by omega) (by omega)) (e_kn_sub (e_kn.fr j16 (fun k q => by unfold mL at q; omega) k2) (by omega) (by omega))) (fun r40 w41 h42 => ?_)
              obtain ⟨z43, rfl, q44, q44a, q44b⟩ := h42
              have f45 : e_fr mL w w41 := e_fr.trans j16 (e_fr.mono q44 (fun c k q => by exact q))
              have l46 : w41 286 a = w 286 a := f45 286 a no_51_0
              have l47 : w41 276 (36 * a + 17) = w 276 (36 * a + 17) := f45 276 (36 * a + 17) no_51_1
              show e_Ok 20 elay ecode eI (d + 1) 315 (43, [(0, (1, 275)), (1, (0, a)), (2, (0, u)), (3, (0, m)), (4, (0, z4)), (5, (0, y1)), (6, (0, y2))], [(0, z43)], w41) _
              refine e_Ok.if1 rfl (fun h48 => ?_) (fun h48 => ?_)
              · replace h48 : (z43 : Int) = 0 := h48
                refine e_Ok.inc (z := y2 + 1) rfl rfl (by omega) (by omega) ?_
                show e_Ok 20 elay ecode eI (d + 1) 315 (51, [(6, (0, y2 + 1)), (0, (1, 275)), (1, (0, a)), (2, (0, u)), (3, (0, m)), (4, (0, z4)), (5, (0, y1))], [], w41) _
                refine e_Ok.run (t' := (23, [(6, (0, y2 + 1)), (0, (1, 275)), (1, (0, a)), (2, (0, u)), (3, (0, m)), (4, (0, z4)), (5, (0, y1))], [], w41)) 1 rfl ?_
                refine e_Ok.sub eAlk (e_sub_of rfl ?_) (ih15 (y2 + 1) w41 ⟨f45, by omega⟩ (by omega))
                exact ⟨rfl, rfl, rfl, rfl, rfl, rfl, rfl, trivial⟩
              · replace h48 : (z43 : Int) ≠ 0 := by have q : ¬ ((z43 : Int) = 0) := h48; omega
                refine e_Ok.run (t' := (47, [(0, (1, 275)), (1, (0, a)), (2, (0, u)), (3, (0, m)), (4, (0, z4)), (5, (0, y1)), (6, (0, y2))], [(0, 1)], w41)) 1 rfl ?_
                refine e_Ok.rets rfl rfl ?_
                exact ⟨_, rfl, f45, by omega, by omega⟩
        refine e_Ok.sub eAlk (e_sub_of rfl ?_) (hL14 (10 + 1 : Int).toNat (y1 + 2) v1 ⟨j9, by omega⟩ (by omega))
        exact ⟨rfl, rfl, rfl, rfl, rfl, rfl, rfl, trivial⟩
  refine e_Ok.sub eAlk (e_sub_of rfl ?_) (hL7 (8 + 1 : Int).toNat 0 w ⟨(e_fr.refl w), by omega⟩ (by omega))
  exact ⟨rfl, rfl, rfl, rfl, rfl, rfl, trivial⟩
theorem c_316 {d : Nat} (hd : 24 ≤ d) {w : eW} (hT : e_Has mTy w) {a u b m : Int} (ha : 0 ≤ a ∧ a ≤ 3) (hu : 0 ≤ u ∧ u ≤ 28) (hb : 0 ≤ b ∧ b ≤ 3) (k1 : e_kn w 321 u (u + w 286 a)) (k2 : e_kn w 322 u (u + w 286 a)) (k3 : e_kn w 321 (7 * b) (7 * b + w 286 b)) (k4 : e_kn w 322 (7 * b) (7 * b + w 286 b)) : e_Ok 20 elay ecode eI d 316 (0, [(0, (1, 275)), (1, (0, a)), (2, (0, u)), (3, (0, b)), (4, (0, m))], [], w) (fun r w' => ∃ z : Int, r = [(0, z)] ∧ e_fr mL w w' ∧ 0 ≤ z ∧ z ≤ 1) := by
  obtain ⟨d, rfl⟩ : ∃ e, d = e + 1 := ⟨d - 1, by omega⟩
  have hja := (e_Has.get hT (c := 286) (k := a) (lo := 0) (hi := 6) rfl (by decide))
  have hjb := (e_Has.get hT (c := 286) (k := b) (lo := 0) (hi := 6) rfl (by decide))
  refine e_Ok.run (t' := (3, [(5, (0, 0)), (0, (1, 275)), (1, (0, a)), (2, (0, u)), (3, (0, b)), (4, (0, m))], [], w)) 2 rfl ?_
  have hL1 : ∀ (n : Nat) (y1 : Int) (v1 : eW), e_fr mL w v1 ∧ 0 ≤ y1 ∧ y1 ≤ 7 → 8 - y1 < n → e_Ok 20 elay ecode eI (d + 1) 316 (3, [(0, (1, 275)), (1, (0, a)), (2, (0, u)), (3, (0, b)), (4, (0, m)), (5, (0, y1))], [], v1) (fun r w' => ∃ z : Int, r = [(0, z)] ∧ e_fr mL w w' ∧ 0 ≤ z ∧ z ≤ 1) := by
    intro n
    induction n with
    | zero => intro y1 v1 hj hm; obtain ⟨j3, j4⟩ := hj; exfalso; omega
    | succ n ih2 =>
      intro y1 v1 hj hm
      obtain ⟨j3, j4⟩ := hj
      have l5 : v1 286 a = w 286 a := j3 286 a no_51_0
      have l6 : v1 286 b = w 286 b := j3 286 b no_51_0
      have l7 : v1 276 (36 * a + 17) = w 276 (36 * a + 17) := j3 276 (36 * a + 17) no_51_1
      have l8 : v1 276 (36 * b + 17) = w 276 (36 * b + 17) := j3 276 (36 * b + 17) no_51_1
      refine e_Ok.run (t' := (7, [(0, (1, 275)), (1, (0, a)), (2, (0, u)), (3, (0, b)), (4, (0, m)), (5, (0, y1))], [(0, a), (1, 275), (0, y1)], v1)) 3 rfl ?_
      refine e_Ok.callV rfl (by omega) rfl rfl rfl rfl (c_304 (by omega) (mT_L j3 hT) (by omega)) (fun r9 w10 h11 => ?_)
      obtain ⟨z12, rfl, rfl, q13⟩ := h11
      have h14 := (e_Has.get (mT_L j3 hT) (c := 286) (k := a) (lo := 0) (hi := 6) rfl (by decide))
      show e_Ok 20 elay ecode eI (d + 1) 316 (10, [(0, (1, 275)), (1, (0, a)), (2, (0, u)), (3, (0, b)), (4, (0, m)), (5, (0, y1))], [(0, z12), (0, y1)], v1) _
      refine e_Ok.if2 rfl (fun h15 => ?_) (fun h15 => ?_)
      · replace h15 : (y1 : Int) ≥ z12 := h15
        refine e_Ok.run (t' := (61, [(0, (1, 275)), (1, (0, a)), (2, (0, u)), (3, (0, b)), (4, (0, m)), (5, (0, y1))], [(0, 0)], v1)) 1 rfl ?_
        refine e_Ok.rets rfl rfl ?_
        exact ⟨_, rfl, j3, by omega, by omega⟩
      · replace h15 : (y1 : Int) < z12 := by have q : ¬ ((y1 : Int) ≥ z12) := h15; omega
        refine e_Ok.run (t' := (16, [(6, (0, 0)), (0, (1, 275)), (1, (0, a)), (2, (0, u)), (3, (0, b)), (4, (0, m)), (5, (0, y1))], [], v1)) 2 rfl ?_
        have hL16 : ∀ (n : Nat) (y2 : Int) (v2 : eW), e_fr mL w v2 ∧ 0 ≤ y2 ∧ y2 ≤ 7 → 8 - y2 < n → e_Ok 20 elay ecode eI (d + 1) 316 (16, [(0, (1, 275)), (1, (0, a)), (2, (0, u)), (3, (0, b)), (4, (0, m)), (5, (0, y1)), (6, (0, y2))], [], v2) (fun r w' => ∃ z : Int, r = [(0, z)] ∧ e_fr mL w w' ∧ 0 ≤ z ∧ z ≤ 1) := by
          intro n
          induction n with
          | zero => intro y2 v2 hj hm; obtain ⟨j18, j19⟩ := hj; exfalso; omega
          | succ n ih17 =>
            intro y2 v2 hj hm
            obtain ⟨j18, j19⟩ := hj
            have l20 : v2 286 a = w 286 a := j18 286 a no_51_0
            have l21 : v2 286 b = w 286 b := j18 286 b no_51_0
            have l22 : v2 276 (36 * a + 17) = w 276 (36 * a + 17) := j18 276 (36 * a + 17) no_51_1
            have l23 : v2 276 (36 * b + 17) = w 276 (36 * b + 17) := j18 276 (36 * b + 17) no_51_1
            refine e_Ok.run (t' := (20, [(0, (1, 275)), (1, (0, a)), (2, (0, u)), (3, (0, b)), (4, (0, m)), (5, (0, y1)), (6, (0, y2))], [(0, b), (1, 275), (0, y2)], v2)) 3 rfl ?_
            refine e_Ok.callV rfl (by omega) rfl rfl rfl rfl (c_304 (by omega) (mT_L j18 hT) (by omega)) (fun r24 w25 h26 => ?_)
            obtain ⟨z27, rfl, rfl, q28⟩ := h26
            have h29 := (e_Has.get (mT_L j18 hT) (c := 286) (k := b) (lo := 0) (hi := 6) rfl (by decide))
            show e_Ok 20 elay ecode eI (d + 1) 316 (23, [(0, (1, 275)), (1, (0, a)), (2, (0, u)), (3, (0, b)), (4, (0, m)), (5, (0, y1)), (6, (0, y2))], [(0, z27), (0, y2)], v2) _
            refine e_Ok.if2 rfl (fun h30 => ?_) (fun h30 => ?_)
            · replace h30 : (y2 : Int) ≥ z27 := h30
              refine e_Ok.inc (z := y1 + 1) rfl rfl (by omega) (by omega) ?_
              show e_Ok 20 elay ecode eI (d + 1) 316 (57, [(5, (0, y1 + 1)), (0, (1, 275)), (1, (0, a)), (2, (0, u)), (3, (0, b)), (4, (0, m)), (6, (0, y2))], [], v2) _
              refine e_Ok.run (t' := (3, [(5, (0, y1 + 1)), (0, (1, 275)), (1, (0, a)), (2, (0, u)), (3, (0, b)), (4, (0, m)), (6, (0, y2))], [], v2)) 1 rfl ?_
              refine e_Ok.sub eAlk (e_sub_of rfl ?_) (ih2 (y1 + 1) v2 ⟨j18, by omega⟩ (by omega))
              exact ⟨rfl, rfl, rfl, rfl, rfl, rfl, trivial⟩
            · replace h30 : (y2 : Int) < z27 := by have q : ¬ ((y2 : Int) ≥ z27) := h30; omega
              refine e_Ok.run (t' := (37, [(0, (1, 275)), (1, (0, a)), (2, (0, u)), (3, (0, b)), (4, (0, m)), (5, (0, y1)), (6, (0, y2))], [(0, b), (0, 7), (0, y2), (0, b), (0, u), (0, y1), (0, a), (1, 275)], v2)) 8 rfl ?_
              refine e_Ok.mul (z := 7 * b) rfl (by omega) (by omega) ?_
              refine e_Ok.run (t' := (40, [(0, (1, 275)), (1, (0, a)), (2, (0, u)), (3, (0, b)), (4, (0, m)), (5, (0, y1)), (6, (0, y2))], [(0, m), (0, 7 * b), (0, y2), (0, b), (0, u), (0, y1), (0, a), (1, 275)], v2)) 1 rfl ?_
              refine e_Ok.callV rfl (by omega) rfl rfl rfl rfl (c_313 (by omega) (mT_L j18 hT) (by omega) (by omega) (by omega) (by omega) (by omega) (by omega) (e_kn_sub (e_kn.fr j18 (fun k q => by unfold mL at q; omega) k1) (by omega) (by omega)) (e_kn_sub (e_kn.fr j18 (fun k q => by unfold mL at q; omega) k2) (by omega) (by omega)) (e_kn_sub (e_kn.fr j18 (fun k q => by unfold mL at q; omega) k3) (by omega) (by omega)) (e_kn_sub (e_kn.fr j18 (fun k q => by unfold mL at q; omega) k4) (by omega) (by omega))) (fun r31 w32 h33 => ?_)
              obtain ⟨z34, rfl, q35, q35a, q35b⟩ := h33
              have f36 : e_fr mL w w32 := e_fr.trans j18 (e_fr.mono q35 (fun c k q => by exact q))
              have l37 : w32 286 a = w 286 a := f36 286 a no_51_0
              have l38 : w32 286 b = w 286 b := f36 286 b no_51_0
              have l39 : w32 276 (36 * a + 17) = w 276 (36 * a + 17) := f36 276 (36 * a + 17) no_51_1
              have l40 : w32 276 (36 * b + 17) = w 276 (36 * b + 17) := f36 276 (36 * b + 17) no_51_1
              show e_Ok 20 elay ecode eI (d + 1) 316 (43, [(0, (1, 275)), (1, (0, a)), (2, (0, u)), (3, (0, b)), (4, (0, m)), (5, (0, y1)), (6, (0, y2))], [(0, z34)], w32) _
              refine e_Ok.if1 rfl (fun h41 => ?_) (fun h41 => ?_)
              · replace h41 : (z34 : Int) = 0 := h41
                refine e_Ok.inc (z := y2 + 1) rfl rfl (by omega) (by omega) ?_
                show e_Ok 20 elay ecode eI (d + 1) 316 (51, [(6, (0, y2 + 1)), (0, (1, 275)), (1, (0, a)), (2, (0, u)), (3, (0, b)), (4, (0, m)), (5, (0, y1))], [], w32) _
                refine e_Ok.run (t' := (16, [(6, (0, y2 + 1)), (0, (1, 275)), (1, (0, a)), (2, (0, u)), (3, (0, b)), (4, (0, m)), (5, (0, y1))], [], w32)) 1 rfl ?_
                refine e_Ok.sub eAlk (e_sub_of rfl ?_) (ih17 (y2 + 1) w32 ⟨f36, by omega⟩ (by omega))
                exact ⟨rfl, rfl, rfl, rfl, rfl, rfl, rfl, trivial⟩
              · replace h41 : (z34 : Int) ≠ 0 := by have q : ¬ ((z34 : Int) = 0) := h41; omega
                refine e_Ok.run (t' := (47, [(0, (1, 275)), (1, (0, a)), (2, (0, u)), (3, (0, b)), (4, (0, m)), (5, (0, y1)), (6, (0, y2))], [(0, 1)], w32)) 1 rfl ?_
                refine e_Ok.rets rfl rfl ?_
                exact ⟨_, rfl, f36, by omega, by omega⟩
        refine e_Ok.sub eAlk (e_sub_of rfl ?_) (hL16 (8 + 1 : Int).toNat 0 v1 ⟨j3, by omega⟩ (by omega))
        exact ⟨rfl, rfl, rfl, rfl, rfl, rfl, rfl, trivial⟩
  refine e_Ok.sub eAlk (e_sub_of rfl ?_) (hL1 (8 + 1 : Int).toNat 0 w ⟨(e_fr.refl w), by omega⟩ (by omega))
  exact ⟨rfl, rfl, rfl, rfl, rfl, rfl, trivial⟩
end
