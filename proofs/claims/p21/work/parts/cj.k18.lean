noncomputable section
/-! the class: act -/
theorem hm_v {a k : Int} (ha : 0 ≤ a ∧ a ≤ 3) : kHm (17 * a + 93) k := by
  unfold kHm
  rcases c4 ha with rfl | rfl | rfl | rfl <;> simp
set_option maxHeartbeats 4000000 in
theorem c_59 {d : Nat} (hd : 26 ≤ d) {w : eW} (hT : e_Has kTy w) {t o n : Int} (g_t : 0 ≤ t ∧ t ≤ 15) (g_o : 25 ≤ o ∧ o ≤ 39) (g_n : 0 ≤ n ∧ n ≤ 33554431) {OP OD CL : Int → Int → Int} {h : Int} (q : kI w OP OD CL h t) (hk : sK w) (hst : w (6 * t + 154) 1 = 1) {a : Int} (ga : 0 ≤ a ∧ a ≤ 3) (ha : w (6 * t + 154) 2 = a) {cd : Int} (hcv : w (17 * a + 86) 7 = cd) (h0 : 0 ≤ h) (ho : OP a (w (6 * t + 154) 3 - 1) = o) (hn : OD a (w (6 * t + 154) 3 - 1) = n) (hcol : CL a (w (6 * t + 154) 3 - 1) ≤ h) (he : w 74 1 < 2147483647) : e_Ok 20 elay kcode eI d 59 (0, [(0, (1, 8)), (1, (1, 6 * t + 154)), (2, (1, cd)), (3, (0, o)), (4, (0, n))], [], w) (fun r w' => r = [] ∧ e_Has kTy w' ∧ (e_fr kNq w w' ∧ w' 74 0 = w 74 0) ∧ ∃ h', h ≤ h' ∧ kI w' OP OD CL h' t ∧ sK w' ∧ w' (6 * t + 154) 2 = a ∧ w' (17 * a + 86) 7 = cd ∧ (w 74 1 ≤ w' 74 1 ∧ w' 74 1 ≤ w 74 1 + 1) ∧ 1 ≤ w' (6 * t + 154) 1 ∧ w' (6 * t + 154) 1 ≤ 5 ∧ ((w' (6 * t + 154) 1 = 1 ∧ 40 ≤ OP a (w' (6 * t + 154) 3)) ∨ (o = 26 ∧ w' (6 * t + 154) 1 = 1 ∧ w' (6 * t + 154) 3 = w (6 * t + 154) 3 ∧ n + 1 ≤ h' ∧ w' 74 1 = w 74 1) ∨ (w' (6 * t + 154) 1 ≠ 1 ∧ CL a (w' (6 * t + 154) 3) ≤ h'))) := by
  obtain ⟨d, rfl⟩ : ∃ e, d = e + 1 := ⟨d - 1, by omega⟩
  have hco := q.co (a := a) (by omega) (by omega)
  rw [hcv] at hco
  have hcd := hco.1.1
  have hcd0 := hcd
  unfold isCd at hcd0
  have hD := hco.2.1
  have hts := q.tsx0 (by omega) hst
  rw [ha] at hts
  have h74 := e_Has.get hT (c := 74) (k := 1) (lo := 0) (hi := 2147483647) rfl (by decide)
  have h3 := e_Has.get hT (c := 6 * t + 154) (k := 3) (lo := -2147483648) (hi := 2147483647) (kT_3 (t := t) rfl (by omega)) (by decide)
  refine e_Ok.run (t' := (1, [(0, (1, 8)), (1, (1, 6 * t + 154)), (2, (1, cd)), (3, (0, o)), (4, (0, n))], [(0, o)], w)) 1 rfl ?_
  have hs2 : ∀ x : Int, 25 ≤ x ∧ x ≤ 39 → (x = 25) ∨ (x = 26) ∨ (x = 27) ∨ (x = 28) ∨ (x = 29) ∨ (x = 30) ∨ (x = 31) ∨ (x = 32) ∨ (x = 33) ∨ (x = 34) ∨ (x = 35) ∨ (x = 36) ∨ (x = 37) ∨ (x = 38) ∨ (x = 39) := fun x h => by omega
  obtain h1 | h1 | h1 | h1 | h1 | h1 | h1 | h1 | h1 | h1 | h1 | h1 | h1 | h1 | h1 := hs2 (o) (by omega)
  · refine e_Ok.swk (tg := 72) rfl (by rw [h1]; rfl) ?_
    have hcl := hD.2.2 (w (6 * t + 154) 3 - 1)
    have hn31 : n ≤ 31 := by have g := hcl.1 (by omega); omega
    have hbeh : 40 ≤ OP a (w (6 * t + 154) 3) := by have g := hcl.2.2.1 (by omega); rw [show w (6 * t + 154) 3 - 1 + 1 = w (6 * t + 154) 3 by omega] at g; exact g
    clear hcl
    have hcl0 : CL a (w (6 * t + 154) 3) ≤ 0 := hD.2.1 _ hbeh
    refine e_Ok.run (t' := (73, [(0, (1, 8)), (1, (1, 6 * t + 154)), (2, (1, cd)), (3, (0, o)), (4, (0, n))], [(1, 8)], w)) 1 rfl ?_
    refine e_Ok.getr (z := 9) rfl (el_o rfl) rfl rfl (Eq.trans (e_Has.eq hT rfl) (by omega)) (by omega) ?_
    refine e_Ok.run (t' := (77, [(0, (1, 8)), (1, (1, 6 * t + 154)), (2, (1, cd)), (3, (0, o)), (4, (0, n))], [(1, 6 * t + 154), (1, 9)], w)) 1 rfl ?_
    refine e_Ok.getf (z := a) rfl (lT0 (t := t) (by omega) (by omega)) rfl rfl ha (by omega) ?_
    refine e_Ok.aald (z := 17 * a + 86) rfl (el_o rfl) rfl (by omega) (Eq.trans (e_Has.eq hT (k9 (by omega))) (by omega)) (by omega) ?_
    refine e_Ok.getr (z := 17 * a + 93) rfl (lA0 (a := a) (by omega) (by omega)) rfl rfl (Eq.trans (e_Has.eq hT (kA_6 (a := a) (by omega) (by omega))) (by omega)) (by omega) ?_
    refine e_Ok.run (t' := (87, [(0, (1, 8)), (1, (1, 6 * t + 154)), (2, (1, cd)), (3, (0, o)), (4, (0, n))], [(1, 8), (0, n), (1, 17 * a + 93)], w)) 2 rfl ?_
    refine e_Ok.callV rfl (by omega) rfl rfl rfl rfl (c_53 hT hk) (fun r3 w4 h5 => ?_)
    obtain ⟨z7, rfl, q6f, q6T, q6r, q6x⟩ := h5
    have f8 : e_fr kNq w w4 := e_fr.trans (e_fr.refl w) (e_fr.mono q6f (fun c k q => by exact nq_kDs q))
    have Q9 := kI.hm q q6T (e_fr.mono q6f (fun c k g => hm_kDs g))
    show e_Ok 20 elay kcode eI (d + 1) 59 (90, [(0, (1, 8)), (1, (1, 6 * t + 154)), (2, (1, cd)), (3, (0, o)), (4, (0, n))], [(0, z7), (0, n), (1, 17 * a + 93)], w4) _
    refine e_Ok.ast rfl (lA7 (a := a) (by omega) (by omega)) rfl rfl (by omega) ?_
    generalize hw10 : e_up w4 (17 * a + 93) n z7 = w10
    have f11 : e_fr kNq w w10 := e_fr.up f8 hw10 (by unfold kNq; omega)
    have hT12 : e_Has kTy w10 := e_Has.upr q6T hw10 (kA93 (a := a) _ (by omega) (by omega)) (by omega)
    refine e_Ok.run (t' := (290, [(0, (1, 8)), (1, (1, 6 * t + 154)), (2, (1, cd)), (3, (0, o)), (4, (0, n))], [], w10)) 1 rfl ?_
    refine e_Ok.rets rfl rfl ?_
    have Q13 := kI.hu Q9 hT12 hw10 (hm_v (by omega))
    exact ⟨rfl, hT12, ⟨f11, (by rw [← hw10]; exact (e_up_ne _ _ (Or.inl (by omega))).trans ((q6f 74 0 (by unfold kDs; omega)).trans rfl))⟩, h, Int.le_refl h, Q13, (sK.eq (fun c k g => by rw [← hw10, e_up_ne _ _ (by omega)]) q6x), (show w10 (6 * t + 154) 2 = a from (by rw [← hw10]; exact (e_up_ne _ _ (Or.inl (by omega))).trans ((q6f (6 * t + 154) 2 (by unfold kDs; omega)).trans ha))), (show w10 (17 * a + 86) 7 = cd from (by rw [← hw10]; exact (e_up_ne _ _ (Or.inl (by omega))).trans ((q6f (17 * a + 86) 7 (by unfold kDs; omega)).trans hcv))), by rw [(show w10 74 1 = w 74 1 from (by rw [← hw10]; exact (e_up_ne _ _ (Or.inl (by omega))).trans ((q6f 74 1 (by unfold kDs; omega)).trans rfl)))]; omega, by rw [(Eq.trans (show w10 (6 * t + 154) 1 = w (6 * t + 154) 1 from (by rw [← hw10]; exact (e_up_ne _ _ (Or.inl (by omega))).trans ((q6f (6 * t + 154) 1 (by unfold kDs; omega)).trans rfl))) hst)]; decide, by rw [(Eq.trans (show w10 (6 * t + 154) 1 = w (6 * t + 154) 1 from (by rw [← hw10]; exact (e_up_ne _ _ (Or.inl (by omega))).trans ((q6f (6 * t + 154) 1 (by unfold kDs; omega)).trans rfl))) hst)]; decide, Or.inl ⟨(Eq.trans (show w10 (6 * t + 154) 1 = w (6 * t + 154) 1 from (by rw [← hw10]; exact (e_up_ne _ _ (Or.inl (by omega))).trans ((q6f (6 * t + 154) 1 (by unfold kDs; omega)).trans rfl))) hst), (by rw [show w10 (6 * t + 154) 3 = w (6 * t + 154) 3 from (by rw [← hw10]; exact (e_up_ne _ _ (Or.inl (by omega))).trans ((q6f (6 * t + 154) 3 (by unfold kDs; omega)).trans rfl))]; exact hbeh)⟩⟩
  · refine e_Ok.swk (tg := 94) rfl (by rw [h1]; rfl) ?_
    have hcl := hD.2.2 (w (6 * t + 154) 3 - 1)
    have hnc : n ≤ h := by have g := hcl.2.2.2.2.2.2.2.1 (by omega); omega
    skip
    clear hcl
    refine e_Ok.run (t' := (98, [(0, (1, 8)), (1, (1, 6 * t + 154)), (2, (1, cd)), (3, (0, o)), (4, (0, n))], [(1, 8), (0, n), (1, 8)], w)) 3 rfl ?_
    refine e_Ok.callV rfl (by omega) rfl rfl rfl rfl (c_53 hT hk) (fun r14 w15 h16 => ?_)
    obtain ⟨z18, rfl, q17f, q17T, q17r, q17x⟩ := h16
    have f19 : e_fr kNq w w15 := e_fr.trans (e_fr.refl w) (e_fr.mono q17f (fun c k q => by exact nq_kDs q))
    have Q20 := kI.hm q q17T (e_fr.mono q17f (fun c k g => hm_kDs g))
    show e_Ok 20 elay kcode eI (d + 1) 59 (101, [(0, (1, 8)), (1, (1, 6 * t + 154)), (2, (1, cd)), (3, (0, o)), (4, (0, n))], [(0, z18), (0, n), (1, 8)], w15) _
    refine e_Ok.callV rfl (by omega) rfl rfl rfl rfl (c_60 q17T (by omega) (by omega) (t := t) Q20 (by omega)) (fun r21 w22 h23 => ?_)
    obtain ⟨rfl, q24f, q24T, q24h, q24x⟩ := h23
    have f25 : e_fr kNq w w22 := e_fr.trans f19 (e_fr.mono q24f (fun c k q => by exact nq_kGl q))
    show e_Ok 20 elay kcode eI (d + 1) 59 (104, [(0, (1, 8)), (1, (1, 6 * t + 154)), (2, (1, cd)), (3, (0, o)), (4, (0, n))], [], w22) _
    refine e_Ok.run (t' := (290, [(0, (1, 8)), (1, (1, 6 * t + 154)), (2, (1, cd)), (3, (0, o)), (4, (0, n))], [], w22)) 1 rfl ?_
    refine e_Ok.rets rfl rfl ?_
    exact ⟨rfl, q24T, ⟨f25, ((q24f 74 0 (by unfold kGl; omega)).trans ((q17f 74 0 (by unfold kDs; omega)).trans rfl))⟩, q24h, q24x.1, q24x.2.2, (sK.fr q24f (by unfold kGl; omega) (fun k => by unfold kGl; omega) q17x), (show w22 (6 * t + 154) 2 = a from ((q24f (6 * t + 154) 2 (by unfold kGl; omega)).trans ((q17f (6 * t + 154) 2 (by unfold kDs; omega)).trans ha))), (show w22 (17 * a + 86) 7 = cd from ((q24f (17 * a + 86) 7 (by unfold kGl; omega)).trans ((q17f (17 * a + 86) 7 (by unfold kDs; omega)).trans hcv))), by rw [(show w22 74 1 = w 74 1 from ((q24f 74 1 (by unfold kGl; omega)).trans ((q17f 74 1 (by unfold kDs; omega)).trans rfl)))]; omega, by rw [(Eq.trans (show w22 (6 * t + 154) 1 = w (6 * t + 154) 1 from ((q24f (6 * t + 154) 1 (by unfold kGl; omega)).trans ((q17f (6 * t + 154) 1 (by unfold kDs; omega)).trans rfl))) hst)]; decide, by rw [(Eq.trans (show w22 (6 * t + 154) 1 = w (6 * t + 154) 1 from ((q24f (6 * t + 154) 1 (by unfold kGl; omega)).trans ((q17f (6 * t + 154) 1 (by unfold kDs; omega)).trans rfl))) hst)]; decide, Or.inr (Or.inl ⟨by omega, (Eq.trans (show w22 (6 * t + 154) 1 = w (6 * t + 154) 1 from ((q24f (6 * t + 154) 1 (by unfold kGl; omega)).trans ((q17f (6 * t + 154) 1 (by unfold kDs; omega)).trans rfl))) hst), ((q24f (6 * t + 154) 3 (by unfold kGl; omega)).trans ((q17f (6 * t + 154) 3 (by unfold kDs; omega)).trans rfl)), q24x.2.1, (show w22 74 1 = w 74 1 from ((q24f 74 1 (by unfold kGl; omega)).trans ((q17f 74 1 (by unfold kDs; omega)).trans rfl)))⟩)⟩
  · refine e_Ok.swk (tg := 107) rfl (by rw [h1]; rfl) ?_
    have hcl := hD.2.2 (w (6 * t + 154) 3 - 1)
    have hnc : n ≤ h := by have g := hcl.2.2.2.2.2.2.2.2.1 (by omega); omega
    have hbeh : 40 ≤ OP a (w (6 * t + 154) 3) := by have g := hcl.2.2.1 (by omega); rw [show w (6 * t + 154) 3 - 1 + 1 = w (6 * t + 154) 3 by omega] at g; exact g
    clear hcl
    have hcl0 : CL a (w (6 * t + 154) 3) ≤ 0 := hD.2.1 _ hbeh
    refine e_Ok.run (t' := (111, [(0, (1, 8)), (1, (1, 6 * t + 154)), (2, (1, cd)), (3, (0, o)), (4, (0, n))], [(0, n), (1, 6 * t + 154), (1, 8)], w)) 3 rfl ?_
    refine e_Ok.callV rfl (by omega) rfl rfl rfl rfl (c_61 (by omega) (t := t) (a := a) hT (by omega) (by omega) (by omega) q hk hst ha (by omega)) (fun r26 w27 h28 => ?_)
    obtain ⟨rfl, q29f, q29T, q29x⟩ := h28
    have f30 : e_fr kNq w w27 := e_fr.trans (e_fr.refl w) (e_fr.mono q29f (fun c k q => by exact nq_kMb (by omega) (by omega) q))
    show e_Ok 20 elay kcode eI (d + 1) 59 (114, [(0, (1, 8)), (1, (1, 6 * t + 154)), (2, (1, cd)), (3, (0, o)), (4, (0, n))], [], w27) _
    refine e_Ok.run (t' := (290, [(0, (1, 8)), (1, (1, 6 * t + 154)), (2, (1, cd)), (3, (0, o)), (4, (0, n))], [], w27)) 1 rfl ?_
    refine e_Ok.rets rfl rfl ?_
    exact ⟨rfl, q29T, ⟨f30, ((q29f 74 0 (by unfold kMb; omega)).trans rfl)⟩, h, Int.le_refl h, q29x.1, q29x.2.1, (show w27 (6 * t + 154) 2 = a from ((q29f (6 * t + 154) 2 (by unfold kMb; omega)).trans ha)), (show w27 (17 * a + 86) 7 = cd from ((q29f (17 * a + 86) 7 (by unfold kMb; omega)).trans hcv)), by rw [(show w27 74 1 = w 74 1 from ((q29f 74 1 (by unfold kMb; omega)).trans rfl))]; omega, by rcases q29x.2.2 with g | g <;> (rw [g]; decide), by rcases q29x.2.2 with g | g <;> (rw [g]; decide), (by rcases q29x.2.2 with g | g; (exact Or.inl ⟨g, by rw [show w27 (6 * t + 154) 3 = w (6 * t + 154) 3 from ((q29f (6 * t + 154) 3 (by unfold kMb; omega)).trans rfl)]; exact hbeh⟩); (exact Or.inr (Or.inr ⟨by rw [g]; decide, by rw [show w27 (6 * t + 154) 3 = w (6 * t + 154) 3 from ((q29f (6 * t + 154) 3 (by unfold kMb; omega)).trans rfl)]; omega⟩)))⟩
  · refine e_Ok.swk (tg := 117) rfl (by rw [h1]; rfl) ?_
    have hcl := hD.2.2 (w (6 * t + 154) 3 - 1)
    have hbeh : 40 ≤ OP a (w (6 * t + 154) 3) := by have g := hcl.2.2.1 (by omega); rw [show w (6 * t + 154) 3 - 1 + 1 = w (6 * t + 154) 3 by omega] at g; exact g
    clear hcl
    have hcl0 : CL a (w (6 * t + 154) 3) ≤ 0 := hD.2.1 _ hbeh
    refine e_Ok.run (t' := (120, [(0, (1, 8)), (1, (1, 6 * t + 154)), (2, (1, cd)), (3, (0, o)), (4, (0, n))], [(1, 8), (1, 6 * t + 154), (1, 8)], w)) 3 rfl ?_
    refine e_Ok.callV rfl (by omega) rfl rfl rfl rfl (c_53 hT hk) (fun r31 w32 h33 => ?_)
    obtain ⟨z35, rfl, q34f, q34T, q34r, q34x⟩ := h33
    have f36 : e_fr kNq w w32 := e_fr.trans (e_fr.refl w) (e_fr.mono q34f (fun c k q => by exact nq_kDs q))
    have Q37 := kI.hm q q34T (e_fr.mono q34f (fun c k g => hm_kDs g))
    show e_Ok 20 elay kcode eI (d + 1) 59 (123, [(0, (1, 8)), (1, (1, 6 * t + 154)), (2, (1, cd)), (3, (0, o)), (4, (0, n))], [(0, z35), (1, 6 * t + 154), (1, 8)], w32) _
    refine e_Ok.callV rfl (by omega) rfl rfl rfl rfl (c_63 (t := t) q34T (by omega) (by omega) Q37 (Eq.trans (show w32 (6 * t + 154) 1 = w (6 * t + 154) 1 from ((q34f (6 * t + 154) 1 (by unfold kDs; omega)).trans rfl)) hst)) (fun r38 w40 h41 => ?_)
    obtain ⟨rfl, q42f, q42T, q42x⟩ := h41
    have f43 : e_fr kNq w w40 := e_fr.trans f36 (e_fr.mono q42f (fun c k q => by exact nq_kWf (by omega) q))
    show e_Ok 20 elay kcode eI (d + 1) 59 (126, [(0, (1, 8)), (1, (1, 6 * t + 154)), (2, (1, cd)), (3, (0, o)), (4, (0, n))], [], w40) _
    refine e_Ok.run (t' := (290, [(0, (1, 8)), (1, (1, 6 * t + 154)), (2, (1, cd)), (3, (0, o)), (4, (0, n))], [], w40)) 1 rfl ?_
    refine e_Ok.rets rfl rfl ?_
    exact ⟨rfl, q42T, ⟨f43, ((q42f 74 0 (by unfold kWf; omega)).trans ((q34f 74 0 (by unfold kDs; omega)).trans rfl))⟩, h, Int.le_refl h, q42x.1, (sK.fr q42f (by unfold kWf; omega) (fun k => by unfold kWf; omega) q34x), (show w40 (6 * t + 154) 2 = a from ((q42f (6 * t + 154) 2 (by unfold kWf; omega)).trans ((q34f (6 * t + 154) 2 (by unfold kDs; omega)).trans ha))), (show w40 (17 * a + 86) 7 = cd from ((q42f (17 * a + 86) 7 (by unfold kWf; omega)).trans ((q34f (17 * a + 86) 7 (by unfold kDs; omega)).trans hcv))), by rw [(show w40 74 1 = w 74 1 from ((q42f 74 1 (by unfold kWf; omega)).trans ((q34f 74 1 (by unfold kDs; omega)).trans rfl)))]; omega, by rcases q42x.2 with g | g <;> (rw [g]; decide), by rcases q42x.2 with g | g <;> (rw [g]; decide), (by rcases q42x.2 with g | g; (exact Or.inl ⟨g, by rw [show w40 (6 * t + 154) 3 = w (6 * t + 154) 3 from ((q42f (6 * t + 154) 3 (by unfold kWf; omega)).trans ((q34f (6 * t + 154) 3 (by unfold kDs; omega)).trans rfl))]; exact hbeh⟩); (exact Or.inr (Or.inr ⟨by rw [g]; decide, by rw [show w40 (6 * t + 154) 3 = w (6 * t + 154) 3 from ((q42f (6 * t + 154) 3 (by unfold kWf; omega)).trans ((q34f (6 * t + 154) 3 (by unfold kDs; omega)).trans rfl))]; omega⟩)))⟩
  · refine e_Ok.swk (tg := 129) rfl (by rw [h1]; rfl) ?_
    have hcl := hD.2.2 (w (6 * t + 154) 3 - 1)
    have hcn : CL a n ≤ 0 := by have g := hcl.2.2.2.2.2.2.2.2.2 (by omega); rw [hn] at g; exact g
    have hbeh : 40 ≤ OP a (w (6 * t + 154) 3) := by have g := hcl.2.2.1 (by omega); rw [show w (6 * t + 154) 3 - 1 + 1 = w (6 * t + 154) 3 by omega] at g; exact g
    clear hcl
    have hcl0 : CL a (w (6 * t + 154) 3) ≤ 0 := hD.2.1 _ hbeh
    refine e_Ok.run (t' := (132, [(0, (1, 8)), (1, (1, 6 * t + 154)), (2, (1, cd)), (3, (0, o)), (4, (0, n))], [(1, 8), (1, 6 * t + 154), (1, 8)], w)) 3 rfl ?_
    refine e_Ok.callV rfl (by omega) rfl rfl rfl rfl (c_53 hT hk) (fun r44 w45 h46 => ?_)
    obtain ⟨z48, rfl, q47f, q47T, q47r, q47x⟩ := h46
    have f49 : e_fr kNq w w45 := e_fr.trans (e_fr.refl w) (e_fr.mono q47f (fun c k q => by exact nq_kDs q))
    have Q50 := kI.hm q q47T (e_fr.mono q47f (fun c k g => hm_kDs g))
    show e_Ok 20 elay kcode eI (d + 1) 59 (135, [(0, (1, 8)), (1, (1, 6 * t + 154)), (2, (1, cd)), (3, (0, o)), (4, (0, n))], [(0, z48), (1, 6 * t + 154), (1, 8)], w45) _
    refine e_Ok.run (t' := (137, [(0, (1, 8)), (1, (1, 6 * t + 154)), (2, (1, cd)), (3, (0, o)), (4, (0, n))], [(0, n), (0, z48), (1, 6 * t + 154), (1, 8)], w45)) 1 rfl ?_
    refine e_Ok.callV rfl (by omega) rfl rfl rfl rfl (c_64 (t := t) q47T (by omega) (by omega) (by omega) Q50 (Eq.trans (show w45 (6 * t + 154) 1 = w (6 * t + 154) 1 from ((q47f (6 * t + 154) 1 (by unfold kDs; omega)).trans rfl)) hst)) (fun r51 w52 h53 => ?_)
    obtain ⟨rfl, q54f, q54T, q54x⟩ := h53
    have f55 : e_fr kNq w w52 := e_fr.trans f49 (e_fr.mono q54f (fun c k q => by exact nq_kWu (by omega) q))
    show e_Ok 20 elay kcode eI (d + 1) 59 (140, [(0, (1, 8)), (1, (1, 6 * t + 154)), (2, (1, cd)), (3, (0, o)), (4, (0, n))], [], w52) _
    refine e_Ok.run (t' := (290, [(0, (1, 8)), (1, (1, 6 * t + 154)), (2, (1, cd)), (3, (0, o)), (4, (0, n))], [], w52)) 1 rfl ?_
    refine e_Ok.rets rfl rfl ?_
    exact ⟨rfl, q54T, ⟨f55, ((q54f 74 0 (by unfold kWu; omega)).trans ((q47f 74 0 (by unfold kDs; omega)).trans rfl))⟩, h, Int.le_refl h, q54x.1, (sK.fr q54f (by unfold kWu; omega) (fun k => by unfold kWu; omega) q47x), (show w52 (6 * t + 154) 2 = a from ((q54f (6 * t + 154) 2 (by unfold kWu; omega)).trans ((q47f (6 * t + 154) 2 (by unfold kDs; omega)).trans ha))), (show w52 (17 * a + 86) 7 = cd from ((q54f (17 * a + 86) 7 (by unfold kWu; omega)).trans ((q47f (17 * a + 86) 7 (by unfold kDs; omega)).trans hcv))), by rw [(show w52 74 1 = w 74 1 from ((q54f 74 1 (by unfold kWu; omega)).trans ((q47f 74 1 (by unfold kDs; omega)).trans rfl)))]; omega, by rcases q54x.2 with ⟨g, g2⟩ | ⟨g, g2⟩ <;> (rw [g]; decide), by rcases q54x.2 with ⟨g, g2⟩ | ⟨g, g2⟩ <;> (rw [g]; decide), (by rcases q54x.2 with ⟨g, g2⟩ | ⟨g, g2⟩; (exact Or.inl ⟨g, by rw [g2, show w45 (6 * t + 154) 3 = w (6 * t + 154) 3 from ((q47f (6 * t + 154) 3 (by unfold kDs; omega)).trans rfl)]; exact hbeh⟩); (exact Or.inr (Or.inr ⟨by rw [g]; decide, by rw [g2]; omega⟩)))⟩
  · refine e_Ok.swk (tg := 143) rfl (by rw [h1]; rfl) ?_
    have hcl := hD.2.2 (w (6 * t + 154) 3 - 1)
    have hbeh : 40 ≤ OP a (w (6 * t + 154) 3) := by have g := hcl.2.2.1 (by omega); rw [show w (6 * t + 154) 3 - 1 + 1 = w (6 * t + 154) 3 by omega] at g; exact g
    clear hcl
    have hcl0 : CL a (w (6 * t + 154) 3) ≤ 0 := hD.2.1 _ hbeh
    refine e_Ok.run (t' := (145, [(0, (1, 8)), (1, (1, 6 * t + 154)), (2, (1, cd)), (3, (0, o)), (4, (0, n))], [(1, 8), (1, 8)], w)) 2 rfl ?_
    refine e_Ok.callV rfl (by omega) rfl rfl rfl rfl (c_53 hT hk) (fun r56 w57 h58 => ?_)
    obtain ⟨z60, rfl, q59f, q59T, q59r, q59x⟩ := h58
    have f61 : e_fr kNq w w57 := e_fr.trans (e_fr.refl w) (e_fr.mono q59f (fun c k q => by exact nq_kDs q))
    have Q62 := kI.hm q q59T (e_fr.mono q59f (fun c k g => hm_kDs g))
    show e_Ok 20 elay kcode eI (d + 1) 59 (148, [(0, (1, 8)), (1, (1, 6 * t + 154)), (2, (1, cd)), (3, (0, o)), (4, (0, n))], [(0, z60), (1, 8)], w57) _
    refine e_Ok.run (t' := (149, [(0, (1, 8)), (1, (1, 6 * t + 154)), (2, (1, cd)), (3, (0, o)), (4, (0, n))], [(1, 8), (0, z60), (1, 8)], w57)) 1 rfl ?_
    refine e_Ok.callV rfl (by omega) rfl rfl rfl rfl (c_53 q59T q59x) (fun r63 w64 h65 => ?_)
    obtain ⟨z67, rfl, q66f, q66T, q66r, q66x⟩ := h65
    have f68 : e_fr kNq w w64 := e_fr.trans f61 (e_fr.mono q66f (fun c k q => by exact nq_kDs q))
    have Q69 := kI.hm Q62 q66T (e_fr.mono q66f (fun c k g => hm_kDs g))
    show e_Ok 20 elay kcode eI (d + 1) 59 (152, [(0, (1, 8)), (1, (1, 6 * t + 154)), (2, (1, cd)), (3, (0, o)), (4, (0, n))], [(0, z67), (0, z60), (1, 8)], w64) _
    refine e_Ok.callV rfl (by omega) rfl rfl rfl rfl (c_65 (by omega) q66T (by omega) (by omega) Q69 q66x) (fun r70 w71 h72 => ?_)
    obtain ⟨rfl, q73f, q73T, q73x⟩ := h72
    have f74 : e_fr kNq w w71 := e_fr.trans f68 (e_fr.mono q73f (fun c k q => by exact nq_kSP q))
    show e_Ok 20 elay kcode eI (d + 1) 59 (155, [(0, (1, 8)), (1, (1, 6 * t + 154)), (2, (1, cd)), (3, (0, o)), (4, (0, n))], [], w71) _
    refine e_Ok.run (t' := (290, [(0, (1, 8)), (1, (1, 6 * t + 154)), (2, (1, cd)), (3, (0, o)), (4, (0, n))], [], w71)) 1 rfl ?_
    refine e_Ok.rets rfl rfl ?_
    exact ⟨rfl, q73T, ⟨f74, ((q73f 74 0 (by unfold kSP; omega)).trans ((q66f 74 0 (by unfold kDs; omega)).trans ((q59f 74 0 (by unfold kDs; omega)).trans rfl)))⟩, h, Int.le_refl h, q73x.1, q73x.2, (show w71 (6 * t + 154) 2 = a from ((q73f (6 * t + 154) 2 (by unfold kSP; omega)).trans ((q66f (6 * t + 154) 2 (by unfold kDs; omega)).trans ((q59f (6 * t + 154) 2 (by unfold kDs; omega)).trans ha)))), (show w71 (17 * a + 86) 7 = cd from ((q73f (17 * a + 86) 7 (by unfold kSP; omega)).trans ((q66f (17 * a + 86) 7 (by unfold kDs; omega)).trans ((q59f (17 * a + 86) 7 (by unfold kDs; omega)).trans hcv)))), by rw [(show w71 74 1 = w 74 1 from ((q73f 74 1 (by unfold kSP; omega)).trans ((q66f 74 1 (by unfold kDs; omega)).trans ((q59f 74 1 (by unfold kDs; omega)).trans rfl))))]; omega, by rw [(Eq.trans (show w71 (6 * t + 154) 1 = w (6 * t + 154) 1 from ((q73f (6 * t + 154) 1 (by unfold kSP; omega)).trans ((q66f (6 * t + 154) 1 (by unfold kDs; omega)).trans ((q59f (6 * t + 154) 1 (by unfold kDs; omega)).trans rfl)))) hst)]; decide, by rw [(Eq.trans (show w71 (6 * t + 154) 1 = w (6 * t + 154) 1 from ((q73f (6 * t + 154) 1 (by unfold kSP; omega)).trans ((q66f (6 * t + 154) 1 (by unfold kDs; omega)).trans ((q59f (6 * t + 154) 1 (by unfold kDs; omega)).trans rfl)))) hst)]; decide, Or.inl ⟨(Eq.trans (show w71 (6 * t + 154) 1 = w (6 * t + 154) 1 from ((q73f (6 * t + 154) 1 (by unfold kSP; omega)).trans ((q66f (6 * t + 154) 1 (by unfold kDs; omega)).trans ((q59f (6 * t + 154) 1 (by unfold kDs; omega)).trans rfl)))) hst), (by rw [show w71 (6 * t + 154) 3 = w (6 * t + 154) 3 from ((q73f (6 * t + 154) 3 (by unfold kSP; omega)).trans ((q66f (6 * t + 154) 3 (by unfold kDs; omega)).trans ((q59f (6 * t + 154) 3 (by unfold kDs; omega)).trans rfl)))]; exact hbeh)⟩⟩
  · refine e_Ok.swk (tg := 158) rfl (by rw [h1]; rfl) ?_
    have hcl := hD.2.2 (w (6 * t + 154) 3 - 1)
    have hbeh : 40 ≤ OP a (w (6 * t + 154) 3) := by have g := hcl.2.2.1 (by omega); rw [show w (6 * t + 154) 3 - 1 + 1 = w (6 * t + 154) 3 by omega] at g; exact g
    clear hcl
    have hcl0 : CL a (w (6 * t + 154) 3) ≤ 0 := hD.2.1 _ hbeh
    refine e_Ok.run (t' := (161, [(0, (1, 8)), (1, (1, 6 * t + 154)), (2, (1, cd)), (3, (0, o)), (4, (0, n))], [(1, 8), (1, 6 * t + 154), (1, 8)], w)) 3 rfl ?_
    refine e_Ok.callV rfl (by omega) rfl rfl rfl rfl (c_53 hT hk) (fun r75 w76 h77 => ?_)
    obtain ⟨z79, rfl, q78f, q78T, q78r, q78x⟩ := h77
    have f80 : e_fr kNq w w76 := e_fr.trans (e_fr.refl w) (e_fr.mono q78f (fun c k q => by exact nq_kDs q))
    have Q81 := kI.hm q q78T (e_fr.mono q78f (fun c k g => hm_kDs g))
    show e_Ok 20 elay kcode eI (d + 1) 59 (164, [(0, (1, 8)), (1, (1, 6 * t + 154)), (2, (1, cd)), (3, (0, o)), (4, (0, n))], [(0, z79), (1, 6 * t + 154), (1, 8)], w76) _
    refine e_Ok.callV rfl (by omega) rfl rfl rfl rfl (c_66 (by omega) (t := t) q78T (by omega) (by omega) Q81 q78x (Eq.trans (show w76 (6 * t + 154) 1 = w (6 * t + 154) 1 from ((q78f (6 * t + 154) 1 (by unfold kDs; omega)).trans rfl)) hst)) (fun r82 w83 h84 => ?_)
    obtain ⟨rfl, q85f, q85T, q85x⟩ := h84
    have f86 : e_fr kNq w w83 := e_fr.trans f80 (e_fr.mono q85f (fun c k q => by exact nq_kTl (by omega) q))
    show e_Ok 20 elay kcode eI (d + 1) 59 (167, [(0, (1, 8)), (1, (1, 6 * t + 154)), (2, (1, cd)), (3, (0, o)), (4, (0, n))], [], w83) _
    refine e_Ok.run (t' := (290, [(0, (1, 8)), (1, (1, 6 * t + 154)), (2, (1, cd)), (3, (0, o)), (4, (0, n))], [], w83)) 1 rfl ?_
    refine e_Ok.rets rfl rfl ?_
    exact ⟨rfl, q85T, ⟨f86, ((q85f 74 0 (by unfold kTl; omega)).trans ((q78f 74 0 (by unfold kDs; omega)).trans rfl))⟩, h, Int.le_refl h, q85x.1, q85x.2.1, (show w83 (6 * t + 154) 2 = a from ((q85f (6 * t + 154) 2 (by unfold kTl; omega)).trans ((q78f (6 * t + 154) 2 (by unfold kDs; omega)).trans ha))), (show w83 (17 * a + 86) 7 = cd from ((q85f (17 * a + 86) 7 (by unfold kTl; omega)).trans ((q78f (17 * a + 86) 7 (by unfold kDs; omega)).trans hcv))), by rw [(show w83 74 1 = w 74 1 from ((q85f 74 1 (by unfold kTl; omega)).trans ((q78f 74 1 (by unfold kDs; omega)).trans rfl)))]; omega, by rcases q85x.2.2 with g | g <;> (rw [g]; decide), by rcases q85x.2.2 with g | g <;> (rw [g]; decide), (by rcases q85x.2.2 with g | g; (exact Or.inl ⟨g, by rw [show w83 (6 * t + 154) 3 = w (6 * t + 154) 3 from ((q85f (6 * t + 154) 3 (by unfold kTl; omega)).trans ((q78f (6 * t + 154) 3 (by unfold kDs; omega)).trans rfl))]; exact hbeh⟩); (exact Or.inr (Or.inr ⟨by rw [g]; decide, by rw [show w83 (6 * t + 154) 3 = w (6 * t + 154) 3 from ((q85f (6 * t + 154) 3 (by unfold kTl; omega)).trans ((q78f (6 * t + 154) 3 (by unfold kDs; omega)).trans rfl))]; omega⟩)))⟩
  · refine e_Ok.swk (tg := 170) rfl (by rw [h1]; rfl) ?_
    have hcl := hD.2.2 (w (6 * t + 154) 3 - 1)
    have hbeh : 40 ≤ OP a (w (6 * t + 154) 3) := by have g := hcl.2.2.1 (by omega); rw [show w (6 * t + 154) 3 - 1 + 1 = w (6 * t + 154) 3 by omega] at g; exact g
    clear hcl
    have hcl0 : CL a (w (6 * t + 154) 3) ≤ 0 := hD.2.1 _ hbeh
    refine e_Ok.run (t' := (173, [(0, (1, 8)), (1, (1, 6 * t + 154)), (2, (1, cd)), (3, (0, o)), (4, (0, n))], [(1, 8), (1, 6 * t + 154), (1, 8)], w)) 3 rfl ?_
    refine e_Ok.callV rfl (by omega) rfl rfl rfl rfl (c_53 hT hk) (fun r87 w88 h89 => ?_)
    obtain ⟨z91, rfl, q90f, q90T, q90r, q90x⟩ := h89
    have f92 : e_fr kNq w w88 := e_fr.trans (e_fr.refl w) (e_fr.mono q90f (fun c k q => by exact nq_kDs q))
    have Q93 := kI.hm q q90T (e_fr.mono q90f (fun c k g => hm_kDs g))
    show e_Ok 20 elay kcode eI (d + 1) 59 (176, [(0, (1, 8)), (1, (1, 6 * t + 154)), (2, (1, cd)), (3, (0, o)), (4, (0, n))], [(0, z91), (1, 6 * t + 154), (1, 8)], w88) _
    refine e_Ok.callV rfl (by omega) rfl rfl rfl rfl (c_67 (by omega) (t := t) q90T (by omega) (by omega) Q93 q90x) (fun r94 w95 h101 => ?_)
    obtain ⟨rfl, q103f, q103T, q103x⟩ := h101
    have f104 : e_fr kNq w w95 := e_fr.trans f92 (e_fr.mono q103f (fun c k q => by exact nq_kFk q))
    have Q105 := kI.hm Q93 q103T (e_fr.mono q103f (fun c k g => hm_kFk g))
    show e_Ok 20 elay kcode eI (d + 1) 59 (179, [(0, (1, 8)), (1, (1, 6 * t + 154)), (2, (1, cd)), (3, (0, o)), (4, (0, n))], [], w95) _
    refine e_Ok.run (t' := (290, [(0, (1, 8)), (1, (1, 6 * t + 154)), (2, (1, cd)), (3, (0, o)), (4, (0, n))], [], w95)) 1 rfl ?_
    refine e_Ok.rets rfl rfl ?_
    exact ⟨rfl, q103T, ⟨f104, ((q103f 74 0 (by unfold kFk; omega)).trans ((q90f 74 0 (by unfold kDs; omega)).trans rfl))⟩, h, Int.le_refl h, Q105, q103x, (show w95 (6 * t + 154) 2 = a from ((q103f (6 * t + 154) 2 (by unfold kFk; omega)).trans ((q90f (6 * t + 154) 2 (by unfold kDs; omega)).trans ha))), (show w95 (17 * a + 86) 7 = cd from ((q103f (17 * a + 86) 7 (by unfold kFk; omega)).trans ((q90f (17 * a + 86) 7 (by unfold kDs; omega)).trans hcv))), by rw [(show w95 74 1 = w 74 1 from ((q103f 74 1 (by unfold kFk; omega)).trans ((q90f 74 1 (by unfold kDs; omega)).trans rfl)))]; omega, by rw [(Eq.trans (show w95 (6 * t + 154) 1 = w (6 * t + 154) 1 from ((q103f (6 * t + 154) 1 (by unfold kFk; omega)).trans ((q90f (6 * t + 154) 1 (by unfold kDs; omega)).trans rfl))) hst)]; decide, by rw [(Eq.trans (show w95 (6 * t + 154) 1 = w (6 * t + 154) 1 from ((q103f (6 * t + 154) 1 (by unfold kFk; omega)).trans ((q90f (6 * t + 154) 1 (by unfold kDs; omega)).trans rfl))) hst)]; decide, Or.inl ⟨(Eq.trans (show w95 (6 * t + 154) 1 = w (6 * t + 154) 1 from ((q103f (6 * t + 154) 1 (by unfold kFk; omega)).trans ((q90f (6 * t + 154) 1 (by unfold kDs; omega)).trans rfl))) hst), (by rw [show w95 (6 * t + 154) 3 = w (6 * t + 154) 3 from ((q103f (6 * t + 154) 3 (by unfold kFk; omega)).trans ((q90f (6 * t + 154) 3 (by unfold kDs; omega)).trans rfl))]; exact hbeh)⟩⟩
  · refine e_Ok.swk (tg := 182) rfl (by rw [h1]; rfl) ?_
    have hcl := hD.2.2 (w (6 * t + 154) 3 - 1)
    have hnr : n < w cd 1 := by have g := hco.2.2.2 (w (6 * t + 154) 3 - 1) (by omega); omega
    have hnr2 := e_Has.get hT (c := cd) (k := 1) (lo := 0) (hi := 32) (kD_1 hcd) (by decide)
    have hbeh : 40 ≤ OP a (w (6 * t + 154) 3) := by have g := hcl.2.2.1 (by omega); rw [show w (6 * t + 154) 3 - 1 + 1 = w (6 * t + 154) 3 by omega] at g; exact g
    clear hcl
    have hcl0 : CL a (w (6 * t + 154) 3) ≤ 0 := hD.2.1 _ hbeh
    refine e_Ok.run (t' := (184, [(0, (1, 8)), (1, (1, 6 * t + 154)), (2, (1, cd)), (3, (0, o)), (4, (0, n))], [(1, cd), (1, 6 * t + 154)], w)) 2 rfl ?_
    refine e_Ok.getr (z := cd + 1) rfl (lD0 hcd) rfl rfl (Eq.trans (e_Has.eq hT (kD_3 hcd)) (by omega)) (by omega) ?_
    refine e_Ok.run (t' := (189, [(0, (1, 8)), (1, (1, 6 * t + 154)), (2, (1, cd)), (3, (0, o)), (4, (0, n))], [(0, n), (1, cd + 1), (1, 6 * t + 154)], w)) 1 rfl ?_
    have h106 := (e_Has.get hT (c := cd + 1) (k := n) (lo := (-2147483648)) (hi := 2147483647) (kD1 (d := cd) _ (by omega) hcd) (by decide))
    refine e_Ok.ald (z := w (cd + 1) n) rfl (lD1 (d := cd) (by omega) hcd) rfl (by omega) rfl (by omega) ?_
    refine e_Ok.callV rfl (by omega) rfl (lT0 (t := t) (by omega) (by omega)) rfl rfl (c_182 (t := t) (op := OP a) hT (by omega) (by omega) hts (fun _ => by rw [show w (6 * t + 154) 3 = w (6 * t + 154) 3 from rfl]; exact hbeh)) (fun r107 w108 h109 => ?_)
    obtain ⟨z111, rfl, q110f, q110T, q110s, q110x⟩ := h109
    have f112 : e_fr kNq w w108 := e_fr.trans (e_fr.refl w) (e_fr.mono q110f (fun c k q => by exact nq_kEn (by omega) q))
    have Q113 := kI.tsx q q110T (by omega) q110f (fun c k g => th_kEn g) (by unfold kEn; omega) hst (by rw [ha]; exact q110s)
    show e_Ok 20 elay kcode eI (d + 1) 59 (193, [(0, (1, 8)), (1, (1, 6 * t + 154)), (2, (1, cd)), (3, (0, o)), (4, (0, n))], [(0, z111)], w108) _
    refine e_Ok.if1 rfl (fun h114 => ?_) (fun h114 => ?_)
    · replace h114 : (z111 : Int) ≠ 0 := h114
      refine e_Ok.rets rfl rfl ?_
      exact ⟨rfl, q110T, ⟨f112, ((q110f 74 0 (by unfold kEn; omega)).trans rfl)⟩, h, Int.le_refl h, Q113, (sK.fr q110f (by unfold kEn; omega) (fun k => by unfold kEn; omega) hk), (show w108 (6 * t + 154) 2 = a from ((q110f (6 * t + 154) 2 (by unfold kEn; omega)).trans ha)), (show w108 (17 * a + 86) 7 = cd from ((q110f (17 * a + 86) 7 (by unfold kEn; omega)).trans hcv)), by rw [(show w108 74 1 = w 74 1 from ((q110f 74 1 (by unfold kEn; omega)).trans rfl))]; omega, by rw [(Eq.trans (show w108 (6 * t + 154) 1 = w (6 * t + 154) 1 from ((q110f (6 * t + 154) 1 (by unfold kEn; omega)).trans rfl)) hst)]; decide, by rw [(Eq.trans (show w108 (6 * t + 154) 1 = w (6 * t + 154) 1 from ((q110f (6 * t + 154) 1 (by unfold kEn; omega)).trans rfl)) hst)]; decide, Or.inl ⟨(Eq.trans (show w108 (6 * t + 154) 1 = w (6 * t + 154) 1 from ((q110f (6 * t + 154) 1 (by unfold kEn; omega)).trans rfl)) hst), (by rw [show w108 (6 * t + 154) 3 = w108 (6 * t + 154) 3 from rfl]; rcases q110x with ⟨g1, g2, g3⟩ | ⟨g1, g2, g3⟩; (rw [g3]; exact hco.2.2.1 _ (by omega) (by omega)); (rw [g2]; exact hbeh))⟩⟩
    · replace h114 : (z111 : Int) = 0 := by have q : ¬ ((z111 : Int) ≠ 0) := h114; omega
      refine e_Ok.run (t' := (199, [(0, (1, 8)), (1, (1, 6 * t + 154)), (2, (1, cd)), (3, (0, o)), (4, (0, n))], [(0, 8), (1, 8)], w108)) 2 rfl ?_
      refine e_Ok.callV rfl (by omega) rfl rfl rfl rfl (c_46 q110T (by omega) (sK.fr q110f (by unfold kEn; omega) (fun k => by unfold kEn; omega) hk)) (fun r115 w116 h117 => ?_)
      obtain ⟨rfl, q118f, q118T, q118x⟩ := h117
      have f119 : e_fr kNq w w116 := e_fr.trans f112 (e_fr.mono q118f (fun c k q => by exact nq_kDs q))
      have Q120 := kI.hm Q113 q118T (e_fr.mono q118f (fun c k g => hm_kDs g))
      show e_Ok 20 elay kcode eI (d + 1) 59 (202, [(0, (1, 8)), (1, (1, 6 * t + 154)), (2, (1, cd)), (3, (0, o)), (4, (0, n))], [], w116) _
      refine e_Ok.run (t' := (290, [(0, (1, 8)), (1, (1, 6 * t + 154)), (2, (1, cd)), (3, (0, o)), (4, (0, n))], [], w116)) 1 rfl ?_
      refine e_Ok.rets rfl rfl ?_
      exact ⟨rfl, q118T, ⟨f119, ((q118f 74 0 (by unfold kDs; omega)).trans ((q110f 74 0 (by unfold kEn; omega)).trans rfl))⟩, h, Int.le_refl h, Q120, q118x, (show w116 (6 * t + 154) 2 = a from ((q118f (6 * t + 154) 2 (by unfold kDs; omega)).trans ((q110f (6 * t + 154) 2 (by unfold kEn; omega)).trans ha))), (show w116 (17 * a + 86) 7 = cd from ((q118f (17 * a + 86) 7 (by unfold kDs; omega)).trans ((q110f (17 * a + 86) 7 (by unfold kEn; omega)).trans hcv))), by rw [(show w116 74 1 = w 74 1 from ((q118f 74 1 (by unfold kDs; omega)).trans ((q110f 74 1 (by unfold kEn; omega)).trans rfl)))]; omega, by rw [(Eq.trans (show w116 (6 * t + 154) 1 = w (6 * t + 154) 1 from ((q118f (6 * t + 154) 1 (by unfold kDs; omega)).trans ((q110f (6 * t + 154) 1 (by unfold kEn; omega)).trans rfl))) hst)]; decide, by rw [(Eq.trans (show w116 (6 * t + 154) 1 = w (6 * t + 154) 1 from ((q118f (6 * t + 154) 1 (by unfold kDs; omega)).trans ((q110f (6 * t + 154) 1 (by unfold kEn; omega)).trans rfl))) hst)]; decide, Or.inl ⟨(Eq.trans (show w116 (6 * t + 154) 1 = w (6 * t + 154) 1 from ((q118f (6 * t + 154) 1 (by unfold kDs; omega)).trans ((q110f (6 * t + 154) 1 (by unfold kEn; omega)).trans rfl))) hst), (by rw [show w116 (6 * t + 154) 3 = w108 (6 * t + 154) 3 from ((q118f (6 * t + 154) 3 (by unfold kDs; omega)).trans rfl)]; rcases q110x with ⟨g1, g2, g3⟩ | ⟨g1, g2, g3⟩; (rw [g3]; exact hco.2.2.1 _ (by omega) (by omega)); (rw [g2]; exact hbeh))⟩⟩
  · refine e_Ok.swk (tg := 205) rfl (by rw [h1]; rfl) ?_
    have hcl := hD.2.2 (w (6 * t + 154) 3 - 1)
    have hnr : n < w cd 1 := by have g := hco.2.2.2 (w (6 * t + 154) 3 - 1) (by omega); omega
    have hnr2 := e_Has.get hT (c := cd) (k := 1) (lo := 0) (hi := 32) (kD_1 hcd) (by decide)
    have hbeh : 40 ≤ OP a (w (6 * t + 154) 3) := by have g := hcl.2.2.1 (by omega); rw [show w (6 * t + 154) 3 - 1 + 1 = w (6 * t + 154) 3 by omega] at g; exact g
    clear hcl
    have hcl0 : CL a (w (6 * t + 154) 3) ≤ 0 := hD.2.1 _ hbeh
    refine e_Ok.run (t' := (207, [(0, (1, 8)), (1, (1, 6 * t + 154)), (2, (1, cd)), (3, (0, o)), (4, (0, n))], [(1, 6 * t + 154), (1, 8)], w)) 2 rfl ?_
    refine e_Ok.getf (z := a) rfl (lT0 (t := t) (by omega) (by omega)) rfl rfl ha (by omega) ?_
    refine e_Ok.run (t' := (212, [(0, (1, 8)), (1, (1, 6 * t + 154)), (2, (1, cd)), (3, (0, o)), (4, (0, n))], [(0, n), (0, a), (1, 8)], w)) 1 rfl ?_
    refine e_Ok.callV rfl (by omega) rfl rfl rfl rfl (c_37 (by omega) hT (by omega) q h0 (by rw [hcv]; omega)) (fun r121 w122 h123 => ?_)
    obtain ⟨z125, rfl, q124T, q124Q, q124r, q124x⟩ := h123
    have f126 : e_fr (fun c k => 154 ≤ c ∧ c ≤ 249 ∧ ¬ (6 * t + 154 ≤ c ∧ c ≤ 6 * t + 159)) w w122 := by
      rcases q124x with ⟨g1, g2⟩ | ⟨g1, g2, g3⟩
      · rw [g2]; exact e_fr.refl w
      · refine g3.mono (fun c k g => ?_)
        have hne : z125 ≠ t := fun e => by rw [e, hst] at g2; omega
        unfold kBg at g
        omega
    skip
    have f127 : e_fr kNq w w122 := e_fr.mono f126 (fun c k g => by unfold kNq; omega)
    show e_Ok 20 elay kcode eI (d + 1) 59 (215, [(0, (1, 8)), (1, (1, 6 * t + 154)), (2, (1, cd)), (3, (0, o)), (4, (0, n))], [(0, z125)], w122) _
    refine e_Ok.if1 rfl (fun h128 => ?_) (fun h128 => ?_)
    · replace h128 : (z125 : Int) ≥ 0 := h128
      refine e_Ok.rets rfl rfl ?_
      exact ⟨rfl, q124T, ⟨f127, (f126 _ _ (by omega))⟩, h, Int.le_refl h, q124Q, (sK.fr f126 (by omega) (fun k => by omega) hk), (show w122 (6 * t + 154) 2 = a from (Eq.trans (f126 _ _ (by omega)) ha)), (show w122 (17 * a + 86) 7 = cd from ((f127 (17 * a + 86) 7 (by unfold kNq; omega)).trans hcv)), by rw [(show w122 74 1 = w 74 1 from (f126 _ _ (by omega)))]; omega, by rw [(Eq.trans (show w122 (6 * t + 154) 1 = w (6 * t + 154) 1 from (f126 _ _ (by omega))) hst)]; decide, by rw [(Eq.trans (show w122 (6 * t + 154) 1 = w (6 * t + 154) 1 from (f126 _ _ (by omega))) hst)]; decide, Or.inl ⟨(Eq.trans (show w122 (6 * t + 154) 1 = w (6 * t + 154) 1 from (f126 _ _ (by omega))) hst), (by rw [show w122 (6 * t + 154) 3 = w (6 * t + 154) 3 from (f126 _ _ (by omega))]; exact hbeh)⟩⟩
    · replace h128 : (z125 : Int) < 0 := by have q : ¬ ((z125 : Int) ≥ 0) := h128; omega
      refine e_Ok.run (t' := (221, [(0, (1, 8)), (1, (1, 6 * t + 154)), (2, (1, cd)), (3, (0, o)), (4, (0, n))], [(0, 10), (1, 8)], w122)) 2 rfl ?_
      refine e_Ok.callV rfl (by omega) rfl rfl rfl rfl (c_46 q124T (by omega) (sK.fr f126 (by omega) (fun k => by omega) hk)) (fun r129 w130 h131 => ?_)
      obtain ⟨rfl, q132f, q132T, q132x⟩ := h131
      have f133 : e_fr kNq w w130 := e_fr.trans f127 (e_fr.mono q132f (fun c k q => by exact nq_kDs q))
      have Q134 := kI.hm q124Q q132T (e_fr.mono q132f (fun c k g => hm_kDs g))
      show e_Ok 20 elay kcode eI (d + 1) 59 (224, [(0, (1, 8)), (1, (1, 6 * t + 154)), (2, (1, cd)), (3, (0, o)), (4, (0, n))], [], w130) _
      refine e_Ok.run (t' := (290, [(0, (1, 8)), (1, (1, 6 * t + 154)), (2, (1, cd)), (3, (0, o)), (4, (0, n))], [], w130)) 1 rfl ?_
      refine e_Ok.rets rfl rfl ?_
      exact ⟨rfl, q132T, ⟨f133, ((q132f 74 0 (by unfold kDs; omega)).trans (f126 _ _ (by omega)))⟩, h, Int.le_refl h, Q134, q132x, (show w130 (6 * t + 154) 2 = a from ((q132f (6 * t + 154) 2 (by unfold kDs; omega)).trans (Eq.trans (f126 _ _ (by omega)) ha))), (show w130 (17 * a + 86) 7 = cd from ((q132f (17 * a + 86) 7 (by unfold kDs; omega)).trans ((f127 (17 * a + 86) 7 (by unfold kNq; omega)).trans hcv))), by rw [(show w130 74 1 = w 74 1 from ((q132f 74 1 (by unfold kDs; omega)).trans (f126 _ _ (by omega))))]; omega, by rw [(Eq.trans (show w130 (6 * t + 154) 1 = w (6 * t + 154) 1 from ((q132f (6 * t + 154) 1 (by unfold kDs; omega)).trans (f126 _ _ (by omega)))) hst)]; decide, by rw [(Eq.trans (show w130 (6 * t + 154) 1 = w (6 * t + 154) 1 from ((q132f (6 * t + 154) 1 (by unfold kDs; omega)).trans (f126 _ _ (by omega)))) hst)]; decide, Or.inl ⟨(Eq.trans (show w130 (6 * t + 154) 1 = w (6 * t + 154) 1 from ((q132f (6 * t + 154) 1 (by unfold kDs; omega)).trans (f126 _ _ (by omega)))) hst), (by rw [show w130 (6 * t + 154) 3 = w (6 * t + 154) 3 from ((q132f (6 * t + 154) 3 (by unfold kDs; omega)).trans (f126 _ _ (by omega)))]; exact hbeh)⟩⟩
  · refine e_Ok.swk (tg := 227) rfl (by rw [h1]; rfl) ?_
    have hcl := hD.2.2 (w (6 * t + 154) 3 - 1)
    have hbeh : 40 ≤ OP a (w (6 * t + 154) 3) := by have g := hcl.2.2.1 (by omega); rw [show w (6 * t + 154) 3 - 1 + 1 = w (6 * t + 154) 3 by omega] at g; exact g
    clear hcl
    have hcl0 : CL a (w (6 * t + 154) 3) ≤ 0 := hD.2.1 _ hbeh
    refine e_Ok.run (t' := (229, [(0, (1, 8)), (1, (1, 6 * t + 154)), (2, (1, cd)), (3, (0, o)), (4, (0, n))], [(1, 8), (1, 8)], w)) 2 rfl ?_
    refine e_Ok.callV rfl (by omega) rfl rfl rfl rfl (c_53 hT hk) (fun r135 w136 h137 => ?_)
    obtain ⟨z139, rfl, q138f, q138T, q138r, q138x⟩ := h137
    have f140 : e_fr kNq w w136 := e_fr.trans (e_fr.refl w) (e_fr.mono q138f (fun c k q => by exact nq_kDs q))
    have Q141 := kI.hm q q138T (e_fr.mono q138f (fun c k g => hm_kDs g))
    show e_Ok 20 elay kcode eI (d + 1) 59 (232, [(0, (1, 8)), (1, (1, 6 * t + 154)), (2, (1, cd)), (3, (0, o)), (4, (0, n))], [(0, z139), (1, 8)], w136) _
    refine e_Ok.callV rfl (by omega) rfl rfl rfl rfl (c_46 q138T (by omega) q138x) (fun r142 w143 h144 => ?_)
    obtain ⟨rfl, q145f, q145T, q145x⟩ := h144
    have f146 : e_fr kNq w w143 := e_fr.trans f140 (e_fr.mono q145f (fun c k q => by exact nq_kDs q))
    have Q147 := kI.hm Q141 q145T (e_fr.mono q145f (fun c k g => hm_kDs g))
    show e_Ok 20 elay kcode eI (d + 1) 59 (235, [(0, (1, 8)), (1, (1, 6 * t + 154)), (2, (1, cd)), (3, (0, o)), (4, (0, n))], [], w143) _
    refine e_Ok.run (t' := (290, [(0, (1, 8)), (1, (1, 6 * t + 154)), (2, (1, cd)), (3, (0, o)), (4, (0, n))], [], w143)) 1 rfl ?_
    refine e_Ok.rets rfl rfl ?_
    exact ⟨rfl, q145T, ⟨f146, ((q145f 74 0 (by unfold kDs; omega)).trans ((q138f 74 0 (by unfold kDs; omega)).trans rfl))⟩, h, Int.le_refl h, Q147, q145x, (show w143 (6 * t + 154) 2 = a from ((q145f (6 * t + 154) 2 (by unfold kDs; omega)).trans ((q138f (6 * t + 154) 2 (by unfold kDs; omega)).trans ha))), (show w143 (17 * a + 86) 7 = cd from ((q145f (17 * a + 86) 7 (by unfold kDs; omega)).trans ((q138f (17 * a + 86) 7 (by unfold kDs; omega)).trans hcv))), by rw [(show w143 74 1 = w 74 1 from ((q145f 74 1 (by unfold kDs; omega)).trans ((q138f 74 1 (by unfold kDs; omega)).trans rfl)))]; omega, by rw [(Eq.trans (show w143 (6 * t + 154) 1 = w (6 * t + 154) 1 from ((q145f (6 * t + 154) 1 (by unfold kDs; omega)).trans ((q138f (6 * t + 154) 1 (by unfold kDs; omega)).trans rfl))) hst)]; decide, by rw [(Eq.trans (show w143 (6 * t + 154) 1 = w (6 * t + 154) 1 from ((q145f (6 * t + 154) 1 (by unfold kDs; omega)).trans ((q138f (6 * t + 154) 1 (by unfold kDs; omega)).trans rfl))) hst)]; decide, Or.inl ⟨(Eq.trans (show w143 (6 * t + 154) 1 = w (6 * t + 154) 1 from ((q145f (6 * t + 154) 1 (by unfold kDs; omega)).trans ((q138f (6 * t + 154) 1 (by unfold kDs; omega)).trans rfl))) hst), (by rw [show w143 (6 * t + 154) 3 = w (6 * t + 154) 3 from ((q145f (6 * t + 154) 3 (by unfold kDs; omega)).trans ((q138f (6 * t + 154) 3 (by unfold kDs; omega)).trans rfl))]; exact hbeh)⟩⟩
  · refine e_Ok.swk (tg := 238) rfl (by rw [h1]; rfl) ?_
    have hcl := hD.2.2 (w (6 * t + 154) 3 - 1)
    have hbeh : 40 ≤ OP a (w (6 * t + 154) 3) := by have g := hcl.2.2.1 (by omega); rw [show w (6 * t + 154) 3 - 1 + 1 = w (6 * t + 154) 3 by omega] at g; exact g
    clear hcl
    have hcl0 : CL a (w (6 * t + 154) 3) ≤ 0 := hD.2.1 _ hbeh
    refine e_Ok.run (t' := (239, [(0, (1, 8)), (1, (1, 6 * t + 154)), (2, (1, cd)), (3, (0, o)), (4, (0, n))], [(1, 8)], w)) 1 rfl ?_
    refine e_Ok.getr (z := 74) rfl (el_o rfl) rfl rfl (Eq.trans (e_Has.eq hT rfl) (by omega)) (by omega) ?_
    refine e_Ok.run (t' := (244, [(0, (1, 8)), (1, (1, 6 * t + 154)), (2, (1, cd)), (3, (0, o)), (4, (0, n))], [(1, 6 * t + 154), (0, 1), (1, 74)], w)) 2 rfl ?_
    refine e_Ok.getf (z := t) rfl (lT0 (t := t) (by omega) (by omega)) rfl rfl (Eq.trans (e_Has.eq hT (kT_0 (t := t) (by omega) (by omega))) (by omega)) (by omega) ?_
    refine e_Ok.run (t' := (248, [(0, (1, 8)), (1, (1, 6 * t + 154)), (2, (1, cd)), (3, (0, o)), (4, (0, n))], [(1, 8), (0, t), (0, 1), (1, 74)], w)) 1 rfl ?_
    refine e_Ok.callV rfl (by omega) rfl rfl rfl rfl (c_53 hT hk) (fun r148 w149 h150 => ?_)
    obtain ⟨z152, rfl, q151f, q151T, q151r, q151x⟩ := h150
    have f153 : e_fr kNq w w149 := e_fr.trans (e_fr.refl w) (e_fr.mono q151f (fun c k q => by exact nq_kDs q))
    have Q154 := kI.hm q q151T (e_fr.mono q151f (fun c k g => hm_kDs g))
    show e_Ok 20 elay kcode eI (d + 1) 59 (251, [(0, (1, 8)), (1, (1, 6 * t + 154)), (2, (1, cd)), (3, (0, o)), (4, (0, n))], [(0, z152), (0, t), (0, 1), (1, 74)], w149) _
    refine e_Ok.callV rfl (by omega) rfl rfl rfl rfl (c_27 q151T (by omega) (by omega) (by omega) (by rw [q151f _ _ (by unfold kDs; omega)]; omega)) (fun r155 w156 h157 => ?_)
    obtain ⟨rfl, q158f, q158T, q158x⟩ := h157
    have f159 : e_fr kNq w w156 := e_fr.trans f153 (e_fr.mono q158f (fun c k q => by exact nq_kLg q))
    have Q160 := kI.lg Q154 q158T (e_fr.mono q158f (fun c k g => lh_kLg g)) (q158x.2 Q154.lgk)
    show e_Ok 20 elay kcode eI (d + 1) 59 (254, [(0, (1, 8)), (1, (1, 6 * t + 154)), (2, (1, cd)), (3, (0, o)), (4, (0, n))], [], w156) _
    refine e_Ok.run (t' := (290, [(0, (1, 8)), (1, (1, 6 * t + 154)), (2, (1, cd)), (3, (0, o)), (4, (0, n))], [], w156)) 1 rfl ?_
    refine e_Ok.rets rfl rfl ?_
    exact ⟨rfl, q158T, ⟨f159, ((q158f 74 0 (by unfold kLg; omega)).trans ((q151f 74 0 (by unfold kDs; omega)).trans rfl))⟩, h, Int.le_refl h, Q160, (sK.fr q158f (by unfold kLg; omega) (fun k => by unfold kLg; omega) q151x), (show w156 (6 * t + 154) 2 = a from ((q158f (6 * t + 154) 2 (by unfold kLg; omega)).trans ((q151f (6 * t + 154) 2 (by unfold kDs; omega)).trans ha))), (show w156 (17 * a + 86) 7 = cd from ((q158f (17 * a + 86) 7 (by unfold kLg; omega)).trans ((q151f (17 * a + 86) 7 (by unfold kDs; omega)).trans hcv))), by rw [q158x.1, (show w149 74 1 = w 74 1 from ((q151f 74 1 (by unfold kDs; omega)).trans rfl))]; omega, by rw [(Eq.trans (show w156 (6 * t + 154) 1 = w (6 * t + 154) 1 from ((q158f (6 * t + 154) 1 (by unfold kLg; omega)).trans ((q151f (6 * t + 154) 1 (by unfold kDs; omega)).trans rfl))) hst)]; decide, by rw [(Eq.trans (show w156 (6 * t + 154) 1 = w (6 * t + 154) 1 from ((q158f (6 * t + 154) 1 (by unfold kLg; omega)).trans ((q151f (6 * t + 154) 1 (by unfold kDs; omega)).trans rfl))) hst)]; decide, Or.inl ⟨(Eq.trans (show w156 (6 * t + 154) 1 = w (6 * t + 154) 1 from ((q158f (6 * t + 154) 1 (by unfold kLg; omega)).trans ((q151f (6 * t + 154) 1 (by unfold kDs; omega)).trans rfl))) hst), (by rw [show w156 (6 * t + 154) 3 = w (6 * t + 154) 3 from ((q158f (6 * t + 154) 3 (by unfold kLg; omega)).trans ((q151f (6 * t + 154) 3 (by unfold kDs; omega)).trans rfl))]; exact hbeh)⟩⟩
  · refine e_Ok.swk (tg := 257) rfl (by rw [h1]; rfl) ?_
    have hcl := hD.2.2 (w (6 * t + 154) 3 - 1)
    have hbeh : 40 ≤ OP a (w (6 * t + 154) 3) := by have g := hcl.2.2.1 (by omega); rw [show w (6 * t + 154) 3 - 1 + 1 = w (6 * t + 154) 3 by omega] at g; exact g
    clear hcl
    have hcl0 : CL a (w (6 * t + 154) 3) ≤ 0 := hD.2.1 _ hbeh
    refine e_Ok.run (t' := (259, [(0, (1, 8)), (1, (1, 6 * t + 154)), (2, (1, cd)), (3, (0, o)), (4, (0, n))], [(1, 6 * t + 154), (1, 8)], w)) 2 rfl ?_
    refine e_Ok.getf (z := a) rfl (lT0 (t := t) (by omega) (by omega)) rfl rfl ha (by omega) ?_
    refine e_Ok.callV rfl (by omega) rfl rfl rfl rfl (c_68 (by omega) hT (by omega) q hk (by omega)) (fun r161 w162 h163 => ?_)
    obtain ⟨rfl, q164f, q164T, q164x⟩ := h163
    have f165 : e_fr kNq w w162 := e_fr.trans (e_fr.refl w) (e_fr.mono q164f (fun c k q => by exact nq_kGd (by omega) q))
    have q164e := q164x.2.2
    show e_Ok 20 elay kcode eI (d + 1) 59 (265, [(0, (1, 8)), (1, (1, 6 * t + 154)), (2, (1, cd)), (3, (0, o)), (4, (0, n))], [], w162) _
    refine e_Ok.run (t' := (290, [(0, (1, 8)), (1, (1, 6 * t + 154)), (2, (1, cd)), (3, (0, o)), (4, (0, n))], [], w162)) 1 rfl ?_
    refine e_Ok.rets rfl rfl ?_
    exact ⟨rfl, q164T, ⟨f165, ((q164f 74 0 (by unfold kGd; omega)).trans rfl)⟩, h, Int.le_refl h, q164x.1, q164x.2.1, (show w162 (6 * t + 154) 2 = a from ((q164f (6 * t + 154) 2 (by unfold kGd; omega)).trans ha)), (show w162 (17 * a + 86) 7 = cd from ((q164f (17 * a + 86) 7 (by unfold kGd; omega)).trans hcv)), by have g := q164e; omega, by rw [(Eq.trans (show w162 (6 * t + 154) 1 = w (6 * t + 154) 1 from ((q164f (6 * t + 154) 1 (by unfold kGd; omega)).trans rfl)) hst)]; decide, by rw [(Eq.trans (show w162 (6 * t + 154) 1 = w (6 * t + 154) 1 from ((q164f (6 * t + 154) 1 (by unfold kGd; omega)).trans rfl)) hst)]; decide, Or.inl ⟨(Eq.trans (show w162 (6 * t + 154) 1 = w (6 * t + 154) 1 from ((q164f (6 * t + 154) 1 (by unfold kGd; omega)).trans rfl)) hst), (by rw [show w162 (6 * t + 154) 3 = w (6 * t + 154) 3 from ((q164f (6 * t + 154) 3 (by unfold kGd; omega)).trans rfl)]; exact hbeh)⟩⟩
  · refine e_Ok.swk (tg := 268) rfl (by rw [h1]; rfl) ?_
    have hcl := hD.2.2 (w (6 * t + 154) 3 - 1)
    have hbeh : 40 ≤ OP a (w (6 * t + 154) 3) := by have g := hcl.2.2.1 (by omega); rw [show w (6 * t + 154) 3 - 1 + 1 = w (6 * t + 154) 3 by omega] at g; exact g
    clear hcl
    have hcl0 : CL a (w (6 * t + 154) 3) ≤ 0 := hD.2.1 _ hbeh
    refine e_Ok.run (t' := (270, [(0, (1, 8)), (1, (1, 6 * t + 154)), (2, (1, cd)), (3, (0, o)), (4, (0, n))], [(1, 6 * t + 154), (1, 8)], w)) 2 rfl ?_
    refine e_Ok.getf (z := a) rfl (lT0 (t := t) (by omega) (by omega)) rfl rfl ha (by omega) ?_
    refine e_Ok.callV rfl (by omega) rfl rfl rfl rfl (c_69 (by omega) hT (by omega) q hk (by omega)) (fun r166 w167 h168 => ?_)
    obtain ⟨rfl, q169f, q169T, q169x⟩ := h168
    have f170 : e_fr kNq w w167 := e_fr.trans (e_fr.refl w) (e_fr.mono q169f (fun c k q => by exact nq_kGd (by omega) q))
    have q169e := q169x.2.2
    show e_Ok 20 elay kcode eI (d + 1) 59 (276, [(0, (1, 8)), (1, (1, 6 * t + 154)), (2, (1, cd)), (3, (0, o)), (4, (0, n))], [], w167) _
    refine e_Ok.run (t' := (290, [(0, (1, 8)), (1, (1, 6 * t + 154)), (2, (1, cd)), (3, (0, o)), (4, (0, n))], [], w167)) 1 rfl ?_
    refine e_Ok.rets rfl rfl ?_
    exact ⟨rfl, q169T, ⟨f170, ((q169f 74 0 (by unfold kGd; omega)).trans rfl)⟩, h, Int.le_refl h, q169x.1, q169x.2.1, (show w167 (6 * t + 154) 2 = a from ((q169f (6 * t + 154) 2 (by unfold kGd; omega)).trans ha)), (show w167 (17 * a + 86) 7 = cd from ((q169f (17 * a + 86) 7 (by unfold kGd; omega)).trans hcv)), by have g := q169e; omega, by rw [(Eq.trans (show w167 (6 * t + 154) 1 = w (6 * t + 154) 1 from ((q169f (6 * t + 154) 1 (by unfold kGd; omega)).trans rfl)) hst)]; decide, by rw [(Eq.trans (show w167 (6 * t + 154) 1 = w (6 * t + 154) 1 from ((q169f (6 * t + 154) 1 (by unfold kGd; omega)).trans rfl)) hst)]; decide, Or.inl ⟨(Eq.trans (show w167 (6 * t + 154) 1 = w (6 * t + 154) 1 from ((q169f (6 * t + 154) 1 (by unfold kGd; omega)).trans rfl)) hst), (by rw [show w167 (6 * t + 154) 3 = w (6 * t + 154) 3 from ((q169f (6 * t + 154) 3 (by unfold kGd; omega)).trans rfl)]; exact hbeh)⟩⟩
  · refine e_Ok.swk (tg := 279) rfl (by rw [h1]; rfl) ?_
    have hcl := hD.2.2 (w (6 * t + 154) 3 - 1)
    have hnr : n < w cd 1 := by have g := hco.2.2.2 (w (6 * t + 154) 3 - 1) (by omega); omega
    have hnr2 := e_Has.get hT (c := cd) (k := 1) (lo := 0) (hi := 32) (kD_1 hcd) (by decide)
    have hbeh : 40 ≤ OP a (w (6 * t + 154) 3) := by have g := hcl.2.2.1 (by omega); rw [show w (6 * t + 154) 3 - 1 + 1 = w (6 * t + 154) 3 by omega] at g; exact g
    clear hcl
    have hcl0 : CL a (w (6 * t + 154) 3) ≤ 0 := hD.2.1 _ hbeh
    refine e_Ok.run (t' := (282, [(0, (1, 8)), (1, (1, 6 * t + 154)), (2, (1, cd)), (3, (0, o)), (4, (0, n))], [(1, 8), (1, 6 * t + 154), (1, 8)], w)) 3 rfl ?_
    refine e_Ok.callV rfl (by omega) rfl rfl rfl rfl (c_53 hT hk) (fun r171 w172 h173 => ?_)
    obtain ⟨z175, rfl, q174f, q174T, q174r, q174x⟩ := h173
    have f176 : e_fr kNq w w172 := e_fr.trans (e_fr.refl w) (e_fr.mono q174f (fun c k q => by exact nq_kDs q))
    have Q177 := kI.hm q q174T (e_fr.mono q174f (fun c k g => hm_kDs g))
    show e_Ok 20 elay kcode eI (d + 1) 59 (285, [(0, (1, 8)), (1, (1, 6 * t + 154)), (2, (1, cd)), (3, (0, o)), (4, (0, n))], [(0, z175), (1, 6 * t + 154), (1, 8)], w172) _
    refine e_Ok.run (t' := (287, [(0, (1, 8)), (1, (1, 6 * t + 154)), (2, (1, cd)), (3, (0, o)), (4, (0, n))], [(0, n), (0, z175), (1, 6 * t + 154), (1, 8)], w172)) 1 rfl ?_
    refine e_Ok.callV rfl (by omega) rfl rfl rfl rfl (c_70 (by omega) (t := t) q174T (by omega) (by omega) (by omega) Q177 q174x (Eq.trans (show w172 (6 * t + 154) 1 = w (6 * t + 154) 1 from ((q174f (6 * t + 154) 1 (by unfold kDs; omega)).trans rfl)) hst) (by rw [(show w172 (6 * t + 154) 2 = a from ((q174f (6 * t + 154) 2 (by unfold kDs; omega)).trans ha)), (show w172 (17 * a + 86) 7 = cd from ((q174f (17 * a + 86) 7 (by unfold kDs; omega)).trans hcv)), show w172 cd 1 = w cd 1 from ((q174f cd 1 (by unfold kDs; omega)).trans rfl)]; exact hnr)) (fun r178 w179 h180 => ?_)
    obtain ⟨rfl, q181f, q181T, q181x⟩ := h180
    have f182 : e_fr kNq w w179 := e_fr.trans f176 (e_fr.mono q181f (fun c k q => by exact nq_kWt (by omega) q))
    show e_Ok 20 elay kcode eI (d + 1) 59 (290, [(0, (1, 8)), (1, (1, 6 * t + 154)), (2, (1, cd)), (3, (0, o)), (4, (0, n))], [], w179) _
    refine e_Ok.rets rfl rfl ?_
    exact ⟨rfl, q181T, ⟨f182, ((q181f 74 0 (by unfold kWt; omega)).trans ((q174f 74 0 (by unfold kDs; omega)).trans rfl))⟩, h, Int.le_refl h, q181x.1, q181x.2, (show w179 (6 * t + 154) 2 = a from ((q181f (6 * t + 154) 2 (by unfold kWt; omega)).trans ((q174f (6 * t + 154) 2 (by unfold kDs; omega)).trans ha))), (show w179 (17 * a + 86) 7 = cd from ((q181f (17 * a + 86) 7 (by unfold kWt; omega)).trans ((q174f (17 * a + 86) 7 (by unfold kDs; omega)).trans hcv))), by rw [(show w179 74 1 = w 74 1 from ((q181f 74 1 (by unfold kWt; omega)).trans ((q174f 74 1 (by unfold kDs; omega)).trans rfl)))]; omega, by rw [(Eq.trans (show w179 (6 * t + 154) 1 = w (6 * t + 154) 1 from ((q181f (6 * t + 154) 1 (by unfold kWt; omega)).trans ((q174f (6 * t + 154) 1 (by unfold kDs; omega)).trans rfl))) hst)]; decide, by rw [(Eq.trans (show w179 (6 * t + 154) 1 = w (6 * t + 154) 1 from ((q181f (6 * t + 154) 1 (by unfold kWt; omega)).trans ((q174f (6 * t + 154) 1 (by unfold kDs; omega)).trans rfl))) hst)]; decide, Or.inl ⟨(Eq.trans (show w179 (6 * t + 154) 1 = w (6 * t + 154) 1 from ((q181f (6 * t + 154) 1 (by unfold kWt; omega)).trans ((q174f (6 * t + 154) 1 (by unfold kDs; omega)).trans rfl))) hst), (by rw [show w179 (6 * t + 154) 3 = w (6 * t + 154) 3 from ((q181f (6 * t + 154) 3 (by unfold kWt; omega)).trans ((q174f (6 * t + 154) 3 (by unfold kDs; omega)).trans rfl))]; exact hbeh)⟩⟩
end
