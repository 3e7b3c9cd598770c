noncomputable section
/-! the class: act -/
theorem hm_v {a k : Int} (ha : 0 ≤ a ∧ a ≤ 3) : kHm (17 * a + 93) k := by
  unfold kHm
  rcases c4 ha with rfl | rfl | rfl | rfl <;> simp
set_option maxHeartbeats 4000000 in
theorem c_59 {d : Nat} (hd : 26 ≤ d) {w : eW} (hT : e_Has kTy w) {t o n : Int} (g_t : 0 ≤ t ∧ t ≤ 15) (g_o : 25 ≤ o ∧ o ≤ 39) (g_n : 0 ≤ n ∧ n ≤ 33554431) {OP OD CL : Int → Int → Int} {h : Int} (q : kI w OP OD CL h t) (hk : sK w) (hst : w (6 * t + 154) 1 = 1) {a : Int} (ga : 0 ≤ a ∧ a ≤ 3) (ha : w (6 * t + 154) 2 = a) {cd : Int} (hcv : w (17 * a + 86) 7 = cd) (h0 : 0 ≤ h) (ho : OP a (w (6 * t + 154) 3 - 1) = o) (hn : OD a (w (6 * t + 154) 3 - 1) = n) (hcol : CL a (w (6 * t + 154) 3 - 1) ≤ h) (he : w 74 1 < 2147483647) : e_Ok 20 elay kcode eI d 59 (0, [(0, (1, 8)), (1, (1, 6 * t + 154)), (2, (1, cd)), (3, (0, o)), (4, (0, n))], [], w) (fun r w' => r = [] ∧ e_Has kTy w' ∧ ∃ h', h ≤ h' ∧ kI w' OP OD CL h' t ∧ sK w' ∧ w' (6 * t + 154) 2 = a ∧ w' (17 * a + 86) 7 = cd ∧ (w 74 1 ≤ w' 74 1 ∧ w' 74 1 ≤ w 74 1 + 1) ∧ 1 ≤ w' (6 * t + 154) 1 ∧ w' (6 * t + 154) 1 ≤ 5 ∧ ((w' (6 * t + 154) 1 = 1 ∧ 40 ≤ OP a (w' (6 * t + 154) 3)) ∨ (o = 26 ∧ w' (6 * t + 154) 1 = 1 ∧ w' (6 * t + 154) 3 = w (6 * t + 154) 3 ∧ n + 1 ≤ h' ∧ w' 74 1 = w 74 1) ∨ (w' (6 * t + 154) 1 ≠ 1 ∧ CL a (w' (6 * t + 154) 3) ≤ h'))) := by
  obtain ⟨d, rfl⟩ : ∃ e, d = e + 1 := ⟨d - 1, by omega⟩
  have hco := q.co (a := a) (by omega) (by omega)
  rw [hcv] at hco
  have hcd := hco.1.1
  have hcd0 := hcd
  unfold isCd at hcd0
  have hD := hco.2.1
  have hts := q.tsx0 (by omega) hst
  rw [ha] at hts
  have h74 := e_Has.get hT (c := 74) (k := 1) (lo := 0) (hi := 2147483647) rfl (by decide)
  have h3 := e_Has.get hT (c := 6 * t + 154) (k := 3) (lo := -2147483648) (hi := 2147483647) (kT_3 (t := t) rfl (by omega)) (by decide)
  refine e_Ok.run (t' := (1, [(0, (1, 8)), (1, (1, 6 * t + 154)), (2, (1, cd)), (3, (0, o)), (4, (0, n))], [(0, o)], w)) 1 rfl ?_
  have hs2 : ∀ x : Int, 25 ≤ x ∧ x ≤ 39 → (x = 25) ∨ (x = 26) ∨ (x = 27) ∨ (x = 28) ∨ (x = 29) ∨ (x = 30) ∨ (x = 31) ∨ (x = 32) ∨ (x = 33) ∨ (x = 34) ∨ (x = 35) ∨ (x = 36) ∨ (x = 37) ∨ (x = 38) ∨ (x = 39) := fun x h => by omega
  obtain h1 | h1 | h1 | h1 | h1 | h1 | h1 | h1 | h1 | h1 | h1 | h1 | h1 | h1 | h1 := hs2 (o) (by omega)
  · refine e_Ok.swk (tg := 72) rfl (by rw [h1]; rfl) ?_
    have hcl := hD.2.2 (w (6 * t + 154) 3 - 1)
    have hn31 : n ≤ 31 := by have g := hcl.1 (by omega); omega
    have hbeh : 40 ≤ OP a (w (6 * t + 154) 3) := by have g := hcl.2.2.1 (by omega); rw [show w (6 * t + 154) 3 - 1 + 1 = w (6 * t + 154) 3 by omega] at g; exact g
    clear hcl
    have hcl0 : CL a (w (6 * t + 154) 3) ≤ 0 := hD.2.1 _ hbeh
    refine e_Ok.run (t' := (73, [(0, (1, 8)), (1, (1, 6 * t + 154)), (2, (1, cd)), (3, (0, o)), (4, (0, n))], [(1, 8)], w)) 1 rfl ?_
    refine e_Ok.getr (z := 9) rfl rfl rfl rfl (Eq.trans (e_Has.eq hT rfl) (by omega)) (by omega) ?_
    refine e_Ok.run (t' := (77, [(0, (1, 8)), (1, (1, 6 * t + 154)), (2, (1, cd)), (3, (0, o)), (4, (0, n))], [(1, 6 * t + 154), (1, 9)], w)) 1 rfl ?_
    refine e_Ok.getf (z := a) rfl (lT0 (t := t) (by omega) (by omega)) rfl rfl ha (by omega) ?_
    refine e_Ok.aald (z := 17 * a + 86) rfl rfl rfl (by omega) (Eq.trans (e_Has.eq hT (k9 (by omega))) (by omega)) (by omega) ?_
    refine e_Ok.getr (z := 17 * a + 93) rfl (lA0 (a := a) (by omega) (by omega)) rfl rfl (Eq.trans (e_Has.eq hT (kA_6 (a := a) (by omega) (by omega))) (by omega)) (by omega) ?_
    refine e_Ok.run (t' := (87, [(0, (1, 8)), (1, (1, 6 * t + 154)), (2, (1, cd)), (3, (0, o)), (4, (0, n))], [(1, 8), (0, n), (1, 17 * a + 93)], w)) 2 rfl ?_
    refine e_Ok.callV rfl (by omega) rfl rfl rfl rfl (c_53 hT hk) (fun r3 w4 h5 => ?_)
    obtain ⟨z7, rfl, q6f, q6T, q6r, q6x⟩ := h5
    have Q8 := kI.hm q q6T (e_fr.mono q6f (fun c k g => hm_kDs g))
    show e_Ok 20 elay kcode eI (d + 1) 59 (90, [(0, (1, 8)), (1, (1, 6 * t + 154)), (2, (1, cd)), (3, (0, o)), (4, (0, n))], [(0, z7), (0, n), (1, 17 * a + 93)], w4) _
    refine e_Ok.ast rfl (lA7 (a := a) (by omega) (by omega)) rfl rfl (by omega) ?_
    generalize hw9 : e_up w4 (17 * a + 93) n z7 = w9
    have hT10 : e_Has kTy w9 := e_Has.upr q6T hw9 (kA93 (a := a) _ (by omega) (by omega)) (by omega)
    refine e_Ok.run (t' := (290, [(0, (1, 8)), (1, (1, 6 * t + 154)), (2, (1, cd)), (3, (0, o)), (4, (0, n))], [], w9)) 1 rfl ?_
    refine e_Ok.rets rfl rfl ?_
    have Q11 := kI.hu Q8 hT10 hw9 (hm_v (by omega))
    exact ⟨rfl, hT10, h, Int.le_refl h, Q11, (sK.eq (fun c k g => by rw [← hw9, e_up_ne _ _ (by omega)]) q6x), (show w9 (6 * t + 154) 2 = a from (by rw [← hw9]; exact (e_up_ne _ _ (Or.inl (by omega))).trans ((q6f (6 * t + 154) 2 (by unfold kDs; omega)).trans ha))), (show w9 (17 * a + 86) 7 = cd from (by rw [← hw9]; exact (e_up_ne _ _ (Or.inl (by omega))).trans ((q6f (17 * a + 86) 7 (by unfold kDs; omega)).trans hcv))), by rw [(show w9 74 1 = w 74 1 from (by rw [← hw9]; exact (e_up_ne _ _ (Or.inl (by omega))).trans ((q6f 74 1 (by unfold kDs; omega)).trans rfl)))]; omega, by rw [(Eq.trans (show w9 (6 * t + 154) 1 = w (6 * t + 154) 1 from (by rw [← hw9]; exact (e_up_ne _ _ (Or.inl (by omega))).trans ((q6f (6 * t + 154) 1 (by unfold kDs; omega)).trans rfl))) hst)]; decide, by rw [(Eq.trans (show w9 (6 * t + 154) 1 = w (6 * t + 154) 1 from (by rw [← hw9]; exact (e_up_ne _ _ (Or.inl (by omega))).trans ((q6f (6 * t + 154) 1 (by unfold kDs; omega)).trans rfl))) hst)]; decide, Or.inl ⟨(Eq.trans (show w9 (6 * t + 154) 1 = w (6 * t + 154) 1 from (by rw [← hw9]; exact (e_up_ne _ _ (Or.inl (by omega))).trans ((q6f (6 * t + 154) 1 (by unfold kDs; omega)).trans rfl))) hst), (by rw [show w9 (6 * t + 154) 3 = w (6 * t + 154) 3 from (by rw [← hw9]; exact (e_up_ne _ _ (Or.inl (by omega))).trans ((q6f (6 * t + 154) 3 (by unfold kDs; omega)).trans rfl))]; exact hbeh)⟩⟩
  · refine e_Ok.swk (tg := 94) rfl (by rw [h1]; rfl) ?_
    have hcl := hD.2.2 (w (6 * t + 154) 3 - 1)
    have hnc : n ≤ h := by have g := hcl.2.2.2.2.2.2.2.1 (by omega); omega
    skip
    clear hcl
    refine e_Ok.run (t' := (98, [(0, (1, 8)), (1, (1, 6 * t + 154)), (2, (1, cd)), (3, (0, o)), (4, (0, n))], [(1, 8), (0, n), (1, 8)], w)) 3 rfl ?_
    refine e_Ok.callV rfl (by omega) rfl rfl rfl rfl (c_53 hT hk) (fun r12 w13 h14 => ?_)
    obtain ⟨z16, rfl, q15f, q15T, q15r, q15x⟩ := h14
    have Q17 := kI.hm q q15T (e_fr.mono q15f (fun c k g => hm_kDs g))
    show e_Ok 20 elay kcode eI (d + 1) 59 (101, [(0, (1, 8)), (1, (1, 6 * t + 154)), (2, (1, cd)), (3, (0, o)), (4, (0, n))], [(0, z16), (0, n), (1, 8)], w13) _
    refine e_Ok.callV rfl (by omega) rfl rfl rfl rfl (c_60 q15T (by omega) (by omega) (t := t) Q17 (by omega)) (fun r18 w19 h20 => ?_)
    obtain ⟨rfl, q21f, q21T, q21h, q21x⟩ := h20
    show e_Ok 20 elay kcode eI (d + 1) 59 (104, [(0, (1, 8)), (1, (1, 6 * t + 154)), (2, (1, cd)), (3, (0, o)), (4, (0, n))], [], w19) _
    refine e_Ok.run (t' := (290, [(0, (1, 8)), (1, (1, 6 * t + 154)), (2, (1, cd)), (3, (0, o)), (4, (0, n))], [], w19)) 1 rfl ?_
    refine e_Ok.rets rfl rfl ?_
    exact ⟨rfl, q21T, q21h, q21x.1, q21x.2.2, (sK.fr q21f (by unfold kGl; omega) (fun k => by unfold kGl; omega) q15x), (show w19 (6 * t + 154) 2 = a from ((q21f (6 * t + 154) 2 (by unfold kGl; omega)).trans ((q15f (6 * t + 154) 2 (by unfold kDs; omega)).trans ha))), (show w19 (17 * a + 86) 7 = cd from ((q21f (17 * a + 86) 7 (by unfold kGl; omega)).trans ((q15f (17 * a + 86) 7 (by unfold kDs; omega)).trans hcv))), by rw [(show w19 74 1 = w 74 1 from ((q21f 74 1 (by unfold kGl; omega)).trans ((q15f 74 1 (by unfold kDs; omega)).trans rfl)))]; omega, by rw [(Eq.trans (show w19 (6 * t + 154) 1 = w (6 * t + 154) 1 from ((q21f (6 * t + 154) 1 (by unfold kGl; omega)).trans ((q15f (6 * t + 154) 1 (by unfold kDs; omega)).trans rfl))) hst)]; decide, by rw [(Eq.trans (show w19 (6 * t + 154) 1 = w (6 * t + 154) 1 from ((q21f (6 * t + 154) 1 (by unfold kGl; omega)).trans ((q15f (6 * t + 154) 1 (by unfold kDs; omega)).trans rfl))) hst)]; decide, Or.inr (Or.inl ⟨by omega, (Eq.trans (show w19 (6 * t + 154) 1 = w (6 * t + 154) 1 from ((q21f (6 * t + 154) 1 (by unfold kGl; omega)).trans ((q15f (6 * t + 154) 1 (by unfold kDs; omega)).trans rfl))) hst), ((q21f (6 * t + 154) 3 (by unfold kGl; omega)).trans ((q15f (6 * t + 154) 3 (by unfold kDs; omega)).trans rfl)), q21x.2.1, (show w19 74 1 = w 74 1 from ((q21f 74 1 (by unfold kGl; omega)).trans ((q15f 74 1 (by unfold kDs; omega)).trans rfl)))⟩)⟩
  · refine e_Ok.swk (tg := 107) rfl (by rw [h1]; rfl) ?_
    have hcl := hD.2.2 (w (6 * t + 154) 3 - 1)
    have hnc : n ≤ h := by have g := hcl.2.2.2.2.2.2.2.2.1 (by omega); omega
    have hbeh : 40 ≤ OP a (w (6 * t + 154) 3) := by have g := hcl.2.2.1 (by omega); rw [show w (6 * t + 154) 3 - 1 + 1 = w (6 * t + 154) 3 by omega] at g; exact g
    clear hcl
    have hcl0 : CL a (w (6 * t + 154) 3) ≤ 0 := hD.2.1 _ hbeh
    refine e_Ok.run (t' := (111, [(0, (1, 8)), (1, (1, 6 * t + 154)), (2, (1, cd)), (3, (0, o)), (4, (0, n))], [(0, n), (1, 6 * t + 154), (1, 8)], w)) 3 rfl ?_
    refine e_Ok.callV rfl (by omega) rfl rfl rfl rfl (c_61 (by omega) (t := t) (a := a) hT (by omega) (by omega) (by omega) q hk hst ha (by omega)) (fun r22 w23 h24 => ?_)
    obtain ⟨rfl, q25f, q25T, q25x⟩ := h24
    show e_Ok 20 elay kcode eI (d + 1) 59 (114, [(0, (1, 8)), (1, (1, 6 * t + 154)), (2, (1, cd)), (3, (0, o)), (4, (0, n))], [], w23) _
    refine e_Ok.run (t' := (290, [(0, (1, 8)), (1, (1, 6 * t + 154)), (2, (1, cd)), (3, (0, o)), (4, (0, n))], [], w23)) 1 rfl ?_
    refine e_Ok.rets rfl rfl ?_
    exact ⟨rfl, q25T, h, Int.le_refl h, q25x.1, q25x.2.1, (show w23 (6 * t + 154) 2 = a from ((q25f (6 * t + 154) 2 (by unfold kMb; omega)).trans ha)), (show w23 (17 * a + 86) 7 = cd from ((q25f (17 * a + 86) 7 (by unfold kMb; omega)).trans hcv)), by rw [(show w23 74 1 = w 74 1 from ((q25f 74 1 (by unfold kMb; omega)).trans rfl))]; omega, by rcases q25x.2.2 with g | g <;> (rw [g]; decide), by rcases q25x.2.2 with g | g <;> (rw [g]; decide), (by rcases q25x.2.2 with g | g; (exact Or.inl ⟨g, by rw [show w23 (6 * t + 154) 3 = w (6 * t + 154) 3 from ((q25f (6 * t + 154) 3 (by unfold kMb; omega)).trans rfl)]; exact hbeh⟩); (exact Or.inr (Or.inr ⟨by rw [g]; decide, by rw [show w23 (6 * t + 154) 3 = w (6 * t + 154) 3 from ((q25f (6 * t + 154) 3 (by unfold kMb; omega)).trans rfl)]; omega⟩)))⟩
  · refine e_Ok.swk (tg := 117) rfl (by rw [h1]; rfl) ?_
    have hcl := hD.2.2 (w (6 * t + 154) 3 - 1)
    have hbeh : 40 ≤ OP a (w (6 * t + 154) 3) := by have g := hcl.2.2.1 (by omega); rw [show w (6 * t + 154) 3 - 1 + 1 = w (6 * t + 154) 3 by omega] at g; exact g
    clear hcl
    have hcl0 : CL a (w (6 * t + 154) 3) ≤ 0 := hD.2.1 _ hbeh
    refine e_Ok.run (t' := (120, [(0, (1, 8)), (1, (1, 6 * t + 154)), (2, (1, cd)), (3, (0, o)), (4, (0, n))], [(1, 8), (1, 6 * t + 154), (1, 8)], w)) 3 rfl ?_
    refine e_Ok.callV rfl (by omega) rfl rfl rfl rfl (c_53 hT hk) (fun r26 w27 h28 => ?_)
    obtain ⟨z30, rfl, q29f, q29T, q29r, q29x⟩ := h28
    have Q31 := kI.hm q q29T (e_fr.mono q29f (fun c k g => hm_kDs g))
    show e_Ok 20 elay kcode eI (d + 1) 59 (123, [(0, (1, 8)), (1, (1, 6 * t + 154)), (2, (1, cd)), (3, (0, o)), (4, (0, n))], [(0, z30), (1, 6 * t + 154), (1, 8)], w27) _
    refine e_Ok.callV rfl (by omega) rfl rfl rfl rfl (c_63 (t := t) q29T (by omega) (by omega) Q31 (Eq.trans (show w27 (6 * t + 154) 1 = w (6 * t + 154) 1 from ((q29f (6 * t + 154) 1 (by unfold kDs; omega)).trans rfl)) hst)) (fun r32 w33 h34 => ?_)
    obtain ⟨rfl, q35f, q35T, q35x⟩ := h34
    show e_Ok 20 elay kcode eI (d + 1) 59 (126, [(0, (1, 8)), (1, (1, 6 * t + 154)), (2, (1, cd)), (3, (0, o)), (4, (0, n))], [], w33) _
    refine e_Ok.run (t' := (290, [(0, (1, 8)), (1, (1, 6 * t + 154)), (2, (1, cd)), (3, (0, o)), (4, (0, n))], [], w33)) 1 rfl ?_
    refine e_Ok.rets rfl rfl ?_
    exact ⟨rfl, q35T, h, Int.le_refl h, q35x.1, (sK.fr q35f (by unfold kWf; omega) (fun k => by unfold kWf; omega) q29x), (show w33 (6 * t + 154) 2 = a from ((q35f (6 * t + 154) 2 (by unfold kWf; omega)).trans ((q29f (6 * t + 154) 2 (by unfold kDs; omega)).trans ha))), (show w33 (17 * a + 86) 7 = cd from ((q35f (17 * a + 86) 7 (by unfold kWf; omega)).trans ((q29f (17 * a + 86) 7 (by unfold kDs; omega)).trans hcv))), by rw [(show w33 74 1 = w 74 1 from ((q35f 74 1 (by unfold kWf; omega)).trans ((q29f 74 1 (by unfold kDs; omega)).trans rfl)))]; omega, by rcases q35x.2 with g | g <;> (rw [g]; decide), by rcases q35x.2 with g | g <;> (rw [g]; decide), (by rcases q35x.2 with g | g; (exact Or.inl ⟨g, by rw [show w33 (6 * t + 154) 3 = w (6 * t + 154) 3 from ((q35f (6 * t + 154) 3 (by unfold kWf; omega)).trans ((q29f (6 * t + 154) 3 (by unfold kDs; omega)).trans rfl))]; exact hbeh⟩); (exact Or.inr (Or.inr ⟨by rw [g]; decide, by rw [show w33 (6 * t + 154) 3 = w (6 * t + 154) 3 from ((q35f (6 * t + 154) 3 (by unfold kWf; omega)).trans ((q29f (6 * t + 154) 3 (by unfold kDs; omega)).trans rfl))]; omega⟩)))⟩
  · refine e_Ok.swk (tg := 129) rfl (by rw [h1]; rfl) ?_
    have hcl := hD.2.2 (w (6 * t + 154) 3 - 1)
    have hcn : CL a n ≤ 0 := by have g := hcl.2.2.2.2.2.2.2.2.2 (by omega); rw [hn] at g; exact g
    have hbeh : 40 ≤ OP a (w (6 * t + 154) 3) := by have g := hcl.2.2.1 (by omega); rw [show w (6 * t + 154) 3 - 1 + 1 = w (6 * t + 154) 3 by omega] at g; exact g
    clear hcl
    have hcl0 : CL a (w (6 * t + 154) 3) ≤ 0 := hD.2.1 _ hbeh
    refine e_Ok.run (t' := (132, [(0, (1, 8)), (1, (1, 6 * t + 154)), (2, (1, cd)), (3, (0, o)), (4, (0, n))], [(1, 8), (1, 6 * t + 154), (1, 8)], w)) 3 rfl ?_
    refine e_Ok.callV rfl (by omega) rfl rfl rfl rfl (c_53 hT hk) (fun r36 w37 h38 => ?_)
    obtain ⟨z41, rfl, q40f, q40T, q40r, q40x⟩ := h38
    have Q42 := kI.hm q q40T (e_fr.mono q40f (fun c k g => hm_kDs g))
    show e_Ok 20 elay kcode eI (d + 1) 59 (135, [(0, (1, 8)), (1, (1, 6 * t + 154)), (2, (1, cd)), (3, (0, o)), (4, (0, n))], [(0, z41), (1, 6 * t + 154), (1, 8)], w37) _
    refine e_Ok.run (t' := (137, [(0, (1, 8)), (1, (1, 6 * t + 154)), (2, (1, cd)), (3, (0, o)), (4, (0, n))], [(0, n), (0, z41), (1, 6 * t + 154), (1, 8)], w37)) 1 rfl ?_
    refine e_Ok.callV rfl (by omega) rfl rfl rfl rfl (c_64 (t := t) q40T (by omega) (by omega) (by omega) Q42 (Eq.trans (show w37 (6 * t + 154) 1 = w (6 * t + 154) 1 from ((q40f (6 * t + 154) 1 (by unfold kDs; omega)).trans rfl)) hst)) (fun r43 w44 h45 => ?_)
    obtain ⟨rfl, q46f, q46T, q46x⟩ := h45
    show e_Ok 20 elay kcode eI (d + 1) 59 (140, [(0, (1, 8)), (1, (1, 6 * t + 154)), (2, (1, cd)), (3, (0, o)), (4, (0, n))], [], w44) _
    refine e_Ok.run (t' := (290, [(0, (1, 8)), (1, (1, 6 * t + 154)), (2, (1, cd)), (3, (0, o)), (4, (0, n))], [], w44)) 1 rfl ?_
    refine e_Ok.rets rfl rfl ?_
    exact ⟨rfl, q46T, h, Int.le_refl h, q46x.1, (sK.fr q46f (by unfold kWu; omega) (fun k => by unfold kWu; omega) q40x), (show w44 (6 * t + 154) 2 = a from ((q46f (6 * t + 154) 2 (by unfold kWu; omega)).trans ((q40f (6 * t + 154) 2 (by unfold kDs; omega)).trans ha))), (show w44 (17 * a + 86) 7 = cd from ((q46f (17 * a + 86) 7 (by unfold kWu; omega)).trans ((q40f (17 * a + 86) 7 (by unfold kDs; omega)).trans hcv))), by rw [(show w44 74 1 = w 74 1 from ((q46f 74 1 (by unfold kWu; omega)).trans ((q40f 74 1 (by unfold kDs; omega)).trans rfl)))]; omega, by rcases q46x.2 with ⟨g, g2⟩ | ⟨g, g2⟩ <;> (rw [g]; decide), by rcases q46x.2 with ⟨g, g2⟩ | ⟨g, g2⟩ <;> (rw [g]; decide), (by rcases q46x.2 with ⟨g, g2⟩ | ⟨g, g2⟩; (exact Or.inl ⟨g, by rw [g2, show w37 (6 * t + 154) 3 = w (6 * t + 154) 3 from ((q40f (6 * t + 154) 3 (by unfold kDs; omega)).trans rfl)]; exact hbeh⟩); (exact Or.inr (Or.inr ⟨by rw [g]; decide, by rw [g2]; omega⟩)))⟩
  · refine e_Ok.swk (tg := 143) rfl (by rw [h1]; rfl) ?_
    have hcl := hD.2.2 (w (6 * t + 154) 3 - 1)
    have hbeh : 40 ≤ OP a (w (6 * t + 154) 3) := by have g := hcl.2.2.1 (by omega); rw [show w (6 * t + 154) 3 - 1 + 1 = w (6 * t + 154) 3 by omega] at g; exact g
    clear hcl
    have hcl0 : CL a (w (6 * t + 154) 3) ≤ 0 := hD.2.1 _ hbeh
    refine e_Ok.run (t' := (145, [(0, (1, 8)), (1, (1, 6 * t + 154)), (2, (1, cd)), (3, (0, o)), (4, (0, n))], [(1, 8), (1, 8)], w)) 2 rfl ?_
    refine e_Ok.callV rfl (by omega) rfl rfl rfl rfl (c_53 hT hk) (fun r47 w48 h49 => ?_)
    obtain ⟨z51, rfl, q50f, q50T, q50r, q50x⟩ := h49
    have Q52 := kI.hm q q50T (e_fr.mono q50f (fun c k g => hm_kDs g))
    show e_Ok 20 elay kcode eI (d + 1) 59 (148, [(0, (1, 8)), (1, (1, 6 * t + 154)), (2, (1, cd)), (3, (0, o)), (4, (0, n))], [(0, z51), (1, 8)], w48) _
    refine e_Ok.run (t' := (149, [(0, (1, 8)), (1, (1, 6 * t + 154)), (2, (1, cd)), (3, (0, o)), (4, (0, n))], [(1, 8), (0, z51), (1, 8)], w48)) 1 rfl ?_
    refine e_Ok.callV rfl (by omega) rfl rfl rfl rfl (c_53 q50T q50x) (fun r53 w54 h55 => ?_)
    obtain ⟨z57, rfl, q56f, q56T, q56r, q56x⟩ := h55
    have Q58 := kI.hm Q52 q56T (e_fr.mono q56f (fun c k g => hm_kDs g))
    show e_Ok 20 elay kcode eI (d + 1) 59 (152, [(0, (1, 8)), (1, (1, 6 * t + 154)), (2, (1, cd)), (3, (0, o)), (4, (0, n))], [(0, z57), (0, z51), (1, 8)], w54) _
    refine e_Ok.callV rfl (by omega) rfl rfl rfl rfl (c_65 (by omega) q56T (by omega) (by omega) Q58 q56x) (fun r59 w60 h61 => ?_)
    obtain ⟨rfl, q62f, q62T, q62x⟩ := h61
    show e_Ok 20 elay kcode eI (d + 1) 59 (155, [(0, (1, 8)), (1, (1, 6 * t + 154)), (2, (1, cd)), (3, (0, o)), (4, (0, n))], [], w60) _
    refine e_Ok.run (t' := (290, [(0, (1, 8)), (1, (1, 6 * t + 154)), (2, (1, cd)), (3, (0, o)), (4, (0, n))], [], w60)) 1 rfl ?_
    refine e_Ok.rets rfl rfl ?_
    exact ⟨rfl, q62T, h, Int.le_refl h, q62x.1, q62x.2, (show w60 (6 * t + 154) 2 = a from ((q62f (6 * t + 154) 2 (by unfold kSP; omega)).trans ((q56f (6 * t + 154) 2 (by unfold kDs; omega)).trans ((q50f (6 * t + 154) 2 (by unfold kDs; omega)).trans ha)))), (show w60 (17 * a + 86) 7 = cd from ((q62f (17 * a + 86) 7 (by unfold kSP; omega)).trans ((q56f (17 * a + 86) 7 (by unfold kDs; omega)).trans ((q50f (17 * a + 86) 7 (by unfold kDs; omega)).trans hcv)))), by rw [(show w60 74 1 = w 74 1 from ((q62f 74 1 (by unfold kSP; omega)).trans ((q56f 74 1 (by unfold kDs; omega)).trans ((q50f 74 1 (by unfold kDs; omega)).trans rfl))))]; omega, by rw [(Eq.trans (show w60 (6 * t + 154) 1 = w (6 * t + 154) 1 from ((q62f (6 * t + 154) 1 (by unfold kSP; omega)).trans ((q56f (6 * t + 154) 1 (by unfold kDs; omega)).trans ((q50f (6 * t + 154) 1 (by unfold kDs; omega)).trans rfl)))) hst)]; decide, by rw [(Eq.trans (show w60 (6 * t + 154) 1 = w (6 * t + 154) 1 from ((q62f (6 * t + 154) 1 (by unfold kSP; omega)).trans ((q56f (6 * t + 154) 1 (by unfold kDs; omega)).trans ((q50f (6 * t + 154) 1 (by unfold kDs; omega)).trans rfl)))) hst)]; decide, Or.inl ⟨(Eq.trans (show w60 (6 * t + 154) 1 = w (6 * t + 154) 1 from ((q62f (6 * t + 154) 1 (by unfold kSP; omega)).trans ((q56f (6 * t + 154) 1 (by unfold kDs; omega)).trans ((q50f (6 * t + 154) 1 (by unfold kDs; omega)).trans rfl)))) hst), (by rw [show w60 (6 * t + 154) 3 = w (6 * t + 154) 3 from ((q62f (6 * t + 154) 3 (by unfold kSP; omega)).trans ((q56f (6 * t + 154) 3 (by unfold kDs; omega)).trans ((q50f (6 * t + 154) 3 (by unfold kDs; omega)).trans rfl)))]; exact hbeh)⟩⟩
  · refine e_Ok.swk (tg := 158) rfl (by rw [h1]; rfl) ?_
    have hcl := hD.2.2 (w (6 * t + 154) 3 - 1)
    have hbeh : 40 ≤ OP a (w (6 * t + 154) 3) := by have g := hcl.2.2.1 (by omega); rw [show w (6 * t + 154) 3 - 1 + 1 = w (6 * t + 154) 3 by omega] at g; exact g
    clear hcl
    have hcl0 : CL a (w (6 * t + 154) 3) ≤ 0 := hD.2.1 _ hbeh
    refine e_Ok.run (t' := (161, [(0, (1, 8)), (1, (1, 6 * t + 154)), (2, (1, cd)), (3, (0, o)), (4, (0, n))], [(1, 8), (1, 6 * t + 154), (1, 8)], w)) 3 rfl ?_
    refine e_Ok.callV rfl (by omega) rfl rfl rfl rfl (c_53 hT hk) (fun r63 w64 h65 => ?_)
    obtain ⟨z67, rfl, q66f, q66T, q66r, q66x⟩ := h65
    have Q68 := kI.hm q q66T (e_fr.mono q66f (fun c k g => hm_kDs g))
    show e_Ok 20 elay kcode eI (d + 1) 59 (164, [(0, (1, 8)), (1, (1, 6 * t + 154)), (2, (1, cd)), (3, (0, o)), (4, (0, n))], [(0, z67), (1, 6 * t + 154), (1, 8)], w64) _
    refine e_Ok.callV rfl (by omega) rfl rfl rfl rfl (c_66 (by omega) (t := t) q66T (by omega) (by omega) Q68 q66x (Eq.trans (show w64 (6 * t + 154) 1 = w (6 * t + 154) 1 from ((q66f (6 * t + 154) 1 (by unfold kDs; omega)).trans rfl)) hst)) (fun r69 w70 h71 => ?_)
    obtain ⟨rfl, q72f, q72T, q72x⟩ := h71
    show e_Ok 20 elay kcode eI (d + 1) 59 (167, [(0, (1, 8)), (1, (1, 6 * t + 154)), (2, (1, cd)), (3, (0, o)), (4, (0, n))], [], w70) _
    refine e_Ok.run (t' := (290, [(0, (1, 8)), (1, (1, 6 * t + 154)), (2, (1, cd)), (3, (0, o)), (4, (0, n))], [], w70)) 1 rfl ?_
    refine e_Ok.rets rfl rfl ?_
    exact ⟨rfl, q72T, h, Int.le_refl h, q72x.1, q72x.2.1, (show w70 (6 * t + 154) 2 = a from ((q72f (6 * t + 154) 2 (by unfold kTl; omega)).trans ((q66f (6 * t + 154) 2 (by unfold kDs; omega)).trans ha))), (show w70 (17 * a + 86) 7 = cd from ((q72f (17 * a + 86) 7 (by unfold kTl; omega)).trans ((q66f (17 * a + 86) 7 (by unfold kDs; omega)).trans hcv))), by rw [(show w70 74 1 = w 74 1 from ((q72f 74 1 (by unfold kTl; omega)).trans ((q66f 74 1 (by unfold kDs; omega)).trans rfl)))]; omega, by rcases q72x.2.2 with g | g <;> (rw [g]; decide), by rcases q72x.2.2 with g | g <;> (rw [g]; decide), (by rcases q72x.2.2 with g | g; (exact Or.inl ⟨g, by rw [show w70 (6 * t + 154) 3 = w (6 * t + 154) 3 from ((q72f (6 * t + 154) 3 (by unfold kTl; omega)).trans ((q66f (6 * t + 154) 3 (by unfold kDs; omega)).trans rfl))]; exact hbeh⟩); (exact Or.inr (Or.inr ⟨by rw [g]; decide, by rw [show w70 (6 * t + 154) 3 = w (6 * t + 154) 3 from ((q72f (6 * t + 154) 3 (by unfold kTl; omega)).trans ((q66f (6 * t + 154) 3 (by unfold kDs; omega)).trans rfl))]; omega⟩)))⟩
  · refine e_Ok.swk (tg := 170) rfl (by rw [h1]; rfl) ?_
    have hcl := hD.2.2 (w (6 * t + 154) 3 - 1)
    have hbeh : 40 ≤ OP a (w (6 * t + 154) 3) := by have g := hcl.2.2.1 (by omega); rw [show w (6 * t + 154) 3 - 1 + 1 = w (6 * t + 154) 3 by omega] at g; exact g
    clear hcl
    have hcl0 : CL a (w (6 * t + 154) 3) ≤ 0 := hD.2.1 _ hbeh
    refine e_Ok.run (t' := (173, [(0, (1, 8)), (1, (1, 6 * t + 154)), (2, (1, cd)), (3, (0, o)), (4, (0, n))], [(1, 8), (1, 6 * t + 154), (1, 8)], w)) 3 rfl ?_
    refine e_Ok.callV rfl (by omega) rfl rfl rfl rfl (c_53 hT hk) (fun r73 w74 h75 => ?_)
    obtain ⟨z77, rfl, q76f, q76T, q76r, q76x⟩ := h75
    have Q78 := kI.hm q q76T (e_fr.mono q76f (fun c k g => hm_kDs g))
    show e_Ok 20 elay kcode eI (d + 1) 59 (176, [(0, (1, 8)), (1, (1, 6 * t + 154)), (2, (1, cd)), (3, (0, o)), (4, (0, n))], [(0, z77), (1, 6 * t + 154), (1, 8)], w74) _
    refine e_Ok.callV rfl (by omega) rfl rfl rfl rfl (c_67 (by omega) (t := t) q76T (by omega) (by omega) Q78 q76x) (fun r79 w80 h81 => ?_)
    obtain ⟨rfl, q82f, q82T, q82x⟩ := h81
    have Q83 := kI.hm Q78 q82T (e_fr.mono q82f (fun c k g => hm_kFk g))
    show e_Ok 20 elay kcode eI (d + 1) 59 (179, [(0, (1, 8)), (1, (1, 6 * t + 154)), (2, (1, cd)), (3, (0, o)), (4, (0, n))], [], w80) _
    refine e_Ok.run (t' := (290, [(0, (1, 8)), (1, (1, 6 * t + 154)), (2, (1, cd)), (3, (0, o)), (4, (0, n))], [], w80)) 1 rfl ?_
    refine e_Ok.rets rfl rfl ?_
    exact ⟨rfl, q82T, h, Int.le_refl h, Q83, q82x, (show w80 (6 * t + 154) 2 = a from ((q82f (6 * t + 154) 2 (by unfold kFk; omega)).trans ((q76f (6 * t + 154) 2 (by unfold kDs; omega)).trans ha))), (show w80 (17 * a + 86) 7 = cd from ((q82f (17 * a + 86) 7 (by unfold kFk; omega)).trans ((q76f (17 * a + 86) 7 (by unfold kDs; omega)).trans hcv))), by rw [(show w80 74 1 = w 74 1 from ((q82f 74 1 (by unfold kFk; omega)).trans ((q76f 74 1 (by unfold kDs; omega)).trans rfl)))]; omega, by rw [(Eq.trans (show w80 (6 * t + 154) 1 = w (6 * t + 154) 1 from ((q82f (6 * t + 154) 1 (by unfold kFk; omega)).trans ((q76f (6 * t + 154) 1 (by unfold kDs; omega)).trans rfl))) hst)]; decide, by rw [(Eq.trans (show w80 (6 * t + 154) 1 = w (6 * t + 154) 1 from ((q82f (6 * t + 154) 1 (by unfold kFk; omega)).trans ((q76f (6 * t + 154) 1 (by unfold kDs; omega)).trans rfl))) hst)]; decide, Or.inl ⟨(Eq.trans (show w80 (6 * t + 154) 1 = w (6 * t + 154) 1 from ((q82f (6 * t + 154) 1 (by unfold kFk; omega)).trans ((q76f (6 * t + 154) 1 (by unfold kDs; omega)).trans rfl))) hst), (by rw [show w80 (6 * t + 154) 3 = w (6 * t + 154) 3 from ((q82f (6 * t + 154) 3 (by unfold kFk; omega)).trans ((q76f (6 * t + 154) 3 (by unfold kDs; omega)).trans rfl))]; exact hbeh)⟩⟩
  · refine e_Ok.swk (tg := 182) rfl (by rw [h1]; rfl) ?_
    have hcl := hD.2.2 (w (6 * t + 154) 3 - 1)
    have hnr : n < w cd 1 := by have g := hco.2.2.2 (w (6 * t + 154) 3 - 1) (by omega); omega
    have hnr2 := e_Has.get hT (c := cd) (k := 1) (lo := 0) (hi := 32) (kD_1 hcd) (by decide)
    have hbeh : 40 ≤ OP a (w (6 * t + 154) 3) := by have g := hcl.2.2.1 (by omega); rw [show w (6 * t + 154) 3 - 1 + 1 = w (6 * t + 154) 3 by omega] at g; exact g
    clear hcl
    have hcl0 : CL a (w (6 * t + 154) 3) ≤ 0 := hD.2.1 _ hbeh
    refine e_Ok.run (t' := (184, [(0, (1, 8)), (1, (1, 6 * t + 154)), (2, (1, cd)), (3, (0, o)), (4, (0, n))], [(1, cd), (1, 6 * t + 154)], w)) 2 rfl ?_
    refine e_Ok.getr (z := cd + 1) rfl (lD0 hcd) rfl rfl (Eq.trans (e_Has.eq hT (kD_3 hcd)) (by omega)) (by omega) ?_
    refine e_Ok.run (t' := (189, [(0, (1, 8)), (1, (1, 6 * t + 154)), (2, (1, cd)), (3, (0, o)), (4, (0, n))], [(0, n), (1, cd + 1), (1, 6 * t + 154)], w)) 1 rfl ?_
    have h84 := (e_Has.get hT (c := cd + 1) (k := n) (lo := (-2147483648)) (hi := 2147483647) (kD1 (d := cd) _ (by omega) hcd) (by decide))
    refine e_Ok.ald (z := w (cd + 1) n) rfl (lD1 (d := cd) (by omega) hcd) rfl (by omega) rfl (by omega) ?_
    refine e_Ok.callV rfl (by omega) rfl (lT0 (t := t) (by omega) (by omega)) rfl rfl (c_182 (t := t) (op := OP a) hT (by omega) (by omega) hts (fun _ => by rw [show w (6 * t + 154) 3 = w (6 * t + 154) 3 from rfl]; exact hbeh)) (fun r85 w86 h87 => ?_)
    obtain ⟨z89, rfl, q88f, q88T, q88s, q88x⟩ := h87
    have Q90 := kI.tsx q q88T (by omega) q88f (fun c k g => th_kEn g) (by unfold kEn; omega) hst (by rw [ha]; exact q88s)
    show e_Ok 20 elay kcode eI (d + 1) 59 (193, [(0, (1, 8)), (1, (1, 6 * t + 154)), (2, (1, cd)), (3, (0, o)), (4, (0, n))], [(0, z89)], w86) _
    refine e_Ok.if1 rfl (fun h91 => ?_) (fun h91 => ?_)
    · replace h91 : (z89 : Int) ≠ 0 := h91
      refine e_Ok.rets rfl rfl ?_
      exact ⟨rfl, q88T, h, Int.le_refl h, Q90, (sK.fr q88f (by unfold kEn; omega) (fun k => by unfold kEn; omega) hk), (show w86 (6 * t + 154) 2 = a from ((q88f (6 * t + 154) 2 (by unfold kEn; omega)).trans ha)), (show w86 (17 * a + 86) 7 = cd from ((q88f (17 * a + 86) 7 (by unfold kEn; omega)).trans hcv)), by rw [(show w86 74 1 = w 74 1 from ((q88f 74 1 (by unfold kEn; omega)).trans rfl))]; omega, by rw [(Eq.trans (show w86 (6 * t + 154) 1 = w (6 * t + 154) 1 from ((q88f (6 * t + 154) 1 (by unfold kEn; omega)).trans rfl)) hst)]; decide, by rw [(Eq.trans (show w86 (6 * t + 154) 1 = w (6 * t + 154) 1 from ((q88f (6 * t + 154) 1 (by unfold kEn; omega)).trans rfl)) hst)]; decide, Or.inl ⟨(Eq.trans (show w86 (6 * t + 154) 1 = w (6 * t + 154) 1 from ((q88f (6 * t + 154) 1 (by unfold kEn; omega)).trans rfl)) hst), (by rw [show w86 (6 * t + 154) 3 = w86 (6 * t + 154) 3 from rfl]; rcases q88x with ⟨g1, g2, g3⟩ | ⟨g1, g2, g3⟩; (rw [g3]; exact hco.2.2.1 _ (by omega) (by omega)); (rw [g2]; exact hbeh))⟩⟩
    · replace h91 : (z89 : Int) = 0 := by have q : ¬ ((z89 : Int) ≠ 0) := h91; omega
      refine e_Ok.run (t' := (199, [(0, (1, 8)), (1, (1, 6 * t + 154)), (2, (1, cd)), (3, (0, o)), (4, (0, n))], [(0, 8), (1, 8)], w86)) 2 rfl ?_
      refine e_Ok.callV rfl (by omega) rfl rfl rfl rfl (c_46 q88T (by omega) (sK.fr q88f (by unfold kEn; omega) (fun k => by unfold kEn; omega) hk)) (fun r92 w93 h94 => ?_)
      obtain ⟨rfl, q95f, q95T, q95x⟩ := h94
      have Q101 := kI.hm Q90 q95T (e_fr.mono q95f (fun c k g => hm_kDs g))
      show e_Ok 20 elay kcode eI (d + 1) 59 (202, [(0, (1, 8)), (1, (1, 6 * t + 154)), (2, (1, cd)), (3, (0, o)), (4, (0, n))], [], w93) _
      refine e_Ok.run (t' := (290, [(0, (1, 8)), (1, (1, 6 * t + 154)), (2, (1, cd)), (3, (0, o)), (4, (0, n))], [], w93)) 1 rfl ?_
      refine e_Ok.rets rfl rfl ?_
      exact ⟨rfl, q95T, h, Int.le_refl h, Q101, q95x, (show w93 (6 * t + 154) 2 = a from ((q95f (6 * t + 154) 2 (by unfold kDs; omega)).trans ((q88f (6 * t + 154) 2 (by unfold kEn; omega)).trans ha))), (show w93 (17 * a + 86) 7 = cd from ((q95f (17 * a + 86) 7 (by unfold kDs; omega)).trans ((q88f (17 * a + 86) 7 (by unfold kEn; omega)).trans hcv))), by rw [(show w93 74 1 = w 74 1 from ((q95f 74 1 (by unfold kDs; omega)).trans ((q88f 74 1 (by unfold kEn; omega)).trans rfl)))]; omega, by rw [(Eq.trans (show w93 (6 * t + 154) 1 = w (6 * t + 154) 1 from ((q95f (6 * t + 154) 1 (by unfold kDs; omega)).trans ((q88f (6 * t + 154) 1 (by unfold kEn; omega)).trans rfl))) hst)]; decide, by rw [(Eq.trans (show w93 (6 * t + 154) 1 = w (6 * t + 154) 1 from ((q95f (6 * t + 154) 1 (by unfold kDs; omega)).trans ((q88f (6 * t + 154) 1 (by unfold kEn; omega)).trans rfl))) hst)]; decide, Or.inl ⟨(Eq.trans (show w93 (6 * t + 154) 1 = w (6 * t + 154) 1 from ((q95f (6 * t + 154) 1 (by unfold kDs; omega)).trans ((q88f (6 * t + 154) 1 (by unfold kEn; omega)).trans rfl))) hst), (by rw [show w93 (6 * t + 154) 3 = w86 (6 * t + 154) 3 from ((q95f (6 * t + 154) 3 (by unfold kDs; omega)).trans rfl)]; rcases q88x with ⟨g1, g2, g3⟩ | ⟨g1, g2, g3⟩; (rw [g3]; exact hco.2.2.1 _ (by omega) (by omega)); (rw [g2]; exact hbeh))⟩⟩
  · refine e_Ok.swk (tg := 205) rfl (by rw [h1]; rfl) ?_
    have hcl := hD.2.2 (w (6 * t + 154) 3 - 1)
    have hnr : n < w cd 1 := by have g := hco.2.2.2 (w (6 * t + 154) 3 - 1) (by omega); omega
    have hnr2 := e_Has.get hT (c := cd) (k := 1) (lo := 0) (hi := 32) (kD_1 hcd) (by decide)
    have hbeh : 40 ≤ OP a (w (6 * t + 154) 3) := by have g := hcl.2.2.1 (by omega); rw [show w (6 * t + 154) 3 - 1 + 1 = w (6 * t + 154) 3 by omega] at g; exact g
    clear hcl
    have hcl0 : CL a (w (6 * t + 154) 3) ≤ 0 := hD.2.1 _ hbeh
    refine e_Ok.run (t' := (207, [(0, (1, 8)), (1, (1, 6 * t + 154)), (2, (1, cd)), (3, (0, o)), (4, (0, n))], [(1, 6 * t + 154), (1, 8)], w)) 2 rfl ?_
    refine e_Ok.getf (z := a) rfl (lT0 (t := t) (by omega) (by omega)) rfl rfl ha (by omega) ?_
    refine e_Ok.run (t' := (212, [(0, (1, 8)), (1, (1, 6 * t + 154)), (2, (1, cd)), (3, (0, o)), (4, (0, n))], [(0, n), (0, a), (1, 8)], w)) 1 rfl ?_
    refine e_Ok.callV rfl (by omega) rfl rfl rfl rfl (c_37 (by omega) hT (by omega) q h0 (by rw [hcv]; omega)) (fun r103 w104 h105 => ?_)
    obtain ⟨z107, rfl, q106T, q106Q, q106r, q106x⟩ := h105
    have f108 : e_fr (fun c k => 154 ≤ c ∧ c ≤ 249 ∧ ¬ (6 * t + 154 ≤ c ∧ c ≤ 6 * t + 159)) w w104 := by
      rcases q106x with ⟨g1, g2⟩ | ⟨g1, g2, g3⟩
      · rw [g2]; exact e_fr.refl w
      · refine g3.mono (fun c k g => ?_)
        have hne : z107 ≠ t := fun e => by rw [e, hst] at g2; omega
        unfold kBg at g
        omega
    skip
    show e_Ok 20 elay kcode eI (d + 1) 59 (215, [(0, (1, 8)), (1, (1, 6 * t + 154)), (2, (1, cd)), (3, (0, o)), (4, (0, n))], [(0, z107)], w104) _
    refine e_Ok.if1 rfl (fun h109 => ?_) (fun h109 => ?_)
    · replace h109 : (z107 : Int) ≥ 0 := h109
      refine e_Ok.rets rfl rfl ?_
      exact ⟨rfl, q106T, h, Int.le_refl h, q106Q, (sK.fr f108 (by omega) (fun k => by omega) hk), (show w104 (6 * t + 154) 2 = a from (Eq.trans (f108 _ _ (by omega)) ha)), (show w104 (17 * a + 86) 7 = cd from (Eq.trans (f108 _ _ (by omega)) hcv)), by rw [(show w104 74 1 = w 74 1 from (f108 _ _ (by omega)))]; omega, by rw [(Eq.trans (show w104 (6 * t + 154) 1 = w (6 * t + 154) 1 from (f108 _ _ (by omega))) hst)]; decide, by rw [(Eq.trans (show w104 (6 * t + 154) 1 = w (6 * t + 154) 1 from (f108 _ _ (by omega))) hst)]; decide, Or.inl ⟨(Eq.trans (show w104 (6 * t + 154) 1 = w (6 * t + 154) 1 from (f108 _ _ (by omega))) hst), (by rw [show w104 (6 * t + 154) 3 = w (6 * t + 154) 3 from (f108 _ _ (by omega))]; exact hbeh)⟩⟩
    · replace h109 : (z107 : Int) < 0 := by have q : ¬ ((z107 : Int) ≥ 0) := h109; omega
      refine e_Ok.run (t' := (221, [(0, (1, 8)), (1, (1, 6 * t + 154)), (2, (1, cd)), (3, (0, o)), (4, (0, n))], [(0, 10), (1, 8)], w104)) 2 rfl ?_
      refine e_Ok.callV rfl (by omega) rfl rfl rfl rfl (c_46 q106T (by omega) (sK.fr f108 (by omega) (fun k => by omega) hk)) (fun r110 w111 h112 => ?_)
      obtain ⟨rfl, q113f, q113T, q113x⟩ := h112
      have Q114 := kI.hm q106Q q113T (e_fr.mono q113f (fun c k g => hm_kDs g))
      show e_Ok 20 elay kcode eI (d + 1) 59 (224, [(0, (1, 8)), (1, (1, 6 * t + 154)), (2, (1, cd)), (3, (0, o)), (4, (0, n))], [], w111) _
      refine e_Ok.run (t' := (290, [(0, (1, 8)), (1, (1, 6 * t + 154)), (2, (1, cd)), (3, (0, o)), (4, (0, n))], [], w111)) 1 rfl ?_
      refine e_Ok.rets rfl rfl ?_
      exact ⟨rfl, q113T, h, Int.le_refl h, Q114, q113x, (show w111 (6 * t + 154) 2 = a from ((q113f (6 * t + 154) 2 (by unfold kDs; omega)).trans (Eq.trans (f108 _ _ (by omega)) ha))), (show w111 (17 * a + 86) 7 = cd from ((q113f (17 * a + 86) 7 (by unfold kDs; omega)).trans (Eq.trans (f108 _ _ (by omega)) hcv))), by rw [(show w111 74 1 = w 74 1 from ((q113f 74 1 (by unfold kDs; omega)).trans (f108 _ _ (by omega))))]; omega, by rw [(Eq.trans (show w111 (6 * t + 154) 1 = w (6 * t + 154) 1 from ((q113f (6 * t + 154) 1 (by unfold kDs; omega)).trans (f108 _ _ (by omega)))) hst)]; decide, by rw [(Eq.trans (show w111 (6 * t + 154) 1 = w (6 * t + 154) 1 from ((q113f (6 * t + 154) 1 (by unfold kDs; omega)).trans (f108 _ _ (by omega)))) hst)]; decide, Or.inl ⟨(Eq.trans (show w111 (6 * t + 154) 1 = w (6 * t + 154) 1 from ((q113f (6 * t + 154) 1 (by unfold kDs; omega)).trans (f108 _ _ (by omega)))) hst), (by rw [show w111 (6 * t + 154) 3 = w (6 * t + 154) 3 from ((q113f (6 * t + 154) 3 (by unfold kDs; omega)).trans (f108 _ _ (by omega)))]; exact hbeh)⟩⟩
  · refine e_Ok.swk (tg := 227) rfl (by rw [h1]; rfl) ?_
    have hcl := hD.2.2 (w (6 * t + 154) 3 - 1)
    have hbeh : 40 ≤ OP a (w (6 * t + 154) 3) := by have g := hcl.2.2.1 (by omega); rw [show w (6 * t + 154) 3 - 1 + 1 = w (6 * t + 154) 3 by omega] at g; exact g
    clear hcl
    have hcl0 : CL a (w (6 * t + 154) 3) ≤ 0 := hD.2.1 _ hbeh
    refine e_Ok.run (t' := (229, [(0, (1, 8)), (1, (1, 6 * t + 154)), (2, (1, cd)), (3, (0, o)), (4, (0, n))], [(1, 8), (1, 8)], w)) 2 rfl ?_
    refine e_Ok.callV rfl (by omega) rfl rfl rfl rfl (c_53 hT hk) (fun r115 w116 h117 => ?_)
    obtain ⟨z119, rfl, q118f, q118T, q118r, q118x⟩ := h117
    have Q120 := kI.hm q q118T (e_fr.mono q118f (fun c k g => hm_kDs g))
    show e_Ok 20 elay kcode eI (d + 1) 59 (232, [(0, (1, 8)), (1, (1, 6 * t + 154)), (2, (1, cd)), (3, (0, o)), (4, (0, n))], [(0, z119), (1, 8)], w116) _
    refine e_Ok.callV rfl (by omega) rfl rfl rfl rfl (c_46 q118T (by omega) q118x) (fun r121 w122 h123 => ?_)
    obtain ⟨rfl, q124f, q124T, q124x⟩ := h123
    have Q125 := kI.hm Q120 q124T (e_fr.mono q124f (fun c k g => hm_kDs g))
    show e_Ok 20 elay kcode eI (d + 1) 59 (235, [(0, (1, 8)), (1, (1, 6 * t + 154)), (2, (1, cd)), (3, (0, o)), (4, (0, n))], [], w122) _
    refine e_Ok.run (t' := (290, [(0, (1, 8)), (1, (1, 6 * t + 154)), (2, (1, cd)), (3, (0, o)), (4, (0, n))], [], w122)) 1 rfl ?_
    refine e_Ok.rets rfl rfl ?_
    exact ⟨rfl, q124T, h, Int.le_refl h, Q125, q124x, (show w122 (6 * t + 154) 2 = a from ((q124f (6 * t + 154) 2 (by unfold kDs; omega)).trans ((q118f (6 * t + 154) 2 (by unfold kDs; omega)).trans ha))), (show w122 (17 * a + 86) 7 = cd from ((q124f (17 * a + 86) 7 (by unfold kDs; omega)).trans ((q118f (17 * a + 86) 7 (by unfold kDs; omega)).trans hcv))), by rw [(show w122 74 1 = w 74 1 from ((q124f 74 1 (by unfold kDs; omega)).trans ((q118f 74 1 (by unfold kDs; omega)).trans rfl)))]; omega, by rw [(Eq.trans (show w122 (6 * t + 154) 1 = w (6 * t + 154) 1 from ((q124f (6 * t + 154) 1 (by unfold kDs; omega)).trans ((q118f (6 * t + 154) 1 (by unfold kDs; omega)).trans rfl))) hst)]; decide, by rw [(Eq.trans (show w122 (6 * t + 154) 1 = w (6 * t + 154) 1 from ((q124f (6 * t + 154) 1 (by unfold kDs; omega)).trans ((q118f (6 * t + 154) 1 (by unfold kDs; omega)).trans rfl))) hst)]; decide, Or.inl ⟨(Eq.trans (show w122 (6 * t + 154) 1 = w (6 * t + 154) 1 from ((q124f (6 * t + 154) 1 (by unfold kDs; omega)).trans ((q118f (6 * t + 154) 1 (by unfold kDs; omega)).trans rfl))) hst), (by rw [show w122 (6 * t + 154) 3 = w (6 * t + 154) 3 from ((q124f (6 * t + 154) 3 (by unfold kDs; omega)).trans ((q118f (6 * t + 154) 3 (by unfold kDs; omega)).trans rfl))]; exact hbeh)⟩⟩
  · refine e_Ok.swk (tg := 238) rfl (by rw [h1]; rfl) ?_
    have hcl := hD.2.2 (w (6 * t + 154) 3 - 1)
    have hbeh : 40 ≤ OP a (w (6 * t + 154) 3) := by have g := hcl.2.2.1 (by omega); rw [show w (6 * t + 154) 3 - 1 + 1 = w (6 * t + 154) 3 by omega] at g; exact g
    clear hcl
    have hcl0 : CL a (w (6 * t + 154) 3) ≤ 0 := hD.2.1 _ hbeh
    refine e_Ok.run (t' := (239, [(0, (1, 8)), (1, (1, 6 * t + 154)), (2, (1, cd)), (3, (0, o)), (4, (0, n))], [(1, 8)], w)) 1 rfl ?_
    refine e_Ok.getr (z := 74) rfl rfl rfl rfl (Eq.trans (e_Has.eq hT rfl) (by omega)) (by omega) ?_
    refine e_Ok.run (t' := (244, [(0, (1, 8)), (1, (1, 6 * t + 154)), (2, (1, cd)), (3, (0, o)), (4, (0, n))], [(1, 6 * t + 154), (0, 1), (1, 74)], w)) 2 rfl ?_
    refine e_Ok.getf (z := t) rfl (lT0 (t := t) (by omega) (by omega)) rfl rfl (Eq.trans (e_Has.eq hT (kT_0 (t := t) (by omega) (by omega))) (by omega)) (by omega) ?_
    refine e_Ok.run (t' := (248, [(0, (1, 8)), (1, (1, 6 * t + 154)), (2, (1, cd)), (3, (0, o)), (4, (0, n))], [(1, 8), (0, t), (0, 1), (1, 74)], w)) 1 rfl ?_
    refine e_Ok.callV rfl (by omega) rfl rfl rfl rfl (c_53 hT hk) (fun r126 w127 h128 => ?_)
    obtain ⟨z130, rfl, q129f, q129T, q129r, q129x⟩ := h128
    have Q131 := kI.hm q q129T (e_fr.mono q129f (fun c k g => hm_kDs g))
    show e_Ok 20 elay kcode eI (d + 1) 59 (251, [(0, (1, 8)), (1, (1, 6 * t + 154)), (2, (1, cd)), (3, (0, o)), (4, (0, n))], [(0, z130), (0, t), (0, 1), (1, 74)], w127) _
    refine e_Ok.callV rfl (by omega) rfl rfl rfl rfl (c_27 q129T (by omega) (by omega) (by omega) (by rw [q129f _ _ (by unfold kDs; omega)]; omega)) (fun r132 w133 h134 => ?_)
    obtain ⟨rfl, q135f, q135T, q135x⟩ := h134
    have Q136 := kI.lg Q131 q135T (e_fr.mono q135f (fun c k g => lh_kLg g)) (q135x.2 Q131.lgk)
    show e_Ok 20 elay kcode eI (d + 1) 59 (254, [(0, (1, 8)), (1, (1, 6 * t + 154)), (2, (1, cd)), (3, (0, o)), (4, (0, n))], [], w133) _
    refine e_Ok.run (t' := (290, [(0, (1, 8)), (1, (1, 6 * t + 154)), (2, (1, cd)), (3, (0, o)), (4, (0, n))], [], w133)) 1 rfl ?_
    refine e_Ok.rets rfl rfl ?_
    exact ⟨rfl, q135T, h, Int.le_refl h, Q136, (sK.fr q135f (by unfold kLg; omega) (fun k => by unfold kLg; omega) q129x), (show w133 (6 * t + 154) 2 = a from ((q135f (6 * t + 154) 2 (by unfold kLg; omega)).trans ((q129f (6 * t + 154) 2 (by unfold kDs; omega)).trans ha))), (show w133 (17 * a + 86) 7 = cd from ((q135f (17 * a + 86) 7 (by unfold kLg; omega)).trans ((q129f (17 * a + 86) 7 (by unfold kDs; omega)).trans hcv))), by rw [q135x.1, (show w127 74 1 = w 74 1 from ((q129f 74 1 (by unfold kDs; omega)).trans rfl))]; omega, by rw [(Eq.trans (show w133 (6 * t + 154) 1 = w (6 * t + 154) 1 from ((q135f (6 * t + 154) 1 (by unfold kLg; omega)).trans ((q129f (6 * t + 154) 1 (by unfold kDs; omega)).trans rfl))) hst)]; decide, by rw [(Eq.trans (show w133 (6 * t + 154) 1 = w (6 * t + 154) 1 from ((q135f (6 * t + 154) 1 (by unfold kLg; omega)).trans ((q129f (6 * t + 154) 1 (by unfold kDs; omega)).trans rfl))) hst)]; decide, Or.inl ⟨(Eq.trans (show w133 (6 * t + 154) 1 = w (6 * t + 154) 1 from ((q135f (6 * t + 154) 1 (by unfold kLg; omega)).trans ((q129f (6 * t + 154) 1 (by unfold kDs; omega)).trans rfl))) hst), (by rw [show w133 (6 * t + 154) 3 = w (6 * t + 154) 3 from ((q135f (6 * t + 154) 3 (by unfold kLg; omega)).trans ((q129f (6 * t + 154) 3 (by unfold kDs; omega)).trans rfl))]; exact hbeh)⟩⟩
  · refine e_Ok.swk (tg := 257) rfl (by rw [h1]; rfl) ?_
    have hcl := hD.2.2 (w (6 * t + 154) 3 - 1)
    have hbeh : 40 ≤ OP a (w (6 * t + 154) 3) := by have g := hcl.2.2.1 (by omega); rw [show w (6 * t + 154) 3 - 1 + 1 = w (6 * t + 154) 3 by omega] at g; exact g
    clear hcl
    have hcl0 : CL a (w (6 * t + 154) 3) ≤ 0 := hD.2.1 _ hbeh
    refine e_Ok.run (t' := (259, [(0, (1, 8)), (1, (1, 6 * t + 154)), (2, (1, cd)), (3, (0, o)), (4, (0, n))], [(1, 6 * t + 154), (1, 8)], w)) 2 rfl ?_
    refine e_Ok.getf (z := a) rfl (lT0 (t := t) (by omega) (by omega)) rfl rfl ha (by omega) ?_
    refine e_Ok.callV rfl (by omega) rfl rfl rfl rfl (c_68 (by omega) hT (by omega) q hk (by omega)) (fun r137 w138 h139 => ?_)
    obtain ⟨rfl, q140f, q140T, q140x⟩ := h139
    have q140e := q140x.2.2
    show e_Ok 20 elay kcode eI (d + 1) 59 (265, [(0, (1, 8)), (1, (1, 6 * t + 154)), (2, (1, cd)), (3, (0, o)), (4, (0, n))], [], w138) _
    refine e_Ok.run (t' := (290, [(0, (1, 8)), (1, (1, 6 * t + 154)), (2, (1, cd)), (3, (0, o)), (4, (0, n))], [], w138)) 1 rfl ?_
    refine e_Ok.rets rfl rfl ?_
    exact ⟨rfl, q140T, h, Int.le_refl h, q140x.1, q140x.2.1, (show w138 (6 * t + 154) 2 = a from ((q140f (6 * t + 154) 2 (by unfold kGd; omega)).trans ha)), (show w138 (17 * a + 86) 7 = cd from ((q140f (17 * a + 86) 7 (by unfold kGd; omega)).trans hcv)), by have g := q140e; omega, by rw [(Eq.trans (show w138 (6 * t + 154) 1 = w (6 * t + 154) 1 from ((q140f (6 * t + 154) 1 (by unfold kGd; omega)).trans rfl)) hst)]; decide, by rw [(Eq.trans (show w138 (6 * t + 154) 1 = w (6 * t + 154) 1 from ((q140f (6 * t + 154) 1 (by unfold kGd; omega)).trans rfl)) hst)]; decide, Or.inl ⟨(Eq.trans (show w138 (6 * t + 154) 1 = w (6 * t + 154) 1 from ((q140f (6 * t + 154) 1 (by unfold kGd; omega)).trans rfl)) hst), (by rw [show w138 (6 * t + 154) 3 = w (6 * t + 154) 3 from ((q140f (6 * t + 154) 3 (by unfold kGd; omega)).trans rfl)]; exact hbeh)⟩⟩
  · refine e_Ok.swk (tg := 268) rfl (by rw [h1]; rfl) ?_
    have hcl := hD.2.2 (w (6 * t + 154) 3 - 1)
    have hbeh : 40 ≤ OP a (w (6 * t + 154) 3) := by have g := hcl.2.2.1 (by omega); rw [show w (6 * t + 154) 3 - 1 + 1 = w (6 * t + 154) 3 by omega] at g; exact g
    clear hcl
    have hcl0 : CL a (w (6 * t + 154) 3) ≤ 0 := hD.2.1 _ hbeh
    refine e_Ok.run (t' := (270, [(0, (1, 8)), (1, (1, 6 * t + 154)), (2, (1, cd)), (3, (0, o)), (4, (0, n))], [(1, 6 * t + 154), (1, 8)], w)) 2 rfl ?_
    refine e_Ok.getf (z := a) rfl (lT0 (t := t) (by omega) (by omega)) rfl rfl ha (by omega) ?_
    refine e_Ok.callV rfl (by omega) rfl rfl rfl rfl (c_69 (by omega) hT (by omega) q hk (by omega)) (fun r141 w142 h143 => ?_)
    obtain ⟨rfl, q144f, q144T, q144x⟩ := h143
    have q144e := q144x.2.2
    show e_Ok 20 elay kcode eI (d + 1) 59 (276, [(0, (1, 8)), (1, (1, 6 * t + 154)), (2, (1, cd)), (3, (0, o)), (4, (0, n))], [], w142) _
    refine e_Ok.run (t' := (290, [(0, (1, 8)), (1, (1, 6 * t + 154)), (2, (1, cd)), (3, (0, o)), (4, (0, n))], [], w142)) 1 rfl ?_
    refine e_Ok.rets rfl rfl ?_
    exact ⟨rfl, q144T, h, Int.le_refl h, q144x.1, q144x.2.1, (show w142 (6 * t + 154) 2 = a from ((q144f (6 * t + 154) 2 (by unfold kGd; omega)).trans ha)), (show w142 (17 * a + 86) 7 = cd from ((q144f (17 * a + 86) 7 (by unfold kGd; omega)).trans hcv)), by have g := q144e; omega, by rw [(Eq.trans (show w142 (6 * t + 154) 1 = w (6 * t + 154) 1 from ((q144f (6 * t + 154) 1 (by unfold kGd; omega)).trans rfl)) hst)]; decide, by rw [(Eq.trans (show w142 (6 * t + 154) 1 = w (6 * t + 154) 1 from ((q144f (6 * t + 154) 1 (by unfold kGd; omega)).trans rfl)) hst)]; decide, Or.inl ⟨(Eq.trans (show w142 (6 * t + 154) 1 = w (6 * t + 154) 1 from ((q144f (6 * t + 154) 1 (by unfold kGd; omega)).trans rfl)) hst), (by rw [show w142 (6 * t + 154) 3 = w (6 * t + 154) 3 from ((q144f (6 * t + 154) 3 (by unfold kGd; omega)).trans rfl)]; exact hbeh)⟩⟩
  · refine e_Ok.swk (tg := 279) rfl (by rw [h1]; rfl) ?_
    have hcl := hD.2.2 (w (6 * t + 154) 3 - 1)
    have hnr : n < w cd 1 := by have g := hco.2.2.2 (w (6 * t + 154) 3 - 1) (by omega); omega
    have hnr2 := e_Has.get hT (c := cd) (k := 1) (lo := 0) (hi := 32) (kD_1 hcd) (by decide)
    have hbeh : 40 ≤ OP a (w (6 * t + 154) 3) := by have g := hcl.2.2.1 (by omega); rw [show w (6 * t + 154) 3 - 1 + 1 = w (6 * t + 154) 3 by omega] at g; exact g
    clear hcl
    have hcl0 : CL a (w (6 * t + 154) 3) ≤ 0 := hD.2.1 _ hbeh
    refine e_Ok.run (t' := (282, [(0, (1, 8)), (1, (1, 6 * t + 154)), (2, (1, cd)), (3, (0, o)), (4, (0, n))], [(1, 8), (1, 6 * t + 154), (1, 8)], w)) 3 rfl ?_
    refine e_Ok.callV rfl (by omega) rfl rfl rfl rfl (c_53 hT hk) (fun r145 w146 h147 => ?_)
    obtain ⟨z149, rfl, q148f, q148T, q148r, q148x⟩ := h147
    have Q150 := kI.hm q q148T (e_fr.mono q148f (fun c k g => hm_kDs g))
    show e_Ok 20 elay kcode eI (d + 1) 59 (285, [(0, (1, 8)), (1, (1, 6 * t + 154)), (2, (1, cd)), (3, (0, o)), (4, (0, n))], [(0, z149), (1, 6 * t + 154), (1, 8)], w146) _
    refine e_Ok.run (t' := (287, [(0, (1, 8)), (1, (1, 6 * t + 154)), (2, (1, cd)), (3, (0, o)), (4, (0, n))], [(0, n), (0, z149), (1, 6 * t + 154), (1, 8)], w146)) 1 rfl ?_
    refine e_Ok.callV rfl (by omega) rfl rfl rfl rfl (c_70 (by omega) (t := t) q148T (by omega) (by omega) (by omega) Q150 q148x (Eq.trans (show w146 (6 * t + 154) 1 = w (6 * t + 154) 1 from ((q148f (6 * t + 154) 1 (by unfold kDs; omega)).trans rfl)) hst) (by rw [(show w146 (6 * t + 154) 2 = a from ((q148f (6 * t + 154) 2 (by unfold kDs; omega)).trans ha)), (show w146 (17 * a + 86) 7 = cd from ((q148f (17 * a + 86) 7 (by unfold kDs; omega)).trans hcv)), show w146 cd 1 = w cd 1 from ((q148f cd 1 (by unfold kDs; omega)).trans rfl)]; exact hnr)) (fun r151 w152 h153 => ?_)
    obtain ⟨rfl, q154f, q154T, q154x⟩ := h153
    show e_Ok 20 elay kcode eI (d + 1) 59 (290, [(0, (1, 8)), (1, (1, 6 * t + 154)), (2, (1, cd)), (3, (0, o)), (4, (0, n))], [], w152) _
    refine e_Ok.rets rfl rfl ?_
    exact ⟨rfl, q154T, h, Int.le_refl h, q154x.1, q154x.2, (show w152 (6 * t + 154) 2 = a from ((q154f (6 * t + 154) 2 (by unfold kWt; omega)).trans ((q148f (6 * t + 154) 2 (by unfold kDs; omega)).trans ha))), (show w152 (17 * a + 86) 7 = cd from ((q154f (17 * a + 86) 7 (by unfold kWt; omega)).trans ((q148f (17 * a + 86) 7 (by unfold kDs; omega)).trans hcv))), by rw [(show w152 74 1 = w 74 1 from ((q154f 74 1 (by unfold kWt; omega)).trans ((q148f 74 1 (by unfold kDs; omega)).trans rfl)))]; omega, by rw [(Eq.trans (show w152 (6 * t + 154) 1 = w (6 * t + 154) 1 from ((q154f (6 * t + 154) 1 (by unfold kWt; omega)).trans ((q148f (6 * t + 154) 1 (by unfold kDs; omega)).trans rfl))) hst)]; decide, by rw [(Eq.trans (show w152 (6 * t + 154) 1 = w (6 * t + 154) 1 from ((q154f (6 * t + 154) 1 (by unfold kWt; omega)).trans ((q148f (6 * t + 154) 1 (by unfold kDs; omega)).trans rfl))) hst)]; decide, Or.inl ⟨(Eq.trans (show w152 (6 * t + 154) 1 = w (6 * t + 154) 1 from ((q154f (6 * t + 154) 1 (by unfold kWt; omega)).trans ((q148f (6 * t + 154) 1 (by unfold kDs; omega)).trans rfl))) hst), (by rw [show w152 (6 * t + 154) 3 = w (6 * t + 154) 3 from ((q154f (6 * t + 154) 3 (by unfold kWt; omega)).trans ((q148f (6 * t + 154) 3 (by unfold kDs; omega)).trans rfl))]; exact hbeh)⟩⟩
end
