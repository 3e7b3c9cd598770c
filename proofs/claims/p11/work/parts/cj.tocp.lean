-- part cj
section
noncomputable section
/-! the class: act -/
theorem hm_v {a k : Int} (ha : 0 ≤ a ∧ a ≤ 3) : kHm (17 * a + 93) k := by
  unfold kHm
  rcases c4 ha with rfl | rfl | rfl | rfl <;> simp
theorem no_cj_0 {k : Int} : ¬ kDs 74 k := by unfold kDs; omega
theorem no_cj_1 {t : Int} (ht : 0 ≤ t ∧ t ≤ 15) : ¬ kDs (6 * t + 154) 2 := by unfold kDs; omega
theorem no_cj_2 {a : Int} (ha : 0 ≤ a ∧ a ≤ 3) : ¬ kDs (17 * a + 86) 7 := by unfold kDs; omega
theorem no_cj_3 {t : Int} (ht : 0 ≤ t ∧ t ≤ 15) : ¬ kDs (6 * t + 154) 1 := by unfold kDs; omega
theorem no_cj_4 {t : Int} (ht : 0 ≤ t ∧ t ≤ 15) : ¬ kDs (6 * t + 154) 3 := by unfold kDs; omega
theorem no_cj_5 {k : Int} : ¬ kGl 74 k := by unfold kGl; omega
theorem no_cj_6 {t : Int} (ht : 0 ≤ t ∧ t ≤ 15) : ¬ kGl (6 * t + 154) 2 := by unfold kGl; omega
theorem no_cj_7 {a : Int} (ha : 0 ≤ a ∧ a ≤ 3) : ¬ kGl (17 * a + 86) 7 := by unfold kGl; omega
theorem no_cj_8 {t : Int} (ht : 0 ≤ t ∧ t ≤ 15) : ¬ kGl (6 * t + 154) 1 := by unfold kGl; omega
theorem no_cj_9 {t : Int} (ht : 0 ≤ t ∧ t ≤ 15) : ¬ kGl (6 * t + 154) 3 := by unfold kGl; omega
theorem no_cj_10 {t : Int} {a : Int} : ¬ kMb t a 74 0 := by unfold kMb; omega
theorem no_cj_11 {t : Int} {a : Int} (ht : 0 ≤ t ∧ t ≤ 15) (ha : 0 ≤ a ∧ a ≤ 3) : ¬ kMb t a (6 * t + 154) 2 := by unfold kMb; omega
theorem no_cj_12 {t : Int} {a : Int} (ht : 0 ≤ t ∧ t ≤ 15) (ha : 0 ≤ a ∧ a ≤ 3) : ¬ kMb t a (17 * a + 86) 7 := by unfold kMb; omega
theorem no_cj_13 {t : Int} {a : Int} (ht : 0 ≤ t ∧ t ≤ 15) (ha : 0 ≤ a ∧ a ≤ 3) : ¬ kMb t a 74 1 := by unfold kMb; omega
theorem no_cj_14 {t : Int} {a : Int} (ht : 0 ≤ t ∧ t ≤ 15) (ha : 0 ≤ a ∧ a ≤ 3) : ¬ kMb t a (6 * t + 154) 3 := by unfold kMb; omega
theorem no_cj_15 {t : Int} : ¬ kWf t 74 0 := by unfold kWf; omega
theorem no_cj_16 {t : Int} (ht : 0 ≤ t ∧ t ≤ 15) : ¬ kWf t (6 * t + 154) 2 := by unfold kWf; omega
theorem no_cj_17 {t : Int} {a : Int} (ht : 0 ≤ t ∧ t ≤ 15) (ha : 0 ≤ a ∧ a ≤ 3) : ¬ kWf t (17 * a + 86) 7 := by unfold kWf; omega
theorem no_cj_18 {t : Int} (ht : 0 ≤ t ∧ t ≤ 15) : ¬ kWf t 74 1 := by unfold kWf; omega
theorem no_cj_19 {t : Int} (ht : 0 ≤ t ∧ t ≤ 15) : ¬ kWf t (6 * t + 154) 3 := by unfold kWf; omega
theorem no_cj_20 {t : Int} : ¬ kWu t 74 0 := by unfold kWu; omega
theorem no_cj_21 {t : Int} (ht : 0 ≤ t ∧ t ≤ 15) : ¬ kWu t (6 * t + 154) 2 := by unfold kWu; omega
theorem no_cj_22 {t : Int} {a : Int} (ht : 0 ≤ t ∧ t ≤ 15) (ha : 0 ≤ a ∧ a ≤ 3) : ¬ kWu t (17 * a + 86) 7 := by unfold kWu; omega
theorem no_cj_23 {t : Int} (ht : 0 ≤ t ∧ t ≤ 15) : ¬ kWu t 74 1 := by unfold kWu; omega
theorem no_cj_24 {k : Int} : ¬ kSP 74 k := by unfold kSP; omega
theorem no_cj_25 {t : Int} (ht : 0 ≤ t ∧ t ≤ 15) : ¬ kSP (6 * t + 154) 2 := by unfold kSP; omega
theorem no_cj_26 {a : Int} (ha : 0 ≤ a ∧ a ≤ 3) : ¬ kSP (17 * a + 86) 7 := by unfold kSP; omega
theorem no_cj_27 {t : Int} (ht : 0 ≤ t ∧ t ≤ 15) : ¬ kSP (6 * t + 154) 1 := by unfold kSP; omega
theorem no_cj_28 {t : Int} (ht : 0 ≤ t ∧ t ≤ 15) : ¬ kSP (6 * t + 154) 3 := by unfold kSP; omega
theorem no_cj_29 {t : Int} : ¬ kTl t 74 0 := by unfold kTl; omega
theorem no_cj_30 {t : Int} (ht : 0 ≤ t ∧ t ≤ 15) : ¬ kTl t (6 * t + 154) 2 := by unfold kTl; omega
theorem no_cj_31 {t : Int} {a : Int} (ht : 0 ≤ t ∧ t ≤ 15) (ha : 0 ≤ a ∧ a ≤ 3) : ¬ kTl t (17 * a + 86) 7 := by unfold kTl; omega
theorem no_cj_32 {t : Int} (ht : 0 ≤ t ∧ t ≤ 15) : ¬ kTl t 74 1 := by unfold kTl; omega
theorem no_cj_33 {t : Int} (ht : 0 ≤ t ∧ t ≤ 15) : ¬ kTl t (6 * t + 154) 3 := by unfold kTl; omega
theorem no_cj_34 {k : Int} : ¬ kFk 74 k := by unfold kFk; omega
theorem no_cj_35 {t : Int} (ht : 0 ≤ t ∧ t ≤ 15) : ¬ kFk (6 * t + 154) 2 := by unfold kFk; omega
theorem no_cj_36 {a : Int} (ha : 0 ≤ a ∧ a ≤ 3) : ¬ kFk (17 * a + 86) 7 := by unfold kFk; omega
theorem no_cj_37 {t : Int} (ht : 0 ≤ t ∧ t ≤ 15) : ¬ kFk (6 * t + 154) 1 := by unfold kFk; omega
theorem no_cj_38 {t : Int} (ht : 0 ≤ t ∧ t ≤ 15) : ¬ kFk (6 * t + 154) 3 := by unfold kFk; omega
theorem no_cj_39 {t : Int} (ht : 0 ≤ t ∧ t ≤ 15) : ¬ kEn t 74 0 := by unfold kEn; omega
theorem no_cj_40 {t : Int} (ht : 0 ≤ t ∧ t ≤ 15) : ¬ kEn t (6 * t + 154) 2 := by unfold kEn; omega
theorem no_cj_41 {t : Int} {a : Int} (ht : 0 ≤ t ∧ t ≤ 15) (ha : 0 ≤ a ∧ a ≤ 3) : ¬ kEn t (17 * a + 86) 7 := by unfold kEn; omega
theorem no_cj_42 {t : Int} (ht : 0 ≤ t ∧ t ≤ 15) : ¬ kEn t 74 1 := by unfold kEn; omega
theorem no_cj_43 {t : Int} (ht : 0 ≤ t ∧ t ≤ 15) : ¬ kEn t (6 * t + 154) 1 := by unfold kEn; omega
theorem no_cj_44 {a : Int} (ha : 0 ≤ a ∧ a ≤ 3) : ¬ kNq (17 * a + 86) 7 := by unfold kNq; omega
theorem no_cj_45 : ¬ kLg 74 0 := by unfold kLg; omega
theorem no_cj_46 {t : Int} (ht : 0 ≤ t ∧ t ≤ 15) : ¬ kLg (6 * t + 154) 2 := by unfold kLg; omega
theorem no_cj_47 {a : Int} (ha : 0 ≤ a ∧ a ≤ 3) : ¬ kLg (17 * a + 86) 7 := by unfold kLg; omega
theorem no_cj_48 {t : Int} (ht : 0 ≤ t ∧ t ≤ 15) : ¬ kLg (6 * t + 154) 1 := by unfold kLg; omega
theorem no_cj_49 {t : Int} (ht : 0 ≤ t ∧ t ≤ 15) : ¬ kLg (6 * t + 154) 3 := by unfold kLg; omega
theorem no_cj_50 {a : Int} : ¬ kGd a 74 0 := by unfold kGd; omega
theorem no_cj_51 {a : Int} {t : Int} (ha : 0 ≤ a ∧ a ≤ 3) (ht : 0 ≤ t ∧ t ≤ 15) : ¬ kGd a (6 * t + 154) 2 := by unfold kGd; omega
theorem no_cj_52 {a : Int} (ha : 0 ≤ a ∧ a ≤ 3) : ¬ kGd a (17 * a + 86) 7 := by unfold kGd; omega
theorem no_cj_53 {a : Int} {t : Int} (ha : 0 ≤ a ∧ a ≤ 3) (ht : 0 ≤ t ∧ t ≤ 15) : ¬ kGd a (6 * t + 154) 1 := by unfold kGd; omega
theorem no_cj_54 {a : Int} {t : Int} (ha : 0 ≤ a ∧ a ≤ 3) (ht : 0 ≤ t ∧ t ≤ 15) : ¬ kGd a (6 * t + 154) 3 := by unfold kGd; omega
theorem no_cj_55 {t : Int} : ¬ kWt t 74 0 := by unfold kWt; omega
theorem no_cj_56 {t : Int} (ht : 0 ≤ t ∧ t ≤ 15) : ¬ kWt t (6 * t + 154) 2 := by unfold kWt; omega
theorem no_cj_57 {t : Int} {a : Int} (ht : 0 ≤ t ∧ t ≤ 15) (ha : 0 ≤ a ∧ a ≤ 3) : ¬ kWt t (17 * a + 86) 7 := by unfold kWt; omega
theorem no_cj_58 {t : Int} : ¬ kWt t 74 1 := by unfold kWt; omega
theorem no_cj_59 {t : Int} (ht : 0 ≤ t ∧ t ≤ 15) : ¬ kWt t (6 * t + 154) 1 := by unfold kWt; omega
theorem no_cj_60 {t : Int} (ht : 0 ≤ t ∧ t ≤ 15) : ¬ kWt t (6 * t + 154) 3 := by unfold kWt; omega
set_option maxHeartbeats 4000000 in
theorem c_59 {d : Nat} (hd : 26 ≤ d) {w : eW} (hT : e_Has kTy w) {t o n : Int} (g_t : 0 ≤ t ∧ t ≤ 15) (g_o : 25 ≤ o ∧ o ≤ 39) (g_n : 0 ≤ n ∧ n ≤ 33554431) {OP OD CL : Int → Int → Int} {h : Int} (q : kI w OP OD CL h t) (hk : sK w) (hst : w (6 * t + 154) 1 = 1) {a : Int} (ga : 0 ≤ a ∧ a ≤ 3) (ha : w (6 * t + 154) 2 = a) {cd : Int} (hcv : w (17 * a + 86) 7 = cd) (h0 : 0 ≤ h) (ho : OP a (w (6 * t + 154) 3 - 1) = o) (hn : OD a (w (6 * t + 154) 3 - 1) = n) (hcol : CL a (w (6 * t + 154) 3 - 1) ≤ h) (he : w 74 1 < 2147483647) : e_Ok 20 elay kcode eI d 59 (0, [(0, (1, 8)), (1, (1, 6 * t + 154)), (2, (1, cd)), (3, (0, o)), (4, (0, n))], [], w) (fun r w' => r = [] ∧ e_Has kTy w' ∧ (e_fr kNq w w' ∧ w' 74 0 = w 74 0) ∧ ∃ h', h ≤ h' ∧ kI w' OP OD CL h' t ∧ sK w' ∧ w' (6 * t + 154) 2 = a ∧ w' (17 * a + 86) 7 = cd ∧ (w 74 1 ≤ w' 74 1 ∧ w' 74 1 ≤ w 74 1 + 1) ∧ 1 ≤ w' (6 * t + 154) 1 ∧ w' (6 * t + 154) 1 ≤ 5 ∧ ((w' (6 * t + 154) 1 = 1 ∧ 40 ≤ OP a (w' (6 * t + 154) 3)) ∨ (o = 26 ∧ w' (6 * t + 154) 1 = 1 ∧ w' (6 * t + 154) 3 = w (6 * t + 154) 3 ∧ n + 1 ≤ h' ∧ w' 74 1 = w 74 1) ∨ (w' (6 * t + 154) 1 ≠ 1 ∧ CL a (w' (6 * t + 154) 3) ≤ h'))) := by
  obtain ⟨d, rfl⟩ : ∃ e, d = e + 1 := ⟨d - 1, by omega⟩
  have hco := q.co (a := a) (by omega) (by omega)
  rw [hcv] at hco
  have hcd := hco.1.1
  have hcd0 := hcd
  unfold isCd at hcd0
  have hD := hco.2.1
  have hts := q.tsx0 (by omega) hst
  rw [ha] at hts
  have h74 := e_Has.get hT (c := 74) (k := 1) (lo := 0) (hi := 2147483647) (kt_o rfl) (by decide)
  have h3 := e_Has.get hT (c := 6 * t + 154) (k := 3) (lo := -2147483648) (hi := 2147483647) (kT_3 (t := t) rfl (by omega)) (by decide)
  refine e_Ok.run (t' := (1, [(0, (1, 8)), (1, (1, 6 * t + 154)), (2, (1, cd)), (3, (0, o)), (4, (0, n))], [(0, o)], w)) 1 rfl ?_
  have hs2 : ∀ x : Int, 25 ≤ x ∧ x ≤ 39 → (x = 25) ∨ (x = 26) ∨ (x = 27) ∨ (x = 28) ∨ (x = 29) ∨ (x = 30) ∨ (x = 31) ∨ (x = 32) ∨ (x = 33) ∨ (x = 34) ∨ (x = 35) ∨ (x = 36) ∨ (x = 37) ∨ (x = 38) ∨ (x = 39) := fun x h => by omega
  obtain h1 | h1 | h1 | h1 | h1 | h1 | h1 | h1 | h1 | h1 | h1 | h1 | h1 | h1 | h1 := hs2 (o) (by omega)
  · refine e_Ok.swk (tg := 72) rfl (by rw [h1]; rfl) ?_
    have hcl := hD.2.2 (w (6 * t + 154) 3 - 1)
    have hn31 : n ≤ 31 := by have g := hcl.1 (by omega); omega
    have hbeh : 40 ≤ OP a (w (6 * t + 154) 3) := by have g := hcl.2.2.1 (by omega); rw [show w (6 * t + 154) 3 - 1 + 1 = w (6 * t + 154) 3 by omega] at g; exact g
    clear hcl
    have hcl0 : CL a (w (6 * t + 154) 3) ≤ 0 := hD.2.1 _ hbeh
    refine e_Ok.run (t' := (73, [(0, (1, 8)), (1, (1, 6 * t + 154)), (2, (1, cd)), (3, (0, o)), (4, (0, n))], [(1, 8)], w)) 1 rfl ?_
    refine e_Ok.getr (z := 9) rfl (el_o rfl) rfl rfl (e_Has.eq hT (kt_o rfl)) ⟨by decide, by decide⟩ ?_
    refine e_Ok.ps1 (x := (1, 6 * t + 154)) (q := 77) 1 rfl ?_
    refine e_Ok.getf (z := a) rfl (lT0 (t := t) rfl g_t) rfl rfl ha (by omega) ?_
    refine e_Ok.aald (z := 17 * a + 86) rfl (el_o rfl) rfl (by omega) (Eq.trans (e_Has.eq hT (k9 (by omega))) (by omega)) (by omega) ?_
    refine e_Ok.getr (z := 17 * a + 93) rfl (lA0 (a := a) rfl ga) rfl rfl (Eq.trans (e_Has.eq hT (kA_6 (a := a) rfl ga)) (by omega)) (by omega) ?_
    refine e_Ok.ps2 (x := (1, 8)) (y := (0, n)) (q := 87) 2 rfl ?_
    refine e_Ok.callV rfl (e_dq hd rfl) rfl rfl rfl rfl (c_53 hT hk) (fun r3 w4 h5 => ?_)
    obtain ⟨z7, rfl, q6f, q6T, q6r, q6x⟩ := h5
    have Q9 := kI.hm q q6T (e_fr.mono q6f (fun c k g => hm_kDs g))
    refine e_Ok.nrm (q := 90) (st' := [(0, z7), (0, n), (1, 17 * a + 93)]) rfl rfl ?_
    refine e_Ok.ast rfl (lA7 (a := a) rfl ga) rfl rfl (by omega) ?_
    generalize hw10 : e_up w4 (17 * a + 93) n z7 = w10
    have hT12 : e_Has kTy w10 := e_Has.upr q6T hw10 (kA93 (a := a) _ rfl ga) (by omega)
    refine e_Ok.ps0 (q := 290) 1 rfl ?_
    refine e_Ok.rets rfl rfl ?_
    have Q13 := kI.hu Q9 hT12 hw10 (hm_v (by omega))
    exact ⟨rfl, hT12, ⟨(show e_fr kNq w w10 from e_fr.up (show e_fr kNq w w4 from e_fr.trans (e_fr.refl w) (e_fr.mono q6f (fun c k q => by exact nq_kDs q))) hw10 (by unfold kNq; omega)), (e_uq hw10 (Or.inl (by omega)) ((q6f 74 0 no_cj_0).trans rfl))⟩, h, Int.le_refl h, Q13, (sK.eq (fun c k g => by rw [← hw10, e_up_ne _ _ (by omega)]) q6x), (show w10 (6 * t + 154) 2 = a from (e_uq hw10 (Or.inl (by omega)) ((q6f (6 * t + 154) 2 (by first | exact no_cj_1 (by omega) | (unfold kDs; omega))).trans ha))), (show w10 (17 * a + 86) 7 = cd from (e_uq hw10 (Or.inl (by omega)) ((q6f (17 * a + 86) 7 (by first | exact no_cj_2 (by omega) | (unfold kDs; omega))).trans hcv))), by rw [(show w10 74 1 = w 74 1 from (e_uq hw10 (Or.inl (by omega)) ((q6f 74 1 no_cj_0).trans rfl)))]; omega, by rw [(Eq.trans (show w10 (6 * t + 154) 1 = w (6 * t + 154) 1 from (e_uq hw10 (Or.inl (by omega)) ((q6f (6 * t + 154) 1 (by first | exact no_cj_3 (by omega) | (unfold kDs; omega))).trans rfl))) hst)]; decide, by rw [(Eq.trans (show w10 (6 * t + 154) 1 = w (6 * t + 154) 1 from (e_uq hw10 (Or.inl (by omega)) ((q6f (6 * t + 154) 1 (by first | exact no_cj_3 (by omega) | (unfold kDs; omega))).trans rfl))) hst)]; decide, Or.inl ⟨(Eq.trans (show w10 (6 * t + 154) 1 = w (6 * t + 154) 1 from (e_uq hw10 (Or.inl (by omega)) ((q6f (6 * t + 154) 1 (by first | exact no_cj_3 (by omega) | (unfold kDs; omega))).trans rfl))) hst), (by rw [show w10 (6 * t + 154) 3 = w (6 * t + 154) 3 from (e_uq hw10 (Or.inl (by omega)) ((q6f (6 * t + 154) 3 (by first | exact no_cj_4 (by omega) | (unfold kDs; omega))).trans rfl))]; exact hbeh)⟩⟩
  · refine e_Ok.swk (tg := 94) rfl (by rw [h1]; rfl) ?_
    have hcl := hD.2.2 (w (6 * t + 154) 3 - 1)
    have hnc : n ≤ h := by have g := hcl.2.2.2.2.2.2.2.1 (by omega); omega
    skip
    clear hcl
    refine e_Ok.run (t' := (98, [(0, (1, 8)), (1, (1, 6 * t + 154)), (2, (1, cd)), (3, (0, o)), (4, (0, n))], [(1, 8), (0, n), (1, 8)], w)) 3 rfl ?_
    refine e_Ok.callV rfl (e_dq hd rfl) rfl rfl rfl rfl (c_53 hT hk) (fun r14 w15 h16 => ?_)
    obtain ⟨z18, rfl, q17f, q17T, q17r, q17x⟩ := h16
    have Q20 := kI.hm q q17T (e_fr.mono q17f (fun c k g => hm_kDs g))
    refine e_Ok.nrm (q := 101) (st' := [(0, z18), (0, n), (1, 8)]) rfl rfl ?_
    refine e_Ok.callV rfl (e_dq hd rfl) rfl rfl rfl rfl (c_60 q17T (by omega) (by omega) (t := t) Q20 (by omega)) (fun r21 w22 h23 => ?_)
    obtain ⟨rfl, q24f, q24T, q24h, q24x⟩ := h23
    refine e_Ok.nrm (q := 104) (st' := []) rfl rfl ?_
    refine e_Ok.ps0 (q := 290) 1 rfl ?_
    refine e_Ok.rets rfl rfl ?_
    exact ⟨rfl, q24T, ⟨(show e_fr kNq w w22 from e_fr.trans (show e_fr kNq w w15 from e_fr.trans (e_fr.refl w) (e_fr.mono q17f (fun c k q => by exact nq_kDs q))) (e_fr.mono q24f (fun c k q => by exact nq_kGl q))), ((q24f 74 0 no_cj_5).trans ((q17f 74 0 no_cj_0).trans rfl))⟩, q24h, q24x.1, q24x.2.2, (sK.fr q24f (by unfold kGl; omega) (fun k => by unfold kGl; omega) q17x), (show w22 (6 * t + 154) 2 = a from ((q24f (6 * t + 154) 2 (by first | exact no_cj_6 (by omega) | (unfold kGl; omega))).trans ((q17f (6 * t + 154) 2 (by first | exact no_cj_1 (by omega) | (unfold kDs; omega))).trans ha))), (show w22 (17 * a + 86) 7 = cd from ((q24f (17 * a + 86) 7 (by first | exact no_cj_7 (by omega) | (unfold kGl; omega))).trans ((q17f (17 * a + 86) 7 (by first | exact no_cj_2 (by omega) | (unfold kDs; omega))).trans hcv))), by rw [(show w22 74 1 = w 74 1 from ((q24f 74 1 no_cj_5).trans ((q17f 74 1 no_cj_0).trans rfl)))]; omega, by rw [(Eq.trans (show w22 (6 * t + 154) 1 = w (6 * t + 154) 1 from ((q24f (6 * t + 154) 1 (by first | exact no_cj_8 (by omega) | (unfold kGl; omega))).trans ((q17f (6 * t + 154) 1 (by first | exact no_cj_3 (by omega) | (unfold kDs; omega))).trans rfl))) hst)]; decide, by rw [(Eq.trans (show w22 (6 * t + 154) 1 = w (6 * t + 154) 1 from ((q24f (6 * t + 154) 1 (by first | exact no_cj_8 (by omega) | (unfold kGl; omega))).trans ((q17f (6 * t + 154) 1 (by first | exact no_cj_3 (by omega) | (unfold kDs; omega))).trans rfl))) hst)]; decide, Or.inr (Or.inl ⟨by omega, (Eq.trans (show w22 (6 * t + 154) 1 = w (6 * t + 154) 1 from ((q24f (6 * t + 154) 1 (by first | exact no_cj_8 (by omega) | (unfold kGl; omega))).trans ((q17f (6 * t + 154) 1 (by first | exact no_cj_3 (by omega) | (unfold kDs; omega))).trans rfl))) hst), ((q24f (6 * t + 154) 3 (by first | exact no_cj_9 (by omega) | (unfold kGl; omega))).trans ((q17f (6 * t + 154) 3 (by first | exact no_cj_4 (by omega) | (unfold kDs; omega))).trans rfl)), q24x.2.1, (show w22 74 1 = w 74 1 from ((q24f 74 1 no_cj_5).trans ((q17f 74 1 no_cj_0).trans rfl)))⟩)⟩
  · refine e_Ok.swk (tg := 107) rfl (by rw [h1]; rfl) ?_
    have hcl := hD.2.2 (w (6 * t + 154) 3 - 1)
    have hnc : n ≤ h := by have g := hcl.2.2.2.2.2.2.2.2.1 (by omega); omega
    have hbeh : 40 ≤ OP a (w (6 * t + 154) 3) := by have g := hcl.2.2.1 (by omega); rw [show w (6 * t + 154) 3 - 1 + 1 = w (6 * t + 154) 3 by omega] at g; exact g
    clear hcl
    have hcl0 : CL a (w (6 * t + 154) 3) ≤ 0 := hD.2.1 _ hbeh
    refine e_Ok.run (t' := (111, [(0, (1, 8)), (1, (1, 6 * t + 154)), (2, (1, cd)), (3, (0, o)), (4, (0, n))], [(0, n), (1, 6 * t + 154), (1, 8)], w)) 3 rfl ?_
    refine e_Ok.callV rfl (e_dq hd rfl) rfl rfl rfl rfl (c_61 (e_dq hd rfl) (t := t) (a := a) hT (by omega) (by omega) (by omega) q hk hst ha (by omega)) (fun r26 w27 h28 => ?_)
    obtain ⟨rfl, q29f, q29T, q29x⟩ := h28
    refine e_Ok.nrm (q := 114) (st' := []) rfl rfl ?_
    refine e_Ok.ps0 (q := 290) 1 rfl ?_
    refine e_Ok.rets rfl rfl ?_
    exact ⟨rfl, q29T, ⟨(show e_fr kNq w w27 from e_fr.trans (e_fr.refl w) (e_fr.mono q29f (fun c k q => by exact nq_kMb (by omega) (by omega) q))), ((q29f 74 0 (by first | exact no_cj_10 | (unfold kMb; omega))).trans rfl)⟩, h, Int.le_refl h, q29x.1, q29x.2.1, (show w27 (6 * t + 154) 2 = a from ((q29f (6 * t + 154) 2 (by first | exact no_cj_11 (by omega) (by omega) | (unfold kMb; omega))).trans ha)), (show w27 (17 * a + 86) 7 = cd from ((q29f (17 * a + 86) 7 (by first | exact no_cj_12 (by omega) (by omega) | (unfold kMb; omega))).trans hcv)), by rw [(show w27 74 1 = w 74 1 from ((q29f 74 1 (by first | exact no_cj_13 (by omega) (by omega) | (unfold kMb; omega))).trans rfl))]; omega, by rcases q29x.2.2 with g | g <;> (rw [g]; decide), by rcases q29x.2.2 with g | g <;> (rw [g]; decide), (by rcases q29x.2.2 with g | g; (exact Or.inl ⟨g, by rw [show w27 (6 * t + 154) 3 = w (6 * t + 154) 3 from ((q29f (6 * t + 154) 3 (by first | exact no_cj_14 (by omega) (by omega) | (unfold kMb; omega))).trans rfl)]; exact hbeh⟩); (exact Or.inr (Or.inr ⟨by rw [g]; decide, by rw [show w27 (6 * t + 154) 3 = w (6 * t + 154) 3 from ((q29f (6 * t + 154) 3 (by first | exact no_cj_14 (by omega) (by omega) | (unfold kMb; omega))).trans rfl)]; omega⟩)))⟩
  · refine e_Ok.swk (tg := 117) rfl (by rw [h1]; rfl) ?_
    have hcl := hD.2.2 (w (6 * t + 154) 3 - 1)
    have hbeh : 40 ≤ OP a (w (6 * t + 154) 3) := by have g := hcl.2.2.1 (by omega); rw [show w (6 * t + 154) 3 - 1 + 1 = w (6 * t + 154) 3 by omega] at g; exact g
    clear hcl
    have hcl0 : CL a (w (6 * t + 154) 3) ≤ 0 := hD.2.1 _ hbeh
    refine e_Ok.run (t' := (120, [(0, (1, 8)), (1, (1, 6 * t + 154)), (2, (1, cd)), (3, (0, o)), (4, (0, n))], [(1, 8), (1, 6 * t + 154), (1, 8)], w)) 3 rfl ?_
    refine e_Ok.callV rfl (e_dq hd rfl) rfl rfl rfl rfl (c_53 hT hk) (fun r31 w32 h33 => ?_)
    obtain ⟨z35, rfl, q34f, q34T, q34r, q34x⟩ := h33
    have Q37 := kI.hm q q34T (e_fr.mono q34f (fun c k g => hm_kDs g))
    refine e_Ok.nrm (q := 123) (st' := [(0, z35), (1, 6 * t + 154), (1, 8)]) rfl rfl ?_
    refine e_Ok.callV rfl (e_dq hd rfl) rfl rfl rfl rfl (c_63 (t := t) q34T (by omega) (by omega) Q37 (Eq.trans (show w32 (6 * t + 154) 1 = w (6 * t + 154) 1 from ((q34f (6 * t + 154) 1 (by first | exact no_cj_3 (by omega) | (unfold kDs; omega))).trans rfl)) hst)) (fun r38 w40 h41 => ?_)
    obtain ⟨rfl, q42f, q42T, q42x⟩ := h41
    refine e_Ok.nrm (q := 126) (st' := []) rfl rfl ?_
    refine e_Ok.ps0 (q := 290) 1 rfl ?_
    refine e_Ok.rets rfl rfl ?_
    exact ⟨rfl, q42T, ⟨(show e_fr kNq w w40 from e_fr.trans (show e_fr kNq w w32 from e_fr.trans (e_fr.refl w) (e_fr.mono q34f (fun c k q => by exact nq_kDs q))) (e_fr.mono q42f (fun c k q => by exact nq_kWf (by omega) q))), ((q42f 74 0 (by first | exact no_cj_15 | (unfold kWf; omega))).trans ((q34f 74 0 no_cj_0).trans rfl))⟩, h, Int.le_refl h, q42x.1, (sK.fr q42f (by unfold kWf; omega) (fun k => by unfold kWf; omega) q34x), (show w40 (6 * t + 154) 2 = a from ((q42f (6 * t + 154) 2 (by first | exact no_cj_16 (by omega) | (unfold kWf; omega))).trans ((q34f (6 * t + 154) 2 (by first | exact no_cj_1 (by omega) | (unfold kDs; omega))).trans ha))), (show w40 (17 * a + 86) 7 = cd from ((q42f (17 * a + 86) 7 (by first | exact no_cj_17 (by omega) (by omega) | (unfold kWf; omega))).trans ((q34f (17 * a + 86) 7 (by first | exact no_cj_2 (by omega) | (unfold kDs; omega))).trans hcv))), by rw [(show w40 74 1 = w 74 1 from ((q42f 74 1 (by first | exact no_cj_18 (by omega) | (unfold kWf; omega))).trans ((q34f 74 1 no_cj_0).trans rfl)))]; omega, by rcases q42x.2 with g | g <;> (rw [g]; decide), by rcases q42x.2 with g | g <;> (rw [g]; decide), (by rcases q42x.2 with g | g; (exact Or.inl ⟨g, by rw [show w40 (6 * t + 154) 3 = w (6 * t + 154) 3 from ((q42f (6 * t + 154) 3 (by first | exact no_cj_19 (by omega) | (unfold kWf; omega))).trans ((q34f (6 * t + 154) 3 (by first | exact no_cj_4 (by omega) | (unfold kDs; omega))).trans rfl))]; exact hbeh⟩); (exact Or.inr (Or.inr ⟨by rw [g]; decide, by rw [show w40 (6 * t + 154) 3 = w (6 * t + 154) 3 from ((q42f (6 * t + 154) 3 (by first | exact no_cj_19 (by omega) | (unfold kWf; omega))).trans ((q34f (6 * t + 154) 3 (by first | exact no_cj_4 (by omega) | (unfold kDs; omega))).trans rfl))]; omega⟩)))⟩
  · refine e_Ok.swk (tg := 129) rfl (by rw [h1]; rfl) ?_
    have hcl := hD.2.2 (w (6 * t + 154) 3 - 1)
    have hcn : CL a n ≤ 0 := by have g := hcl.2.2.2.2.2.2.2.2.2 (by omega); rw [hn] at g; exact g
    have hbeh : 40 ≤ OP a (w (6 * t + 154) 3) := by have g := hcl.2.2.1 (by omega); rw [show w (6 * t + 154) 3 - 1 + 1 = w (6 * t + 154) 3 by omega] at g; exact g
    clear hcl
    have hcl0 : CL a (w (6 * t + 154) 3) ≤ 0 := hD.2.1 _ hbeh
    refine e_Ok.run (t' := (132, [(0, (1, 8)), (1, (1, 6 * t + 154)), (2, (1, cd)), (3, (0, o)), (4, (0, n))], [(1, 8), (1, 6 * t + 154), (1, 8)], w)) 3 rfl ?_
    refine e_Ok.callV rfl (e_dq hd rfl) rfl rfl rfl rfl (c_53 hT hk) (fun r44 w45 h46 => ?_)
    obtain ⟨z48, rfl, q47f, q47T, q47r, q47x⟩ := h46
    have Q50 := kI.hm q q47T (e_fr.mono q47f (fun c k g => hm_kDs g))
    refine e_Ok.nrm (q := 135) (st' := [(0, z48), (1, 6 * t + 154), (1, 8)]) rfl rfl ?_
    refine e_Ok.ps1 (x := (0, n)) (q := 137) 1 rfl ?_
    refine e_Ok.callV rfl (e_dq hd rfl) rfl rfl rfl rfl (c_64 (t := t) q47T (by omega) (by omega) (by omega) Q50 (Eq.trans (show w45 (6 * t + 154) 1 = w (6 * t + 154) 1 from ((q47f (6 * t + 154) 1 (by first | exact no_cj_3 (by omega) | (unfold kDs; omega))).trans rfl)) hst)) (fun r51 w52 h53 => ?_)
    obtain ⟨rfl, q54f, q54T, q54x⟩ := h53
    refine e_Ok.nrm (q := 140) (st' := []) rfl rfl ?_
    refine e_Ok.ps0 (q := 290) 1 rfl ?_
    refine e_Ok.rets rfl rfl ?_
    exact ⟨rfl, q54T, ⟨(show e_fr kNq w w52 from e_fr.trans (show e_fr kNq w w45 from e_fr.trans (e_fr.refl w) (e_fr.mono q47f (fun c k q => by exact nq_kDs q))) (e_fr.mono q54f (fun c k q => by exact nq_kWu (by omega) q))), ((q54f 74 0 (by first | exact no_cj_20 | (unfold kWu; omega))).trans ((q47f 74 0 no_cj_0).trans rfl))⟩, h, Int.le_refl h, q54x.1, (sK.fr q54f (by unfold kWu; omega) (fun k => by unfold kWu; omega) q47x), (show w52 (6 * t + 154) 2 = a from ((q54f (6 * t + 154) 2 (by first | exact no_cj_21 (by omega) | (unfold kWu; omega))).trans ((q47f (6 * t + 154) 2 (by first | exact no_cj_1 (by omega) | (unfold kDs; omega))).trans ha))), (show w52 (17 * a + 86) 7 = cd from ((q54f (17 * a + 86) 7 (by first | exact no_cj_22 (by omega) (by omega) | (unfold kWu; omega))).trans ((q47f (17 * a + 86) 7 (by first | exact no_cj_2 (by omega) | (unfold kDs; omega))).trans hcv))), by rw [(show w52 74 1 = w 74 1 from ((q54f 74 1 (by first | exact no_cj_23 (by omega) | (unfold kWu; omega))).trans ((q47f 74 1 no_cj_0).trans rfl)))]; omega, by rcases q54x.2 with ⟨g, g2⟩ | ⟨g, g2⟩ <;> (rw [g]; decide), by rcases q54x.2 with ⟨g, g2⟩ | ⟨g, g2⟩ <;> (rw [g]; decide), (by rcases q54x.2 with ⟨g, g2⟩ | ⟨g, g2⟩; (exact Or.inl ⟨g, by rw [g2, show w45 (6 * t + 154) 3 = w (6 * t + 154) 3 from ((q47f (6 * t + 154) 3 (by first | exact no_cj_4 (by omega) | (unfold kDs; omega))).trans rfl)]; exact hbeh⟩); (exact Or.inr (Or.inr ⟨by rw [g]; decide, by rw [g2]; omega⟩)))⟩
  · refine e_Ok.swk (tg := 143) rfl (by rw [h1]; rfl) ?_
    have hcl := hD.2.2 (w (6 * t + 154) 3 - 1)
    have hbeh : 40 ≤ OP a (w (6 * t + 154) 3) := by have g := hcl.2.2.1 (by omega); rw [show w (6 * t + 154) 3 - 1 + 1 = w (6 * t + 154) 3 by omega] at g; exact g
    clear hcl
    have hcl0 : CL a (w (6 * t + 154) 3) ≤ 0 := hD.2.1 _ hbeh
    refine e_Ok.run (t' := (145, [(0, (1, 8)), (1, (1, 6 * t + 154)), (2, (1, cd)), (3, (0, o)), (4, (0, n))], [(1, 8), (1, 8)], w)) 2 rfl ?_
    refine e_Ok.callV rfl (e_dq hd rfl) rfl rfl rfl rfl (c_53 hT hk) (fun r56 w57 h58 => ?_)
    obtain ⟨z60, rfl, q59f, q59T, q59r, q59x⟩ := h58
    have Q62 := kI.hm q q59T (e_fr.mono q59f (fun c k g => hm_kDs g))
    refine e_Ok.nrm (q := 148) (st' := [(0, z60), (1, 8)]) rfl rfl ?_
    refine e_Ok.ps1 (x := (1, 8)) (q := 149) 1 rfl ?_
    refine e_Ok.callV rfl (e_dq hd rfl) rfl rfl rfl rfl (c_53 q59T q59x) (fun r63 w64 h65 => ?_)
    obtain ⟨z67, rfl, q66f, q66T, q66r, q66x⟩ := h65
    have Q69 := kI.hm Q62 q66T (e_fr.mono q66f (fun c k g => hm_kDs g))
    refine e_Ok.nrm (q := 152) (st' := [(0, z67), (0, z60), (1, 8)]) rfl rfl ?_
    refine e_Ok.callV rfl (e_dq hd rfl) rfl rfl rfl rfl (c_65 (e_dq hd rfl) q66T (by omega) (by omega) Q69 q66x) (fun r70 w71 h72 => ?_)
    obtain ⟨rfl, q73f, q73T, q73x⟩ := h72
    refine e_Ok.nrm (q := 155) (st' := []) rfl rfl ?_
    refine e_Ok.ps0 (q := 290) 1 rfl ?_
    refine e_Ok.rets rfl rfl ?_
    exact ⟨rfl, q73T, ⟨(show e_fr kNq w w71 from e_fr.trans (show e_fr kNq w w64 from e_fr.trans (show e_fr kNq w w57 from e_fr.trans (e_fr.refl w) (e_fr.mono q59f (fun c k q => by exact nq_kDs q))) (e_fr.mono q66f (fun c k q => by exact nq_kDs q))) (e_fr.mono q73f (fun c k q => by exact nq_kSP q))), ((q73f 74 0 no_cj_24).trans ((q66f 74 0 no_cj_0).trans ((q59f 74 0 no_cj_0).trans rfl)))⟩, h, Int.le_refl h, q73x.1, q73x.2, (show w71 (6 * t + 154) 2 = a from ((q73f (6 * t + 154) 2 (by first | exact no_cj_25 (by omega) | (unfold kSP; omega))).trans ((q66f (6 * t + 154) 2 (by first | exact no_cj_1 (by omega) | (unfold kDs; omega))).trans ((q59f (6 * t + 154) 2 (by first | exact no_cj_1 (by omega) | (unfold kDs; omega))).trans ha)))), (show w71 (17 * a + 86) 7 = cd from ((q73f (17 * a + 86) 7 (by first | exact no_cj_26 (by omega) | (unfold kSP; omega))).trans ((q66f (17 * a + 86) 7 (by first | exact no_cj_2 (by omega) | (unfold kDs; omega))).trans ((q59f (17 * a + 86) 7 (by first | exact no_cj_2 (by omega) | (unfold kDs; omega))).trans hcv)))), by rw [(show w71 74 1 = w 74 1 from ((q73f 74 1 no_cj_24).trans ((q66f 74 1 no_cj_0).trans ((q59f 74 1 no_cj_0).trans rfl))))]; omega, by rw [(Eq.trans (show w71 (6 * t + 154) 1 = w (6 * t + 154) 1 from ((q73f (6 * t + 154) 1 (by first | exact no_cj_27 (by omega) | (unfold kSP; omega))).trans ((q66f (6 * t + 154) 1 (by first | exact no_cj_3 (by omega) | (unfold kDs; omega))).trans ((q59f (6 * t + 154) 1 (by first | exact no_cj_3 (by omega) | (unfold kDs; omega))).trans rfl)))) hst)]; decide, by rw [(Eq.trans (show w71 (6 * t + 154) 1 = w (6 * t + 154) 1 from ((q73f (6 * t + 154) 1 (by first | exact no_cj_27 (by omega) | (unfold kSP; omega))).trans ((q66f (6 * t + 154) 1 (by first | exact no_cj_3 (by omega) | (unfold kDs; omega))).trans ((q59f (6 * t + 154) 1 (by first | exact no_cj_3 (by omega) | (unfold kDs; omega))).trans rfl)))) hst)]; decide, Or.inl ⟨(Eq.trans (show w71 (6 * t + 154) 1 = w (6 * t + 154) 1 from ((q73f (6 * t + 154) 1 (by first | exact no_cj_27 (by omega) | (unfold kSP; omega))).trans ((q66f (6 * t + 154) 1 (by first | exact no_cj_3 (by omega) | (unfold kDs; omega))).trans ((q59f (6 * t + 154) 1 (by first | exact no_cj_3 (by omega) | (unfold kDs; omega))).trans rfl)))) hst), (by rw [show w71 (6 * t + 154) 3 = w (6 * t + 154) 3 from ((q73f (6 * t + 154) 3 (by first | exact no_cj_28 (by omega) | (unfold kSP; omega))).trans ((q66f (6 * t + 154) 3 (by first | exact no_cj_4 (by omega) | (unfold kDs; omega))).trans ((q59f (6 * t + 154) 3 (by first | exact no_cj_4 (by omega) | (unfold kDs; omega))).trans rfl)))]; exact hbeh)⟩⟩
  · refine e_Ok.swk (tg := 158) rfl (by rw [h1]; rfl) ?_
    have hcl := hD.2.2 (w (6 * t + 154) 3 - 1)
    have hbeh : 40 ≤ OP a (w (6 * t + 154) 3) := by have g := hcl.2.2.1 (by omega); rw [show w (6 * t + 154) 3 - 1 + 1 = w (6 * t + 154) 3 by omega] at g; exact g
    clear hcl
    have hcl0 : CL a (w (6 * t + 154) 3) ≤ 0 := hD.2.1 _ hbeh
    refine e_Ok.run (t' := (161, [(0, (1, 8)), (1, (1, 6 * t + 154)), (2, (1, cd)), (3, (0, o)), (4, (0, n))], [(1, 8), (1, 6 * t + 154), (1, 8)], w)) 3 rfl ?_
    refine e_Ok.callV rfl (e_dq hd rfl) rfl rfl rfl rfl (c_53 hT hk) (fun r75 w76 h77 => ?_)
    obtain ⟨z79, rfl, q78f, q78T, q78r, q78x⟩ := h77
    have Q81 := kI.hm q q78T (e_fr.mono q78f (fun c k g => hm_kDs g))
    refine e_Ok.nrm (q := 164) (st' := [(0, z79), (1, 6 * t + 154), (1, 8)]) rfl rfl ?_
    refine e_Ok.callV rfl (e_dq hd rfl) rfl rfl rfl rfl (c_66 (e_dq hd rfl) (t := t) q78T (by omega) (by omega) Q81 q78x (Eq.trans (show w76 (6 * t + 154) 1 = w (6 * t + 154) 1 from ((q78f (6 * t + 154) 1 (by first | exact no_cj_3 (by omega) | (unfold kDs; omega))).trans rfl)) hst)) (fun r82 w83 h84 => ?_)
    obtain ⟨rfl, q85f, q85T, q85x⟩ := h84
    refine e_Ok.nrm (q := 167) (st' := []) rfl rfl ?_
    refine e_Ok.ps0 (q := 290) 1 rfl ?_
    refine e_Ok.rets rfl rfl ?_
    exact ⟨rfl, q85T, ⟨(show e_fr kNq w w83 from e_fr.trans (show e_fr kNq w w76 from e_fr.trans (e_fr.refl w) (e_fr.mono q78f (fun c k q => by exact nq_kDs q))) (e_fr.mono q85f (fun c k q => by exact nq_kTl (by omega) q))), ((q85f 74 0 (by first | exact no_cj_29 | (unfold kTl; omega))).trans ((q78f 74 0 no_cj_0).trans rfl))⟩, h, Int.le_refl h, q85x.1, q85x.2.1, (show w83 (6 * t + 154) 2 = a from ((q85f (6 * t + 154) 2 (by first | exact no_cj_30 (by omega) | (unfold kTl; omega))).trans ((q78f (6 * t + 154) 2 (by first | exact no_cj_1 (by omega) | (unfold kDs; omega))).trans ha))), (show w83 (17 * a + 86) 7 = cd from ((q85f (17 * a + 86) 7 (by first | exact no_cj_31 (by omega) (by omega) | (unfold kTl; omega))).trans ((q78f (17 * a + 86) 7 (by first | exact no_cj_2 (by omega) | (unfold kDs; omega))).trans hcv))), by rw [(show w83 74 1 = w 74 1 from ((q85f 74 1 (by first | exact no_cj_32 (by omega) | (unfold kTl; omega))).trans ((q78f 74 1 no_cj_0).trans rfl)))]; omega, by rcases q85x.2.2 with g | g <;> (rw [g]; decide), by rcases q85x.2.2 with g | g <;> (rw [g]; decide), (by rcases q85x.2.2 with g | g; (exact Or.inl ⟨g, by rw [show w83 (6 * t + 154) 3 = w (6 * t + 154) 3 from ((q85f (6 * t + 154) 3 (by first | exact no_cj_33 (by omega) | (unfold kTl; omega))).trans ((q78f (6 * t + 154) 3 (by first | exact no_cj_4 (by omega) | (unfold kDs; omega))).trans rfl))]; exact hbeh⟩); (exact Or.inr (Or.inr ⟨by rw [g]; decide, by rw [show w83 (6 * t + 154) 3 = w (6 * t + 154) 3 from ((q85f (6 * t + 154) 3 (by first | exact no_cj_33 (by omega) | (unfold kTl; omega))).trans ((q78f (6 * t + 154) 3 (by first | exact no_cj_4 (by omega) | (unfold kDs; omega))).trans rfl))]; omega⟩)))⟩
  · refine e_Ok.swk (tg := 170) rfl (by rw [h1]; rfl) ?_
    have hcl := hD.2.2 (w (6 * t + 154) 3 - 1)
    have hbeh : 40 ≤ OP a (w (6 * t + 154) 3) := by have g := hcl.2.2.1 (by omega); rw [show w (6 * t + 154) 3 - 1 + 1 = w (6 * t + 154) 3 by omega] at g; exact g
    clear hcl
    have hcl0 : CL a (w (6 * t + 154) 3) ≤ 0 := hD.2.1 _ hbeh
    refine e_Ok.run (t' := (173, [(0, (1, 8)), (1, (1, 6 * t + 154)), (2, (1, cd)), (3, (0, o)), (4, (0, n))], [(1, 8), (1, 6 * t + 154), (1, 8)], w)) 3 rfl ?_
    refine e_Ok.callV rfl (e_dq hd rfl) rfl rfl rfl rfl (c_53 hT hk) (fun r87 w88 h89 => ?_)
    obtain ⟨z91, rfl, q90f, q90T, q90r, q90x⟩ := h89
    have Q93 := kI.hm q q90T (e_fr.mono q90f (fun c k g => hm_kDs g))
    refine e_Ok.nrm (q := 176) (st' := [(0, z91), (1, 6 * t + 154), (1, 8)]) rfl rfl ?_
    refine e_Ok.callV rfl (e_dq hd rfl) rfl rfl rfl rfl (c_67 (e_dq hd rfl) (t := t) q90T (by omega) (by omega) Q93 q90x) (fun r94 w95 h101 => ?_)
    obtain ⟨rfl, q103f, q103T, q103x⟩ := h101
    have Q105 := kI.hm Q93 q103T (e_fr.mono q103f (fun c k g => hm_kFk g))
    refine e_Ok.nrm (q := 179) (st' := []) rfl rfl ?_
    refine e_Ok.ps0 (q := 290) 1 rfl ?_
    refine e_Ok.rets rfl rfl ?_
    exact ⟨rfl, q103T, ⟨(show e_fr kNq w w95 from e_fr.trans (show e_fr kNq w w88 from e_fr.trans (e_fr.refl w) (e_fr.mono q90f (fun c k q => by exact nq_kDs q))) (e_fr.mono q103f (fun c k q => by exact nq_kFk q))), ((q103f 74 0 no_cj_34).trans ((q90f 74 0 no_cj_0).trans rfl))⟩, h, Int.le_refl h, Q105, q103x, (show w95 (6 * t + 154) 2 = a from ((q103f (6 * t + 154) 2 (by first | exact no_cj_35 (by omega) | (unfold kFk; omega))).trans ((q90f (6 * t + 154) 2 (by first | exact no_cj_1 (by omega) | (unfold kDs; omega))).trans ha))), (show w95 (17 * a + 86) 7 = cd from ((q103f (17 * a + 86) 7 (by first | exact no_cj_36 (by omega) | (unfold kFk; omega))).trans ((q90f (17 * a + 86) 7 (by first | exact no_cj_2 (by omega) | (unfold kDs; omega))).trans hcv))), by rw [(show w95 74 1 = w 74 1 from ((q103f 74 1 no_cj_34).trans ((q90f 74 1 no_cj_0).trans rfl)))]; omega, by rw [(Eq.trans (show w95 (6 * t + 154) 1 = w (6 * t + 154) 1 from ((q103f (6 * t + 154) 1 (by first | exact no_cj_37 (by omega) | (unfold kFk; omega))).trans ((q90f (6 * t + 154) 1 (by first | exact no_cj_3 (by omega) | (unfold kDs; omega))).trans rfl))) hst)]; decide, by rw [(Eq.trans (show w95 (6 * t + 154) 1 = w (6 * t + 154) 1 from ((q103f (6 * t + 154) 1 (by first | exact no_cj_37 (by omega) | (unfold kFk; omega))).trans ((q90f (6 * t + 154) 1 (by first | exact no_cj_3 (by omega) | (unfold kDs; omega))).trans rfl))) hst)]; decide, Or.inl ⟨(Eq.trans (show w95 (6 * t + 154) 1 = w (6 * t + 154) 1 from ((q103f (6 * t + 154) 1 (by first | exact no_cj_37 (by omega) | (unfold kFk; omega))).trans ((q90f (6 * t + 154) 1 (by first | exact no_cj_3 (by omega) | (unfold kDs; omega))).trans rfl))) hst), (by rw [show w95 (6 * t + 154) 3 = w (6 * t + 154) 3 from ((q103f (6 * t + 154) 3 (by first | exact no_cj_38 (by omega) | (unfold kFk; omega))).trans ((q90f (6 * t + 154) 3 (by first | exact no_cj_4 (by omega) | (unfold kDs; omega))).trans rfl))]; exact hbeh)⟩⟩
  · refine e_Ok.swk (tg := 182) rfl (by rw [h1]; rfl) ?_
    have hcl := hD.2.2 (w (6 * t + 154) 3 - 1)
    have hnr : n < w cd 1 := by have g := hco.2.2.2 (w (6 * t + 154) 3 - 1) (by omega); omega
    have hnr2 := e_Has.get hT (c := cd) (k := 1) (lo := 0) (hi := 32) (kD_1 hcd) (by decide)
    have hbeh : 40 ≤ OP a (w (6 * t + 154) 3) := by have g := hcl.2.2.1 (by omega); rw [show w (6 * t + 154) 3 - 1 + 1 = w (6 * t + 154) 3 by omega] at g; exact g
    clear hcl
    have hcl0 : CL a (w (6 * t + 154) 3) ≤ 0 := hD.2.1 _ hbeh
    refine e_Ok.run (t' := (184, [(0, (1, 8)), (1, (1, 6 * t + 154)), (2, (1, cd)), (3, (0, o)), (4, (0, n))], [(1, cd), (1, 6 * t + 154)], w)) 2 rfl ?_
    refine e_Ok.getr (z := cd + 1) rfl (lD0 hcd) rfl rfl (Eq.trans (e_Has.eq hT (kD_3 hcd)) (by omega)) (by omega) ?_
    refine e_Ok.ps1 (x := (0, n)) (q := 189) 1 rfl ?_
    have h106 := (e_Has.get hT (c := cd + 1) (k := n) (lo := (-2147483648)) (hi := 2147483647) (kD1 (d := cd) _ (by omega) hcd) (by decide))
    refine e_Ok.ald (z := w (cd + 1) n) rfl (lD1 (d := cd) (by omega) hcd) rfl (by omega) rfl (e_bq h106 (by decide) (by decide)) ?_
    refine e_Ok.callV rfl (e_dq hd rfl) rfl (lT0 (t := t) rfl g_t) rfl rfl (c_182 (t := t) (op := OP a) hT (by omega) (by omega) hts (fun _ => by rw [show w (6 * t + 154) 3 = w (6 * t + 154) 3 from rfl]; exact hbeh)) (fun r107 w108 h109 => ?_)
    obtain ⟨z111, rfl, q110f, q110T, q110s, q110x⟩ := h109
    have f112 : e_fr kNq w w108 := e_fr.trans (e_fr.refl w) (e_fr.mono q110f (fun c k q => by exact nq_kEn (by omega) q))
    have Q113 := kI.tsx q q110T (by omega) q110f (fun c k g => th_kEn g) (by unfold kEn; omega) hst (by rw [ha]; exact q110s)
    refine e_Ok.nrm (q := 193) (st' := [(0, z111)]) rfl rfl ?_
    refine e_Ok.if1 rfl (fun h114 => ?_) (fun h114 => ?_)
    · replace h114 : (z111 : Int) ≠ 0 := h114
      refine e_Ok.rets rfl rfl ?_
      exact ⟨rfl, q110T, ⟨f112, ((q110f 74 0 (by first | exact no_cj_39 (by omega) | (unfold kEn; omega))).trans rfl)⟩, h, Int.le_refl h, Q113, (sK.fr q110f (by unfold kEn; omega) (fun k => by unfold kEn; omega) hk), (show w108 (6 * t + 154) 2 = a from ((q110f (6 * t + 154) 2 (by first | exact no_cj_40 (by omega) | (unfold kEn; omega))).trans ha)), (show w108 (17 * a + 86) 7 = cd from ((q110f (17 * a + 86) 7 (by first | exact no_cj_41 (by omega) (by omega) | (unfold kEn; omega))).trans hcv)), by rw [(show w108 74 1 = w 74 1 from ((q110f 74 1 (by first | exact no_cj_42 (by omega) | (unfold kEn; omega))).trans rfl))]; omega, by rw [(Eq.trans (show w108 (6 * t + 154) 1 = w (6 * t + 154) 1 from ((q110f (6 * t + 154) 1 (by first | exact no_cj_43 (by omega) | (unfold kEn; omega))).trans rfl)) hst)]; decide, by rw [(Eq.trans (show w108 (6 * t + 154) 1 = w (6 * t + 154) 1 from ((q110f (6 * t + 154) 1 (by first | exact no_cj_43 (by omega) | (unfold kEn; omega))).trans rfl)) hst)]; decide, Or.inl ⟨(Eq.trans (show w108 (6 * t + 154) 1 = w (6 * t + 154) 1 from ((q110f (6 * t + 154) 1 (by first | exact no_cj_43 (by omega) | (unfold kEn; omega))).trans rfl)) hst), (by rw [show w108 (6 * t + 154) 3 = w108 (6 * t + 154) 3 from rfl]; rcases q110x with ⟨g1, g2, g3⟩ | ⟨g1, g2, g3⟩; (rw [g3]; exact hco.2.2.1 _ (by omega) (by omega)); (rw [g2]; exact hbeh))⟩⟩
    · replace h114 : (z111 : Int) = 0 := Classical.not_not.mp (show ¬ ((z111 : Int) ≠ 0) from h114)
      refine e_Ok.ps2 (x := (0, 8)) (y := (1, 8)) (q := 199) 2 rfl ?_
      refine e_Ok.callV rfl (e_dq hd rfl) rfl rfl rfl rfl (c_46 q110T (by omega) (sK.fr q110f (by unfold kEn; omega) (fun k => by unfold kEn; omega) hk)) (fun r115 w116 h117 => ?_)
      obtain ⟨rfl, q118f, q118T, q118x⟩ := h117
      have Q120 := kI.hm Q113 q118T (e_fr.mono q118f (fun c k g => hm_kDs g))
      refine e_Ok.nrm (q := 202) (st' := []) rfl rfl ?_
      refine e_Ok.ps0 (q := 290) 1 rfl ?_
      refine e_Ok.rets rfl rfl ?_
      exact ⟨rfl, q118T, ⟨(show e_fr kNq w w116 from e_fr.trans f112 (e_fr.mono q118f (fun c k q => by exact nq_kDs q))), ((q118f 74 0 no_cj_0).trans ((q110f 74 0 (by first | exact no_cj_39 (by omega) | (unfold kEn; omega))).trans rfl))⟩, h, Int.le_refl h, Q120, q118x, (show w116 (6 * t + 154) 2 = a from ((q118f (6 * t + 154) 2 (by first | exact no_cj_1 (by omega) | (unfold kDs; omega))).trans ((q110f (6 * t + 154) 2 (by first | exact no_cj_40 (by omega) | (unfold kEn; omega))).trans ha))), (show w116 (17 * a + 86) 7 = cd from ((q118f (17 * a + 86) 7 (by first | exact no_cj_2 (by omega) | (unfold kDs; omega))).trans ((q110f (17 * a + 86) 7 (by first | exact no_cj_41 (by omega) (by omega) | (unfold kEn; omega))).trans hcv))), by rw [(show w116 74 1 = w 74 1 from ((q118f 74 1 no_cj_0).trans ((q110f 74 1 (by first | exact no_cj_42 (by omega) | (unfold kEn; omega))).trans rfl)))]; omega, by rw [(Eq.trans (show w116 (6 * t + 154) 1 = w (6 * t + 154) 1 from ((q118f (6 * t + 154) 1 (by first | exact no_cj_3 (by omega) | (unfold kDs; omega))).trans ((q110f (6 * t + 154) 1 (by first | exact no_cj_43 (by omega) | (unfold kEn; omega))).trans rfl))) hst)]; decide, by rw [(Eq.trans (show w116 (6 * t + 154) 1 = w (6 * t + 154) 1 from ((q118f (6 * t + 154) 1 (by first | exact no_cj_3 (by omega) | (unfold kDs; omega))).trans ((q110f (6 * t + 154) 1 (by first | exact no_cj_43 (by omega) | (unfold kEn; omega))).trans rfl))) hst)]; decide, Or.inl ⟨(Eq.trans (show w116 (6 * t + 154) 1 = w (6 * t + 154) 1 from ((q118f (6 * t + 154) 1 (by first | exact no_cj_3 (by omega) | (unfold kDs; omega))).trans ((q110f (6 * t + 154) 1 (by first | exact no_cj_43 (by omega) | (unfold kEn; omega))).trans rfl))) hst), (by rw [show w116 (6 * t + 154) 3 = w108 (6 * t + 154) 3 from ((q118f (6 * t + 154) 3 (by first | exact no_cj_4 (by omega) | (unfold kDs; omega))).trans rfl)]; rcases q110x with ⟨g1, g2, g3⟩ | ⟨g1, g2, g3⟩; (rw [g3]; exact hco.2.2.1 _ (by omega) (by omega)); (rw [g2]; exact hbeh))⟩⟩
  · refine e_Ok.swk (tg := 205) rfl (by rw [h1]; rfl) ?_
    have hcl := hD.2.2 (w (6 * t + 154) 3 - 1)
    have hnr : n < w cd 1 := by have g := hco.2.2.2 (w (6 * t + 154) 3 - 1) (by omega); omega
    have hnr2 := e_Has.get hT (c := cd) (k := 1) (lo := 0) (hi := 32) (kD_1 hcd) (by decide)
    have hbeh : 40 ≤ OP a (w (6 * t + 154) 3) := by have g := hcl.2.2.1 (by omega); rw [show w (6 * t + 154) 3 - 1 + 1 = w (6 * t + 154) 3 by omega] at g; exact g
    clear hcl
    have hcl0 : CL a (w (6 * t + 154) 3) ≤ 0 := hD.2.1 _ hbeh
    refine e_Ok.run (t' := (207, [(0, (1, 8)), (1, (1, 6 * t + 154)), (2, (1, cd)), (3, (0, o)), (4, (0, n))], [(1, 6 * t + 154), (1, 8)], w)) 2 rfl ?_
    refine e_Ok.getf (z := a) rfl (lT0 (t := t) rfl g_t) rfl rfl ha (by omega) ?_
    refine e_Ok.ps1 (x := (0, n)) (q := 212) 1 rfl ?_
    refine e_Ok.callV rfl (e_dq hd rfl) rfl rfl rfl rfl (c_37 (e_dq hd rfl) hT (by omega) q h0 (by rw [hcv]; omega)) (fun r121 w122 h123 => ?_)
    obtain ⟨z125, rfl, q124T, q124Q, q124r, q124x⟩ := h123
    have f126 : e_fr (fun c k => 154 ≤ c ∧ c ≤ 249 ∧ ¬ (6 * t + 154 ≤ c ∧ c ≤ 6 * t + 159)) w w122 := by
      rcases q124x with ⟨g1, g2⟩ | ⟨g1, g2, g3⟩
      · rw [g2]; exact e_fr.refl w
      · refine g3.mono (fun c k g => ?_)
        have hne : z125 ≠ t := fun e => by rw [e, hst] at g2; omega
        unfold kBg at g
        omega
    skip
    have f127 : e_fr kNq w w122 := e_fr.mono f126 (fun c k g => by unfold kNq; omega)
    refine e_Ok.nrm (q := 215) (st' := [(0, z125)]) rfl rfl ?_
    refine e_Ok.if1 rfl (fun h128 => ?_) (fun h128 => ?_)
    · replace h128 : (z125 : Int) ≥ 0 := h128
      refine e_Ok.rets rfl rfl ?_
      exact ⟨rfl, q124T, ⟨f127, (f126 _ _ (by omega))⟩, h, Int.le_refl h, q124Q, (sK.fr f126 (by omega) (fun k => by omega) hk), (show w122 (6 * t + 154) 2 = a from (Eq.trans (f126 _ _ (by omega)) ha)), (show w122 (17 * a + 86) 7 = cd from ((f127 (17 * a + 86) 7 (by first | exact no_cj_44 (by omega) | (unfold kNq; omega))).trans hcv)), by rw [(show w122 74 1 = w 74 1 from (f126 _ _ (by omega)))]; omega, by rw [(Eq.trans (show w122 (6 * t + 154) 1 = w (6 * t + 154) 1 from (f126 _ _ (by omega))) hst)]; decide, by rw [(Eq.trans (show w122 (6 * t + 154) 1 = w (6 * t + 154) 1 from (f126 _ _ (by omega))) hst)]; decide, Or.inl ⟨(Eq.trans (show w122 (6 * t + 154) 1 = w (6 * t + 154) 1 from (f126 _ _ (by omega))) hst), (by rw [show w122 (6 * t + 154) 3 = w (6 * t + 154) 3 from (f126 _ _ (by omega))]; exact hbeh)⟩⟩
    · replace h128 : (z125 : Int) < 0 := Int.not_le.mp (show ¬ ((z125 : Int) ≥ 0) from h128)
      refine e_Ok.ps2 (x := (0, 10)) (y := (1, 8)) (q := 221) 2 rfl ?_
      refine e_Ok.callV rfl (e_dq hd rfl) rfl rfl rfl rfl (c_46 q124T (by omega) (sK.fr f126 (by omega) (fun k => by omega) hk)) (fun r129 w130 h131 => ?_)
      obtain ⟨rfl, q132f, q132T, q132x⟩ := h131
      have Q134 := kI.hm q124Q q132T (e_fr.mono q132f (fun c k g => hm_kDs g))
      refine e_Ok.nrm (q := 224) (st' := []) rfl rfl ?_
      refine e_Ok.ps0 (q := 290) 1 rfl ?_
      refine e_Ok.rets rfl rfl ?_
      exact ⟨rfl, q132T, ⟨(show e_fr kNq w w130 from e_fr.trans f127 (e_fr.mono q132f (fun c k q => by exact nq_kDs q))), ((q132f 74 0 no_cj_0).trans (f126 _ _ (by omega)))⟩, h, Int.le_refl h, Q134, q132x, (show w130 (6 * t + 154) 2 = a from ((q132f (6 * t + 154) 2 (by first | exact no_cj_1 (by omega) | (unfold kDs; omega))).trans (Eq.trans (f126 _ _ (by omega)) ha))), (show w130 (17 * a + 86) 7 = cd from ((q132f (17 * a + 86) 7 (by first | exact no_cj_2 (by omega) | (unfold kDs; omega))).trans ((f127 (17 * a + 86) 7 (by first | exact no_cj_44 (by omega) | (unfold kNq; omega))).trans hcv))), by rw [(show w130 74 1 = w 74 1 from ((q132f 74 1 no_cj_0).trans (f126 _ _ (by omega))))]; omega, by rw [(Eq.trans (show w130 (6 * t + 154) 1 = w (6 * t + 154) 1 from ((q132f (6 * t + 154) 1 (by first | exact no_cj_3 (by omega) | (unfold kDs; omega))).trans (f126 _ _ (by omega)))) hst)]; decide, by rw [(Eq.trans (show w130 (6 * t + 154) 1 = w (6 * t + 154) 1 from ((q132f (6 * t + 154) 1 (by first | exact no_cj_3 (by omega) | (unfold kDs; omega))).trans (f126 _ _ (by omega)))) hst)]; decide, Or.inl ⟨(Eq.trans (show w130 (6 * t + 154) 1 = w (6 * t + 154) 1 from ((q132f (6 * t + 154) 1 (by first | exact no_cj_3 (by omega) | (unfold kDs; omega))).trans (f126 _ _ (by omega)))) hst), (by rw [show w130 (6 * t + 154) 3 = w (6 * t + 154) 3 from ((q132f (6 * t + 154) 3 (by first | exact no_cj_4 (by omega) | (unfold kDs; omega))).trans (f126 _ _ (by omega)))]; exact hbeh)⟩⟩
  · refine e_Ok.swk (tg := 227) rfl (by rw [h1]; rfl) ?_
    have hcl := hD.2.2 (w (6 * t + 154) 3 - 1)
    have hbeh : 40 ≤ OP a (w (6 * t + 154) 3) := by have g := hcl.2.2.1 (by omega); rw [show w (6 * t + 154) 3 - 1 + 1 = w (6 * t + 154) 3 by omega] at g; exact g
    clear hcl
    have hcl0 : CL a (w (6 * t + 154) 3) ≤ 0 := hD.2.1 _ hbeh
    refine e_Ok.run (t' := (229, [(0, (1, 8)), (1, (1, 6 * t + 154)), (2, (1, cd)), (3, (0, o)), (4, (0, n))], [(1, 8), (1, 8)], w)) 2 rfl ?_
    refine e_Ok.callV rfl (e_dq hd rfl) rfl rfl rfl rfl (c_53 hT hk) (fun r135 w136 h137 => ?_)
    obtain ⟨z139, rfl, q138f, q138T, q138r, q138x⟩ := h137
    have Q141 := kI.hm q q138T (e_fr.mono q138f (fun c k g => hm_kDs g))
    refine e_Ok.nrm (q := 232) (st' := [(0, z139), (1, 8)]) rfl rfl ?_
    refine e_Ok.callV rfl (e_dq hd rfl) rfl rfl rfl rfl (c_46 q138T (by omega) q138x) (fun r142 w143 h144 => ?_)
    obtain ⟨rfl, q145f, q145T, q145x⟩ := h144
    have Q147 := kI.hm Q141 q145T (e_fr.mono q145f (fun c k g => hm_kDs g))
    refine e_Ok.nrm (q := 235) (st' := []) rfl rfl ?_
    refine e_Ok.ps0 (q := 290) 1 rfl ?_
    refine e_Ok.rets rfl rfl ?_
    exact ⟨rfl, q145T, ⟨(show e_fr kNq w w143 from e_fr.trans (show e_fr kNq w w136 from e_fr.trans (e_fr.refl w) (e_fr.mono q138f (fun c k q => by exact nq_kDs q))) (e_fr.mono q145f (fun c k q => by exact nq_kDs q))), ((q145f 74 0 no_cj_0).trans ((q138f 74 0 no_cj_0).trans rfl))⟩, h, Int.le_refl h, Q147, q145x, (show w143 (6 * t + 154) 2 = a from ((q145f (6 * t + 154) 2 (by first | exact no_cj_1 (by omega) | (unfold kDs; omega))).trans ((q138f (6 * t + 154) 2 (by first | exact no_cj_1 (by omega) | (unfold kDs; omega))).trans ha))), (show w143 (17 * a + 86) 7 = cd from ((q145f (17 * a + 86) 7 (by first | exact no_cj_2 (by omega) | (unfold kDs; omega))).trans ((q138f (17 * a + 86) 7 (by first | exact no_cj_2 (by omega) | (unfold kDs; omega))).trans hcv))), by rw [(show w143 74 1 = w 74 1 from ((q145f 74 1 no_cj_0).trans ((q138f 74 1 no_cj_0).trans rfl)))]; omega, by rw [(Eq.trans (show w143 (6 * t + 154) 1 = w (6 * t + 154) 1 from ((q145f (6 * t + 154) 1 (by first | exact no_cj_3 (by omega) | (unfold kDs; omega))).trans ((q138f (6 * t + 154) 1 (by first | exact no_cj_3 (by omega) | (unfold kDs; omega))).trans rfl))) hst)]; decide, by rw [(Eq.trans (show w143 (6 * t + 154) 1 = w (6 * t + 154) 1 from ((q145f (6 * t + 154) 1 (by first | exact no_cj_3 (by omega) | (unfold kDs; omega))).trans ((q138f (6 * t + 154) 1 (by first | exact no_cj_3 (by omega) | (unfold kDs; omega))).trans rfl))) hst)]; decide, Or.inl ⟨(Eq.trans (show w143 (6 * t + 154) 1 = w (6 * t + 154) 1 from ((q145f (6 * t + 154) 1 (by first | exact no_cj_3 (by omega) | (unfold kDs; omega))).trans ((q138f (6 * t + 154) 1 (by first | exact no_cj_3 (by omega) | (unfold kDs; omega))).trans rfl))) hst), (by rw [show w143 (6 * t + 154) 3 = w (6 * t + 154) 3 from ((q145f (6 * t + 154) 3 (by first | exact no_cj_4 (by omega) | (unfold kDs; omega))).trans ((q138f (6 * t + 154) 3 (by first | exact no_cj_4 (by omega) | (unfold kDs; omega))).trans rfl))]; exact hbeh)⟩⟩
  · refine e_Ok.swk (tg := 238) rfl (by rw [h1]; rfl) ?_
    have hcl := hD.2.2 (w (6 * t + 154) 3 - 1)
    have hbeh : 40 ≤ OP a (w (6 * t + 154) 3) := by have g := hcl.2.2.1 (by omega); rw [show w (6 * t + 154) 3 - 1 + 1 = w (6 * t + 154) 3 by omega] at g; exact g
    clear hcl
    have hcl0 : CL a (w (6 * t + 154) 3) ≤ 0 := hD.2.1 _ hbeh
    refine e_Ok.run (t' := (239, [(0, (1, 8)), (1, (1, 6 * t + 154)), (2, (1, cd)), (3, (0, o)), (4, (0, n))], [(1, 8)], w)) 1 rfl ?_
    refine e_Ok.getr (z := 74) rfl (el_o rfl) rfl rfl (e_Has.eq hT (kt_o rfl)) ⟨by decide, by decide⟩ ?_
    refine e_Ok.ps2 (x := (1, 6 * t + 154)) (y := (0, 1)) (q := 244) 2 rfl ?_
    refine e_Ok.getf (z := t) rfl (lT0 (t := t) rfl g_t) rfl rfl (Eq.trans (e_Has.eq hT (kT_0 (t := t) rfl g_t)) (by omega)) (by omega) ?_
    refine e_Ok.ps1 (x := (1, 8)) (q := 248) 1 rfl ?_
    refine e_Ok.callV rfl (e_dq hd rfl) rfl rfl rfl rfl (c_53 hT hk) (fun r148 w149 h150 => ?_)
    obtain ⟨z152, rfl, q151f, q151T, q151r, q151x⟩ := h150
    have Q154 := kI.hm q q151T (e_fr.mono q151f (fun c k g => hm_kDs g))
    refine e_Ok.nrm (q := 251) (st' := [(0, z152), (0, t), (0, 1), (1, 74)]) rfl rfl ?_
    refine e_Ok.callV rfl (e_dq hd rfl) rfl rfl rfl rfl (c_27 q151T (by omega) (by omega) (by omega) (by rw [q151f _ _ (by unfold kDs; omega)]; omega)) (fun r155 w156 h157 => ?_)
    obtain ⟨rfl, q158f, q158T, q158x⟩ := h157
    have Q160 := kI.lg Q154 q158T (e_fr.mono q158f (fun c k g => lh_kLg g)) (q158x.2 Q154.lgk)
    refine e_Ok.nrm (q := 254) (st' := []) rfl rfl ?_
    refine e_Ok.ps0 (q := 290) 1 rfl ?_
    refine e_Ok.rets rfl rfl ?_
    exact ⟨rfl, q158T, ⟨(show e_fr kNq w w156 from e_fr.trans (show e_fr kNq w w149 from e_fr.trans (e_fr.refl w) (e_fr.mono q151f (fun c k q => by exact nq_kDs q))) (e_fr.mono q158f (fun c k q => by exact nq_kLg q))), ((q158f 74 0 no_cj_45).trans ((q151f 74 0 no_cj_0).trans rfl))⟩, h, Int.le_refl h, Q160, (sK.fr q158f (by unfold kLg; omega) (fun k => by unfold kLg; omega) q151x), (show w156 (6 * t + 154) 2 = a from ((q158f (6 * t + 154) 2 (by first | exact no_cj_46 (by omega) | (unfold kLg; omega))).trans ((q151f (6 * t + 154) 2 (by first | exact no_cj_1 (by omega) | (unfold kDs; omega))).trans ha))), (show w156 (17 * a + 86) 7 = cd from ((q158f (17 * a + 86) 7 (by first | exact no_cj_47 (by omega) | (unfold kLg; omega))).trans ((q151f (17 * a + 86) 7 (by first | exact no_cj_2 (by omega) | (unfold kDs; omega))).trans hcv))), by rw [q158x.1, (show w149 74 1 = w 74 1 from ((q151f 74 1 no_cj_0).trans rfl))]; omega, by rw [(Eq.trans (show w156 (6 * t + 154) 1 = w (6 * t + 154) 1 from ((q158f (6 * t + 154) 1 (by first | exact no_cj_48 (by omega) | (unfold kLg; omega))).trans ((q151f (6 * t + 154) 1 (by first | exact no_cj_3 (by omega) | (unfold kDs; omega))).trans rfl))) hst)]; decide, by rw [(Eq.trans (show w156 (6 * t + 154) 1 = w (6 * t + 154) 1 from ((q158f (6 * t + 154) 1 (by first | exact no_cj_48 (by omega) | (unfold kLg; omega))).trans ((q151f (6 * t + 154) 1 (by first | exact no_cj_3 (by omega) | (unfold kDs; omega))).trans rfl))) hst)]; decide, Or.inl ⟨(Eq.trans (show w156 (6 * t + 154) 1 = w (6 * t + 154) 1 from ((q158f (6 * t + 154) 1 (by first | exact no_cj_48 (by omega) | (unfold kLg; omega))).trans ((q151f (6 * t + 154) 1 (by first | exact no_cj_3 (by omega) | (unfold kDs; omega))).trans rfl))) hst), (by rw [show w156 (6 * t + 154) 3 = w (6 * t + 154) 3 from ((q158f (6 * t + 154) 3 (by first | exact no_cj_49 (by omega) | (unfold kLg; omega))).trans ((q151f (6 * t + 154) 3 (by first | exact no_cj_4 (by omega) | (unfold kDs; omega))).trans rfl))]; exact hbeh)⟩⟩
  · refine e_Ok.swk (tg := 257) rfl (by rw [h1]; rfl) ?_
    have hcl := hD.2.2 (w (6 * t + 154) 3 - 1)
    have hbeh : 40 ≤ OP a (w (6 * t + 154) 3) := by have g := hcl.2.2.1 (by omega); rw [show w (6 * t + 154) 3 - 1 + 1 = w (6 * t + 154) 3 by omega] at g; exact g
    clear hcl
    have hcl0 : CL a (w (6 * t + 154) 3) ≤ 0 := hD.2.1 _ hbeh
    refine e_Ok.run (t' := (259, [(0, (1, 8)), (1, (1, 6 * t + 154)), (2, (1, cd)), (3, (0, o)), (4, (0, n))], [(1, 6 * t + 154), (1, 8)], w)) 2 rfl ?_
    refine e_Ok.getf (z := a) rfl (lT0 (t := t) rfl g_t) rfl rfl ha (by omega) ?_
    refine e_Ok.callV rfl (e_dq hd rfl) rfl rfl rfl rfl (c_68 (e_dq hd rfl) hT (by omega) q hk (by omega)) (fun r161 w162 h163 => ?_)
    obtain ⟨rfl, q164f, q164T, q164x⟩ := h163
    have q164e := q164x.2.2
    refine e_Ok.nrm (q := 265) (st' := []) rfl rfl ?_
    refine e_Ok.ps0 (q := 290) 1 rfl ?_
    refine e_Ok.rets rfl rfl ?_
    exact ⟨rfl, q164T, ⟨(show e_fr kNq w w162 from e_fr.trans (e_fr.refl w) (e_fr.mono q164f (fun c k q => by exact nq_kGd (by omega) q))), ((q164f 74 0 (by first | exact no_cj_50 | (unfold kGd; omega))).trans rfl)⟩, h, Int.le_refl h, q164x.1, q164x.2.1, (show w162 (6 * t + 154) 2 = a from ((q164f (6 * t + 154) 2 (by first | exact no_cj_51 (by omega) (by omega) | (unfold kGd; omega))).trans ha)), (show w162 (17 * a + 86) 7 = cd from ((q164f (17 * a + 86) 7 (by first | exact no_cj_52 (by omega) | (unfold kGd; omega))).trans hcv)), by have g := q164e; omega, by rw [(Eq.trans (show w162 (6 * t + 154) 1 = w (6 * t + 154) 1 from ((q164f (6 * t + 154) 1 (by first | exact no_cj_53 (by omega) (by omega) | (unfold kGd; omega))).trans rfl)) hst)]; decide, by rw [(Eq.trans (show w162 (6 * t + 154) 1 = w (6 * t + 154) 1 from ((q164f (6 * t + 154) 1 (by first | exact no_cj_53 (by omega) (by omega) | (unfold kGd; omega))).trans rfl)) hst)]; decide, Or.inl ⟨(Eq.trans (show w162 (6 * t + 154) 1 = w (6 * t + 154) 1 from ((q164f (6 * t + 154) 1 (by first | exact no_cj_53 (by omega) (by omega) | (unfold kGd; omega))).trans rfl)) hst), (by rw [show w162 (6 * t + 154) 3 = w (6 * t + 154) 3 from ((q164f (6 * t + 154) 3 (by first | exact no_cj_54 (by omega) (by omega) | (unfold kGd; omega))).trans rfl)]; exact hbeh)⟩⟩
  · refine e_Ok.swk (tg := 268) rfl (by rw [h1]; rfl) ?_
    have hcl := hD.2.2 (w (6 * t + 154) 3 - 1)
    have hbeh : 40 ≤ OP a (w (6 * t + 154) 3) := by have g := hcl.2.2.1 (by omega); rw [show w (6 * t + 154) 3 - 1 + 1 = w (6 * t + 154) 3 by omega] at g; exact g
    clear hcl
    have hcl0 : CL a (w (6 * t + 154) 3) ≤ 0 := hD.2.1 _ hbeh
    refine e_Ok.run (t' := (270, [(0, (1, 8)), (1, (1, 6 * t + 154)), (2, (1, cd)), (3, (0, o)), (4, (0, n))], [(1, 6 * t + 154), (1, 8)], w)) 2 rfl ?_
    refine e_Ok.getf (z := a) rfl (lT0 (t := t) rfl g_t) rfl rfl ha (by omega) ?_
    refine e_Ok.callV rfl (e_dq hd rfl) rfl rfl rfl rfl (c_69 (e_dq hd rfl) hT (by omega) q hk (by omega)) (fun r166 w167 h168 => ?_)
    obtain ⟨rfl, q169f, q169T, q169x⟩ := h168
    have q169e := q169x.2.2
    refine e_Ok.nrm (q := 276) (st' := []) rfl rfl ?_
    refine e_Ok.ps0 (q := 290) 1 rfl ?_
    refine e_Ok.rets rfl rfl ?_
    exact ⟨rfl, q169T, ⟨(show e_fr kNq w w167 from e_fr.trans (e_fr.refl w) (e_fr.mono q169f (fun c k q => by exact nq_kGd (by omega) q))), ((q169f 74 0 (by first | exact no_cj_50 | (unfold kGd; omega))).trans rfl)⟩, h, Int.le_refl h, q169x.1, q169x.2.1, (show w167 (6 * t + 154) 2 = a from ((q169f (6 * t + 154) 2 (by first | exact no_cj_51 (by omega) (by omega) | (unfold kGd; omega))).trans ha)), (show w167 (17 * a + 86) 7 = cd from ((q169f (17 * a + 86) 7 (by first | exact no_cj_52 (by omega) | (unfold kGd; omega))).trans hcv)), by have g := q169e; omega, by rw [(Eq.trans (show w167 (6 * t + 154) 1 = w (6 * t + 154) 1 from ((q169f (6 * t + 154) 1 (by first | exact no_cj_53 (by omega) (by omega) | (unfold kGd; omega))).trans rfl)) hst)]; decide, by rw [(Eq.trans (show w167 (6 * t + 154) 1 = w (6 * t + 154) 1 from ((q169f (6 * t + 154) 1 (by first | exact no_cj_53 (by omega) (by omega) | (unfold kGd; omega))).trans rfl)) hst)]; decide, Or.inl ⟨(Eq.trans (show w167 (6 * t + 154) 1 = w (6 * t + 154) 1 from ((q169f (6 * t + 154) 1 (by first | exact no_cj_53 (by omega) (by omega) | (unfold kGd; omega))).trans rfl)) hst), (by rw [show w167 (6 * t + 154) 3 = w (6 * t + 154) 3 from ((q169f (6 * t + 154) 3 (by first | exact no_cj_54 (by omega) (by omega) | (unfold kGd; omega))).trans rfl)]; exact hbeh)⟩⟩
  · refine e_Ok.swk (tg := 279) rfl (by rw [h1]; rfl) ?_
    have hcl := hD.2.2 (w (6 * t + 154) 3 - 1)
    have hnr : n < w cd 1 := by have g := hco.2.2.2 (w (6 * t + 154) 3 - 1) (by omega); omega
    have hnr2 := e_Has.get hT (c := cd) (k := 1) (lo := 0) (hi := 32) (kD_1 hcd) (by decide)
    have hbeh : 40 ≤ OP a (w (6 * t + 154) 3) := by have g := hcl.2.2.1 (by omega); rw [show w (6 * t + 154) 3 - 1 + 1 = w (6 * t + 154) 3 by omega] at g; exact g
    clear hcl
    have hcl0 : CL a (w (6 * t + 154) 3) ≤ 0 := hD.2.1 _ hbeh
    refine e_Ok.run (t' := (282, [(0, (1, 8)), (1, (1, 6 * t + 154)), (2, (1, cd)), (3, (0, o)), (4, (0, n))], [(1, 8), (1, 6 * t + 154), (1, 8)], w)) 3 rfl ?_
    refine e_Ok.callV rfl (e_dq hd rfl) rfl rfl rfl rfl (c_53 hT hk) (fun r171 w172 h173 => ?_)
    obtain ⟨z175, rfl, q174f, q174T, q174r, q174x⟩ := h173
    have Q177 := kI.hm q q174T (e_fr.mono q174f (fun c k g => hm_kDs g))
    refine e_Ok.nrm (q := 285) (st' := [(0, z175), (1, 6 * t + 154), (1, 8)]) rfl rfl ?_
    refine e_Ok.ps1 (x := (0, n)) (q := 287) 1 rfl ?_
    refine e_Ok.callV rfl (e_dq hd rfl) rfl rfl rfl rfl (c_70 (e_dq hd rfl) (t := t) q174T (by omega) (by omega) (by omega) Q177 q174x (Eq.trans (show w172 (6 * t + 154) 1 = w (6 * t + 154) 1 from ((q174f (6 * t + 154) 1 (by first | exact no_cj_3 (by omega) | (unfold kDs; omega))).trans rfl)) hst) (by rw [(show w172 (6 * t + 154) 2 = a from ((q174f (6 * t + 154) 2 (by first | exact no_cj_1 (by omega) | (unfold kDs; omega))).trans ha)), (show w172 (17 * a + 86) 7 = cd from ((q174f (17 * a + 86) 7 (by first | exact no_cj_2 (by omega) | (unfold kDs; omega))).trans hcv)), show w172 cd 1 = w cd 1 from ((q174f cd 1 (by unfold kDs; omega)).trans rfl)]; exact hnr)) (fun r178 w179 h180 => ?_)
    obtain ⟨rfl, q181f, q181T, q181x⟩ := h180
    refine e_Ok.nrm (q := 290) (st' := []) rfl rfl ?_
    refine e_Ok.rets rfl rfl ?_
    exact ⟨rfl, q181T, ⟨(show e_fr kNq w w179 from e_fr.trans (show e_fr kNq w w172 from e_fr.trans (e_fr.refl w) (e_fr.mono q174f (fun c k q => by exact nq_kDs q))) (e_fr.mono q181f (fun c k q => by exact nq_kWt (by omega) q))), ((q181f 74 0 (by first | exact no_cj_55 | (unfold kWt; omega))).trans ((q174f 74 0 no_cj_0).trans rfl))⟩, h, Int.le_refl h, q181x.1, q181x.2, (show w179 (6 * t + 154) 2 = a from ((q181f (6 * t + 154) 2 (by first | exact no_cj_56 (by omega) | (unfold kWt; omega))).trans ((q174f (6 * t + 154) 2 (by first | exact no_cj_1 (by omega) | (unfold kDs; omega))).trans ha))), (show w179 (17 * a + 86) 7 = cd from ((q181f (17 * a + 86) 7 (by first | exact no_cj_57 (by omega) (by omega) | (unfold kWt; omega))).trans ((q174f (17 * a + 86) 7 (by first | exact no_cj_2 (by omega) | (unfold kDs; omega))).trans hcv))), by rw [(show w179 74 1 = w 74 1 from ((q181f 74 1 (by first | exact no_cj_58 | (unfold kWt; omega))).trans ((q174f 74 1 no_cj_0).trans rfl)))]; omega, by rw [(Eq.trans (show w179 (6 * t + 154) 1 = w (6 * t + 154) 1 from ((q181f (6 * t + 154) 1 (by first | exact no_cj_59 (by omega) | (unfold kWt; omega))).trans ((q174f (6 * t + 154) 1 (by first | exact no_cj_3 (by omega) | (unfold kDs; omega))).trans rfl))) hst)]; decide, by rw [(Eq.trans (show w179 (6 * t + 154) 1 = w (6 * t + 154) 1 from ((q181f (6 * t + 154) 1 (by first | exact no_cj_59 (by omega) | (unfold kWt; omega))).trans ((q174f (6 * t + 154) 1 (by first | exact no_cj_3 (by omega) | (unfold kDs; omega))).trans rfl))) hst)]; decide, Or.inl ⟨(Eq.trans (show w179 (6 * t + 154) 1 = w (6 * t + 154) 1 from ((q181f (6 * t + 154) 1 (by first | exact no_cj_59 (by omega) | (unfold kWt; omega))).trans ((q174f (6 * t + 154) 1 (by first | exact no_cj_3 (by omega) | (unfold kDs; omega))).trans rfl))) hst), (by rw [show w179 (6 * t + 154) 3 = w (6 * t + 154) 3 from ((q181f (6 * t + 154) 3 (by first | exact no_cj_60 (by omega) | (unfold kWt; omega))).trans ((q174f (6 * t + 154) 3 (by first | exact no_cj_4 (by omega) | (unfold kDs; omega))).trans rfl))]; exact hbeh)⟩⟩
end
end
-- part ck
section
noncomputable section
/-! the class: a turn -/
/-- events so far, and where the task stands -/
def tuE (OP CL : Int → Int → Int) (a p st ev e0 b h : Int) : Prop := (st = 1 → CL a p ≤ h ∧ ((40 ≤ OP a p ∧ ev ≤ e0 + 1 + b) ∨ ev ≤ e0 + b)) ∧ (st ≠ 1 → ev ≤ e0 + b + 3 ∧ (st ≤ 5 → CL a p ≤ h))
theorem tuE.ctl {OP CL : Int → Int → Int} {a p st ev e0 b h : Int} (hs : st = 1) (h0 : 0 ≤ h) (hc : CL a p ≤ 0) (ho : 40 ≤ OP a p) (he : ev ≤ e0 + 1 + b) : tuE OP CL a p st ev e0 b h := ⟨fun _ => ⟨by omega, Or.inl ⟨ho, he⟩⟩, fun g => absurd hs g⟩
theorem tuE.exp {OP CL : Int → Int → Int} {a p st ev e0 b h : Int} (hs : st = 1) (hc : CL a p ≤ h) (he : ev ≤ e0 + b) : tuE OP CL a p st ev e0 b h := ⟨fun _ => ⟨hc, Or.inr he⟩, fun g => absurd hs g⟩
theorem tuE.off {OP CL : Int → Int → Int} {a p st ev e0 b h : Int} (hs : st ≠ 1) (he : ev ≤ e0 + b + 3) (hc : st ≤ 5 → CL a p ≤ h) : tuE OP CL a p st ev e0 b h := ⟨fun g => absurd g hs, fun _ => ⟨he, hc⟩⟩
theorem tuE.lt {OP CL : Int → Int → Int} {a p st ev e0 b h : Int} (q : tuE OP CL a p st ev e0 b h) (hs : st = 1) (ho : OP a p < 40) : CL a p ≤ h ∧ ev ≤ e0 + b := ⟨(q.1 hs).1, (q.1 hs).2.elim (fun g => by omega) (fun g => g)⟩
theorem tuE.ge {OP CL : Int → Int → Int} {a p st ev e0 b h : Int} (q : tuE OP CL a p st ev e0 b h) (hs : st = 1) : CL a p ≤ h ∧ ev ≤ e0 + 1 + b := ⟨(q.1 hs).1, (q.1 hs).2.elim (fun g => g.2) (fun g => by omega)⟩
theorem tuE.all {OP CL : Int → Int → Int} {a p st ev e0 b h : Int} (q : tuE OP CL a p st ev e0 b h) : ev ≤ e0 + b + 3 ∧ (st ≤ 5 → CL a p ≤ h) := by
  by_cases g : st = 1
  · exact ⟨by have := q.ge g; omega, fun _ => (q.ge g).1⟩
  · exact q.2 g
theorem e_Ok.inc1 {fd : Nat} {lay : List eY} {code : Nat → Nat → eE} {I : Nat → xM} {d M nx a b p : Nat} {l : eL} {r : List eV} {w : eW} {Q : List eV → eW → Prop} {x : Int} (hc : code M p = (0, ei_bin eF_add nx, a, b)) (h : ∀ z, (-2147483648 ≤ z ∧ z ≤ 2147483647) → (-2147483648 ≤ x → x ≤ 2147483646 → z = x + 1) ∧ (x = 2147483647 → z = -2147483648) → e_Ok fd lay code I d M (nx, l, (0, z) :: r, w) Q) : e_Ok fd lay code I d M (p, l, (0, 1) :: (0, x) :: r, w) Q := by
  refine e_Ok.step (t' := (nx, l, (0, e32 (x + 1)) :: r, w)) hc rfl (h _ (e32_in _) ⟨fun g1 g2 => e32_id (by omega) (by omega), fun g => by rw [g]; decide⟩)
theorem kCd.nxt {w : eW} {cd x z : Int} {op od : Int → Int} (hT : e_Has kTy w) (hk : kCd w cd op od) (hx : -2147483648 ≤ x ∧ x ≤ 2147483647) (hz : (-2147483648 ≤ x → x ≤ 2147483646 → z = x + 1) ∧ (x = 2147483647 → z = -2147483648)) : (op (z - 1) = op x ∧ od (z - 1) = od x) ∧ (op x ≠ 43 → z = x + 1) := by
  have hl := e_Has.get hT (c := cd) (k := 0) (lo := 0) (hi := 4000) (kD_0 hk.1) (by decide)
  by_cases g : x = 2147483647
  · have e1 := (hk.2 x).2 (by omega)
    have e2 := (hk.2 (z - 1)).2 (by have := hz.2 g; omega)
    exact ⟨⟨by omega, by omega⟩, fun g2 => absurd e1.1 g2⟩
  · have e := hz.1 hx.1 (by omega)
    rw [show z - 1 = x by omega]
    exact ⟨⟨rfl, rfl⟩, fun _ => e⟩
theorem th_kDp {t c k : Int} (g : kDp t c k) : kTh t c k := by
  unfold kDp at g
  rcases g with g | g | g
  · exact Or.inl (hm_kDs (Or.inl g))
  · exact Or.inl (hm_kDs (Or.inr g))
  · exact Or.inr (by omega)
theorem no_ck_0 {t : Int} (ht : 0 ≤ t ∧ t ≤ 15) : ¬ kGn t (6 * t + 154) 2 := by unfold kGn; omega
theorem no_ck_1 {t : Int} (ht : 0 ≤ t ∧ t ≤ 15) : ¬ kGn t (6 * t + 154) 3 := by unfold kGn; omega
theorem no_ck_2 {t : Int} {a : Int} (ht : 0 ≤ t ∧ t ≤ 15) (ha : 0 ≤ a ∧ a ≤ 3) : ¬ kGn t (17 * a + 86) 7 := by unfold kGn; omega
theorem no_ck_3 {t : Int} (ht : 0 ≤ t ∧ t ≤ 15) : ¬ kGn t 74 1 := by unfold kGn; omega
theorem no_ck_4 {t : Int} : ¬ kGn t 74 0 := by unfold kGn; omega
theorem no_ck_5 {t : Int} (ht : 0 ≤ t ∧ t ≤ 15) : ¬ kDs (6 * t + 154) 1 := by unfold kDs; omega
theorem no_ck_6 {t : Int} (ht : 0 ≤ t ∧ t ≤ 15) : ¬ kDs (6 * t + 154) 2 := by unfold kDs; omega
theorem no_ck_7 {a : Int} (ha : 0 ≤ a ∧ a ≤ 3) : ¬ kDs (17 * a + 86) 7 := by unfold kDs; omega
theorem no_ck_8 {a : Int} (ha : 0 ≤ a ∧ a ≤ 3) : ¬ kNq (17 * a + 86) 7 := by unfold kNq; omega
theorem no_ck_9 {k : Int} : ¬ kDs 74 k := by unfold kDs; omega
theorem no_ck_10 {t : Int} (ht : 0 ≤ t ∧ t ≤ 15) : ¬ kDs (6 * t + 154) 3 := by unfold kDs; omega
theorem no_ck_11 {t : Int} (ht : 0 ≤ t ∧ t ≤ 15) : ¬ kDp t (6 * t + 154) 1 := by unfold kDp; omega
theorem no_ck_12 {t : Int} (ht : 0 ≤ t ∧ t ≤ 15) : ¬ kDp t (6 * t + 154) 2 := by unfold kDp; omega
theorem no_ck_13 {t : Int} {a : Int} (ht : 0 ≤ t ∧ t ≤ 15) (ha : 0 ≤ a ∧ a ≤ 3) : ¬ kDp t (17 * a + 86) 7 := by unfold kDp; omega
theorem no_ck_14 {t : Int} : ¬ kDp t 74 1 := by unfold kDp; omega
theorem no_ck_15 {t : Int} : ¬ kDp t 74 0 := by unfold kDp; omega
set_option maxHeartbeats 4000000 in
theorem c_43 {d : Nat} (hd : 27 ≤ d) {w : eW} (hT : e_Has kTy w) {t : Int} (gt : 0 ≤ t ∧ t ≤ 15) {OP OD CL : Int → Int → Int} {h : Int} (q : kI w OP OD CL h t) {a : Int} (ga : 0 ≤ a ∧ a ≤ 3) (ha : w (6 * t + 154) 2 = a) {cd : Int} (hcv : w (17 * a + 86) 7 = cd) (h0 : 0 ≤ h) (hst : 1 ≤ w (6 * t + 154) 1 ∧ w (6 * t + 154) 1 ≤ 5) (hcol : CL a (w (6 * t + 154) 3) ≤ h) (he : w 74 1 ≤ 2000000000) : e_Ok 20 elay kcode eI d 43 (0, [(0, (1, 8)), (1, (1, 6 * t + 154))], [], w) (fun r w' => r = [] ∧ e_Has kTy w' ∧ (e_fr kNq w w' ∧ w' 74 0 = w 74 0) ∧ ∃ h', h ≤ h' ∧ kI w' OP OD CL h' (-1) ∧ w 74 1 ≤ w' 74 1 ∧ w' 74 1 ≤ w 74 1 + 24) := by
  obtain ⟨d, rfl⟩ : ∃ e, d = e + 1 := ⟨d - 1, by omega⟩
  have hcd9 := q.cd a (by omega) (by omega)
  rw [hcv] at hcd9
  unfold isCd at hcd9
  have h74w := e_Has.get hT (c := 74) (k := 1) (lo := 0) (hi := 2147483647) (kt_o rfl) (by decide)
  refine e_Ok.run (t' := (1, [(0, (1, 8)), (1, (1, 6 * t + 154))], [(1, 8)], w)) 1 rfl ?_
  refine e_Ok.getr (z := 9) rfl (el_o rfl) rfl rfl (e_Has.eq hT (kt_o rfl)) ⟨by decide, by decide⟩ ?_
  refine e_Ok.ps1 (x := (1, 6 * t + 154)) (q := 5) 1 rfl ?_
  refine e_Ok.getf (z := a) rfl (lT0 (t := t) rfl gt) rfl rfl ha (by omega) ?_
  refine e_Ok.aald (z := 17 * a + 86) rfl (el_o rfl) rfl (by omega) (Eq.trans (e_Has.eq hT (k9 (by omega))) (by omega)) (by omega) ?_
  refine e_Ok.getr (z := cd) rfl (lA0 (a := a) rfl ga) rfl rfl hcv (by omega) ?_
  refine e_Ok.run (t' := (15, [(2, (1, cd)), (0, (1, 8)), (1, (1, 6 * t + 154))], [(0, 0), (1, 8)], w)) 3 rfl ?_
  refine e_Ok.putb rfl (el_o rfl) rfl rfl (by omega) ?_
  generalize hw1 : e_up w 8 11 0 = w1
  have hT3 : e_Has kTy w1 := e_Has.ups hT hw1 (kt_o rfl)
  refine e_Ok.ps2 (x := (0, 0)) (y := (1, 8)) (q := 20) 2 rfl ?_
  refine e_Ok.putf rfl (el_o rfl) rfl rfl ?_
  generalize hw4 : e_up w1 8 8 0 = w4
  have hT6 : e_Has kTy w4 := e_Has.ups hT3 hw4 (kt_o rfl)
  have Q7 := kI.hm q hT6 (fun c k g => by rw [← hw4, e_up_ne _ _ (nds g (by decide)), ← hw1]; exact e_up_ne _ _ (nds g (by decide)))
  have hsk : sK w4 := sK.init hw1 hw4
  have es : w4 (6 * t + 154) 1 = w (6 * t + 154) 1 := (e_uq hw4 (Or.inr (by decide)) (e_uq hw1 (Or.inr (by decide)) rfl))
  refine e_Ok.ps2 (x := (1, 6 * t + 154)) (y := (1, 8)) (q := 25) 2 rfl ?_
  refine e_Ok.callV rfl (e_dq hd rfl) rfl rfl rfl rfl (c_45 (e_dq hd rfl) (t := t) hT6 (by omega) Q7 hsk (by rw [es]; exact hst)) (fun r8 w9 h10 => ?_)
  obtain ⟨rfl, q11f, q11T, q11x⟩ := h10
  have x2 : w9 (6 * t + 154) 2 = a := ((q11f (6 * t + 154) 2 (by first | exact no_ck_0 (by omega) | (unfold kGn; omega))).trans (e_uq hw4 (Or.inr (by decide)) (e_uq hw1 (Or.inr (by decide)) ha)))
  have x3 : w9 (6 * t + 154) 3 = w (6 * t + 154) 3 := ((q11f (6 * t + 154) 3 (by first | exact no_ck_1 (by omega) | (unfold kGn; omega))).trans (e_uq hw4 (Or.inr (by decide)) (e_uq hw1 (Or.inr (by decide)) rfl)))
  have x7 : w9 (17 * a + 86) 7 = cd := ((q11f (17 * a + 86) 7 (by first | exact no_ck_2 (by omega) (by omega) | (unfold kGn; omega))).trans (e_uq hw4 (Or.inr (by decide)) (e_uq hw1 (Or.inr (by decide)) hcv)))
  have xe : w9 74 1 = w 74 1 := ((q11f 74 1 (by first | exact no_ck_3 (by omega) | (unfold kGn; omega))).trans (e_uq hw4 (Or.inl (by decide)) (e_uq hw1 (Or.inl (by decide)) rfl)))
  have xt : w9 74 0 = w 74 0 := ((q11f 74 0 (by first | exact no_ck_4 | (unfold kGn; omega))).trans (e_uq hw4 (Or.inl (by decide)) (e_uq hw1 (Or.inl (by decide)) rfl)))
  refine e_Ok.nrm (q := 28) (st' := []) rfl rfl ?_
  refine e_Ok.run (t' := (33, [(4, (0, 0)), (3, (0, 0)), (2, (1, cd)), (0, (1, 8)), (1, (1, 6 * t + 154))], [], w9)) 4 rfl ?_
  have hL13 : ∀ (nn : Nat) (y3 : Int) (y4 : Int) (v1 : eW) (h1 : Int), e_fr kNq w v1 ∧ e_Has kTy v1 ∧ v1 74 0 = w 74 0 ∧ h ≤ h1 ∧ kI v1 OP OD CL h1 t ∧ sK v1 ∧ v1 (6 * t + 154) 2 = a ∧ v1 (17 * a + 86) 7 = cd ∧ tuE OP CL a (v1 (6 * t + 154) 3) (v1 (6 * t + 154) 1) (v1 74 1) (w 74 1) y3 h1 ∧ w 74 1 ≤ v1 74 1 ∧ (0 ≤ y3 ∧ y3 ≤ 20) ∧ (0 ≤ y4 ∧ y4 ≤ 1000000) → 1000000 - y4 < nn → e_Ok 20 elay kcode eI (d + 1) 43 (33, [(0, (1, 8)), (1, (1, 6 * t + 154)), (2, (1, cd)), (3, (0, y3)), (4, (0, y4))], [], v1) (fun r w' => r = [] ∧ e_Has kTy w' ∧ (e_fr kNq w w' ∧ w' 74 0 = w 74 0) ∧ ∃ h', h ≤ h' ∧ kI w' OP OD CL h' (-1) ∧ w 74 1 ≤ w' 74 1 ∧ w' 74 1 ≤ w 74 1 + 24) := by
    intro nn
    induction nn with
    | zero => intro y3 y4 v1 h1 hj hm; obtain ⟨j15, j16, j17, j18, j19, j20, j21, j22, j23, j24, j25, j26⟩ := hj; exfalso; omega
    | succ nn ih14 =>
      intro y3 y4 v1 h1 hj hm
      obtain ⟨j15, j16, j17, j18, j19, j20, j21, j22, j23, j24, j25, j26⟩ := hj
      refine e_Ok.run (t' := (37, [(0, (1, 8)), (1, (1, 6 * t + 154)), (2, (1, cd)), (3, (0, y3)), (4, (0, y4))], [(0, 1000000), (0, y4)], v1)) 2 rfl ?_
      refine e_Ok.if2 rfl (fun h27 => ?_) (fun h27 => ?_)
      · replace h27 : (y4 : Int) ≥ 1000000 := h27
        refine e_Ok.rets rfl rfl ?_
        have htl := j23.all
        exact ⟨rfl, j16, ⟨j15, j17⟩, h1, j18, j19.own (fun _ g => by rw [j21]; exact htl.2 g), by omega, by omega⟩
      · replace h27 : (y4 : Int) < 1000000 := Int.not_le.mp (show ¬ ((y4 : Int) ≥ 1000000) from h27)
        refine e_Ok.ps1 (x := (1, 6 * t + 154)) (q := 41) 1 rfl ?_
        have h28 := (e_Has.get j16 (c := 6 * t + 154) (k := 1) (lo := 0) (hi := 7) (kT_1 (t := t) rfl gt) (by decide))
        refine e_Ok.getf (z := v1 (6 * t + 154) 1) rfl (lT0 (t := t) rfl gt) rfl rfl rfl (e_bq h28 (by decide) (by decide)) ?_
        refine e_Ok.ps1 (x := (0, 1)) (q := 45) 1 rfl ?_
        refine e_Ok.if2 rfl (fun h29 => ?_) (fun h29 => ?_)
        · replace h29 : (v1 (6 * t + 154) 1 : Int) ≠ 1 := h29
          refine e_Ok.rets rfl rfl ?_
          have htl := j23.all
          exact ⟨rfl, j16, ⟨j15, j17⟩, h1, j18, j19.own (fun _ g => by rw [j21]; exact htl.2 g), by omega, by omega⟩
        · replace h29 : (v1 (6 * t + 154) 1 : Int) = 1 := Classical.not_not.mp (show ¬ ((v1 (6 * t + 154) 1 : Int) ≠ 1) from h29)
          have hcoL := j19.co (a := a) (by omega) (by omega); rw [j22] at hcoL
          have hcdL := hcoL.1.1; have hDL := hcoL.2.1; have hcd0 := hcdL; unfold isCd at hcd0
          have hs1 : v1 (6 * t + 154) 1 = 1 := by omega
          have htg := j23.ge hs1
          have h3 := e_Has.get j16 (c := 6 * t + 154) (k := 3) (lo := -2147483648) (hi := 2147483647) (kT_3 (t := t) rfl gt) (by decide)
          have h74 := e_Has.get j16 (c := 74) (k := 1) (lo := 0) (hi := 2147483647) rfl (by decide)
          have hr0 := j20.2.2.1
          refine e_Ok.ps2 (x := (1, 6 * t + 154)) (y := (1, cd)) (q := 50) 2 rfl ?_
          refine e_Ok.getf (z := v1 (6 * t + 154) 3) rfl (lT0 (t := t) rfl gt) rfl rfl rfl (by omega) ?_
          refine e_Ok.callV rfl (e_dq hd rfl) rfl (lD0 hcdL) rfl rfl (c_23 j16 hcoL.1 (by omega)) (fun r30 w31 h32 => ?_)
          obtain ⟨z33, rfl, rfl, q34, q34r⟩ := h32
          replace q34 : z33 = OP a (v1 (6 * t + 154) 3) := q34
          refine e_Ok.nrm (q := 56) (st' := [(0, z33)]) rfl rfl ?_
          refine e_Ok.run (t' := (60, [(5, (0, z33)), (0, (1, 8)), (1, (1, 6 * t + 154)), (2, (1, cd)), (3, (0, y3)), (4, (0, y4))], [(1, 6 * t + 154), (1, cd)], v1)) 3 rfl ?_
          refine e_Ok.getf (z := v1 (6 * t + 154) 3) rfl (lT0 (t := t) rfl gt) rfl rfl rfl (by omega) ?_
          refine e_Ok.callV rfl (e_dq hd rfl) rfl (lD0 hcdL) rfl rfl (c_24 j16 hcoL.1 (by omega)) (fun r35 w36 h37 => ?_)
          obtain ⟨z38, rfl, rfl, q40, q40r⟩ := h37
          replace q40 : z38 = OD a (v1 (6 * t + 154) 3) := q40
          refine e_Ok.nrm (q := 66) (st' := [(0, z38)]) rfl rfl ?_
          refine e_Ok.run (t' := (69, [(6, (0, z38)), (5, (0, z33)), (0, (1, 8)), (1, (1, 6 * t + 154)), (2, (1, cd)), (3, (0, y3)), (4, (0, y4))], [(1, 8)], v1)) 2 rfl ?_
          refine e_Ok.getf (z := v1 8 11) rfl (el_o rfl) rfl rfl rfl (by omega) ?_
          refine e_Ok.if1 rfl (fun h41 => ?_) (fun h41 => ?_)
          · replace h41 : (v1 8 11 : Int) = 0 := h41
            refine e_Ok.ps2 (x := (0, 50)) (y := (0, z33)) (q := 88) 2 rfl ?_
            refine e_Ok.if2 rfl (fun h42 => ?_) (fun h42 => ?_)
            · replace h42 : (z33 : Int) ≠ 50 := h42
              refine e_Ok.ps2 (x := (1, 6 * t + 154)) (y := (1, 6 * t + 154)) (q := 128) 2 rfl ?_
              refine e_Ok.getf (z := v1 (6 * t + 154) 3) rfl (lT0 (t := t) rfl gt) rfl rfl rfl (by omega) ?_
              refine e_Ok.ps1 (x := (0, 1)) (q := 132) 1 rfl ?_
              refine e_Ok.inc1 rfl (fun z43 z43r hz43 => ?_)
              have hnx := hcoL.1.nxt j16 (x := v1 (6 * t + 154) 3) (by omega) hz43
              refine e_Ok.putf rfl (lT0 (t := t) rfl gt) rfl rfl ?_
              generalize hw44 : e_up v1 (6 * t + 154) 3 z43 = w44
              have f45 : e_fr kNq w w44 := e_fr.up j15 hw44 (by first | exact Or.inr (Or.inr (Or.inr (Or.inr (Or.inr (Or.inr (Or.inr (Or.inr (Or.inr (Or.inl ⟨(by omega), (by omega)⟩))))))))) | (unfold kNq; omega))
              have hT46 : e_Has kTy w44 := e_Has.upr j16 hw44 (kT_3 (t := t) rfl gt) (by omega)
              have Q47 := kI.pc j19 hT46 (by omega) hs1 hw44
              have hskp : sK w44 := sK.eq (fun c k g => by rw [← hw44, e_up_ne _ _ (by omega)]) j20
              have xp : w44 (6 * t + 154) 3 = z43 := (e_ue hw44)
              have xs : w44 (6 * t + 154) 1 = 1 := by rw [← hw44, e_up_ne _ _ (by omega)]; exact hs1
              have xa : w44 (6 * t + 154) 2 = a := by rw [← hw44, e_up_ne _ _ (by omega)]; exact j21
              have xc : w44 (17 * a + 86) 7 = cd := by rw [← hw44, e_up_ne _ _ (by omega)]; exact j22
              have xv : w44 74 1 = v1 74 1 := by rw [← hw44, e_up_ne _ _ (by omega)]
              refine e_Ok.run (t' := (140, [(6, (0, z38)), (5, (0, z33)), (0, (1, 8)), (1, (1, 6 * t + 154)), (2, (1, cd)), (3, (0, y3)), (4, (0, y4))], [(0, 8), (0, z33)], w44)) 2 rfl ?_
              refine e_Ok.if2 rfl (fun h48 => ?_) (fun h48 => ?_)
              · replace h48 : (z33 : Int) > 8 := h48
                refine e_Ok.ps2 (x := (0, 13)) (y := (0, z33)) (q := 159) 2 rfl ?_
                refine e_Ok.if2 rfl (fun h49 => ?_) (fun h49 => ?_)
                · replace h49 : (z33 : Int) > 13 := h49
                  refine e_Ok.ps2 (x := (0, 24)) (y := (0, z33)) (q := 178) 2 rfl ?_
                  refine e_Ok.if2 rfl (fun h50 => ?_) (fun h50 => ?_)
                  · replace h50 : (z33 : Int) > 24 := h50
                    refine e_Ok.ps2 (x := (0, 39)) (y := (0, z33)) (q := 202) 2 rfl ?_
                    refine e_Ok.if2 rfl (fun h51 => ?_) (fun h51 => ?_)
                    · replace h51 : (z33 : Int) > 39 := h51
                      refine e_Ok.run (t' := (225, [(6, (0, z38)), (5, (0, z33)), (0, (1, 8)), (1, (1, 6 * t + 154)), (2, (1, cd)), (3, (0, y3)), (4, (0, y4))], [(0, z38), (0, z33), (1, cd), (1, 6 * t + 154), (1, 8)], w44)) 5 rfl ?_
                      refine e_Ok.callV rfl (e_dq hd rfl) rfl rfl rfl rfl (c_71 (e_dq hd rfl) (t := t) hT46 (by omega) (by omega) (by omega) Q47 hskp xs (by omega) xa xc (by rw [xp]; exact hnx.1.1.trans q34.symm) (by rw [xp]; exact hnx.1.2.trans q40.symm) (by omega) (by omega)) (fun r52 w53 h54 => ?_)
                      obtain ⟨rfl, q55f, q55T, q55x⟩ := h54
                      refine e_Ok.nrm (q := 228) (st' := []) rfl rfl ?_
                      have hev : (v1 74 1 ≤ w53 74 1 ∧ w53 74 1 ≤ v1 74 1 + 1) := by have g := q55x.2.2.2; omega
                      have htn : tuE OP CL a (w53 (6 * t + 154) 3) (w53 (6 * t + 154) 1) (w53 74 1) (w 74 1) y3 h1 := by
                        rcases q55x.2.2.2.2.2.2 with g | g
                        · have g2 := q55x.2.2.2.2.2.1 g; exact tuE.ctl g (by omega) (hDL.2.1 _ g2.1) g2.1 (by omega)
                        · exact tuE.off (by rw [g]; decide) (by omega) (fun g3 => by omega)
                      have htx : w53 74 0 = w 74 0 := by rw [q55f _ _ (by unfold kLd; omega), ← hw44, e_up_ne _ _ (by omega)]; exact j17
                      have hcx : w53 (17 * a + 86) 7 = cd := Eq.trans (q55f _ _ (by unfold kLd; omega)) xc
                      refine e_Ok.inc (z := y4 + 1) rfl rfl (by first | with_reducible rfl | omega) (by omega) ?_
                      show e_Ok 20 elay kcode eI (d + 1) 43 (231, [(4, (0, y4 + 1)), (6, (0, z38)), (5, (0, z33)), (0, (1, 8)), (1, (1, 6 * t + 154)), (2, (1, cd)), (3, (0, y3))], [], w53) _
                      refine e_Ok.ps0 (q := 33) 1 rfl ?_
                      refine e_Ok.sub kAlk (e_sub_of rfl ?_) (ih14 y3 (y4 + 1) w53 h1 ⟨(show e_fr kNq w w53 from e_fr.trans f45 (e_fr.mono q55f (fun c k q => by exact nq_kLd (by omega) q))), q55T, htx, j18, q55x.1, q55x.2.1, q55x.2.2.1, hcx, htn, (by omega), by omega, by omega⟩ (by omega))
                      exact ⟨rfl, rfl, rfl, rfl, rfl, trivial⟩
                    · replace h51 : (z33 : Int) ≤ 39 := Int.not_lt.mp (show ¬ ((z33 : Int) > 39) from h51)
                      refine e_Ok.run (t' := (212, [(6, (0, z38)), (5, (0, z33)), (0, (1, 8)), (1, (1, 6 * t + 154)), (2, (1, cd)), (3, (0, y3)), (4, (0, y4))], [(0, z38), (0, z33), (1, cd), (1, 6 * t + 154), (1, 8)], w44)) 5 rfl ?_
                      refine e_Ok.callV rfl (e_dq hd rfl) rfl rfl rfl rfl (c_59 (e_dq hd rfl) hT46 (by omega) (by omega) (by omega) Q47 hskp xs (by omega) xa xc (by omega) (by rw [xp]; exact hnx.1.1.trans q34.symm) (by rw [xp]; exact hnx.1.2.trans q40.symm) (by rw [xp, hnx.2 (by omega), show v1 (6 * t + 154) 3 + 1 - 1 = v1 (6 * t + 154) 3 by omega]; exact htg.1) (by omega)) (fun r57 w58 h59 => ?_)
                      obtain ⟨rfl, q60T, q60f, q60h, q60x⟩ := h59
                      refine e_Ok.nrm (q := 215) (st' := []) rfl rfl ?_
                      refine e_Ok.ps0 (q := 228) 1 rfl ?_
                      have hlt : CL a (v1 (6 * t + 154) 3) ≤ h1 ∧ v1 74 1 ≤ w 74 1 + y3 := j23.lt hs1 (by omega)
                      have hev : (v1 74 1 ≤ w58 74 1 ∧ w58 74 1 ≤ v1 74 1 + 1) := by have g := q60x.2.2.2.2.2.1; omega
                      have htn : tuE OP CL a (w58 (6 * t + 154) 3) (w58 (6 * t + 154) 1) (w58 74 1) (w 74 1) y3 q60h := by
                        rcases q60x.2.2.2.2.2.2.2.2 with ⟨g1, g2⟩ | ⟨g1, g2, g3, g4, g5⟩ | ⟨g1, g2⟩
                        · exact tuE.ctl g1 (by have := q60x.1; omega) (hDL.2.1 _ g2) g2 (by omega)
                        · refine tuE.exp g2 ?_ (by omega)
                          rw [g3, xp, hnx.2 (by omega)]; have g := (hDL.2.2 (v1 (6 * t + 154) 3)).2.2.2.2.2.2.2.1 (by omega); omega
                        · exact tuE.off g1 (by omega) (fun _ => g2)
                      have htx : w58 74 0 = w 74 0 := by rw [q60f.2, ← hw44, e_up_ne _ _ (by omega)]; exact j17
                      refine e_Ok.inc (z := y4 + 1) rfl rfl (by first | with_reducible rfl | omega) (by omega) ?_
                      show e_Ok 20 elay kcode eI (d + 1) 43 (231, [(4, (0, y4 + 1)), (6, (0, z38)), (5, (0, z33)), (0, (1, 8)), (1, (1, 6 * t + 154)), (2, (1, cd)), (3, (0, y3))], [], w58) _
                      refine e_Ok.ps0 (q := 33) 1 rfl ?_
                      refine e_Ok.sub kAlk (e_sub_of rfl ?_) (ih14 y3 (y4 + 1) w58 q60h ⟨(show e_fr kNq w w58 from e_fr.trans f45 (e_fr.mono q60f.1 (fun c k q => by exact q))), q60T, htx, (Int.le_trans j18 q60x.1), q60x.2.1, q60x.2.2.1, q60x.2.2.2.1, q60x.2.2.2.2.1, htn, (by omega), by omega, by omega⟩ (by omega))
                      exact ⟨rfl, rfl, rfl, rfl, rfl, trivial⟩
                  · replace h50 : (z33 : Int) ≤ 24 := Int.not_lt.mp (show ¬ ((z33 : Int) > 24) from h50)
                    refine e_Ok.ps3 (x := (1, 8)) (y := (0, z33)) (z := (1, 8)) (q := 185) 3 rfl ?_
                    refine e_Ok.callV rfl (e_dq hd rfl) rfl rfl rfl rfl (c_53 hT46 hskp) (fun r62 w63 h64 => ?_)
                    obtain ⟨z66, rfl, q65f, q65T, q65r, q65x⟩ := h64
                    have Q68 := kI.hm Q47 q65T (e_fr.mono q65f (fun c k g => hm_kDs g))
                    refine e_Ok.nrm (q := 188) (st' := [(0, z66), (0, z33), (1, 8)]) rfl rfl ?_
                    refine e_Ok.ps1 (x := (1, 8)) (q := 189) 1 rfl ?_
                    refine e_Ok.callV rfl (e_dq hd rfl) rfl rfl rfl rfl (c_53 q65T q65x) (fun r69 w70 h71 => ?_)
                    obtain ⟨z73, rfl, q72f, q72T, q72r, q72x⟩ := h71
                    have Q75 := kI.hm Q68 q72T (e_fr.mono q72f (fun c k g => hm_kDs g))
                    refine e_Ok.nrm (q := 192) (st' := [(0, z73), (0, z66), (0, z33), (1, 8)]) rfl rfl ?_
                    refine e_Ok.callV rfl (e_dq hd rfl) rfl rfl rfl rfl (c_58 (e_dq hd rfl) q72T (by omega) (by omega) (by omega) q72x) (fun r76 w77 h78 => ?_)
                    obtain ⟨rfl, q79f, q79T, q79x⟩ := h78
                    have Q81 := kI.hm Q75 q79T (e_fr.mono q79f (fun c k g => hm_kDs g))
                    refine e_Ok.nrm (q := 195) (st' := []) rfl rfl ?_
                    refine e_Ok.ps0 (q := 228) 1 rfl ?_
                    have hlt : CL a (v1 (6 * t + 154) 3) ≤ h1 ∧ v1 74 1 ≤ w 74 1 + y3 := j23.lt hs1 (by omega)
                    have z1 : w77 (6 * t + 154) 1 = v1 (6 * t + 154) 1 := ((q79f (6 * t + 154) 1 (by first | exact no_ck_5 (by omega) | (unfold kDs; omega))).trans ((q72f (6 * t + 154) 1 (by first | exact no_ck_5 (by omega) | (unfold kDs; omega))).trans ((q65f (6 * t + 154) 1 (by first | exact no_ck_5 (by omega) | (unfold kDs; omega))).trans (e_uq hw44 (Or.inr (by decide)) rfl))))
                    have z2 : w77 (6 * t + 154) 2 = a := ((q79f (6 * t + 154) 2 (by first | exact no_ck_6 (by omega) | (unfold kDs; omega))).trans ((q72f (6 * t + 154) 2 (by first | exact no_ck_6 (by omega) | (unfold kDs; omega))).trans ((q65f (6 * t + 154) 2 (by first | exact no_ck_6 (by omega) | (unfold kDs; omega))).trans (e_uq hw44 (Or.inr (by decide)) j21))))
                    have z7 : w77 (17 * a + 86) 7 = cd := ((q79f (17 * a + 86) 7 (by first | exact no_ck_7 (by omega) | (unfold kDs; omega))).trans ((q72f (17 * a + 86) 7 (by first | exact no_ck_7 (by omega) | (unfold kDs; omega))).trans ((q65f (17 * a + 86) 7 (by first | exact no_ck_7 (by omega) | (unfold kDs; omega))).trans (e_uq hw44 (Or.inr (by decide)) ((j15 (17 * a + 86) 7 (by first | exact no_ck_8 (by omega) | (unfold kNq; omega))).trans hcv)))))
                    have ze : w77 74 1 = v1 74 1 := ((q79f 74 1 no_ck_9).trans ((q72f 74 1 no_ck_9).trans ((q65f 74 1 no_ck_9).trans (e_uq hw44 (Or.inr (by decide)) rfl))))
                    have zt : w77 74 0 = v1 74 0 := ((q79f 74 0 no_ck_9).trans ((q72f 74 0 no_ck_9).trans ((q65f 74 0 no_ck_9).trans (e_uq hw44 (Or.inr (by decide)) rfl))))
                    have hpc : CL a (w77 (6 * t + 154) 3) ≤ h1 := by rw [show w77 (6 * t + 154) 3 = z43 from ((q79f (6 * t + 154) 3 (by first | exact no_ck_10 (by omega) | (unfold kDs; omega))).trans ((q72f (6 * t + 154) 3 (by first | exact no_ck_10 (by omega) | (unfold kDs; omega))).trans ((q65f (6 * t + 154) 3 (by first | exact no_ck_10 (by omega) | (unfold kDs; omega))).trans (e_ue hw44)))), hnx.2 (by omega)]; have g := (hDL.2.2 (v1 (6 * t + 154) 3)).2.2.2.2.2.1 (by omega); omega
                    have htn : tuE OP CL a (w77 (6 * t + 154) 3) (w77 (6 * t + 154) 1) (w77 74 1) (w 74 1) y3 h1 := tuE.exp (z1.trans hs1) hpc (by omega)
                    refine e_Ok.inc (z := y4 + 1) rfl rfl (by first | with_reducible rfl | omega) (by omega) ?_
                    show e_Ok 20 elay kcode eI (d + 1) 43 (231, [(4, (0, y4 + 1)), (6, (0, z38)), (5, (0, z33)), (0, (1, 8)), (1, (1, 6 * t + 154)), (2, (1, cd)), (3, (0, y3))], [], w77) _
                    refine e_Ok.ps0 (q := 33) 1 rfl ?_
                    refine e_Ok.sub kAlk (e_sub_of rfl ?_) (ih14 y3 (y4 + 1) w77 h1 ⟨(show e_fr kNq w w77 from e_fr.trans (show e_fr kNq w w70 from e_fr.trans (show e_fr kNq w w63 from e_fr.trans f45 (e_fr.mono q65f (fun c k q => by exact nq_kDs q))) (e_fr.mono q72f (fun c k q => by exact nq_kDs q))) (e_fr.mono q79f (fun c k q => by exact nq_kDs q))), q79T, (zt.trans j17), j18, Q81, q79x, z2, z7, htn, (by omega), by omega, by omega⟩ (by omega))
                    exact ⟨rfl, rfl, rfl, rfl, rfl, trivial⟩
                · replace h49 : (z33 : Int) ≤ 13 := Int.not_lt.mp (show ¬ ((z33 : Int) > 13) from h49)
                  refine e_Ok.ps4 (x := (0, z38)) (y := (0, z33)) (z := (1, 6 * t + 154)) (u := (1, 8)) (q := 168) 4 rfl ?_
                  refine e_Ok.callV rfl (e_dq hd rfl) rfl rfl rfl rfl (c_57 (e_dq hd rfl) (t := t) hT46 (by omega) (by omega) (by omega) hskp) (fun r82 w83 h84 => ?_)
                  obtain ⟨rfl, q85f, q85T, q85x⟩ := h84
                  have Q87 := kI.tsx Q47 q85T (by omega) q85f (fun c k g => th_kDp g) (by unfold kDp; omega) xs ((kI.tsx0 Q47 (by omega) xs).eq (fun d k g => q85f _ _ (by unfold kDp; omega)))
                  refine e_Ok.nrm (q := 171) (st' := []) rfl rfl ?_
                  refine e_Ok.ps0 (q := 228) 1 rfl ?_
                  have hlt : CL a (v1 (6 * t + 154) 3) ≤ h1 ∧ v1 74 1 ≤ w 74 1 + y3 := j23.lt hs1 (by omega)
                  have z1 : w83 (6 * t + 154) 1 = v1 (6 * t + 154) 1 := ((q85f (6 * t + 154) 1 (by first | exact no_ck_11 (by omega) | (unfold kDp; omega))).trans (e_uq hw44 (Or.inr (by decide)) rfl))
                  have z2 : w83 (6 * t + 154) 2 = a := ((q85f (6 * t + 154) 2 (by first | exact no_ck_12 (by omega) | (unfold kDp; omega))).trans (e_uq hw44 (Or.inr (by decide)) j21))
                  have z7 : w83 (17 * a + 86) 7 = cd := ((q85f (17 * a + 86) 7 (by first | exact no_ck_13 (by omega) (by omega) | (unfold kDp; omega))).trans (e_uq hw44 (Or.inr (by decide)) ((j15 (17 * a + 86) 7 (by first | exact no_ck_8 (by omega) | (unfold kNq; omega))).trans hcv)))
                  have ze : w83 74 1 = v1 74 1 := ((q85f 74 1 (by first | exact no_ck_14 | (unfold kDp; omega))).trans (e_uq hw44 (Or.inr (by decide)) rfl))
                  have zt : w83 74 0 = v1 74 0 := ((q85f 74 0 (by first | exact no_ck_15 | (unfold kDp; omega))).trans (e_uq hw44 (Or.inr (by decide)) rfl))
                  have hpc : CL a (w83 (6 * t + 154) 3) ≤ h1 := by rcases q85x.2 with g | ⟨g1, g2⟩; (rw [g, xp, hnx.2 (by omega)]; have g := (hDL.2.2 (v1 (6 * t + 154) 3)).2.2.2.2.2.1 (by omega); omega); (rw [g2, q40]; have g := (hDL.2.2 (v1 (6 * t + 154) 3)).2.2.2.2.2.2.1 (by omega); omega)
                  have htn : tuE OP CL a (w83 (6 * t + 154) 3) (w83 (6 * t + 154) 1) (w83 74 1) (w 74 1) y3 h1 := tuE.exp (z1.trans hs1) hpc (by omega)
                  refine e_Ok.inc (z := y4 + 1) rfl rfl (by first | with_reducible rfl | omega) (by omega) ?_
                  show e_Ok 20 elay kcode eI (d + 1) 43 (231, [(4, (0, y4 + 1)), (6, (0, z38)), (5, (0, z33)), (0, (1, 8)), (1, (1, 6 * t + 154)), (2, (1, cd)), (3, (0, y3))], [], w83) _
                  refine e_Ok.ps0 (q := 33) 1 rfl ?_
                  refine e_Ok.sub kAlk (e_sub_of rfl ?_) (ih14 y3 (y4 + 1) w83 h1 ⟨(show e_fr kNq w w83 from e_fr.trans f45 (e_fr.mono q85f (fun c k q => by exact nq_kDp (by omega) q))), q85T, (zt.trans j17), j18, Q87, q85x.1, z2, z7, htn, (by omega), by omega, by omega⟩ (by omega))
                  exact ⟨rfl, rfl, rfl, rfl, rfl, trivial⟩
              · replace h48 : (z33 : Int) ≤ 8 := Int.not_lt.mp (show ¬ ((z33 : Int) > 8) from h48)
                refine e_Ok.ps4 (x := (0, z38)) (y := (0, z33)) (z := (1, 6 * t + 154)) (u := (1, 8)) (q := 149) 4 rfl ?_
                refine e_Ok.callV rfl (e_dq hd rfl) rfl rfl rfl rfl (c_54 (e_dq hd rfl) (t := t) (a := a) hT46 (by omega) (by omega) (by omega) (by omega) hskp xa (fun g => by have g2 := (hDL.2.2 (v1 (6 * t + 154) 3)).1 (by omega); omega)) (fun r88 w89 h90 => ?_)
                obtain ⟨rfl, q91f, q91T, q91x⟩ := h90
                have Q93 := kI.hm Q47 q91T (e_fr.mono q91f (fun c k g => hm_kDs g))
                refine e_Ok.nrm (q := 152) (st' := []) rfl rfl ?_
                refine e_Ok.ps0 (q := 228) 1 rfl ?_
                have hlt : CL a (v1 (6 * t + 154) 3) ≤ h1 ∧ v1 74 1 ≤ w 74 1 + y3 := j23.lt hs1 (by omega)
                have z1 : w89 (6 * t + 154) 1 = v1 (6 * t + 154) 1 := ((q91f (6 * t + 154) 1 (by first | exact no_ck_5 (by omega) | (unfold kDs; omega))).trans (e_uq hw44 (Or.inr (by decide)) rfl))
                have z2 : w89 (6 * t + 154) 2 = a := ((q91f (6 * t + 154) 2 (by first | exact no_ck_6 (by omega) | (unfold kDs; omega))).trans (e_uq hw44 (Or.inr (by decide)) j21))
                have z7 : w89 (17 * a + 86) 7 = cd := ((q91f (17 * a + 86) 7 (by first | exact no_ck_7 (by omega) | (unfold kDs; omega))).trans (e_uq hw44 (Or.inr (by decide)) ((j15 (17 * a + 86) 7 (by first | exact no_ck_8 (by omega) | (unfold kNq; omega))).trans hcv)))
                have ze : w89 74 1 = v1 74 1 := ((q91f 74 1 no_ck_9).trans (e_uq hw44 (Or.inr (by decide)) rfl))
                have zt : w89 74 0 = v1 74 0 := ((q91f 74 0 no_ck_9).trans (e_uq hw44 (Or.inr (by decide)) rfl))
                have hpc : CL a (w89 (6 * t + 154) 3) ≤ h1 := by rw [show w89 (6 * t + 154) 3 = z43 from ((q91f (6 * t + 154) 3 (by first | exact no_ck_10 (by omega) | (unfold kDs; omega))).trans (e_ue hw44)), hnx.2 (by omega)]; have g := (hDL.2.2 (v1 (6 * t + 154) 3)).2.2.2.2.2.1 (by omega); omega
                have htn : tuE OP CL a (w89 (6 * t + 154) 3) (w89 (6 * t + 154) 1) (w89 74 1) (w 74 1) y3 h1 := tuE.exp (z1.trans hs1) hpc (by omega)
                refine e_Ok.inc (z := y4 + 1) rfl rfl (by first | with_reducible rfl | omega) (by omega) ?_
                show e_Ok 20 elay kcode eI (d + 1) 43 (231, [(4, (0, y4 + 1)), (6, (0, z38)), (5, (0, z33)), (0, (1, 8)), (1, (1, 6 * t + 154)), (2, (1, cd)), (3, (0, y3))], [], w89) _
                refine e_Ok.ps0 (q := 33) 1 rfl ?_
                refine e_Ok.sub kAlk (e_sub_of rfl ?_) (ih14 y3 (y4 + 1) w89 h1 ⟨(show e_fr kNq w w89 from e_fr.trans f45 (e_fr.mono q91f (fun c k q => by exact nq_kDs q))), q91T, (zt.trans j17), j18, Q93, q91x, z2, z7, htn, (by omega), by omega, by omega⟩ (by omega))
                exact ⟨rfl, rfl, rfl, rfl, rfl, trivial⟩
            · replace h42 : (z33 : Int) = 50 := Classical.not_not.mp (show ¬ ((z33 : Int) ≠ 50) from h42)
              refine e_Ok.ps2 (x := (0, 20)) (y := (0, y3)) (q := 94) 2 rfl ?_
              refine e_Ok.if2 rfl (fun h94 => ?_) (fun h94 => ?_)
              · replace h94 : (y3 : Int) ≠ 20 := h94
                refine e_Ok.ps3 (x := (1, cd)) (y := (1, 6 * t + 154)) (z := (1, 8)) (q := 101) 3 rfl ?_
                refine e_Ok.callV rfl (e_dq hd rfl) rfl rfl rfl rfl (c_47 (e_dq hd rfl) j16 (by omega) j19 j20 hs1 (by omega) j21 j22 (by omega)) (fun r95 w101 h103 => ?_)
                obtain ⟨z105, rfl, q104f, q104T, q104r, q104x⟩ := h103
                have f106 : e_fr kNq w w101 := e_fr.trans j15 (e_fr.mono q104f (fun c k q => by exact nq_kWc (by omega) q))
                refine e_Ok.nrm (q := 104) (st' := [(0, z105)]) rfl rfl ?_
                refine e_Ok.if1 rfl (fun h107 => ?_) (fun h107 => ?_)
                · replace h107 : (z105 : Int) = 0 := h107
                  have hw3 : w101 (6 * t + 154) 3 = v1 (6 * t + 154) 3 := by rcases q104x.2.2.2.2 with g | g; exact g.2; exact absurd g.1 (by omega)
                  refine e_Ok.inc (z := y3 + 1) rfl rfl (by first | with_reducible rfl | omega) (by omega) ?_
                  show e_Ok 20 elay kcode eI (d + 1) 43 (113, [(3, (0, y3 + 1)), (6, (0, z38)), (5, (0, z33)), (0, (1, 8)), (1, (1, 6 * t + 154)), (2, (1, cd)), (4, (0, y4))], [], w101) _
                  refine e_Ok.ps2 (x := (1, 6 * t + 154)) (y := (1, 6 * t + 154)) (q := 115) 2 rfl ?_
                  refine e_Ok.getf (z := v1 (6 * t + 154) 3) rfl (lT0 (t := t) rfl gt) rfl rfl hw3 (by omega) ?_
                  refine e_Ok.ps1 (x := (0, 1)) (q := 119) 1 rfl ?_
                  refine e_Ok.inc1 rfl (fun z108 z108r hz108 => ?_)
                  have hnx := hcoL.1.nxt j16 (x := v1 (6 * t + 154) 3) (by omega) hz108
                  refine e_Ok.putf rfl (lT0 (t := t) rfl gt) rfl rfl ?_
                  generalize hw109 : e_up w101 (6 * t + 154) 3 z108 = w109
                  have hT111 : e_Has kTy w109 := e_Has.upr q104T hw109 (kT_3 (t := t) rfl gt) (by omega)
                  have Q112 := kI.pc q104x.1 hT111 (by omega) q104x.2.2.1 hw109
                  have hskp : sK w109 := sK.eq (fun c k g => by rw [← hw109, e_up_ne _ _ (by omega)]) q104x.2.1
                  have xp : w109 (6 * t + 154) 3 = z108 := (e_ue hw109)
                  have xs : w109 (6 * t + 154) 1 = 1 := by rw [← hw109, e_up_ne _ _ (by omega)]; exact q104x.2.2.1
                  have xa : w109 (6 * t + 154) 2 = a := by rw [← hw109, e_up_ne _ _ (by omega)]; exact q104x.2.2.2.1
                  have xc : w109 (17 * a + 86) 7 = cd := by rw [← hw109, e_up_ne _ _ (by omega)]; exact (Eq.trans (q104f _ _ (by unfold kWc; omega)) j22)
                  have xv : w109 74 1 = v1 74 1 := by rw [← hw109, e_up_ne _ _ (by omega)]; exact (q104f _ _ (by unfold kWc; omega))
                  refine e_Ok.run (t' := (228, [(3, (0, y3 + 1)), (6, (0, z38)), (5, (0, z33)), (0, (1, 8)), (1, (1, 6 * t + 154)), (2, (1, cd)), (4, (0, y4))], [], w109)) 1 rfl ?_
                  have hpc : CL a (w109 (6 * t + 154) 3) ≤ h1 := by rw [xp, hnx.2 (by omega)]; have g := (hDL.2.2 (v1 (6 * t + 154) 3)).2.2.2.2.2.1 (by omega); omega
                  have htn : tuE OP CL a (w109 (6 * t + 154) 3) (w109 (6 * t + 154) 1) (w109 74 1) (w 74 1) (y3 + 1) h1 := tuE.exp xs hpc (by omega)
                  have htx : w109 74 0 = w 74 0 := by rw [← hw109, e_up_ne _ _ (by omega), q104f _ _ (by unfold kWc; omega)]; exact j17
                  refine e_Ok.inc (z := y4 + 1) rfl rfl (by first | with_reducible rfl | omega) (by omega) ?_
                  show e_Ok 20 elay kcode eI (d + 1) 43 (231, [(4, (0, y4 + 1)), (3, (0, y3 + 1)), (6, (0, z38)), (5, (0, z33)), (0, (1, 8)), (1, (1, 6 * t + 154)), (2, (1, cd))], [], w109) _
                  refine e_Ok.ps0 (q := 33) 1 rfl ?_
                  refine e_Ok.sub kAlk (e_sub_of rfl ?_) (ih14 (y3 + 1) (y4 + 1) w109 h1 ⟨(show e_fr kNq w w109 from e_fr.up f106 hw109 (by first | exact Or.inr (Or.inr (Or.inr (Or.inr (Or.inr (Or.inr (Or.inr (Or.inr (Or.inr (Or.inl ⟨(by omega), (by omega)⟩))))))))) | (unfold kNq; omega))), hT111, htx, j18, Q112, hskp, xa, xc, htn, (by omega), by omega, by omega⟩ (by omega))
                  exact ⟨rfl, rfl, rfl, rfl, rfl, trivial⟩
                · replace h107 : (z105 : Int) ≠ 0 := (show ¬ ((z105 : Int) = 0) from h107)
                  refine e_Ok.ps0 (q := 228) 1 rfl ?_
                  have hcl : 40 ≤ OP a (w101 (6 * t + 154) 3) := by rcases q104x.2.2.2.2 with g | g; exact absurd g.1 (by omega); exact g.2
                  have evx : w101 74 1 = v1 74 1 := q104f _ _ (by unfold kWc; omega)
                  have htx : w101 74 0 = w 74 0 := Eq.trans (q104f _ _ (by unfold kWc; omega)) j17
                  have htn : tuE OP CL a (w101 (6 * t + 154) 3) (w101 (6 * t + 154) 1) (w101 74 1) (w 74 1) y3 h1 := tuE.ctl q104x.2.2.1 (by omega) (hDL.2.1 _ hcl) hcl (by omega)
                  refine e_Ok.inc (z := y4 + 1) rfl rfl (by first | with_reducible rfl | omega) (by omega) ?_
                  show e_Ok 20 elay kcode eI (d + 1) 43 (231, [(4, (0, y4 + 1)), (6, (0, z38)), (5, (0, z33)), (0, (1, 8)), (1, (1, 6 * t + 154)), (2, (1, cd)), (3, (0, y3))], [], w101) _
                  refine e_Ok.ps0 (q := 33) 1 rfl ?_
                  refine e_Ok.sub kAlk (e_sub_of rfl ?_) (ih14 y3 (y4 + 1) w101 h1 ⟨f106, q104T, htx, j18, q104x.1, q104x.2.1, q104x.2.2.2.1, (Eq.trans (q104f _ _ (by unfold kWc; omega)) j22), htn, (by omega), by omega, by omega⟩ (by omega))
                  exact ⟨rfl, rfl, rfl, rfl, rfl, trivial⟩
              · replace h94 : (y3 : Int) = 20 := Classical.not_not.mp (show ¬ ((y3 : Int) ≠ 20) from h94)
                refine e_Ok.rets rfl rfl ?_
                have htl := j23.all
                exact ⟨rfl, j16, ⟨j15, j17⟩, h1, j18, j19.own (fun _ g => by rw [j21]; exact htl.2 g), by omega, by omega⟩
          · replace h41 : (v1 8 11 : Int) ≠ 0 := (show ¬ ((v1 8 11 : Int) = 0) from h41)
            refine e_Ok.ps3 (x := (1, cd)) (y := (1, 6 * t + 154)) (z := (1, 8)) (q := 78) 3 rfl ?_
            refine e_Ok.callV rfl (e_dq hd rfl) rfl rfl rfl rfl (c_44 (e_dq hd rfl) j16 (by omega) j19 j20 hs1 (by omega) j21 j22 (by omega) (by omega)) (fun r113 w114 h115 => ?_)
            obtain ⟨rfl, q116f, q116T, q116x⟩ := h115
            refine e_Ok.nrm (q := 81) (st' := []) rfl rfl ?_
            refine e_Ok.ps0 (q := 228) 1 rfl ?_
            have htn : tuE OP CL a (w114 (6 * t + 154) 3) (w114 (6 * t + 154) 1) (w114 74 1) (w 74 1) y3 h1 := by rcases q116x.2.2.2.2.2 with ⟨g1, g2, g3⟩ | g1; (exact tuE.ctl g1 (by omega) (hDL.2.1 _ g2) g2 (by omega)); (exact tuE.off (by rw [g1]; decide) (by have := q116x.2.2.2; omega) (fun g => by omega))
            have hcx : w114 (17 * a + 86) 7 = cd := Eq.trans (q116f _ _ (by unfold kLe; omega)) j22
            have htx : w114 74 0 = w 74 0 := Eq.trans (q116f _ _ (by unfold kLe; omega)) j17
            refine e_Ok.inc (z := y4 + 1) rfl rfl (by first | with_reducible rfl | omega) (by omega) ?_
            show e_Ok 20 elay kcode eI (d + 1) 43 (231, [(4, (0, y4 + 1)), (6, (0, z38)), (5, (0, z33)), (0, (1, 8)), (1, (1, 6 * t + 154)), (2, (1, cd)), (3, (0, y3))], [], w114) _
            refine e_Ok.ps0 (q := 33) 1 rfl ?_
            refine e_Ok.sub kAlk (e_sub_of rfl ?_) (ih14 y3 (y4 + 1) w114 h1 ⟨(show e_fr kNq w w114 from e_fr.trans j15 (e_fr.mono q116f (fun c k q => by exact nq_kLe (by omega) (by omega) q))), q116T, htx, j18, q116x.1, q116x.2.1, q116x.2.2.1, hcx, htn, (by have := q116x.2.2.2; omega), by omega, by omega⟩ (by omega))
            exact ⟨rfl, rfl, rfl, rfl, rfl, trivial⟩
  refine e_Ok.sub kAlk (e_sub_of rfl ?_) (hL13 (1000000 + 1 : Int).toNat 0 0 w9 h ⟨(show e_fr kNq w w9 from e_fr.trans (show e_fr kNq w w4 from e_fr.up (show e_fr kNq w w1 from e_fr.up (e_fr.refl w) hw1 (by first | exact Or.inr (Or.inr (Or.inr (Or.inr (Or.inl ⟨rfl, (by decide)⟩)))) | (unfold kNq; omega))) hw4 (by first | exact Or.inr (Or.inr (Or.inr (Or.inr (Or.inl ⟨rfl, (by decide)⟩)))) | (unfold kNq; omega))) (e_fr.mono q11f (fun c k q => by exact nq_kGn (by omega) q))), q11T, xt, Int.le_refl h, q11x.1, q11x.2, x2, x7, (show tuE OP CL a (w9 (6 * t + 154) 3) (w9 (6 * t + 154) 1) (w9 74 1) (w 74 1) 0 h from by rw [x3, xe]; exact ⟨fun _ => ⟨hcol, Or.inr (by omega)⟩, fun _ => ⟨by omega, fun _ => hcol⟩⟩), by omega, by omega, by omega⟩ (by omega))
  exact ⟨rfl, rfl, rfl, rfl, rfl, trivial⟩
end
end
-- part cl
section
noncomputable section
/-! the class: trip -/
section Kl
variable {w w' : eW} {OP OD CL : Int → Int → Int} {h t0 : Int}
/-- power alone changes -/
theorem kI.pw1 (q : kI w OP OD CL h t0) (hT : e_Has kTy w') (f : ∀ c k, ¬ (c = 74 ∧ k = 3) → w' c k = w c k) (hW : w' 74 3 = 0 → ∀ a, 0 ≤ a → a ≤ 3 → a < w' 0 11 → w' (17 * a + 86) 11 = 0) : kI w' OP OD CL h t0 := by
  have hB := q.bel
  have hc := q.cd
  obtain ⟨q1, q2, q3, q4, q5, q6, q7, q8, q9⟩ := q
  have f' : e_fr (fun c k => c = 74 ∧ k = 3) w w' := fun c k g => f c k g
  refine ⟨hT, fun a g1 g2 => ?_, q3.fr f' (fun c k g1 g2 => by omega) (fun k => by omega) (by omega) (by omega), q4.fr f' (fun k => by omega), q5.fr f' (by omega) (fun k => by omega), hW, q7.eq (fun c k g => f c k (by unfold dC at g; omega)), fun j g1 g2 g3 => ?_, fun t g1 g2 => ?_⟩
  · exact (q2 a g1 g2).eq (kn_joints q1 ⟨g1, g2⟩).2 (fun c k g => f c k (by unfold dA at g; omega))
  · rw [f _ _ (by omega)]
    exact q8 j g1 g2 g3
  · exact (q9 t g1 g2).eq ⟨g1, g2⟩ q1 hc (fun c k g => f c k (by unfold dT dC at g; omega))
theorem kTy.pup (hT : e_Has kTy w) : e_Has kTy (e_up w 74 3 1) := e_Has.upr hT rfl (show kTy 74 3 = (0, 1) from rfl) (by decide)
theorem kI.pup (q : kI w OP OD CL h t0) : kI (e_up w 74 3 1) OP OD CL h t0 := q.pw1 (kTy.pup q.1) (fun c k g => e_up_ne _ _ (by omega)) (fun g => by rw [e_up_eq] at g; exact absurd g (by decide))
theorem kI.pdn (q : kI (e_up w 74 3 1) OP OD CL h t0) (hT : e_Has kTy w) (hz : ∀ a, 0 ≤ a → a ≤ 3 → a < w 0 11 → w (17 * a + 86) 11 = 0) : kI w OP OD CL h t0 := q.pw1 hT (fun c k g => (e_up_ne _ _ (by omega)).symm) (fun _ => hz)
/-- the arm a stands, power aside -/
theorem kI.std {a : Int} (q : kI (e_up w 74 3 1) OP OD CL h t0) (hT : e_Has kTy w') (ha : 0 ≤ a ∧ a ≤ 3) (hL : lgK w') (f : e_fr (fun c k => (c = 74 ∧ k = 1) ∨ c = 75 ∨ (154 ≤ c ∧ c ≤ 249 ∧ (c - 154) % 6 = 0 ∧ k = 10) ∨ (c = 17 * a + 86 ∧ (k = 11 ∨ k = 13 ∨ k = 18)) ∨ (17 * a + 97 ≤ c ∧ c ≤ 17 * a + 102 ∧ k = 8)) w w') (h1 : w' (17 * a + 86) 11 = 0) (h2 : w' (17 * a + 86) 18 = -1) (h3 : ∀ i, 0 ≤ i → i < 6 → w' (17 * a + i + 97) 8 = 0) : kI (e_up w' 74 3 1) OP OD CL h t0 := by
  have hn := (kn_joints q.1 ha).2
  have e : ∀ c k, ¬ (c = 74 ∧ k = 3) → e_up w' 74 3 1 c k = w' c k := fun c k g => e_up_ne _ _ (by omega)
  have e0 : ∀ c k, ¬ (c = 74 ∧ k = 3) → e_up w 74 3 1 c k = w c k := fun c k g => e_up_ne _ _ (by omega)
  have hA : aR (e_up w' 74 3 1) a := by
    refine (q.2.1 a ha.1 ha.2).stand ha hn (fun c k g1 g2 g3 => ?_) (by rw [e _ _ (by omega)]; exact h1) (by rw [e _ _ (by omega)]; exact h2) (fun i g1 g2 => by rw [e _ _ (by omega)]; exact h3 i g1 g2)
    unfold dA at g1
    rw [e _ _ (by omega), e0 _ _ (by omega)]
    exact f c k (by omega)
  refine kI.ar q (kTy.pup hT) ha (fun c k g => ?_) ?_ hA (fun g => by rw [e_up_eq] at g; exact absurd g (by decide))
  · by_cases g2 : c = 74 ∧ k = 3
    · rw [g2.1, g2.2, e_up_eq, e_up_eq]
    · rw [e _ _ g2, e0 _ _ g2]
      refine f c k (fun g3 => g ?_)
      unfold kAh
      rcases g3 with g3 | g3 | g3 | g3 | g3
      · exact Or.inr (Or.inl g3)
      · exact Or.inr (Or.inr (Or.inl g3))
      · refine Or.inl ?_
        unfold kHm
        simp only [g3.1, g3.2.1, g3.2.2.1, g3.2.2.2]
        simp
      · exact Or.inr (Or.inr (Or.inr (Or.inl ⟨g3.1, by omega⟩)))
      · exact Or.inr (Or.inr (Or.inr (Or.inr (Or.inr ⟨g3.1, g3.2.1⟩))))
  · exact hL.fr (S := fun c k => c = 74 ∧ k = 3) (fun c k g => e c k g) (by omega) (fun k => by omega)
end Kl
theorem no_cl_0 {a : Int} (ha : 0 ≤ a ∧ a ≤ 3) : ¬ kSt a (17 * a + 86) 0 := by unfold kSt; omega
theorem c_17_b {d : Nat} {w : eW} (hT : e_Has kTy w) {a : Int} (g_a : 0 ≤ a ∧ a ≤ 3) : e_Ok 20 elay kcode eI d 17 (0, [(0, (1, 17 * a + 86))], [], w) (fun r w' => r = [] ∧ e_fr (kSt a) w w' ∧ e_Has kTy w' ∧ w' (17 * a + 86) 11 = 0 ∧ (∀ i, 0 ≤ i → i < 6 → w' (17 * a + i + 97) 8 = 0) ∧ w' (17 * a + 86) 18 = -1) := by
  refine e_Ok.ps2 (x := (0, 0)) (y := (1, 17 * a + 86)) (q := 2) 2 rfl ?_
  refine e_Ok.putf rfl (lA0 (a := a) rfl g_a) rfl rfl ?_
  generalize hw1 : e_up w (17 * a + 86) 11 0 = w1
  have hT3 : e_Has kTy w1 := e_Has.upr hT hw1 (kA_11 (a := a) rfl g_a) (by omega)
  refine e_Ok.ps2 (x := (0, (-1))) (y := (1, 17 * a + 86)) (q := 7) 2 rfl ?_
  refine e_Ok.putf rfl (lA0 (a := a) rfl g_a) rfl rfl ?_
  generalize hw4 : e_up w1 (17 * a + 86) 13 (-1) = w4
  have hT6 : e_Has kTy w4 := e_Has.upr hT3 hw4 (kA_13 (a := a) rfl g_a) (by omega)
  refine e_Ok.ps2 (x := (0, (-1))) (y := (1, 17 * a + 86)) (q := 12) 2 rfl ?_
  refine e_Ok.putf rfl (lA0 (a := a) rfl g_a) rfl rfl ?_
  generalize hw7 : e_up w4 (17 * a + 86) 18 (-1) = w7
  have hT9 : e_Has kTy w7 := e_Has.upr hT6 hw7 (kA_18 (a := a) rfl g_a) (by omega)
  refine e_Ok.run (t' := (17, [(1, (0, 0)), (0, (1, 17 * a + 86))], [], w7)) 2 rfl ?_
  have hL10 : ∀ (nn : Nat) (y1 : Int) (v1 : eW), e_fr (kSt a) w v1 ∧ e_Has kTy v1 ∧ (∀ i, 0 ≤ i → i < y1 → v1 (17 * a + i + 97) 8 = 0) ∧ v1 (17 * a + 86) 11 = 0 ∧ v1 (17 * a + 86) 18 = -1 ∧ (0 ≤ y1 ∧ y1 ≤ 6) → 6 - y1 < nn → e_Ok 20 elay kcode eI d 17 (17, [(0, (1, 17 * a + 86)), (1, (0, y1))], [], v1) (fun r w' => r = [] ∧ e_fr (kSt a) w w' ∧ e_Has kTy w' ∧ w' (17 * a + 86) 11 = 0 ∧ (∀ i, 0 ≤ i → i < 6 → w' (17 * a + i + 97) 8 = 0) ∧ w' (17 * a + 86) 18 = -1) := by
    intro nn
    induction nn with
    | zero => intro y1 v1 hj hm; obtain ⟨j12, j13, j14, j15, j16, j17⟩ := hj; exfalso; omega
    | succ nn ih11 =>
      intro y1 v1 hj hm
      obtain ⟨j12, j13, j14, j15, j16, j17⟩ := hj
      refine e_Ok.run (t' := (20, [(0, (1, 17 * a + 86)), (1, (0, y1))], [(0, 6), (0, y1)], v1)) 2 rfl ?_
      refine e_Ok.if2 rfl (fun h18 => ?_) (fun h18 => ?_)
      · replace h18 : (y1 : Int) ≥ 6 := h18
        refine e_Ok.rets rfl rfl ?_
        exact ⟨rfl, j12, j13, j15, fun i g1 g2 => j14 i g1 (by omega), j16⟩
      · replace h18 : (y1 : Int) < 6 := Int.not_le.mp (show ¬ ((y1 : Int) ≥ 6) from h18)
        refine e_Ok.ps1 (x := (1, 17 * a + 86)) (q := 24) 1 rfl ?_
        refine e_Ok.getr (z := 17 * a + 87) rfl (lA0 (a := a) rfl g_a) rfl rfl ((j12 (17 * a + 86) 0 (by first | exact no_cl_0 (by omega) | (unfold kSt; omega))).trans (Eq.trans (e_Has.eq hT (kA_0 (a := a) rfl g_a)) (by omega))) (by omega) ?_
        refine e_Ok.ps1 (x := (0, y1)) (q := 28) 1 rfl ?_
        refine e_Ok.aald (z := 17 * a + y1 + 97) rfl (lA1 (a := a) rfl g_a) rfl (by omega) ((j12 (17 * a + 87) y1 (by unfold kSt; omega)).trans (Eq.trans (e_Has.eq hT (kA87 (a := a) rfl g_a (by omega))) (by omega))) (by omega) ?_
        refine e_Ok.ps1 (x := (0, 0)) (q := 30) 1 rfl ?_
        refine e_Ok.putf rfl (lJ (a := a) (j := y1) (by omega) (by omega) (by omega)) rfl rfl ?_
        generalize hw19 : e_up v1 (17 * a + y1 + 97) 8 0 = w19
        have hT21 : e_Has kTy w19 := e_Has.upr j13 hw19 (kJ_8 (a := a) (j := y1) (by omega) (by omega) (by omega)) (by omega)
        refine e_Ok.inc (z := y1 + 1) rfl rfl (by first | with_reducible rfl | omega) (by omega) ?_
        show e_Ok 20 elay kcode eI d 17 (36, [(1, (0, y1 + 1)), (0, (1, 17 * a + 86))], [], w19) _
        refine e_Ok.ps0 (q := 17) 1 rfl ?_
        refine e_Ok.sub kAlk (e_sub_of rfl ?_) (ih11 (y1 + 1) w19 ⟨(show e_fr (kSt a) w w19 from e_fr.up j12 hw19 (by unfold kSt; omega)), hT21, (fun i g1 g2 => by rw [← hw19]; by_cases e : i = y1; (rw [e]; exact e_up_eq _ _ _ _); (rw [e_up_ne _ _ (Or.inl (by omega))]; exact j14 i g1 (by omega))), (e_uq hw19 (Or.inl (by omega)) j15), (e_uq hw19 (Or.inl (by omega)) j16), by omega⟩ (by omega))
        exact ⟨rfl, rfl, trivial⟩
  refine e_Ok.sub kAlk (e_sub_of rfl ?_) (hL10 (6 + 1 : Int).toNat 0 w7 ⟨(show e_fr (kSt a) w w7 from e_fr.up (show e_fr (kSt a) w w4 from e_fr.up (show e_fr (kSt a) w w1 from e_fr.up (e_fr.refl w) hw1 (by first | exact Or.inl ⟨(by omega), Or.inl rfl⟩ | (unfold kSt; omega))) hw4 (by first | exact Or.inl ⟨(by omega), Or.inr (Or.inl rfl)⟩ | (unfold kSt; omega))) hw7 (by first | exact Or.inl ⟨(by omega), Or.inr (Or.inr rfl)⟩ | (unfold kSt; omega))), hT9, (fun i g1 g2 => by omega), (show w7 (17 * a + 86) 11 = 0 from (e_uq hw7 (Or.inr (by omega)) (e_uq hw4 (Or.inr (by omega)) (e_ue hw1)))), (show w7 (17 * a + 86) 18 = -1 from (e_ue hw7)), by omega⟩ (by omega))
  exact ⟨rfl, rfl, trivial⟩
theorem no_cl_1 {k : Int} : ¬ kNq 0 k := by unfold kNq; omega
theorem no_cl_2 {k : Int} : ¬ kNq 9 k := by unfold kNq; omega
theorem no_cl_3 {a : Int} : ¬ kBk a 0 2 := by unfold kBk; omega
set_option maxHeartbeats 4000000 in
theorem c_265 {d : Nat} (hd : 23 ≤ d) {w : eW} (hT : e_Has kTy w) {kd nb : Int} (g_kd : -2147483648 ≤ kd ∧ kd ≤ 2147483647) (g_nb : -2147483648 ≤ nb ∧ nb ≤ 2147483647) {OP OD CL : Int → Int → Int} {h t0 : Int} (q : kI w OP OD CL h t0) (he : w 74 1 ≤ 2147000000) : e_Ok 20 elay kcode eI d 265 (0, [(0, (1, 0)), (1, (0, kd)), (2, (0, nb))], [], w) (fun r w' => r = [] ∧ e_Has kTy w' ∧ (e_fr kNq w w' ∧ w' 74 0 = w 74 0) ∧ kI w' OP OD CL h t0 ∧ w' 74 3 = 0 ∧ w 74 1 ≤ w' 74 1 ∧ w' 74 1 ≤ w 74 1 + 5) := by
  obtain ⟨d, rfl⟩ : ∃ e, d = e + 1 := ⟨d - 1, by omega⟩
  have h74 := e_Has.get hT (c := 74) (k := 1) (lo := 0) (hi := 2147483647) (kt_o rfl) (by decide)
  have hac := e_Has.get hT (c := 0) (k := 11) (lo := 0) (hi := 4) (kt_o rfl) (by decide)
  refine e_Ok.ps1 (x := (1, 0)) (q := 1) 1 rfl ?_
  refine e_Ok.getr (z := 74) rfl (el_o rfl) rfl rfl (e_Has.eq hT (kt_o rfl)) ⟨by decide, by decide⟩ ?_
  refine e_Ok.ps2 (x := (0, nb)) (y := (0, kd)) (q := 6) 2 rfl ?_
  refine e_Ok.callV rfl (e_dq hd rfl) rfl rfl rfl rfl (c_34 (e_dq hd rfl) hT (by omega) (by omega) (by omega)) (fun r1 w2 h3 => ?_)
  obtain ⟨rfl, q4f, q4T, q4x⟩ := h3
  have hLt := q4x.1.2 q.lgk
  have hu0 : kI (e_up w2 74 3 1) OP OD CL h t0 := by
    refine kI.lg (kI.pup q) (kTy.pup q4T) (fun c k g => ?_) (hLt.fr (S := fun c k => c = 74 ∧ k = 3) (fun c k g => e_up_ne _ _ (by omega)) (by omega) (fun k => by omega))
    by_cases g2 : c = 74 ∧ k = 3
    · rw [g2.1, g2.2, e_up_eq, e_up_eq]
    · rw [e_up_ne _ _ (by omega), e_up_ne _ _ (by omega)]
      refine q4f c k (fun g3 => g ?_)
      unfold kCt at g3
      rcases g3 with g3 | g3
      · by_cases g4 : k = 1
        · exact Or.inr (Or.inl ⟨g3.1, g4⟩)
        · refine Or.inl ?_
          unfold kHm
          have g5 : 4 ≤ k := by omega
          simp [g3.1, g5]
      · exact Or.inr (Or.inr g3)
  have evt := q4x.1.1; have pw0 := q4x.2
  show e_Ok 20 elay kcode eI (d + 1) 265 (9, [(0, (1, 0)), (1, (0, kd)), (2, (0, nb))], [], w2) _
  refine e_Ok.run (t' := (11, [(3, (0, 0)), (0, (1, 0)), (1, (0, kd)), (2, (0, nb))], [], w2)) 2 rfl ?_
  have hL6 : ∀ (nn : Nat) (y3 : Int) (v1 : eW), e_fr kNq w v1 ∧ e_Has kTy v1 ∧ kI (e_up v1 74 3 1) OP OD CL h t0 ∧ lgK v1 ∧ (∀ i, 0 ≤ i → i < y3 → v1 (17 * i + 86) 11 = 0) ∧ ((w 74 1 ≤ v1 74 1 ∧ v1 74 1 ≤ w 74 1 + 1 + y3)) ∧ v1 74 3 = 0 ∧ v1 74 0 = w 74 0 ∧ v1 0 11 = w 0 11 ∧ (0 ≤ y3 ∧ y3 ≤ 4) → 4 - y3 < nn → e_Ok 20 elay kcode eI (d + 1) 265 (11, [(0, (1, 0)), (3, (0, y3))], [], v1) (fun r w' => r = [] ∧ e_Has kTy w' ∧ (e_fr kNq w w' ∧ w' 74 0 = w 74 0) ∧ kI w' OP OD CL h t0 ∧ w' 74 3 = 0 ∧ w 74 1 ≤ w' 74 1 ∧ w' 74 1 ≤ w 74 1 + 5) := by
    intro nn
    induction nn with
    | zero => intro y3 v1 hj hm; obtain ⟨j8, j9, j10, j11, j12, j13, j14, j15, j16, j17⟩ := hj; exfalso; omega
    | succ nn ih7 =>
      intro y3 v1 hj hm
      obtain ⟨j8, j9, j10, j11, j12, j13, j14, j15, j16, j17⟩ := hj
      refine e_Ok.run (t' := (13, [(0, (1, 0)), (3, (0, y3))], [(1, 0), (0, y3)], v1)) 2 rfl ?_
      have h18 := (e_Has.get hT (c := 0) (k := 11) (lo := 0) (hi := 4) (kt_o rfl) (by decide))
      refine e_Ok.getf (z := w 0 11) rfl (el_o rfl) rfl rfl ((j8 0 11 no_cl_1).trans rfl) (e_bq h18 (by decide) (by decide)) ?_
      refine e_Ok.if2 rfl (fun h19 => ?_) (fun h19 => ?_)
      · replace h19 : (y3 : Int) ≥ w 0 11 := h19
        refine e_Ok.rets rfl rfl ?_
        exact ⟨rfl, j9, ⟨j8, j15⟩, kI.pdn j10 j9 (fun i g1 g2 g3 => j12 i g1 (by omega)), j14, by omega, by omega⟩
      · replace h19 : (y3 : Int) < w 0 11 := Int.not_le.mp (show ¬ ((y3 : Int) ≥ w 0 11) from h19)
        refine e_Ok.ps1 (x := (1, 0)) (q := 20) 1 rfl ?_
        refine e_Ok.getr (z := 9) rfl (el_o rfl) rfl rfl ((j8 0 2 no_cl_1).trans (e_Has.eq hT (kt_o rfl))) ⟨by decide, by decide⟩ ?_
        refine e_Ok.ps1 (x := (0, y3)) (q := 24) 1 rfl ?_
        refine e_Ok.aald (z := 17 * y3 + 86) rfl (el_o rfl) rfl (by omega) ((j8 9 y3 no_cl_2).trans (Eq.trans (e_Has.eq hT (k9 (by omega))) (by omega))) (by omega) ?_
        have h20 := (e_Has.get j9 (c := 17 * y3 + 86) (k := 11) (lo := 0) (hi := 2) (kA_11 (a := y3) (by omega) (by omega)) (by decide))
        refine e_Ok.getf (z := v1 (17 * y3 + 86) 11) rfl (lA0 (a := y3) (by omega) (by omega)) rfl rfl rfl (e_bq h20 (by decide) (by decide)) ?_
        refine e_Ok.ps1 (x := (0, 1)) (q := 29) 1 rfl ?_
        refine e_Ok.if2 rfl (fun h21 => ?_) (fun h21 => ?_)
        · replace h21 : (v1 (17 * y3 + 86) 11 : Int) ≠ 1 := h21
          refine e_Ok.ps1 (x := (1, 0)) (q := 41) 1 rfl ?_
          refine e_Ok.getr (z := 9) rfl (el_o rfl) rfl rfl ((j8 0 2 no_cl_1).trans (e_Has.eq hT (kt_o rfl))) ⟨by decide, by decide⟩ ?_
          refine e_Ok.ps1 (x := (0, y3)) (q := 45) 1 rfl ?_
          refine e_Ok.aald (z := 17 * y3 + 86) rfl (el_o rfl) rfl (by omega) ((j8 9 y3 no_cl_2).trans (Eq.trans (e_Has.eq hT (k9 (by omega))) (by omega))) (by omega) ?_
          refine e_Ok.callV rfl (e_dq hd rfl) rfl (lA0 (a := y3) (by omega) (by omega)) rfl rfl (c_17_b (a := y3) j9 (by omega)) (fun r22 w23 h24 => ?_)
          obtain ⟨rfl, q25f, q25T, q25x⟩ := h24
          refine e_Ok.nrm (q := 49) (st' := []) rfl rfl ?_
          have fB : e_fr (fun c k => (c = 74 ∧ k = 1) ∨ c = 75 ∨ (154 ≤ c ∧ c ≤ 249 ∧ (c - 154) % 6 = 0 ∧ k = 10) ∨ (c = 17 * y3 + 86 ∧ (k = 11 ∨ k = 13 ∨ k = 18)) ∨ (17 * y3 + 97 ≤ c ∧ c ≤ 17 * y3 + 102 ∧ k = 8)) v1 w23 := fun c k g => q25f c k (by unfold kSt; omega)
          have hLb : lgK w23 := j11.fr q25f (by unfold kSt; omega) (fun k => by unfold kSt; omega)
          have evb : w23 74 1 = v1 74 1 := q25f _ _ (by unfold kSt; omega)
          have hub := kI.std j10 q25T (a := y3) (by omega) hLb fB q25x.1 q25x.2.2 q25x.2.1
          have hzb : ∀ i, 0 ≤ i → i < y3 + 1 → w23 (17 * i + 86) 11 = 0 := fun i g1 g2 => by
            by_cases e : i = y3
            · rw [e]; exact q25x.1
            · rw [fB _ _ (by omega)]; exact j12 i g1 (by omega)
          refine e_Ok.inc (z := y3 + 1) rfl rfl (by first | with_reducible rfl | omega) (by omega) ?_
          show e_Ok 20 elay kcode eI (d + 1) 265 (52, [(3, (0, y3 + 1)), (0, (1, 0))], [], w23) _
          refine e_Ok.ps0 (q := 11) 1 rfl ?_
          refine e_Ok.sub kAlk (e_sub_of rfl ?_) (ih7 (y3 + 1) w23 ⟨(show e_fr kNq w w23 from e_fr.trans j8 (e_fr.mono q25f (fun c k q => by exact nq_kSt (by omega) q))), q25T, hub, hLb, hzb, (by omega), ((fB _ _ (by omega)).trans j14), ((fB _ _ (by omega)).trans j15), ((fB _ _ (by omega)).trans j16), by omega⟩ (by omega))
          exact ⟨rfl, rfl, trivial⟩
        · replace h21 : (v1 (17 * y3 + 86) 11 : Int) = 1 := Classical.not_not.mp (show ¬ ((v1 (17 * y3 + 86) 11 : Int) ≠ 1) from h21)
          refine e_Ok.ps1 (x := (1, 0)) (q := 33) 1 rfl ?_
          refine e_Ok.getr (z := 8) rfl (el_o rfl) rfl rfl ((j8 0 1 no_cl_1).trans (e_Has.eq hT (kt_o rfl))) ⟨by decide, by decide⟩ ?_
          refine e_Ok.ps1 (x := (0, y3)) (q := 37) 1 rfl ?_
          refine e_Ok.callV rfl (e_dq hd rfl) rfl rfl rfl rfl (c_41 (e_dq hd rfl) j9 (by omega) (by omega)) (fun r27 w28 h29 => ?_)
          obtain ⟨rfl, q30f, q30T, q30x⟩ := h29
          refine e_Ok.nrm (q := 40) (st' := []) rfl rfl ?_
          refine e_Ok.ps1 (x := (1, 0)) (q := 41) 1 rfl ?_
          refine e_Ok.getr (z := 9) rfl (el_o rfl) rfl rfl ((q30f 0 2 (by first | exact no_cl_3 | (unfold kBk; omega))).trans ((j8 0 2 no_cl_1).trans (e_Has.eq hT (kt_o rfl)))) ⟨by decide, by decide⟩ ?_
          refine e_Ok.ps1 (x := (0, y3)) (q := 45) 1 rfl ?_
          refine e_Ok.aald (z := 17 * y3 + 86) rfl (el_o rfl) rfl (by omega) ((q30f 9 y3 (by unfold kBk; omega)).trans ((j8 9 y3 no_cl_2).trans (Eq.trans (e_Has.eq hT (k9 (by omega))) (by omega)))) (by omega) ?_
          refine e_Ok.callV rfl (e_dq hd rfl) rfl (lA0 (a := y3) (by omega) (by omega)) rfl rfl (c_17_b (a := y3) q30T (by omega)) (fun r32 w33 h34 => ?_)
          obtain ⟨rfl, q35f, q35T, q35x⟩ := h34
          refine e_Ok.nrm (q := 49) (st' := []) rfl rfl ?_
          have fB : e_fr (fun c k => (c = 74 ∧ k = 1) ∨ c = 75 ∨ (154 ≤ c ∧ c ≤ 249 ∧ (c - 154) % 6 = 0 ∧ k = 10) ∨ (c = 17 * y3 + 86 ∧ (k = 11 ∨ k = 13 ∨ k = 18)) ∨ (17 * y3 + 97 ≤ c ∧ c ≤ 17 * y3 + 102 ∧ k = 8)) v1 w33 := fun c k g => by rw [q35f c k (by unfold kSt; omega)]; exact q30f c k (by unfold kBk; omega)
          have hLb : lgK w33 := (q30x.1.2 j11).fr q35f (by unfold kSt; omega) (fun k => by unfold kSt; omega)
          have evb : w33 74 1 = v1 74 1 + 1 := by rw [q35f _ _ (by unfold kSt; omega)]; exact q30x.1.1
          have hub := kI.std j10 q35T (a := y3) (by omega) hLb fB q35x.1 q35x.2.2 q35x.2.1
          have hzb : ∀ i, 0 ≤ i → i < y3 + 1 → w33 (17 * i + 86) 11 = 0 := fun i g1 g2 => by
            by_cases e : i = y3
            · rw [e]; exact q35x.1
            · rw [fB _ _ (by omega)]; exact j12 i g1 (by omega)
          refine e_Ok.inc (z := y3 + 1) rfl rfl (by first | with_reducible rfl | omega) (by omega) ?_
          show e_Ok 20 elay kcode eI (d + 1) 265 (52, [(3, (0, y3 + 1)), (0, (1, 0))], [], w33) _
          refine e_Ok.ps0 (q := 11) 1 rfl ?_
          refine e_Ok.sub kAlk (e_sub_of rfl ?_) (ih7 (y3 + 1) w33 ⟨(show e_fr kNq w w33 from e_fr.trans (show e_fr kNq w w28 from e_fr.trans j8 (e_fr.mono q30f (fun c k q => by exact nq_kBk (by omega) q))) (e_fr.mono q35f (fun c k q => by exact nq_kSt (by omega) q))), q35T, hub, hLb, hzb, (by omega), ((fB _ _ (by omega)).trans j14), ((fB _ _ (by omega)).trans j15), ((fB _ _ (by omega)).trans j16), by omega⟩ (by omega))
          exact ⟨rfl, rfl, trivial⟩
  refine e_Ok.sub kAlk (e_sub_of rfl ?_) (hL6 (4 + 1 : Int).toNat 0 w2 ⟨(show e_fr kNq w w2 from e_fr.trans (e_fr.refl w) (e_fr.mono q4f (fun c k q => by exact nq_kCt q))), q4T, hu0, hLt, (fun i g1 g2 => by omega), (by omega), pw0, (q4f _ _ (by unfold kCt; omega)), (q4f _ _ (by unfold kCt; omega)), by omega⟩ (by omega))
  exact ⟨rfl, rfl, trivial⟩
end
end
-- part cm
section
noncomputable section
/-! the class: excuse, halt, steps of ways -/
section Km
variable {w w' : eW} {OP OD CL : Int → Int → Int} {h t0 : Int}
/-- a task is excused -/
theorem kI.exc {t : Int} (q : kI w OP OD CL h t0) (hT : e_Has kTy w') (ht : 0 ≤ t ∧ t ≤ 15) (hw : e_up w (6 * t + 154) 1 6 = w') : kI w' OP OD CL h t0 := by
  have e1 : w' (6 * t + 154) 1 = 6 := by rw [← hw]; exact e_up_eq _ _ _ _
  refine kI.tk q hT ht (fun c k g => by rw [← hw]; exact e_up_ne _ _ (by by_cases g2 : c = 6 * t + 154; exact Or.inr (fun g3 => g (Or.inr (by omega))); exact Or.inl g2)) (fun s _ g => g) ⟨⟨fun _ g => by omega, fun g => by omega, fun g => by omega⟩, fun _ g => by omega⟩
end Km
theorem c_38 {d : Nat} {w : eW} (hT : e_Has kTy w) {a : Int} (ga : 0 ≤ a ∧ a ≤ 3) {OP OD CL : Int → Int → Int} {h t0 : Int} (q : kI w OP OD CL h t0) : e_Ok 20 elay kcode eI d 38 (0, [(0, (1, 8)), (1, (0, a))], [], w) (fun r w' => ∃ z : Int, r = [(0, z)] ∧ e_Has kTy w' ∧ (e_fr kNq w w' ∧ w' 74 0 = w 74 0 ∧ w' 74 1 = w 74 1) ∧ kI w' OP OD CL h t0) := by
  refine e_Ok.ps1 (x := (1, 8)) (q := 1) 1 rfl ?_
  refine e_Ok.getr (z := 9) rfl (el_o rfl) rfl rfl (e_Has.eq hT (kt_o rfl)) ⟨by decide, by decide⟩ ?_
  refine e_Ok.ps1 (x := (0, a)) (q := 5) 1 rfl ?_
  refine e_Ok.aald (z := 17 * a + 86) rfl (el_o rfl) rfl (by omega) (Eq.trans (e_Has.eq hT (k9 (by omega))) (by omega)) (by omega) ?_
  have h1 := (e_Has.get hT (c := 17 * a + 86) (k := 16) (lo := (-1)) (hi := 15) (kA_16 (a := a) rfl ga) (by decide))
  refine e_Ok.getf (z := w (17 * a + 86) 16) rfl (lA0 (a := a) rfl ga) rfl rfl rfl (e_bq h1 (by decide) (by decide)) ?_
  refine e_Ok.run (t' := (11, [(2, (0, w (17 * a + 86) 16)), (0, (1, 8)), (1, (0, a))], [(0, w (17 * a + 86) 16)], w)) 2 rfl ?_
  refine e_Ok.if1 rfl (fun h2 => ?_) (fun h2 => ?_)
  · replace h2 : (w (17 * a + 86) 16 : Int) ≥ 0 := h2
    refine e_Ok.ps1 (x := (1, 8)) (q := 18) 1 rfl ?_
    refine e_Ok.getr (z := 82) rfl (el_o rfl) rfl rfl (e_Has.eq hT (kt_o rfl)) ⟨by decide, by decide⟩ ?_
    refine e_Ok.ps1 (x := (0, w (17 * a + 86) 16)) (q := 22) 1 rfl ?_
    refine e_Ok.aald (z := 6 * w (17 * a + 86) 16 + 154) rfl (el_o rfl) rfl (by omega) (Eq.trans (e_Has.eq hT (k82 (by omega))) (by omega)) (by omega) ?_
    refine e_Ok.ps1 (x := (0, 6)) (q := 25) 1 rfl ?_
    refine e_Ok.putf rfl (lT0 (t := (w (17 * a + 86) 16)) (by omega) (by omega)) rfl rfl ?_
    generalize hw3 : e_up w (6 * w (17 * a + 86) 16 + 154) 1 6 = w3
    have hT5 : e_Has kTy w3 := e_Has.upr hT hw3 (kT_1 (t := (w (17 * a + 86) 16)) (by omega) (by omega)) (by omega)
    refine e_Ok.ps1 (x := (1, 8)) (q := 29) 1 rfl ?_
    refine e_Ok.getr (z := 9) rfl (el_o rfl) rfl rfl (e_uq hw3 (Or.inr (by decide)) (e_Has.eq hT (kt_o rfl))) ⟨by decide, by decide⟩ ?_
    refine e_Ok.ps1 (x := (0, a)) (q := 33) 1 rfl ?_
    refine e_Ok.aald (z := 17 * a + 86) rfl (el_o rfl) rfl (by omega) (e_uq hw3 (Or.inl (by omega)) (Eq.trans (e_Has.eq hT (k9 (by omega))) (by omega))) (by omega) ?_
    refine e_Ok.ps1 (x := (0, (-1))) (q := 35) 1 rfl ?_
    refine e_Ok.putf rfl (lA0 (a := a) rfl ga) rfl rfl ?_
    generalize hw6 : e_up w3 (17 * a + 86) 16 (-1) = w6
    have hT8 : e_Has kTy w6 := e_Has.upr hT5 hw6 (kA_16 (a := a) rfl ga) (by omega)
    refine e_Ok.ps1 (x := (0, w (17 * a + 86) 16)) (q := 39) 1 rfl ?_
    refine e_Ok.rets rfl rfl ?_
    have Q1 := kI.exc q hT5 (by omega) hw3
    have Q2 := kI.hu Q1 hT8 hw6 (hm_a (by omega) (by omega))
    exact ⟨_, rfl, hT8, ⟨(show e_fr kNq w w6 from e_fr.up (show e_fr kNq w w3 from e_fr.up (e_fr.refl w) hw3 (by unfold kNq; omega)) hw6 (by unfold kNq; omega)), (e_uq hw6 (Or.inr (by first | decide | omega)) (e_uq hw3 (Or.inr (by first | decide | omega)) rfl)), (e_uq hw6 (Or.inr (by first | decide | omega)) (e_uq hw3 (Or.inl (by omega)) rfl))⟩, Q2⟩
  · replace h2 : (w (17 * a + 86) 16 : Int) < 0 := Int.not_le.mp (show ¬ ((w (17 * a + 86) 16 : Int) ≥ 0) from h2)
    refine e_Ok.ps1 (x := (0, (-2))) (q := 16) 1 rfl ?_
    refine e_Ok.rets rfl rfl ?_
    exact ⟨_, rfl, hT, ⟨e_fr.refl w, rfl, rfl⟩, q⟩
theorem c_257 {d : Nat} (hd : 24 ≤ d) {w : eW} (hT : e_Has kTy w) {a : Int} (ga : -1 ≤ a ∧ a ≤ 3) {OP OD CL : Int → Int → Int} {h t0 : Int} (q : kI w OP OD CL h t0) (he : w 74 1 ≤ 2147000000) : e_Ok 20 elay kcode eI d 257 (0, [(0, (1, 0)), (1, (0, a))], [], w) (fun r w' => ∃ z : Int, r = [(0, z)] ∧ e_Has kTy w' ∧ (e_fr kNq w w' ∧ w' 74 0 = w 74 0) ∧ kI w' OP OD CL h t0 ∧ w 74 1 ≤ w' 74 1 ∧ w' 74 1 ≤ w 74 1 + 5) := by
  obtain ⟨d, rfl⟩ : ∃ e, d = e + 1 := ⟨d - 1, by omega⟩
  have h74 := e_Has.get hT (c := 74) (k := 1) (lo := 0) (hi := 2147483647) (kt_o rfl) (by decide)
  refine e_Ok.ps1 (x := (0, a)) (q := 1) 1 rfl ?_
  refine e_Ok.if1 rfl (fun h1 => ?_) (fun h1 => ?_)
  · replace h1 : (a : Int) ≥ 0 := h1
    refine e_Ok.ps1 (x := (1, 0)) (q := 13) 1 rfl ?_
    refine e_Ok.getr (z := 9) rfl (el_o rfl) rfl rfl (e_Has.eq hT (kt_o rfl)) ⟨by decide, by decide⟩ ?_
    refine e_Ok.ps1 (x := (0, a)) (q := 17) 1 rfl ?_
    refine e_Ok.aald (z := 17 * a + 86) rfl (el_o rfl) rfl (by omega) (Eq.trans (e_Has.eq hT (k9 (by omega))) (by omega)) (by omega) ?_
    have h2 := (e_Has.get hT (c := 17 * a + 86) (k := 11) (lo := 0) (hi := 2) (kA_11 (a := a) (by omega) (by omega)) (by decide))
    refine e_Ok.getf (z := w (17 * a + 86) 11) rfl (lA0 (a := a) (by omega) (by omega)) rfl rfl rfl (e_bq h2 (by decide) (by decide)) ?_
    refine e_Ok.run (t' := (23, [(2, (0, w (17 * a + 86) 11)), (0, (1, 0)), (1, (0, a))], [(1, 0)], w)) 2 rfl ?_
    refine e_Ok.getr (z := 8) rfl (el_o rfl) rfl rfl (e_Has.eq hT (kt_o rfl)) ⟨by decide, by decide⟩ ?_
    refine e_Ok.ps1 (x := (0, a)) (q := 27) 1 rfl ?_
    refine e_Ok.callV rfl (e_dq hd rfl) rfl rfl rfl rfl (c_40 (e_dq hd rfl) hT (by omega) q (by omega)) (fun r3 w4 h5 => ?_)
    obtain ⟨rfl, q6f, q6T, q6x⟩ := h5
    refine e_Ok.nrm (q := 30) (st' := []) rfl rfl ?_
    refine e_Ok.ps1 (x := (0, w (17 * a + 86) 11)) (q := 31) 1 rfl ?_
    refine e_Ok.rets rfl rfl ?_
    exact ⟨_, rfl, q6T, ⟨(show e_fr kNq w w4 from e_fr.trans (e_fr.refl w) (e_fr.mono q6f (fun c k q => by exact nq_kBa (by omega) q))), q6f _ _ (by unfold kBa; omega)⟩, q6x.1, by have g := q6x.2; omega, by have g := q6x.2; omega⟩
  · replace h1 : (a : Int) < 0 := Int.not_le.mp (show ¬ ((a : Int) ≥ 0) from h1)
    refine e_Ok.ps3 (x := (0, 0)) (y := (0, 4)) (z := (1, 0)) (q := 7) 3 rfl ?_
    refine e_Ok.callV rfl (e_dq hd rfl) rfl rfl rfl rfl (c_265 (e_dq hd rfl) hT (by omega) (by omega) q (by omega)) (fun r8 w9 h10 => ?_)
    obtain ⟨rfl, q11T, q11f, q11x⟩ := h10
    refine e_Ok.nrm (q := 10) (st' := []) rfl rfl ?_
    refine e_Ok.ps1 (x := (0, 0)) (q := 11) 1 rfl ?_
    refine e_Ok.rets rfl rfl ?_
    exact ⟨_, rfl, q11T, q11f, q11x.1, by have g := q11x.2.2; omega, by have g := q11x.2.2; omega⟩
theorem c_95 {d : Nat} (hd : 21 ≤ d) {w : eW} (hT : e_Has kTy w) {y : Int} (g_y : (-1) ≤ y ∧ y ≤ 59) {m : Int} (hy : 0 ≤ y → yD w m y) : e_Ok 20 elay kcode eI d 95 (0, [(0, (1, 262)), (1, (0, y))], [], w) (fun r w' => ∃ z : Int, r = [(0, z)] ∧ w = w' ∧ (0 ≤ z ∧ z ≤ 1000) ∧ ((0 ≤ y → z = w 270 y) ∧ (y < 0 → z = 0))) := by
  obtain ⟨d, rfl⟩ : ∃ e, d = e + 1 := ⟨d - 1, by omega⟩
  have hy1 : 0 ≤ y → 0 ≤ w 270 y ∧ w 270 y ≤ 1000 := fun g => (hy g).1
  refine e_Ok.ps3 (x := (0, 59)) (y := (0, 0)) (z := (0, y)) (q := 4) 3 rfl ?_
  refine e_Ok.callS rfl (e_dq hd rfl) rfl rfl (c_242 (by omega) (by omega) (by omega)) (fun r1 w2 h3 => ?_)
  obtain ⟨z4, rfl, rfl, q5⟩ := h3
  obtain ⟨rfl, q5⟩ | ⟨rfl, q5⟩ := q5
  · refine e_Ok.nrm (q := 7) (st' := [(0, 1)]) rfl rfl ?_
    refine e_Ok.if1 rfl (fun h6 => ?_) (fun h6 => ?_)
    · replace h6 : (1 : Int) = 0 := h6
      exfalso; omega
    · replace h6 : (1 : Int) ≠ 0 := (show ¬ ((1 : Int) = 0) from h6)
      refine e_Ok.ps1 (x := (1, 262)) (q := 11) 1 rfl ?_
      refine e_Ok.getr (z := 270) rfl (el_o rfl) rfl rfl (e_Has.eq hT (kt_o rfl)) ⟨by decide, by decide⟩ ?_
      refine e_Ok.ps1 (x := (0, y)) (q := 15) 1 rfl ?_
      refine e_Ok.ald (z := w 270 y) rfl (el_o rfl) rfl (by omega) rfl (by omega) ?_
      refine e_Ok.ps0 (q := 20) 1 rfl ?_
      refine e_Ok.rets rfl rfl ?_
      exact ⟨_, rfl, rfl, ⟨by omega, by omega⟩, by omega⟩
  · refine e_Ok.nrm (q := 7) (st' := [(0, 0)]) rfl rfl ?_
    refine e_Ok.if1 rfl (fun h7 => ?_) (fun h7 => ?_)
    · replace h7 : (0 : Int) = 0 := h7
      refine e_Ok.ps1 (x := (0, 0)) (q := 20) 1 rfl ?_
      refine e_Ok.rets rfl rfl ?_
      exact ⟨_, rfl, rfl, ⟨by omega, by omega⟩, by omega⟩
    · replace h7 : (0 : Int) ≠ 0 := (show ¬ ((0 : Int) = 0) from h7)
      exfalso; omega
theorem c_96 {d : Nat} (hd : 22 ≤ d) {w : eW} (hT : e_Has kTy w) {y j : Int} (g_y : (-1) ≤ y ∧ y ≤ 59) (g_j : (-1) ≤ j ∧ j ≤ 100000) {m : Int} (hy : 0 ≤ y → yD w m y) (hm : m ≤ 6) : e_Ok 20 elay kcode eI d 96 (0, [(0, (1, 262)), (1, (0, y)), (2, (0, j))], [], w) (fun r w' => ∃ z : Int, r = [(0, z)] ∧ w = w' ∧ ((-1) ≤ z ∧ z ≤ 11) ∧ ((0 ≤ y → 0 ≤ j → j < w 270 y → z = w 269 (1000 * y + j) ∧ 0 ≤ z ∧ z < 2 * m) ∧ ((y < 0 ∨ j < 0 ∨ w 270 y ≤ j) → z = -1))) := by
  obtain ⟨d, rfl⟩ : ∃ e, d = e + 1 := ⟨d - 1, by omega⟩
  refine e_Ok.ps4 (x := (0, y)) (y := (1, 262)) (z := (0, 0)) (u := (0, j)) (q := 4) 4 rfl ?_
  refine e_Ok.callV rfl (e_dq hd rfl) rfl rfl rfl rfl (c_95 (e_dq hd rfl) hT (by omega) hy) (fun r1 w2 h3 => ?_)
  obtain ⟨z5, rfl, rfl, q4r, q4x⟩ := h3
  refine e_Ok.nrm (q := 7) (st' := [(0, z5), (0, 0), (0, j)]) rfl rfl ?_
  refine e_Ok.ps1 (x := (0, 1)) (q := 8) 1 rfl ?_
  refine e_Ok.sub' (z := z5 - 1) rfl rfl (by omega) ?_
  refine e_Ok.callS rfl (e_dq hd rfl) rfl rfl (c_242 (by omega) (by omega) (by omega)) (fun r6 w7 h8 => ?_)
  obtain ⟨z9, rfl, rfl, q10⟩ := h8
  obtain ⟨rfl, q10⟩ | ⟨rfl, q10⟩ := q10
  · refine e_Ok.nrm (q := 12) (st' := [(0, 1)]) rfl rfl ?_
    refine e_Ok.if1 rfl (fun h11 => ?_) (fun h11 => ?_)
    · replace h11 : (1 : Int) = 0 := h11
      exfalso; omega
    · replace h11 : (1 : Int) ≠ 0 := (show ¬ ((1 : Int) = 0) from h11)
      have hq := (hy (by omega)).2.2 j (by omega) (by omega)
      have hm2 := hm
      refine e_Ok.ps1 (x := (1, 262)) (q := 16) 1 rfl ?_
      refine e_Ok.getr (z := 269) rfl (el_o rfl) rfl rfl (e_Has.eq hT (kt_o rfl)) ⟨by decide, by decide⟩ ?_
      refine e_Ok.ps2 (x := (0, 1000)) (y := (0, y)) (q := 23) 2 rfl ?_
      refine e_Ok.mul (z := 1000 * y) rfl (Int.mul_comm _ _) (by omega) ?_
      refine e_Ok.ps1 (x := (0, j)) (q := 25) 1 rfl ?_
      refine e_Ok.add (z := 1000 * y + j) rfl rfl (by omega) ?_
      refine e_Ok.ald (z := w 269 (1000 * y + j)) rfl (el_o rfl) rfl (by omega) rfl (by omega) ?_
      refine e_Ok.ps0 (q := 31) 1 rfl ?_
      refine e_Ok.rets rfl rfl ?_
      exact ⟨_, rfl, rfl, ⟨by omega, by omega⟩, by omega⟩
  · refine e_Ok.nrm (q := 12) (st' := [(0, 0)]) rfl rfl ?_
    refine e_Ok.if1 rfl (fun h12 => ?_) (fun h12 => ?_)
    · replace h12 : (0 : Int) = 0 := h12
      refine e_Ok.ps1 (x := (0, (-1))) (q := 31) 1 rfl ?_
      refine e_Ok.rets rfl rfl ?_
      exact ⟨_, rfl, rfl, ⟨by omega, by omega⟩, by omega⟩
    · replace h12 : (0 : Int) ≠ 0 := (show ¬ ((0 : Int) = 0) from h12)
      exfalso; omega
end
end
-- part cn
section
noncomputable section
/-! the class: an arm goes on -/
theorem no_cn_0 {a : Int} (ha : 0 ≤ a ∧ a ≤ 3) : ¬ kGo a (17 * a + 86) 8 := by unfold kGo; omega
theorem no_cn_1 {a : Int} (ha : 0 ≤ a ∧ a ≤ 3) : ¬ kGo a (17 * a + 86) 11 := by unfold kGo; omega
theorem no_cn_2 {a : Int} (ha : 0 ≤ a ∧ a ≤ 3) : ¬ kGo a (17 * a + 86) 0 := by unfold kGo; omega
theorem su_cn_3 {a : Int} {c k : Int} (q : kPl a c k) : kGo a c k := by
  unfold kPl at q
  rcases q with ⟨(q | q), q⟩
  · exact Or.inr (Or.inr ⟨Or.inl (by omega), (by omega)⟩)
  · exact Or.inr (Or.inr ⟨Or.inr (by omega), (by omega)⟩)
theorem c_14_b {d : Nat} (hd : 23 ≤ d) {w : eW} (hT : e_Has kTy w) {a : Int} (g_a : 0 ≤ a ∧ a ≤ 3) (kx : aK w a) (ht : kn1 (w (17 * a + 86) 12)) (hst : w (17 * a + 86) 11 = 1 ∨ w (17 * a + 86) 11 = 2) (hm : aMs w a (w (17 * a + 86) 8) (w (17 * a + 86) 11)) : e_Ok 20 elay kcode eI d 14 (0, [(0, (1, 17 * a + 86))], [], w) (fun r w' => ∃ z : Int, r = [(0, z)] ∧ e_fr (kGo a) w w' ∧ e_Has kTy w' ∧ (0 ≤ z ∧ z ≤ 1) ∧ (aMs w' a (w (17 * a + 86) 8) (w (17 * a + 86) 11) ∧ aK w' a ∧ (z = 0 → ∀ i, 0 ≤ i → i < w (17 * a + 86) 8 → w' (17 * a + i + 97) 7 = w (17 * a + i + 97) 7) ∧ kn1 (w' (17 * a + 86) 12) ∧ (aP w a → aP w' a))) := by
  obtain ⟨d, rfl⟩ : ∃ e, d = e + 1 := ⟨d - 1, by omega⟩
  have hjn := kn_joints hT (a := a) (by omega)
  have ht0 := ht
  unfold kn1 at ht
  refine e_Ok.run (t' := (4, [(1, (0, 0)), (0, (1, 17 * a + 86))], [(1, 17 * a + 86), (1, 17 * a + 86)], w)) 4 rfl ?_
  refine e_Ok.getf (z := w (17 * a + 86) 12) rfl (lA0 (a := a) rfl g_a) rfl rfl rfl (by omega) ?_
  refine e_Ok.ps1 (x := (0, 1)) (q := 8) 1 rfl ?_
  refine e_Ok.any rfl (eF_add_any _ _) (fun z1 z1a z1b => ?_)
  refine e_Ok.putf rfl (lA0 (a := a) rfl g_a) rfl rfl ?_
  generalize hw2 : e_up w (17 * a + 86) 12 z1 = w2
  have f3 : e_fr (kGo a) w w2 := e_fr.up (e_fr.refl w) hw2 (by first | exact Or.inl ⟨(by omega), rfl⟩ | (unfold kGo; omega))
  have l4 : w2 (17 * a + 86) 8 = w (17 * a + 86) 8 := f3 (17 * a + 86) 8 (by first | exact no_cn_0 (by omega) | (unfold kGo; omega))
  have l5 : w2 (17 * a + 86) 11 = w (17 * a + 86) 11 := f3 (17 * a + 86) 11 (by first | exact no_cn_1 (by omega) | (unfold kGo; omega))
  have hT6 : e_Has kTy w2 := e_Has.ups hT hw2 (kA_12 (a := a) rfl g_a)
  refine e_Ok.run (t' := (14, [(2, (0, 0)), (1, (0, 0)), (0, (1, 17 * a + 86))], [], w2)) 2 rfl ?_
  have hL7 : ∀ (nn : Nat) (y1 : Int) (y2 : Int) (v1 : eW), e_fr (kGo a) w v1 ∧ e_Has kTy v1 ∧ aMs v1 a (w (17 * a + 86) 8) (w (17 * a + 86) 11) ∧ aK v1 a ∧ (y1 = 0 → ∀ i, 0 ≤ i → i < w (17 * a + 86) 8 → v1 (17 * a + i + 97) 7 = w (17 * a + i + 97) 7) ∧ kn1 (v1 (17 * a + 86) 12) ∧ (∀ k, v1 (17 * a + 88) k = w (17 * a + 88) k ∧ v1 (17 * a + 89) k = w (17 * a + 89) k) ∧ (0 ≤ y1 ∧ y1 ≤ 1) ∧ (0 ≤ y2 ∧ y2 ≤ 6) → 6 - y2 < nn → e_Ok 20 elay kcode eI (d + 1) 14 (14, [(0, (1, 17 * a + 86)), (1, (0, y1)), (2, (0, y2))], [], v1) (fun r w' => ∃ z : Int, r = [(0, z)] ∧ e_fr (kGo a) w w' ∧ e_Has kTy w' ∧ (0 ≤ z ∧ z ≤ 1) ∧ (aMs w' a (w (17 * a + 86) 8) (w (17 * a + 86) 11) ∧ aK w' a ∧ (z = 0 → ∀ i, 0 ≤ i → i < w (17 * a + 86) 8 → w' (17 * a + i + 97) 7 = w (17 * a + i + 97) 7) ∧ kn1 (w' (17 * a + 86) 12) ∧ (aP w a → aP w' a))) := by
    intro nn
    induction nn with
    | zero => intro y1 y2 v1 hj hm; obtain ⟨j9, j10, j11, j12, j13, j14, j15, j16, j17⟩ := hj; exfalso; omega
    | succ nn ih8 =>
      intro y1 y2 v1 hj hm
      obtain ⟨j9, j10, j11, j12, j13, j14, j15, j16, j17⟩ := hj
      have l18 : v1 (17 * a + 86) 8 = w (17 * a + 86) 8 := j9 (17 * a + 86) 8 (by first | exact no_cn_0 (by omega) | (unfold kGo; omega))
      have l19 : v1 (17 * a + 86) 11 = w (17 * a + 86) 11 := j9 (17 * a + 86) 11 (by first | exact no_cn_1 (by omega) | (unfold kGo; omega))
      refine e_Ok.run (t' := (16, [(0, (1, 17 * a + 86)), (1, (0, y1)), (2, (0, y2))], [(1, 17 * a + 86), (0, y2)], v1)) 2 rfl ?_
      have h20 := (e_Has.get hT (c := 17 * a + 86) (k := 8) (lo := 0) (hi := 6) (kA_8 (a := a) rfl g_a) (by decide))
      refine e_Ok.getf (z := w (17 * a + 86) 8) rfl (lA0 (a := a) rfl g_a) rfl rfl ((j9 (17 * a + 86) 8 (by first | exact no_cn_0 (by omega) | (unfold kGo; omega))).trans rfl) (e_bq h20 (by decide) (by decide)) ?_
      refine e_Ok.if2 rfl (fun h21 => ?_) (fun h21 => ?_)
      · replace h21 : (y2 : Int) ≥ w (17 * a + 86) 8 := h21
        refine e_Ok.ps1 (x := (0, y1)) (q := 89) 1 rfl ?_
        refine e_Ok.if1 rfl (fun h22 => ?_) (fun h22 => ?_)
        · replace h22 : (y1 : Int) = 0 := h22
          refine e_Ok.ps1 (x := (0, y1)) (q := 97) 1 rfl ?_
          refine e_Ok.retb rfl (by omega) ?_
          exact ⟨_, rfl, j9, j10, ⟨by omega, by omega⟩, ⟨j11, j12, fun _ i g1 g2 => j13 (by omega) i g1 g2, j14, fun g => aP.same (by omega) j9 hT j10 (fun i g1 g2 => j13 (by omega) i g1 g2) j15 g⟩⟩
        · replace h22 : (y1 : Int) ≠ 0 := (show ¬ ((y1 : Int) = 0) from h22)
          refine e_Ok.ps1 (x := (1, 17 * a + 86)) (q := 93) 1 rfl ?_
          refine e_Ok.callV rfl (e_dq hd rfl) rfl (lA0 (a := a) rfl g_a) rfl rfl (c_10_p (e_dq hd rfl) (a := a) j10 (by omega) (j12.1 0 (by omega) (by omega)) (j12.2 0 (by omega) (by omega))) (fun r23 w24 h25 => ?_)
          obtain ⟨rfl, q26f, q26T, q26x, q26p⟩ := h25
          have f27 : e_fr (kGo a) w w24 := e_fr.trans j9 (e_fr.mono q26f (fun c k q => by first | exact su_cn_3 q | (unfold kPl at q; unfold kGo; omega)))
          have l28 : w24 (17 * a + 86) 8 = w (17 * a + 86) 8 := f27 (17 * a + 86) 8 (by first | exact no_cn_0 (by omega) | (unfold kGo; omega))
          have l29 : w24 (17 * a + 86) 11 = w (17 * a + 86) 11 := f27 (17 * a + 86) 11 (by first | exact no_cn_1 (by omega) | (unfold kGo; omega))
          refine e_Ok.nrm (q := 96) (st' := []) rfl rfl ?_
          refine e_Ok.ps1 (x := (0, y1)) (q := 97) 1 rfl ?_
          refine e_Ok.retb rfl (by omega) ?_
          exact ⟨_, rfl, f27, q26T, ⟨by omega, by omega⟩, ⟨fun i g1 g2 => by have e : ∀ k, w24 (17 * a + i + 97) k = v1 (17 * a + i + 97) k := fun k => q26f _ _ (by unfold kPl; omega); have q := j11 i g1 g2; unfold jC jM at q ⊢; simp only [e]; exact q, q26x, fun g => absurd g (by omega), by rw [q26f _ _ (by unfold kPl; omega)]; exact j14, fun _ => q26p⟩⟩
      · replace h21 : (y2 : Int) < w (17 * a + 86) 8 := Int.not_le.mp (show ¬ ((y2 : Int) ≥ w (17 * a + 86) 8) from h21)
        refine e_Ok.ps1 (x := (1, 17 * a + 86)) (q := 23) 1 rfl ?_
        refine e_Ok.getr (z := 17 * a + 87) rfl (lA0 (a := a) rfl g_a) rfl rfl ((j9 (17 * a + 86) 0 (by first | exact no_cn_2 (by omega) | (unfold kGo; omega))).trans (Eq.trans (e_Has.eq hT (kA_0 (a := a) rfl g_a)) (by omega))) (by omega) ?_
        refine e_Ok.ps1 (x := (0, y2)) (q := 27) 1 rfl ?_
        refine e_Ok.aald (z := 17 * a + y2 + 97) rfl (lA1 (a := a) rfl g_a) rfl (by omega) ((j9 (17 * a + 87) y2 (by unfold kGo; omega)).trans (Eq.trans (e_Has.eq hT (kA87 (a := a) rfl g_a (by omega))) (by omega))) (by omega) ?_
        refine e_Ok.run (t' := (29, [(3, (1, 17 * a + y2 + 97)), (0, (1, 17 * a + 86)), (1, (0, y1)), (2, (0, y2))], [], v1)) 1 rfl ?_
        have hq := j11 y2 (by omega) (by omega)
        have hqc := hq.1; have hqm := hq.2; unfold jC at hqc; unfold jM joOk at hqm
        have hqt := e_Has.get j10 (c := 17 * a + y2 + 97) (k := 8) (lo := -2000) (hi := 2000) (kJ_8 (a := a) (j := y2) (by omega) (by omega) (by omega)) (by decide)
        have hqv := hqm.1; have hqg := hqm.2.2.1; clear hqm
        refine e_Ok.ps2 (x := (1, 17 * a + 86)) (y := (1, 17 * a + y2 + 97)) (q := 31) 2 rfl ?_
        have h30 := (e_Has.get hT (c := 17 * a + 86) (k := 11) (lo := 0) (hi := 2) (kA_11 (a := a) rfl g_a) (by decide))
        refine e_Ok.getf (z := w (17 * a + 86) 11) rfl (lA0 (a := a) rfl g_a) rfl rfl ((j9 (17 * a + 86) 11 (by first | exact no_cn_1 (by omega) | (unfold kGo; omega))).trans rfl) (e_bq h30 (by decide) (by decide)) ?_
        refine e_Ok.ps1 (x := (0, 2)) (q := 35) 1 rfl ?_
        refine e_Ok.if2 rfl (fun h31 => ?_) (fun h31 => ?_)
        · replace h31 : (w (17 * a + 86) 11 : Int) ≠ 2 := h31
          refine e_Ok.ps1 (x := (1, 17 * a + y2 + 97)) (q := 46) 1 rfl ?_
          refine e_Ok.callV rfl (e_dq hd rfl) rfl (lJ (a := a) (j := y2) (by omega) (by omega) (by omega)) rfl rfl (c_90 (e_dq hd rfl) (a := a) (j := y2) j10 (by omega) (by omega) (g := v1 (17 * a + y2 + 97) 6) (by omega) rfl (v := v1 (17 * a + y2 + 97) 7) (s := v1 (17 * a + y2 + 97) 8) (go := v1 (17 * a + y2 + 97) 9) (sp := v1 (17 * a + y2 + 97) 5) (by omega) (by have := hqg (by omega); omega) (by omega) (by omega) rfl rfl rfl rfl) (fun r32 w33 h34 => ?_)
          obtain ⟨z35, rfl, rfl, q36r, q36d⟩ := h34
          clear hqg
          refine e_Ok.nrm (q := 49) (st' := [(0, z35), (1, 17 * a + y2 + 97)]) rfl rfl ?_
          refine e_Ok.putf rfl (lJ (a := a) (j := y2) (by omega) (by omega) (by omega)) rfl rfl ?_
          generalize hw37 : e_up v1 (17 * a + y2 + 97) 8 z35 = w37
          have f38 : e_fr (kGo a) w w37 := e_fr.up j9 hw37 (by unfold kGo; omega)
          have l40 : w37 (17 * a + 86) 8 = w (17 * a + 86) 8 := f38 (17 * a + 86) 8 (by first | exact no_cn_0 (by omega) | (unfold kGo; omega))
          have l41 : w37 (17 * a + 86) 11 = w (17 * a + 86) 11 := f38 (17 * a + 86) 11 (by first | exact no_cn_1 (by omega) | (unfold kGo; omega))
          have hT42 : e_Has kTy w37 := e_Has.upr j10 hw37 (kJ_8 (a := a) (j := y2) (by omega) (by omega) (by omega)) (by omega)
          refine e_Ok.ps2 (x := (1, 17 * a + y2 + 97)) (y := (1, 17 * a + y2 + 97)) (q := 54) 2 rfl ?_
          refine e_Ok.getf (z := v1 (17 * a + y2 + 97) 7) rfl (lJ (a := a) (j := y2) (by omega) (by omega) (by omega)) rfl rfl (e_uq hw37 (Or.inr (by decide)) rfl) (by omega) ?_
          refine e_Ok.ps1 (x := (1, 17 * a + y2 + 97)) (q := 58) 1 rfl ?_
          refine e_Ok.getf (z := z35) rfl (lJ (a := a) (j := y2) (by omega) (by omega) (by omega)) rfl rfl (e_ue hw37) (by omega) ?_
          refine e_Ok.add (z := v1 (17 * a + y2 + 97) 7 + z35) rfl rfl (by omega) ?_
          refine e_Ok.putf rfl (lJ (a := a) (j := y2) (by omega) (by omega) (by omega)) rfl rfl ?_
          generalize hw43 : e_up w37 (17 * a + y2 + 97) 7 (v1 (17 * a + y2 + 97) 7 + z35) = w43
          have f44 : e_fr (kGo a) w w43 := e_fr.up f38 hw43 (by unfold kGo; omega)
          have l45 : w43 (17 * a + 86) 8 = w (17 * a + 86) 8 := f44 (17 * a + 86) 8 (by first | exact no_cn_0 (by omega) | (unfold kGo; omega))
          have l46 : w43 (17 * a + 86) 11 = w (17 * a + 86) 11 := f44 (17 * a + 86) 11 (by first | exact no_cn_1 (by omega) | (unfold kGo; omega))
          have hT47 : e_Has kTy w43 := e_Has.upr hT42 hw43 (kJ_7 (a := a) (j := y2) (by omega) (by omega) (by omega)) (by omega)
          refine e_Ok.ps1 (x := (0, y1)) (q := 66) 1 rfl ?_
          refine e_Ok.if1 rfl (fun h48 => ?_) (fun h48 => ?_)
          · replace h48 : (y1 : Int) ≠ 0 := h48
            refine e_Ok.run (t' := (82, [(1, (0, 1)), (3, (1, 17 * a + y2 + 97)), (0, (1, 17 * a + 86)), (2, (0, y2))], [], w43)) 3 rfl ?_
            refine e_Ok.inc (z := y2 + 1) rfl rfl (by first | with_reducible rfl | omega) (by omega) ?_
            show e_Ok 20 elay kcode eI (d + 1) 14 (85, [(2, (0, y2 + 1)), (1, (0, 1)), (3, (1, 17 * a + y2 + 97)), (0, (1, 17 * a + 86))], [], w43) _
            refine e_Ok.ps0 (q := 14) 1 rfl ?_
            refine e_Ok.sub kAlk (e_sub_of rfl ?_) (ih8 1 (y2 + 1) w43 ⟨f44, hT47, (fun i g1 g2 => if e : i = y2 then by rw [e]; exact jq.step hq hw37 hw43 (by omega) (Or.inl ⟨by omega, q36d⟩) else jq.oth (jq.oth (j11 i g1 g2) hw37 (by omega)) hw43 (by omega)), (aK.up (aK.up j12 hw37 (by omega) (by omega) (by omega)) hw43 (by omega) (by omega) (by omega)), (fun g => absurd g (by decide)), (by rw [← hw43, e_up_ne _ _ (by omega), ← hw37, e_up_ne _ _ (by omega)]; exact j14), (fun k => ⟨by rw [← hw43, e_up_ne _ _ (by omega), ← hw37, e_up_ne _ _ (by omega)]; exact (j15 k).1, by rw [← hw43, e_up_ne _ _ (by omega), ← hw37, e_up_ne _ _ (by omega)]; exact (j15 k).2⟩), by omega, by omega⟩ (by omega))
            exact ⟨rfl, rfl, rfl, trivial⟩
          · replace h48 : (y1 : Int) = 0 := Classical.not_not.mp (show ¬ ((y1 : Int) ≠ 0) from h48)
            refine e_Ok.ps1 (x := (1, 17 * a + y2 + 97)) (q := 70) 1 rfl ?_
            refine e_Ok.getf (z := z35) rfl (lJ (a := a) (j := y2) (by omega) (by omega) (by omega)) rfl rfl (e_uq hw43 (Or.inr (by decide)) (e_ue hw37)) (by omega) ?_
            refine e_Ok.if1 rfl (fun h49 => ?_) (fun h49 => ?_)
            · replace h49 : (z35 : Int) = 0 := h49
              refine e_Ok.run (t' := (82, [(1, (0, 0)), (3, (1, 17 * a + y2 + 97)), (0, (1, 17 * a + 86)), (2, (0, y2))], [], w43)) 2 rfl ?_
              refine e_Ok.inc (z := y2 + 1) rfl rfl (by first | with_reducible rfl | omega) (by omega) ?_
              show e_Ok 20 elay kcode eI (d + 1) 14 (85, [(2, (0, y2 + 1)), (1, (0, 0)), (3, (1, 17 * a + y2 + 97)), (0, (1, 17 * a + 86))], [], w43) _
              refine e_Ok.ps0 (q := 14) 1 rfl ?_
              refine e_Ok.sub kAlk (e_sub_of rfl ?_) (ih8 0 (y2 + 1) w43 ⟨f44, hT47, (fun i g1 g2 => if e : i = y2 then by rw [e]; exact jq.step hq hw37 hw43 (by omega) (Or.inl ⟨by omega, q36d⟩) else jq.oth (jq.oth (j11 i g1 g2) hw37 (by omega)) hw43 (by omega)), (aK.up (aK.up j12 hw37 (by omega) (by omega) (by omega)) hw43 (by omega) (by omega) (by omega)), (fun _ i g1 g2 => by
          by_cases e : i = y2
          · rw [e, ← hw43, e_up_eq]; have g := j13 (by omega) y2 (by omega) (by omega); omega
          · rw [← hw43, e_up_ne _ _ (by omega), ← hw37, e_up_ne _ _ (by omega)]; exact j13 (by omega) i g1 g2), (by rw [← hw43, e_up_ne _ _ (by omega), ← hw37, e_up_ne _ _ (by omega)]; exact j14), (fun k => ⟨by rw [← hw43, e_up_ne _ _ (by omega), ← hw37, e_up_ne _ _ (by omega)]; exact (j15 k).1, by rw [← hw43, e_up_ne _ _ (by omega), ← hw37, e_up_ne _ _ (by omega)]; exact (j15 k).2⟩), by omega, by omega⟩ (by omega))
              exact ⟨rfl, rfl, rfl, trivial⟩
            · replace h49 : (z35 : Int) ≠ 0 := (show ¬ ((z35 : Int) = 0) from h49)
              refine e_Ok.run (t' := (82, [(1, (0, 1)), (3, (1, 17 * a + y2 + 97)), (0, (1, 17 * a + 86)), (2, (0, y2))], [], w43)) 3 rfl ?_
              refine e_Ok.inc (z := y2 + 1) rfl rfl (by first | with_reducible rfl | omega) (by omega) ?_
              show e_Ok 20 elay kcode eI (d + 1) 14 (85, [(2, (0, y2 + 1)), (1, (0, 1)), (3, (1, 17 * a + y2 + 97)), (0, (1, 17 * a + 86))], [], w43) _
              refine e_Ok.ps0 (q := 14) 1 rfl ?_
              refine e_Ok.sub kAlk (e_sub_of rfl ?_) (ih8 1 (y2 + 1) w43 ⟨f44, hT47, (fun i g1 g2 => if e : i = y2 then by rw [e]; exact jq.step hq hw37 hw43 (by omega) (Or.inl ⟨by omega, q36d⟩) else jq.oth (jq.oth (j11 i g1 g2) hw37 (by omega)) hw43 (by omega)), (aK.up (aK.up j12 hw37 (by omega) (by omega) (by omega)) hw43 (by omega) (by omega) (by omega)), (fun g => absurd g (by decide)), (by rw [← hw43, e_up_ne _ _ (by omega), ← hw37, e_up_ne _ _ (by omega)]; exact j14), (fun k => ⟨by rw [← hw43, e_up_ne _ _ (by omega), ← hw37, e_up_ne _ _ (by omega)]; exact (j15 k).1, by rw [← hw43, e_up_ne _ _ (by omega), ← hw37, e_up_ne _ _ (by omega)]; exact (j15 k).2⟩), by omega, by omega⟩ (by omega))
              exact ⟨rfl, rfl, rfl, trivial⟩
        · replace h31 : (w (17 * a + 86) 11 : Int) = 2 := Classical.not_not.mp (show ¬ ((w (17 * a + 86) 11 : Int) ≠ 2) from h31)
          refine e_Ok.ps1 (x := (1, 17 * a + y2 + 97)) (q := 39) 1 rfl ?_
          refine e_Ok.callV rfl (e_dq hd rfl) rfl (lJ (a := a) (j := y2) (by omega) (by omega) (by omega)) rfl rfl (c_91 (a := a) (j := y2) j10 (by omega) (by omega) (g := v1 (17 * a + y2 + 97) 6) (by omega) rfl (s := v1 (17 * a + y2 + 97) 8) (by omega) rfl) (fun r50 w51 h52 => ?_)
          obtain ⟨z53, rfl, rfl, q54r, q54d⟩ := h52
          clear hqg
          refine e_Ok.nrm (q := 42) (st' := [(0, z53), (1, 17 * a + y2 + 97)]) rfl rfl ?_
          refine e_Ok.ps0 (q := 49) 1 rfl ?_
          refine e_Ok.putf rfl (lJ (a := a) (j := y2) (by omega) (by omega) (by omega)) rfl rfl ?_
          generalize hw55 : e_up v1 (17 * a + y2 + 97) 8 z53 = w55
          have f56 : e_fr (kGo a) w w55 := e_fr.up j9 hw55 (by unfold kGo; omega)
          have l57 : w55 (17 * a + 86) 8 = w (17 * a + 86) 8 := f56 (17 * a + 86) 8 (by first | exact no_cn_0 (by omega) | (unfold kGo; omega))
          have l58 : w55 (17 * a + 86) 11 = w (17 * a + 86) 11 := f56 (17 * a + 86) 11 (by first | exact no_cn_1 (by omega) | (unfold kGo; omega))
          have hT59 : e_Has kTy w55 := e_Has.upr j10 hw55 (kJ_8 (a := a) (j := y2) (by omega) (by omega) (by omega)) (by omega)
          refine e_Ok.ps2 (x := (1, 17 * a + y2 + 97)) (y := (1, 17 * a + y2 + 97)) (q := 54) 2 rfl ?_
          refine e_Ok.getf (z := v1 (17 * a + y2 + 97) 7) rfl (lJ (a := a) (j := y2) (by omega) (by omega) (by omega)) rfl rfl (e_uq hw55 (Or.inr (by decide)) rfl) (by omega) ?_
          refine e_Ok.ps1 (x := (1, 17 * a + y2 + 97)) (q := 58) 1 rfl ?_
          refine e_Ok.getf (z := z53) rfl (lJ (a := a) (j := y2) (by omega) (by omega) (by omega)) rfl rfl (e_ue hw55) (by omega) ?_
          refine e_Ok.add (z := v1 (17 * a + y2 + 97) 7 + z53) rfl rfl (by omega) ?_
          refine e_Ok.putf rfl (lJ (a := a) (j := y2) (by omega) (by omega) (by omega)) rfl rfl ?_
          generalize hw60 : e_up w55 (17 * a + y2 + 97) 7 (v1 (17 * a + y2 + 97) 7 + z53) = w60
          have f61 : e_fr (kGo a) w w60 := e_fr.up f56 hw60 (by unfold kGo; omega)
          have l62 : w60 (17 * a + 86) 8 = w (17 * a + 86) 8 := f61 (17 * a + 86) 8 (by first | exact no_cn_0 (by omega) | (unfold kGo; omega))
          have l63 : w60 (17 * a + 86) 11 = w (17 * a + 86) 11 := f61 (17 * a + 86) 11 (by first | exact no_cn_1 (by omega) | (unfold kGo; omega))
          have hT64 : e_Has kTy w60 := e_Has.upr hT59 hw60 (kJ_7 (a := a) (j := y2) (by omega) (by omega) (by omega)) (by omega)
          refine e_Ok.ps1 (x := (0, y1)) (q := 66) 1 rfl ?_
          refine e_Ok.if1 rfl (fun h65 => ?_) (fun h65 => ?_)
          · replace h65 : (y1 : Int) ≠ 0 := h65
            refine e_Ok.run (t' := (82, [(1, (0, 1)), (3, (1, 17 * a + y2 + 97)), (0, (1, 17 * a + 86)), (2, (0, y2))], [], w60)) 3 rfl ?_
            refine e_Ok.inc (z := y2 + 1) rfl rfl (by first | with_reducible rfl | omega) (by omega) ?_
            show e_Ok 20 elay kcode eI (d + 1) 14 (85, [(2, (0, y2 + 1)), (1, (0, 1)), (3, (1, 17 * a + y2 + 97)), (0, (1, 17 * a + 86))], [], w60) _
            refine e_Ok.ps0 (q := 14) 1 rfl ?_
            refine e_Ok.sub kAlk (e_sub_of rfl ?_) (ih8 1 (y2 + 1) w60 ⟨f61, hT64, (fun i g1 g2 => if e : i = y2 then by rw [e]; exact jq.step hq hw55 hw60 (by omega) (Or.inr ⟨by omega, q54d⟩) else jq.oth (jq.oth (j11 i g1 g2) hw55 (by omega)) hw60 (by omega)), (aK.up (aK.up j12 hw55 (by omega) (by omega) (by omega)) hw60 (by omega) (by omega) (by omega)), (fun g => absurd g (by decide)), (by rw [← hw60, e_up_ne _ _ (by omega), ← hw55, e_up_ne _ _ (by omega)]; exact j14), (fun k => ⟨by rw [← hw60, e_up_ne _ _ (by omega), ← hw55, e_up_ne _ _ (by omega)]; exact (j15 k).1, by rw [← hw60, e_up_ne _ _ (by omega), ← hw55, e_up_ne _ _ (by omega)]; exact (j15 k).2⟩), by omega, by omega⟩ (by omega))
            exact ⟨rfl, rfl, rfl, trivial⟩
          · replace h65 : (y1 : Int) = 0 := Classical.not_not.mp (show ¬ ((y1 : Int) ≠ 0) from h65)
            refine e_Ok.ps1 (x := (1, 17 * a + y2 + 97)) (q := 70) 1 rfl ?_
            refine e_Ok.getf (z := z53) rfl (lJ (a := a) (j := y2) (by omega) (by omega) (by omega)) rfl rfl (e_uq hw60 (Or.inr (by decide)) (e_ue hw55)) (by omega) ?_
            refine e_Ok.if1 rfl (fun h66 => ?_) (fun h66 => ?_)
            · replace h66 : (z53 : Int) = 0 := h66
              refine e_Ok.run (t' := (82, [(1, (0, 0)), (3, (1, 17 * a + y2 + 97)), (0, (1, 17 * a + 86)), (2, (0, y2))], [], w60)) 2 rfl ?_
              refine e_Ok.inc (z := y2 + 1) rfl rfl (by first | with_reducible rfl | omega) (by omega) ?_
              show e_Ok 20 elay kcode eI (d + 1) 14 (85, [(2, (0, y2 + 1)), (1, (0, 0)), (3, (1, 17 * a + y2 + 97)), (0, (1, 17 * a + 86))], [], w60) _
              refine e_Ok.ps0 (q := 14) 1 rfl ?_
              refine e_Ok.sub kAlk (e_sub_of rfl ?_) (ih8 0 (y2 + 1) w60 ⟨f61, hT64, (fun i g1 g2 => if e : i = y2 then by rw [e]; exact jq.step hq hw55 hw60 (by omega) (Or.inr ⟨by omega, q54d⟩) else jq.oth (jq.oth (j11 i g1 g2) hw55 (by omega)) hw60 (by omega)), (aK.up (aK.up j12 hw55 (by omega) (by omega) (by omega)) hw60 (by omega) (by omega) (by omega)), (fun _ i g1 g2 => by
          by_cases e : i = y2
          · rw [e, ← hw60, e_up_eq]; have g := j13 (by omega) y2 (by omega) (by omega); omega
          · rw [← hw60, e_up_ne _ _ (by omega), ← hw55, e_up_ne _ _ (by omega)]; exact j13 (by omega) i g1 g2), (by rw [← hw60, e_up_ne _ _ (by omega), ← hw55, e_up_ne _ _ (by omega)]; exact j14), (fun k => ⟨by rw [← hw60, e_up_ne _ _ (by omega), ← hw55, e_up_ne _ _ (by omega)]; exact (j15 k).1, by rw [← hw60, e_up_ne _ _ (by omega), ← hw55, e_up_ne _ _ (by omega)]; exact (j15 k).2⟩), by omega, by omega⟩ (by omega))
              exact ⟨rfl, rfl, rfl, trivial⟩
            · replace h66 : (z53 : Int) ≠ 0 := (show ¬ ((z53 : Int) = 0) from h66)
              refine e_Ok.run (t' := (82, [(1, (0, 1)), (3, (1, 17 * a + y2 + 97)), (0, (1, 17 * a + 86)), (2, (0, y2))], [], w60)) 3 rfl ?_
              refine e_Ok.inc (z := y2 + 1) rfl rfl (by first | with_reducible rfl | omega) (by omega) ?_
              show e_Ok 20 elay kcode eI (d + 1) 14 (85, [(2, (0, y2 + 1)), (1, (0, 1)), (3, (1, 17 * a + y2 + 97)), (0, (1, 17 * a + 86))], [], w60) _
              refine e_Ok.ps0 (q := 14) 1 rfl ?_
              refine e_Ok.sub kAlk (e_sub_of rfl ?_) (ih8 1 (y2 + 1) w60 ⟨f61, hT64, (fun i g1 g2 => if e : i = y2 then by rw [e]; exact jq.step hq hw55 hw60 (by omega) (Or.inr ⟨by omega, q54d⟩) else jq.oth (jq.oth (j11 i g1 g2) hw55 (by omega)) hw60 (by omega)), (aK.up (aK.up j12 hw55 (by omega) (by omega) (by omega)) hw60 (by omega) (by omega) (by omega)), (fun g => absurd g (by decide)), (by rw [← hw60, e_up_ne _ _ (by omega), ← hw55, e_up_ne _ _ (by omega)]; exact j14), (fun k => ⟨by rw [← hw60, e_up_ne _ _ (by omega), ← hw55, e_up_ne _ _ (by omega)]; exact (j15 k).1, by rw [← hw60, e_up_ne _ _ (by omega), ← hw55, e_up_ne _ _ (by omega)]; exact (j15 k).2⟩), by omega, by omega⟩ (by omega))
              exact ⟨rfl, rfl, rfl, trivial⟩
  refine e_Ok.sub kAlk (e_sub_of rfl ?_) (hL7 (6 + 1 : Int).toNat 0 0 w2 ⟨f3, hT6, (fun i g1 g2 => jq.oth (hm i g1 g2) hw2 (by omega)), (aK.up kx hw2 (by omega) (by omega) (by omega)), (fun _ i g1 g2 => by rw [← hw2]; exact e_up_ne _ _ (by omega)), (by rw [← hw2, e_up_eq]; unfold kn1; omega), (fun k => ⟨by rw [← hw2]; exact e_up_ne _ _ (by omega), by rw [← hw2]; exact e_up_ne _ _ (by omega)⟩), by omega, by omega⟩ (by omega))
  exact ⟨rfl, rfl, rfl, trivial⟩
end
end
-- part co
section
noncomputable section
/-! an arm goes on: it keeps it -/
section Ko
variable {w w' : eW} {OP OD CL : Int → Int → Int} {h t0 : Int}
theorem aR.go {a : Int} (ha : 0 ≤ a ∧ a ≤ 3) (hn : w (17 * a + 86) 8 ≤ 6) (hf : ∀ c k, dA a c k → ¬ kGo a c k → ¬ (c = 17 * a + 86 ∧ k = 19) → w' c k = w c k) (hK : aK w' a) (hM : aMs w' a (w (17 * a + 86) 8) (w (17 * a + 86) 11)) (hk : kn1 (w' (17 * a + 86) 12)) (hs : w (17 * a + 86) 11 ≠ 0) (hv : w' (17 * a + 86) 19 ≠ 0 ∨ (w' (17 * a + 86) 19 = w (17 * a + 86) 19 ∧ ∀ i, 0 ≤ i → i < w (17 * a + 86) 8 → w' (17 * a + i + 97) 7 = w (17 * a + i + 97) 7)) (q : aR w a) : aR w' a := by
  obtain ⟨q1, q2, q3, q4, q5, q6⟩ := q
  have e : ∀ c k, dA a c k → ¬ kGo a c k → ¬ (c = 17 * a + 86 ∧ k = 19) → w' c k = w c k := hf
  have e8 : w' (17 * a + 86) 8 = w (17 * a + 86) 8 := e _ _ (by unfold dA; omega) (by unfold kGo; omega) (by omega)
  have e11 : w' (17 * a + 86) 11 = w (17 * a + 86) 11 := e _ _ (by unfold dA; omega) (by unfold kGo; omega) (by omega)
  refine ⟨hK, q2.eq (fun c k g => e c k (by unfold dA; omega) (by unfold kGo; omega) (by omega)), ?_, ?_, q5.eq (fun c k g => e c k (by unfold dA; omega) (by unfold kGo; omega) (by omega)), ?_⟩
  · rw [e8, e11]; exact hM
  · intro _
    rw [e8]
    exact ⟨hk, fun j g1 g2 => by rw [e _ _ (by unfold dA; omega) (by unfold kGo; omega) (by omega)]; exact (q4 hs).2 j g1 g2⟩
  · have hp : ∀ c k, 269 ≤ c → c ≤ 271 → w' c k = w c k := fun c k g1 g2 => e c k (by unfold dA; omega) (by unfold kGo; omega) (by omega)
    have e17 : w' (17 * a + 86) 17 = w (17 * a + 86) 17 := e _ _ (by unfold dA; omega) (by unfold kGo; omega) (by omega)
    have e18 : w' (17 * a + 86) 18 = w (17 * a + 86) 18 := e _ _ (by unfold dA; omega) (by unfold kGo; omega) (by omega)
    have hl : ∀ j, 0 ≤ j → j < w (17 * a + 86) 8 → w' (17 * a + j + 97) 1 = w (17 * a + j + 97) 1 ∧ w' (17 * a + j + 97) 2 = w (17 * a + j + 97) 2 := fun j g1 g2 => ⟨e _ _ (by unfold dA; omega) (by unfold kGo; omega) (by omega), e _ _ (by unfold dA; omega) (by unfold kGo; omega) (by omega)⟩
    unfold aW at q6 ⊢
    rw [e8, e11, e17, e18, hp 270 _ (by decide) (by decide)]
    refine ⟨fun g => (q6.1 g).eq hp, fun g1 g2 => ?_, fun g => ⟨(q6.2.2 g).1, (q6.2.2 g).2.1, (q6.2.2 g).2.2.1, (q6.2.2 g).2.2.2.eq hp hl (fun j g3 g4 => e _ _ (by unfold dA; omega) (by unfold kGo; omega) (by omega))⟩⟩
    rcases hv with hv | ⟨hv, hv2⟩
    · exact absurd g2 hv
    · rw [hv] at g2
      exact (q6.2.1 g1 g2).eq hp hl (fun j g3 g4 => hv2 j g3 g4)
end Ko
end
end
-- part cp
section
noncomputable section
/-! the class: a joint is led by hand -/
section Kp
variable {w w' : eW} {OP OD CL : Int → Int → Int} {h t0 : Int}
theorem aR.hand {a j : Int} (ha : 0 ≤ a ∧ a ≤ 3) (hj : 0 ≤ j ∧ j ≤ 5) (hn : w (17 * a + 86) 8 ≤ 6) (hf : ∀ c k, dA a c k → ¬ (c = 17 * a + 88 ∨ c = 17 * a + 89) → ¬ (c = 17 * a + j + 97 ∧ k = 7) → ¬ (c = 17 * a + 86 ∧ k = 19) → w' c k = w c k) (hK : aK w' a) (hs : w (17 * a + 86) 11 = 0) (hv : j < w (17 * a + 86) 8 → w (17 * a + j + 97) 1 ≤ w' (17 * a + j + 97) 7 ∧ w' (17 * a + j + 97) 7 ≤ w (17 * a + j + 97) 2) (hm : w' (17 * a + 86) 19 ≠ 0) (q : aR w a) : aR w' a := by
  obtain ⟨q1, q2, q3, q4, q5, q6⟩ := q
  have e8 : w' (17 * a + 86) 8 = w (17 * a + 86) 8 := hf _ _ (by unfold dA; omega) (by omega) (by omega) (by omega)
  have e11 : w' (17 * a + 86) 11 = w (17 * a + 86) 11 := hf _ _ (by unfold dA; omega) (by omega) (by omega) (by omega)
  refine ⟨hK, q2.eq (fun c k g => hf c k (by unfold dA; omega) (by omega) (by omega) (by omega)), ?_, fun g => by omega, q5.eq (fun c k g => hf c k (by unfold dA; omega) (by omega) (by omega) (by omega)), ?_⟩
  · rw [e8, e11]
    intro i g1 g2
    have qi := q3 i g1 g2
    by_cases e : i = j
    · rw [hs] at qi ⊢
      have ek : ∀ k, 1 ≤ k → k ≤ 9 → k ≠ 7 → w' (17 * a + i + 97) k = w (17 * a + i + 97) k := fun k g3 g4 g5 => hf _ _ (by unfold dA; omega) (by omega) (by omega) (by omega)
      refine ⟨?_, ?_⟩
      · have := qi.1
        unfold jC at this ⊢
        rw [ek 1 (by omega) (by omega) (by omega), ek 2 (by omega) (by omega) (by omega), ek 5 (by omega) (by omega) (by omega), ek 6 (by omega) (by omega) (by omega)]
        exact this
      · have hs8 : w (17 * a + i + 97) 8 = 0 := qi.2.2.1 rfl
        have hvi := hv (by omega)
        rw [← e] at hvi
        unfold jM joOk
        rw [ek 1 (by omega) (by omega) (by omega), ek 2 (by omega) (by omega) (by omega), ek 8 (by omega) (by omega) (by omega), hs8]
        exact ⟨hvi, fun _ => rfl, fun g => absurd g (by decide), fun g => absurd g (by decide)⟩
    · exact jq.eq (fun k g3 g4 => hf _ _ (by unfold dA; omega) (by omega) (by omega) (by omega)) qi
  · have hp : ∀ c k, 269 ≤ c → c ≤ 271 → w' c k = w c k := fun c k g1 g2 => hf c k (by unfold dA; omega) (by omega) (by omega) (by omega)
    have e17 : w' (17 * a + 86) 17 = w (17 * a + 86) 17 := hf _ _ (by unfold dA; omega) (by omega) (by omega) (by omega)
    have e18 : w' (17 * a + 86) 18 = w (17 * a + 86) 18 := hf _ _ (by unfold dA; omega) (by omega) (by omega) (by omega)
    unfold aW at q6 ⊢
    rw [e8, e17, e18]
    exact ⟨fun g => (q6.1 g).eq hp, fun _ g => absurd g hm, fun g => by have := (q6.2.2 g).1; omega⟩
/-- a joint was led by hand, and ways are stale -/
theorem kI.hand {w1 w2 w3 : eW} {a j v : Int} (q : kI w OP OD CL h t0) (ha : 0 ≤ a ∧ a ≤ 3) (hj : 0 ≤ j ∧ j < w (17 * a + 86) 8) (hs : w (17 * a + 86) 11 = 0) (hv : w (17 * a + j + 97) 1 ≤ v ∧ v ≤ w (17 * a + j + 97) 2) (h1 : e_up w (17 * a + j + 97) 7 v = w1) (hT2 : e_Has kTy w2) (f2 : e_fr (kPl a) w1 w2) (hK : aK w2 a) (hT3 : e_Has kTy w3) (f3 : e_fr kMv w2 w3) (hm : ∀ i, 0 ≤ i → i ≤ 3 → w3 (17 * i + 86) 19 ≠ 0) : kI w3 OP OD CL h t0 := by
  have hn := (kn_joints q.1 ha).2
  have e : ∀ c k, ¬ (c = 17 * a + 86 ∧ k = 19) → e_up w2 (17 * a + 86) 19 1 c k = w2 c k := fun c k g => e_up_ne _ _ (by omega)
  have ew : ∀ c k, ¬ (c = 17 * a + 88 ∨ c = 17 * a + 89) → ¬ (c = 17 * a + j + 97 ∧ k = 7) → w2 c k = w c k := fun c k g1 g2 => by
    rw [f2 c k (by unfold kPl; omega), ← h1, e_up_ne _ _ (by omega)]
  have hTu : e_Has kTy (e_up w2 (17 * a + 86) 19 1) := e_Has.upr hT2 rfl (kA_19 (a := a) rfl ha) (by decide)
  have hA : aR (e_up w2 (17 * a + 86) 19 1) a := by
    refine (q.2.1 a ha.1 ha.2).hand ha (j := j) (by omega) hn (fun c k g1 g2 g3 g4 => by rw [e _ _ g4]; exact ew c k g2 g3) ?_ hs (fun _ => ?_) (by rw [e_up_eq]; decide)
    · exact hK.up rfl (by omega) (by omega) (by omega)
    · rw [e _ _ (by omega), f2 _ _ (by unfold kPl; omega), ← h1, e_up_eq]; exact hv
  have hcdn : ∀ b : Int, 0 ≤ b → b ≤ 3 → 17 * b + 86 = 86 ∨ 17 * b + 86 = 103 ∨ 17 * b + 86 = 120 ∨ 17 * b + 86 = 137 := fun b g1 g2 => by omega
  have Q1 : kI (e_up w2 (17 * a + 86) 19 1) OP OD CL h t0 := by
    refine kI.ar q hTu ha (fun c k g => ?_) ?_ hA (fun _ _ => ?_)
    · by_cases g4 : c = 17 * a + 86 ∧ k = 19
      · exact absurd (Or.inr (Or.inr (Or.inr (Or.inl ⟨g4.1, by omega⟩)))) g
      · rw [e _ _ g4]
        refine ew c k (fun g5 => g ?_) (fun g5 => g ?_)
        · exact Or.inr (Or.inr (Or.inr (Or.inr (Or.inl (by omega)))))
        · exact Or.inr (Or.inr (Or.inr (Or.inr (Or.inr (by omega)))))
    · refine q.lgk.fr (S := fun c k => (c = 17 * a + 86 ∧ k = 19) ∨ c = 17 * a + 88 ∨ c = 17 * a + 89 ∨ (c = 17 * a + j + 97 ∧ k = 7)) (fun c k g => ?_) (by omega) (fun k => by omega)
      rw [e _ _ (by omega)]; exact ew c k (by omega) (by omega)
    · rw [e _ _ (by omega), ew _ _ (by omega) (by omega)]; exact hs
  refine kI.stale Q1 hT3 (fun c k g => ?_) hm
  rw [f3 c k g, e _ _ (fun g2 => g (Or.inl ⟨by have := hcdn a ha.1 ha.2; omega, g2.2⟩))]
end Kp
theorem no_cp_0 {a : Int} (ha : 0 ≤ a ∧ a ≤ 3) : ¬ kPl a 0 1 := by unfold kPl; omega
theorem su_cp_1 {a : Int} {c k : Int} (q : kPl a c k) : kGo a c k := by
  unfold kPl at q
  rcases q with ⟨(q | q), q⟩
  · exact Or.inr (Or.inr ⟨Or.inl (by omega), (by omega)⟩)
  · exact Or.inr (Or.inr ⟨Or.inr (by omega), (by omega)⟩)
theorem c_258 {d : Nat} (hd : 24 ≤ d) {w : eW} (hT : e_Has kTy w) {a j v : Int} (ga : 0 ≤ a ∧ a ≤ 3) (gj : 0 ≤ j ∧ j < w (17 * a + 86) 8) (gv : -2147483648 ≤ v ∧ v ≤ 2147483647) {OP OD CL : Int → Int → Int} {h t0 : Int} (q : kI w OP OD CL h t0) (hs : w (17 * a + 86) 11 = 0) (hv : w (17 * a + j + 97) 1 ≤ v ∧ v ≤ w (17 * a + j + 97) 2) : e_Ok 20 elay kcode eI d 258 (0, [(0, (1, 0)), (1, (0, a)), (2, (0, j)), (3, (0, v))], [], w) (fun r w' => ∃ z : Int, r = [(0, z)] ∧ e_Has kTy w' ∧ (e_fr kNw w w' ∧ w' 74 0 = w 74 0 ∧ w' 74 1 = w 74 1) ∧ kI w' OP OD CL h t0 ∧ aQ w w') := by
  obtain ⟨d, rfl⟩ : ∃ e, d = e + 1 := ⟨d - 1, by omega⟩
  have hjn := kn_joints hT (a := a) (by omega)
  refine e_Ok.ps1 (x := (1, 0)) (q := 1) 1 rfl ?_
  refine e_Ok.getr (z := 9) rfl (el_o rfl) rfl rfl (e_Has.eq hT (kt_o rfl)) ⟨by decide, by decide⟩ ?_
  refine e_Ok.ps1 (x := (0, a)) (q := 5) 1 rfl ?_
  refine e_Ok.aald (z := 17 * a + 86) rfl (el_o rfl) rfl (by omega) (Eq.trans (e_Has.eq hT (k9 (by omega))) (by omega)) (by omega) ?_
  refine e_Ok.getr (z := 17 * a + 87) rfl (lA0 (a := a) rfl ga) rfl rfl (Eq.trans (e_Has.eq hT (kA_0 (a := a) rfl ga)) (by omega)) (by omega) ?_
  refine e_Ok.ps1 (x := (0, j)) (q := 10) 1 rfl ?_
  refine e_Ok.aald (z := 17 * a + j + 97) rfl (lA1 (a := a) rfl ga) rfl (by omega) (Eq.trans (e_Has.eq hT (kA87 (a := a) rfl ga (by omega))) (by omega)) (by omega) ?_
  have h1 := (e_Has.get hT (c := 17 * a + j + 97) (k := 7) (lo := (-2147483648)) (hi := 2147483647) (kJ_7 (a := a) (j := j) (by omega) (by omega) (by omega)) (by decide))
  refine e_Ok.getf (z := w (17 * a + j + 97) 7) rfl (lJ (a := a) (j := j) (by omega) (by omega) (by omega)) rfl rfl rfl (e_bq h1 (by decide) (by decide)) ?_
  refine e_Ok.run (t' := (19, [(4, (0, w (17 * a + j + 97) 7)), (0, (1, 0)), (1, (0, a)), (2, (0, j)), (3, (0, v))], [(0, w (17 * a + j + 97) 7), (0, v)], w)) 3 rfl ?_
  refine e_Ok.if2 rfl (fun h2 => ?_) (fun h2 => ?_)
  · replace h2 : (v : Int) = w (17 * a + j + 97) 7 := h2
    refine e_Ok.ps1 (x := (0, w (17 * a + j + 97) 7)) (q := 56) 1 rfl ?_
    refine e_Ok.rets rfl rfl ?_
    exact ⟨_, rfl, hT, ⟨e_fr.refl w, rfl, rfl⟩, q, aQ.refl w⟩
  · replace h2 : (v : Int) ≠ w (17 * a + j + 97) 7 := (show ¬ ((v : Int) = w (17 * a + j + 97) 7) from h2)
    refine e_Ok.ps1 (x := (1, 0)) (q := 23) 1 rfl ?_
    refine e_Ok.getr (z := 9) rfl (el_o rfl) rfl rfl (e_Has.eq hT (kt_o rfl)) ⟨by decide, by decide⟩ ?_
    refine e_Ok.ps1 (x := (0, a)) (q := 27) 1 rfl ?_
    refine e_Ok.aald (z := 17 * a + 86) rfl (el_o rfl) rfl (by omega) (Eq.trans (e_Has.eq hT (k9 (by omega))) (by omega)) (by omega) ?_
    refine e_Ok.getr (z := 17 * a + 87) rfl (lA0 (a := a) rfl ga) rfl rfl (Eq.trans (e_Has.eq hT (kA_0 (a := a) rfl ga)) (by omega)) (by omega) ?_
    refine e_Ok.ps1 (x := (0, j)) (q := 32) 1 rfl ?_
    refine e_Ok.aald (z := 17 * a + j + 97) rfl (lA1 (a := a) rfl ga) rfl (by omega) (Eq.trans (e_Has.eq hT (kA87 (a := a) rfl ga (by omega))) (by omega)) (by omega) ?_
    refine e_Ok.ps1 (x := (0, v)) (q := 34) 1 rfl ?_
    refine e_Ok.putf rfl (lJ (a := a) (j := j) (by omega) (by omega) (by omega)) rfl rfl ?_
    generalize hw3 : e_up w (17 * a + j + 97) 7 v = w3
    have hT5 : e_Has kTy w3 := e_Has.upr hT hw3 (kJ_7 (a := a) (j := j) (by omega) (by omega) (by omega)) (by omega)
    refine e_Ok.ps1 (x := (1, 0)) (q := 38) 1 rfl ?_
    refine e_Ok.getr (z := 9) rfl (el_o rfl) rfl rfl (e_uq hw3 (Or.inr (by decide)) (e_Has.eq hT (kt_o rfl))) ⟨by decide, by decide⟩ ?_
    refine e_Ok.ps1 (x := (0, a)) (q := 42) 1 rfl ?_
    refine e_Ok.aald (z := 17 * a + 86) rfl (el_o rfl) rfl (by omega) (e_uq hw3 (Or.inl (by omega)) (Eq.trans (e_Has.eq hT (k9 (by omega))) (by omega))) (by omega) ?_
    refine e_Ok.callV rfl (e_dq hd rfl) rfl (lA0 (a := a) rfl ga) rfl rfl (c_10_p (e_dq hd rfl) (a := a) hT5 (by omega) (by rw [← hw3, e_up_ne _ _ (by omega)]; exact (q.arm (a := a) (by omega) (by omega)).1.1 0 (by omega) (by omega)) (by rw [← hw3, e_up_ne _ _ (by omega)]; exact (q.arm (a := a) (by omega) (by omega)).1.2 0 (by omega) (by omega))) (fun r6 w7 h8 => ?_)
    obtain ⟨rfl, q9f, q9T, q9x, q9p⟩ := h8
    refine e_Ok.nrm (q := 46) (st' := []) rfl rfl ?_
    refine e_Ok.ps1 (x := (1, 0)) (q := 47) 1 rfl ?_
    refine e_Ok.getr (z := 8) rfl (el_o rfl) rfl rfl ((q9f 0 1 (by first | exact no_cp_0 (by omega) | (unfold kPl; omega))).trans (e_uq hw3 (Or.inr (by decide)) (e_Has.eq hT (kt_o rfl)))) ⟨by decide, by decide⟩ ?_
    refine e_Ok.ps1 (x := (0, a)) (q := 51) 1 rfl ?_
    refine e_Ok.callV rfl (e_dq hd rfl) rfl rfl rfl rfl (c_39 q9T (by omega)) (fun r11 w12 h13 => ?_)
    obtain ⟨rfl, q14f, q14T, q14x⟩ := h13
    refine e_Ok.nrm (q := 54) (st' := []) rfl rfl ?_
    refine e_Ok.ps1 (x := (0, w (17 * a + j + 97) 7)) (q := 56) 1 rfl ?_
    refine e_Ok.rets rfl rfl ?_
    exact ⟨_, rfl, q14T, ⟨(show e_fr kNw w w12 from e_fr.trans (show e_fr kNw w w7 from e_fr.trans (show e_fr kNw w w3 from e_fr.up (e_fr.refl w) hw3 (by unfold kNw; omega)) (e_fr.mono q9f (fun c k q => by exact nw_kPl (by omega) q))) (e_fr.mono q14f (fun c k q => by exact nw_kMv q))), by rw [q14f _ _ (by unfold kMv; omega), q9f _ _ (by unfold kPl; omega), ← hw3, e_up_ne _ _ (by omega)], by rw [q14f _ _ (by unfold kMv; omega), q9f _ _ (by unfold kPl; omega), ← hw3, e_up_ne _ _ (by omega)]⟩, kI.hand q (by omega) (by omega) hs (by omega) hw3 q9T q9f q9x q14T q14f q14x, aQ.trans (aQ.go ga (e_fr.trans (e_fr.up (e_fr.refl w) hw3 (by unfold kGo; omega)) (q9f.mono (fun c k q => by first | exact su_cp_1 q | (unfold kPl at q; unfold kGo; omega)))) hT q9T (fun _ => q9p)) (aQ.q (q14f.mono (fun c k q => nq_kMv q)) q9T q14T)⟩
end
end
