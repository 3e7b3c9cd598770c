noncomputable section
def mTi (c k : Int) : Prop := c = 276 ∨ (c = 275 ∧ ((58 ≤ k ∧ k ≤ 60) ∨ (96 ≤ k ∧ k ≤ 100) ∨ k = 102)) ∨ (321 ≤ c ∧ c ≤ 327) ∨ c = 345 ∨ c = 346 ∨ c = 280
theorem ti_time {c k : Int} (q : c = 276 ∧ k = 0) : idl c k := by unfold idl; omega
theorem ti_in {c k : Int} (q : mIn c k) : idl c k := by unfold mIn at q; unfold idl; omega
theorem ti_tl {c k : Int} (q : mTl c k) : idl c k := by unfold mTl at q; unfold idl; omega
theorem ti_p {c k : Int} (q : mP c k) : idl c k := by unfold mP at q; unfold idl; omega
theorem ti_dr {c k : Int} (q : mDr c k) : idl c k := by unfold mDr at q; unfold idl; omega
theorem ti_k {c k : Int} (q : mK c k) : idl c k := by unfold mK at q; unfold idl; omega
theorem tt_ti {c k : Int} (q : mTt c k) : mTi c k := by unfold mTt mTn at q; unfold mTi; omega
theorem ga_ti {c k : Int} (q : mGA c k) : mTi c k := by unfold mGA at q; unfold mTi; omega
theorem lo_ti {c k : Int} (q : mLo c k) : mTi c k := by unfold mLo mLt mTr at q; unfold mTi; omega
theorem no_93_0 : ¬ mIn 276 0 := by unfold mIn; omega
theorem no_93_1 : ¬ mIn 276 5 := by unfold mIn; omega
theorem no_93_2 {k : Int} : ¬ mIn 275 k := by unfold mIn; omega
theorem no_93_3 : ¬ mIn 276 1 := by unfold mIn; omega
theorem no_93_4 : ¬ mTi 275 0 := by unfold mTi; omega
theorem no_93_5 {k : Int} : ¬ mTl 276 k := by unfold mTl; omega
theorem no_93_6 {k : Int} : ¬ mP 276 k := by unfold mP; omega
theorem no_93_7 {k : Int} : ¬ mP 286 k := by unfold mP; omega
theorem no_93_8 {k : Int} : ¬ mP 275 k := by unfold mP; omega
theorem no_93_9 : ¬ mTi 275 30 := by unfold mTi; omega
theorem no_93_10 : ¬ mK 276 0 := by unfold mK; omega
theorem no_93_11 : ¬ mK 276 5 := by unfold mK; omega
theorem no_93_12 : ¬ mDr 276 0 := by unfold mDr; omega
theorem no_93_13 : ¬ mDr 276 5 := by unfold mDr; omega
theorem no_93_14 : ¬ mGA 276 0 := by unfold mGA; omega
theorem no_93_15 : ¬ mLo 276 0 := by unfold mLo mLt mTr; omega
theorem no_93_16 : ¬ mTt 276 0 := by unfold mTt mTn; omega
theorem no_93_17 : ¬ mTr 276 0 := by unfold mTr; omega
theorem su_93_18 {c k : Int} (q : mIn c k) : mTi c k := by unfold mIn at q; unfold mTi; omega
theorem su_93_19 {c k : Int} (q : mTl c k) : mTi c k := by unfold mTl at q; unfold mTi; omega
theorem su_93_20 {c k : Int} (q : mP c k) : mTi c k := by unfold mP at q; unfold mTi; omega
theorem su_93_21 {c k : Int} (q : mK c k) : mTi c k := by unfold mK at q; unfold mTi; omega
theorem su_93_22 {c k : Int} (q : mDr c k) : mTi c k := by unfold mDr at q; unfold mTi; omega
theorem su_93_23 {c k : Int} (q : mTr c k) : mTi c k := by unfold mTr at q; unfold mTi; omega
set_option maxHeartbeats 4000000 in
theorem c_408 {d : Nat} (hd : 43 ≤ d) {w : eW} {G : Int → Gh} (hI : mInv w G) (htm : w 276 0 ≤ 5999) (hE : w 276 5 ≤ 2147400000) : e_Ok 20 elay ecode eI d 408 (0, [(0, (1, 275))], [], w) (fun r w' => r = [] ∧ e_fr mTi w w' ∧ mInv w' G ∧ w' 276 0 = w 276 0 + 1 ∧ (w 276 5 ≤ w' 276 5 ∧ w' 276 5 ≤ w 276 5 + 900)) := by
  obtain ⟨d, rfl⟩ : ∃ e, d = e + 1 := ⟨d - 1, by omega⟩
  have ht0 := e_Has.get hI.1 (c := 276) (k := 0) (lo := 0) (hi := 6000) rfl (by decide)
  refine e_Ok.run (t' := (1, [(0, (1, 275))], [(1, 275)], w)) 1 rfl ?_
  refine e_Ok.getr (z := 276) rfl (el_o rfl) rfl rfl (e_Has.eq hI.1 rfl) (by omega) ?_
  refine e_Ok.run (t' := (6, [(0, (1, 275))], [(0, 0), (1, 276), (0, 0), (1, 276)], w)) 2 rfl ?_
  refine e_Ok.ald (z := w 276 0) rfl (el_o rfl) rfl (by omega) rfl (by omega) ?_
  refine e_Ok.run (t' := (8, [(0, (1, 275))], [(0, 1), (0, w 276 0), (0, 0), (1, 276)], w)) 1 rfl ?_
  refine e_Ok.add (z := w 276 0 + 1) rfl (by omega) (by omega) ?_
  refine e_Ok.ast rfl (el_o rfl) rfl rfl (by omega) ?_
  generalize hw1 : e_up w 276 0 (w 276 0 + 1) = w1
  have f2 : e_fr mTi w w1 := e_fr.up (e_fr.refl w) hw1 (by first | exact Or.inl rfl | (unfold mTi; omega))
  have hT3 : e_Has mTy w1 := e_Has.upr hI.1 hw1 rfl (by omega)
  have f0 : e_fr (fun c k => c = 276 ∧ k = 0) w w1 := e_fr.up (e_fr.refl w) hw1 ⟨rfl, rfl⟩
  have hI4 : mInv w1 G := mInv.same hI f0 hT3 (fun c k q => ti_time q)
  have tm0 : w1 276 0 = w 276 0 + 1 := (by rw [← hw1]; exact e_up_eq _ _ _ _)
  have ev0 : w1 276 5 = w 276 5 := (by rw [← hw1]; exact (e_up_ne _ _ (Or.inr (by omega))).trans rfl)
  refine e_Ok.run (t' := (11, [(0, (1, 275))], [(1, 275)], w1)) 1 rfl ?_
  refine e_Ok.callV rfl (by omega) rfl rfl rfl rfl (c_401 hI4.1) (fun r5 w6 h7 => ?_)
  obtain ⟨rfl, q8, q8T⟩ := h7
  have f9 : e_fr mTi w w6 := e_fr.trans f2 (e_fr.mono q8 (fun c k q => su_93_18 q))
  have hI10 : mInv w6 G := mInv.same hI4 q8 q8T (fun c k q => ti_in q)
  have tm11 : w6 276 0 = w1 276 0 := q8 276 0 no_93_0
  have ev12 : w6 276 5 = w1 276 5 := q8 276 5 no_93_1
  show e_Ok 20 elay ecode eI (d + 1) 408 (14, [(0, (1, 275))], [], w6) _
  refine e_Ok.run (t' := (15, [(0, (1, 275))], [(1, 275)], w6)) 1 rfl ?_
  refine e_Ok.getr (z := 276) rfl (el_o rfl) rfl rfl ((q8 275 0 no_93_2).trans (by rw [← hw1]; exact (e_up_ne _ _ (Or.inl (by omega))).trans (e_Has.eq hI.1 rfl))) (by omega) ?_
  refine e_Ok.run (t' := (19, [(0, (1, 275))], [(0, 1), (1, 276)], w6)) 1 rfl ?_
  have h13 := (e_Has.get hI.1 (c := 276) (k := 1) (lo := 0) (hi := 1) rfl (by decide))
  refine e_Ok.ald (z := w 276 1) rfl (el_o rfl) rfl (by omega) ((q8 276 1 no_93_3).trans (by rw [← hw1]; exact (e_up_ne _ _ (Or.inr (by omega))).trans rfl)) (by omega) ?_
  refine e_Ok.run (t' := (21, [(0, (1, 275))], [(0, 1), (0, w 276 1)], w6)) 1 rfl ?_
  refine e_Ok.if2 rfl (fun h14 => ?_) (fun h14 => ?_)
  · replace h14 : (w 276 1 : Int) ≠ 1 := h14
    refine e_Ok.run (t' := (34, [(1, (0, (-1))), (0, (1, 275))], [(0, (-1))], w6)) 3 rfl ?_
    refine e_Ok.if1 rfl (fun h15 => ?_) (fun h15 => ?_)
    · replace h15 : ((-1) : Int) < 0 := h15
      refine e_Ok.run (t' := (45, [(2, (0, 0)), (1, (0, (-1))), (0, (1, 275))], [], w6)) 2 rfl ?_
      have hL16 : ∀ (nn : Nat) (y2 : Int) (v1 : eW), e_fr mTi w v1 ∧ e_Has mTy v1 ∧ mInv v1 G ∧ v1 276 0 = w 276 0 + 1 ∧ (w 276 5 ≤ v1 276 5 ∧ v1 276 5 ≤ w 276 5 + 5 + 50 * y2) ∧ (0 ≤ y2 ∧ y2 ≤ 16) → 17 - y2 < nn → e_Ok 20 elay ecode eI (d + 1) 408 (45, [(0, (1, 275)), (2, (0, y2))], [], v1) (fun r w' => r = [] ∧ e_fr mTi w w' ∧ mInv w' G ∧ w' 276 0 = w 276 0 + 1 ∧ (w 276 5 ≤ w' 276 5 ∧ w' 276 5 ≤ w 276 5 + 900)) := by
        intro nn
        induction nn with
        | zero => intro y2 v1 hj hm; obtain ⟨j18, j19, j20, j21, j22, j23⟩ := hj; exfalso; omega
        | succ nn ih17 =>
          intro y2 v1 hj hm
          obtain ⟨j18, j19, j20, j21, j22, j23⟩ := hj
          refine e_Ok.run (t' := (48, [(0, (1, 275)), (2, (0, y2))], [(0, 16), (0, y2)], v1)) 2 rfl ?_
          refine e_Ok.if2 rfl (fun h24 => ?_) (fun h24 => ?_)
          · replace h24 : (y2 : Int) ≥ 16 := h24
            refine e_Ok.run (t' := (128, [(0, (1, 275)), (2, (0, y2))], [(1, 275)], v1)) 1 rfl ?_
            refine e_Ok.getr (z := 276) rfl (el_o rfl) rfl rfl ((j18 275 0 no_93_4).trans (e_Has.eq hI.1 rfl)) (by omega) ?_
            refine e_Ok.run (t' := (132, [(0, (1, 275)), (2, (0, y2))], [(0, 1), (1, 276)], v1)) 1 rfl ?_
            have h25 := (e_Has.get j19 (c := 276) (k := 1) (lo := 0) (hi := 1) rfl (by decide))
            refine e_Ok.ald (z := v1 276 1) rfl (el_o rfl) rfl (by omega) rfl (by omega) ?_
            refine e_Ok.run (t' := (134, [(0, (1, 275)), (2, (0, y2))], [(0, 1), (0, v1 276 1)], v1)) 1 rfl ?_
            refine e_Ok.if2 rfl (fun h26 => ?_) (fun h26 => ?_)
            · replace h26 : (v1 276 1 : Int) ≠ 1 := h26
              refine e_Ok.run (t' := (144, [(2, (0, 0)), (0, (1, 275))], [(0, 0)], v1)) 3 rfl ?_
              refine e_Ok.if1 rfl (fun h27 => ?_) (fun h27 => ?_)
              · replace h27 : (0 : Int) = 0 := h27
                refine e_Ok.run (t' := (153, [(2, (0, 0)), (0, (1, 275))], [(0, 0), (1, 275)], v1)) 2 rfl ?_
                refine e_Ok.callV rfl (by omega) rfl rfl rfl rfl (c_403 j20.1) (fun r28 w29 h30 => ?_)
                obtain ⟨rfl, q31, q31T⟩ := h30
                have f32 : e_fr mTi w w29 := e_fr.trans j18 (e_fr.mono q31 (fun c k q => su_93_19 q))
                have hI33 : mInv w29 G := mInv.same j20 q31 q31T (fun c k q => ti_tl q)
                have tm34 : w29 276 0 = v1 276 0 := q31 276 0 no_93_5
                have ev35 : w29 276 5 = v1 276 5 := q31 276 5 no_93_5
                show e_Ok 20 elay ecode eI (d + 1) 408 (156, [(2, (0, 0)), (0, (1, 275))], [], w29) _
                refine e_Ok.run (t' := (157, [(2, (0, 0)), (0, (1, 275))], [(1, 275)], w29)) 1 rfl ?_
                refine e_Ok.callV rfl (by omega) rfl rfl rfl rfl (c_302 (by omega) hI33.1) (fun r36 w37 h38 => ?_)
                obtain ⟨rfl, q40, q40k⟩ := h38
                have f41 : e_fr mTi w w37 := e_fr.trans f32 (e_fr.mono q40 (fun c k q => su_93_20 q))
                have hI42 : mInv w37 G := mInv.same hI33 q40 (mT_P q40 hI33.1) (fun c k q => ti_p q)
                have tm43 : w37 276 0 = w29 276 0 := q40 276 0 no_93_6
                have ev44 : w37 276 5 = w29 276 5 := q40 276 5 no_93_6
                have kall : ∀ b, 0 ≤ b → b < w37 275 10 → e_pk2 w37 (7 * b) (w37 286 b) := fun b g1 g2 => by rw [q40 286 b no_93_7]; exact q40k b g1 (by rw [q40 275 10 no_93_8] at g2; exact g2)
                show e_Ok 20 elay ecode eI (d + 1) 408 (160, [(2, (0, 0)), (0, (1, 275))], [], w37) _
                refine e_Ok.run (t' := (161, [(2, (0, 0)), (0, (1, 275))], [(0, 0)], w37)) 1 rfl ?_
                refine e_Ok.if1 rfl (fun h45 => ?_) (fun h45 => ?_)
                · replace h45 : (0 : Int) = 0 := h45
                  refine e_Ok.run (t' := (170, [(3, (0, 0)), (2, (0, 0)), (0, (1, 275))], [], w37)) 2 rfl ?_
                  have hL46 : ∀ (nn : Nat) (y3 : Int) (v2 : eW), e_fr mTi w v2 ∧ e_Has mTy v2 ∧ mInv v2 G ∧ v2 276 0 = w 276 0 + 1 ∧ (w 276 5 ≤ v2 276 5 ∧ v2 276 5 ≤ w 276 5 + 820) ∧ (0 ≤ y3 ∧ y3 ≤ 4) → 5 - y3 < nn → e_Ok 20 elay ecode eI (d + 1) 408 (170, [(0, (1, 275)), (3, (0, y3))], [], v2) (fun r w' => r = [] ∧ e_fr mTi w w' ∧ mInv w' G ∧ w' 276 0 = w 276 0 + 1 ∧ (w 276 5 ≤ w' 276 5 ∧ w' 276 5 ≤ w 276 5 + 900)) := by
                    intro nn
                    induction nn with
                    | zero => intro y3 v2 hj hm; obtain ⟨j48, j49, j50, j51, j52, j53⟩ := hj; exfalso; omega
                    | succ nn ih47 =>
                      intro y3 v2 hj hm
                      obtain ⟨j48, j49, j50, j51, j52, j53⟩ := hj
                      refine e_Ok.run (t' := (172, [(0, (1, 275)), (3, (0, y3))], [(1, 275), (0, y3)], v2)) 2 rfl ?_
                      have h54 := (e_Has.get hI.1 (c := 275) (k := 30) (lo := 0) (hi := 4) rfl (by decide))
                      refine e_Ok.getf (z := w 275 30) rfl (el_o rfl) rfl rfl ((j48 275 30 no_93_9).trans rfl) (by omega) ?_
                      refine e_Ok.if2 rfl (fun h55 => ?_) (fun h55 => ?_)
                      · replace h55 : (y3 : Int) ≥ w 275 30 := h55
                        refine e_Ok.run (t' := (190, [(0, (1, 275)), (3, (0, y3))], [(1, 275)], v2)) 1 rfl ?_
                        refine e_Ok.callV rfl (by omega) rfl rfl rfl rfl (c_303 (by omega) j50.1) (fun r56 w57 h58 => ?_)
                        obtain ⟨rfl, q59, q59T⟩ := h58
                        have f60 : e_fr mTi w w57 := e_fr.trans j48 (e_fr.mono q59 (fun c k q => su_93_21 q))
                        have hI61 : mInv w57 G := mInv.same j50 q59 q59T (fun c k q => ti_k q)
                        have tm62 : w57 276 0 = v2 276 0 := q59 276 0 no_93_10
                        have ev63 : w57 276 5 = v2 276 5 := q59 276 5 no_93_11
                        show e_Ok 20 elay ecode eI (d + 1) 408 (193, [(0, (1, 275)), (3, (0, y3))], [], w57) _
                        refine e_Ok.run (t' := (194, [(0, (1, 275)), (3, (0, y3))], [(1, 275)], w57)) 1 rfl ?_
                        refine e_Ok.callV rfl (by omega) rfl rfl rfl rfl (c_407 (by omega) hI61.1) (fun r64 w65 h66 => ?_)
                        obtain ⟨rfl, q67, q67T⟩ := h66
                        have f68 : e_fr mTi w w65 := e_fr.trans f60 (e_fr.mono q67 (fun c k q => su_93_19 q))
                        have hI69 : mInv w65 G := mInv.same hI61 q67 q67T (fun c k q => ti_tl q)
                        have tm70 : w65 276 0 = w57 276 0 := q67 276 0 no_93_5
                        have ev71 : w65 276 5 = w57 276 5 := q67 276 5 no_93_5
                        show e_Ok 20 elay ecode eI (d + 1) 408 (197, [(0, (1, 275)), (3, (0, y3))], [], w65) _
                        refine e_Ok.rets rfl rfl ?_
                        exact ⟨rfl, f68, hI69, by omega, by omega⟩
                      · replace h55 : (y3 : Int) < w 275 30 := by have q : ¬ ((y3 : Int) ≥ w 275 30) := h55; omega
                        refine e_Ok.run (t' := (180, [(0, (1, 275)), (3, (0, y3))], [(0, y3), (1, 275)], v2)) 2 rfl ?_
                        refine e_Ok.callV rfl (by omega) rfl rfl rfl rfl (c_398 (by omega) j50.1 j50.2.1 (by omega)) (fun r72 w73 h74 => ?_)
                        obtain ⟨rfl, q75, q75T⟩ := h74
                        have f76 : e_fr mTi w w73 := e_fr.trans j48 (e_fr.mono q75 (fun c k q => su_93_22 q))
                        have hI77 : mInv w73 G := mInv.same j50 q75 q75T (fun c k q => ti_dr q)
                        have tm78 : w73 276 0 = v2 276 0 := q75 276 0 no_93_12
                        have ev79 : w73 276 5 = v2 276 5 := q75 276 5 no_93_13
                        show e_Ok 20 elay ecode eI (d + 1) 408 (183, [(0, (1, 275)), (3, (0, y3))], [], w73) _
                        refine e_Ok.inc (z := y3 + 1) rfl rfl (by omega) (by omega) ?_
                        show e_Ok 20 elay ecode eI (d + 1) 408 (186, [(3, (0, y3 + 1)), (0, (1, 275))], [], w73) _
                        refine e_Ok.run (t' := (170, [(3, (0, y3 + 1)), (0, (1, 275))], [], w73)) 1 rfl ?_
                        refine e_Ok.sub eAlk (e_sub_of rfl ?_) (ih47 (y3 + 1) w73 ⟨f76, hI77.1, hI77, by omega, by omega, by omega⟩ (by omega))
                        exact ⟨rfl, rfl, trivial⟩
                  refine e_Ok.sub eAlk (e_sub_of rfl ?_) (hL46 (5 + 1 : Int).toNat 0 w37 ⟨f41, hI42.1, hI42, by omega, by omega, by omega⟩ (by omega))
                  exact ⟨rfl, rfl, trivial⟩
                · replace h45 : (0 : Int) ≠ 0 := by have q : ¬ ((0 : Int) = 0) := h45; omega
                  exfalso; omega
              · replace h27 : (0 : Int) ≠ 0 := by have q : ¬ ((0 : Int) = 0) := h27; omega
                exfalso; omega
            · replace h26 : (v1 276 1 : Int) = 1 := by have q : ¬ ((v1 276 1 : Int) ≠ 1) := h26; omega
              refine e_Ok.run (t' := (144, [(2, (0, 1)), (0, (1, 275))], [(0, 1)], v1)) 4 rfl ?_
              refine e_Ok.if1 rfl (fun h80 => ?_) (fun h80 => ?_)
              · replace h80 : (1 : Int) = 0 := h80
                exfalso; omega
              · replace h80 : (1 : Int) ≠ 0 := by have q : ¬ ((1 : Int) = 0) := h80; omega
                refine e_Ok.run (t' := (148, [(2, (0, 1)), (0, (1, 275))], [(1, 275)], v1)) 1 rfl ?_
                refine e_Ok.callV rfl (by omega) rfl rfl rfl rfl (c_402 (by omega) j20.1 j20.2.2.1 j20.2.2.2.2.2.1 (by omega) (by omega)) (fun r81 w82 h83 => ?_)
                obtain ⟨rfl, q84, q84T, q84n, q84m⟩ := h83
                have f85 : e_fr mTi w w82 := e_fr.trans j18 (e_fr.mono q84 (fun c k q => by exact ga_ti q))
                have hI86 : mInv w82 G := mInv.go j20 q84 q84T q84m
                have tm87 : w82 276 0 = v1 276 0 := q84 276 0 no_93_14
                show e_Ok 20 elay ecode eI (d + 1) 408 (151, [(2, (0, 1)), (0, (1, 275))], [], w82) _
                refine e_Ok.run (t' := (153, [(2, (0, 1)), (0, (1, 275))], [(0, 1), (1, 275)], w82)) 2 rfl ?_
                refine e_Ok.callV rfl (by omega) rfl rfl rfl rfl (c_403 hI86.1) (fun r88 w89 h90 => ?_)
                obtain ⟨rfl, q91, q91T⟩ := h90
                have f92 : e_fr mTi w w89 := e_fr.trans f85 (e_fr.mono q91 (fun c k q => su_93_19 q))
                have hI93 : mInv w89 G := mInv.same hI86 q91 q91T (fun c k q => ti_tl q)
                have tm94 : w89 276 0 = w82 276 0 := q91 276 0 no_93_5
                have ev95 : w89 276 5 = w82 276 5 := q91 276 5 no_93_5
                show e_Ok 20 elay ecode eI (d + 1) 408 (156, [(2, (0, 1)), (0, (1, 275))], [], w89) _
                refine e_Ok.run (t' := (157, [(2, (0, 1)), (0, (1, 275))], [(1, 275)], w89)) 1 rfl ?_
                refine e_Ok.callV rfl (by omega) rfl rfl rfl rfl (c_302 (by omega) hI93.1) (fun r101 w103 h104 => ?_)
                obtain ⟨rfl, q105, q105k⟩ := h104
                have f106 : e_fr mTi w w103 := e_fr.trans f92 (e_fr.mono q105 (fun c k q => su_93_20 q))
                have hI107 : mInv w103 G := mInv.same hI93 q105 (mT_P q105 hI93.1) (fun c k q => ti_p q)
                have tm108 : w103 276 0 = w89 276 0 := q105 276 0 no_93_6
                have ev109 : w103 276 5 = w89 276 5 := q105 276 5 no_93_6
                have kall : ∀ b, 0 ≤ b → b < w103 275 10 → e_pk2 w103 (7 * b) (w103 286 b) := fun b g1 g2 => by rw [q105 286 b no_93_7]; exact q105k b g1 (by rw [q105 275 10 no_93_8] at g2; exact g2)
                show e_Ok 20 elay ecode eI (d + 1) 408 (160, [(2, (0, 1)), (0, (1, 275))], [], w103) _
                refine e_Ok.run (t' := (161, [(2, (0, 1)), (0, (1, 275))], [(0, 1)], w103)) 1 rfl ?_
                refine e_Ok.if1 rfl (fun h110 => ?_) (fun h110 => ?_)
                · replace h110 : (1 : Int) = 0 := h110
                  exfalso; omega
                · replace h110 : (1 : Int) ≠ 0 := by have q : ¬ ((1 : Int) = 0) := h110; omega
                  refine e_Ok.run (t' := (165, [(2, (0, 1)), (0, (1, 275))], [(1, 275)], w103)) 1 rfl ?_
                  refine e_Ok.callV rfl (by omega) rfl rfl rfl rfl (c_406 (by omega) hI107.1 hI107.2.2.2.2.2.1 hI107.2.2.2.1 hI107.2.2.2.2.1 kall (by omega)) (fun r111 w112 h113 => ?_)
                  obtain ⟨rfl, q114, q114T, q114n, q114m⟩ := h113
                  have f115 : e_fr mTi w w112 := e_fr.trans f106 (e_fr.mono q114 (fun c k q => by exact lo_ti q))
                  have hI116 : mInv w112 G := mInv.look hI107 q114 q114T q114m
                  have tm117 : w112 276 0 = w103 276 0 := q114 276 0 no_93_15
                  show e_Ok 20 elay ecode eI (d + 1) 408 (168, [(2, (0, 1)), (0, (1, 275))], [], w112) _
                  refine e_Ok.run (t' := (170, [(3, (0, 0)), (2, (0, 1)), (0, (1, 275))], [], w112)) 2 rfl ?_
                  have hL118 : ∀ (nn : Nat) (y3 : Int) (v2 : eW), e_fr mTi w v2 ∧ e_Has mTy v2 ∧ mInv v2 G ∧ v2 276 0 = w 276 0 + 1 ∧ (w 276 5 ≤ v2 276 5 ∧ v2 276 5 ≤ w 276 5 + 820) ∧ (0 ≤ y3 ∧ y3 ≤ 4) → 5 - y3 < nn → e_Ok 20 elay ecode eI (d + 1) 408 (170, [(0, (1, 275)), (3, (0, y3))], [], v2) (fun r w' => r = [] ∧ e_fr mTi w w' ∧ mInv w' G ∧ w' 276 0 = w 276 0 + 1 ∧ (w 276 5 ≤ w' 276 5 ∧ w' 276 5 ≤ w 276 5 + 900)) := by
                    intro nn
                    induction nn with
                    | zero => intro y3 v2 hj hm; obtain ⟨j120, j121, j122, j123, j124, j125⟩ := hj; exfalso; omega
                    | succ nn ih119 =>
                      intro y3 v2 hj hm
                      obtain ⟨j120, j121, j122, j123, j124, j125⟩ := hj
                      refine e_Ok.run (t' := (172, [(0, (1, 275)), (3, (0, y3))], [(1, 275), (0, y3)], v2)) 2 rfl ?_
                      have h126 := (e_Has.get hI.1 (c := 275) (k := 30) (lo := 0) (hi := 4) rfl (by decide))
                      refine e_Ok.getf (z := w 275 30) rfl (el_o rfl) rfl rfl ((j120 275 30 no_93_9).trans rfl) (by omega) ?_
                      refine e_Ok.if2 rfl (fun h127 => ?_) (fun h127 => ?_)
                      · replace h127 : (y3 : Int) ≥ w 275 30 := h127
                        refine e_Ok.run (t' := (190, [(0, (1, 275)), (3, (0, y3))], [(1, 275)], v2)) 1 rfl ?_
                        refine e_Ok.callV rfl (by omega) rfl rfl rfl rfl (c_303 (by omega) j122.1) (fun r128 w129 h130 => ?_)
                        obtain ⟨rfl, q131, q131T⟩ := h130
                        have f132 : e_fr mTi w w129 := e_fr.trans j120 (e_fr.mono q131 (fun c k q => su_93_21 q))
                        have hI133 : mInv w129 G := mInv.same j122 q131 q131T (fun c k q => ti_k q)
                        have tm134 : w129 276 0 = v2 276 0 := q131 276 0 no_93_10
                        have ev135 : w129 276 5 = v2 276 5 := q131 276 5 no_93_11
                        show e_Ok 20 elay ecode eI (d + 1) 408 (193, [(0, (1, 275)), (3, (0, y3))], [], w129) _
                        refine e_Ok.run (t' := (194, [(0, (1, 275)), (3, (0, y3))], [(1, 275)], w129)) 1 rfl ?_
                        refine e_Ok.callV rfl (by omega) rfl rfl rfl rfl (c_407 (by omega) hI133.1) (fun r136 w137 h138 => ?_)
                        obtain ⟨rfl, q139, q139T⟩ := h138
                        have f140 : e_fr mTi w w137 := e_fr.trans f132 (e_fr.mono q139 (fun c k q => su_93_19 q))
                        have hI141 : mInv w137 G := mInv.same hI133 q139 q139T (fun c k q => ti_tl q)
                        have tm142 : w137 276 0 = w129 276 0 := q139 276 0 no_93_5
                        have ev143 : w137 276 5 = w129 276 5 := q139 276 5 no_93_5
                        show e_Ok 20 elay ecode eI (d + 1) 408 (197, [(0, (1, 275)), (3, (0, y3))], [], w137) _
                        refine e_Ok.rets rfl rfl ?_
                        exact ⟨rfl, f140, hI141, by omega, by omega⟩
                      · replace h127 : (y3 : Int) < w 275 30 := by have q : ¬ ((y3 : Int) ≥ w 275 30) := h127; omega
                        refine e_Ok.run (t' := (180, [(0, (1, 275)), (3, (0, y3))], [(0, y3), (1, 275)], v2)) 2 rfl ?_
                        refine e_Ok.callV rfl (by omega) rfl rfl rfl rfl (c_398 (by omega) j122.1 j122.2.1 (by omega)) (fun r144 w145 h146 => ?_)
                        obtain ⟨rfl, q147, q147T⟩ := h146
                        have f148 : e_fr mTi w w145 := e_fr.trans j120 (e_fr.mono q147 (fun c k q => su_93_22 q))
                        have hI149 : mInv w145 G := mInv.same j122 q147 q147T (fun c k q => ti_dr q)
                        have tm150 : w145 276 0 = v2 276 0 := q147 276 0 no_93_12
                        have ev151 : w145 276 5 = v2 276 5 := q147 276 5 no_93_13
                        show e_Ok 20 elay ecode eI (d + 1) 408 (183, [(0, (1, 275)), (3, (0, y3))], [], w145) _
                        refine e_Ok.inc (z := y3 + 1) rfl rfl (by omega) (by omega) ?_
                        show e_Ok 20 elay ecode eI (d + 1) 408 (186, [(3, (0, y3 + 1)), (0, (1, 275))], [], w145) _
                        refine e_Ok.run (t' := (170, [(3, (0, y3 + 1)), (0, (1, 275))], [], w145)) 1 rfl ?_
                        refine e_Ok.sub eAlk (e_sub_of rfl ?_) (ih119 (y3 + 1) w145 ⟨f148, hI149.1, hI149, by omega, by omega, by omega⟩ (by omega))
                        exact ⟨rfl, rfl, trivial⟩
                  refine e_Ok.sub eAlk (e_sub_of rfl ?_) (hL118 (5 + 1 : Int).toNat 0 w112 ⟨f115, hI116.1, hI116, by omega, by omega, by omega⟩ (by omega))
                  exact ⟨rfl, rfl, trivial⟩
          · replace h24 : (y2 : Int) < 16 := by have q : ¬ ((y2 : Int) ≥ 16) := h24; omega
            refine e_Ok.run (t' := (52, [(0, (1, 275)), (2, (0, y2))], [(1, 275)], v1)) 1 rfl ?_
            refine e_Ok.getr (z := 276) rfl (el_o rfl) rfl rfl ((j18 275 0 no_93_4).trans (e_Has.eq hI.1 rfl)) (by omega) ?_
            refine e_Ok.run (t' := (56, [(0, (1, 275)), (2, (0, y2))], [(0, y2), (1, 276)], v1)) 1 rfl ?_
            refine e_Ok.callS rfl (by omega) rfl rfl (c_269 (by omega)) (fun r152 w153 h154 => ?_)
            obtain ⟨rfl, rfl⟩ := h154
            show e_Ok 20 elay ecode eI (d + 1) 408 (59, [(0, (1, 275)), (2, (0, y2))], [(0, 1260 * y2 + 416), (1, 276)], v1) _
            have h155 := (e_Has.get j19 (c := 276) (k := 1260 * y2 + 416) (lo := 0) (hi := 7) (nR_TSTATE (t := y2) (by omega)) (by decide))
            refine e_Ok.ald (z := v1 276 (1260 * y2 + 416)) rfl (el_o rfl) rfl (by omega) rfl (by omega) ?_
            refine e_Ok.run (t' := (62, [(3, (0, v1 276 (1260 * y2 + 416))), (0, (1, 275)), (2, (0, y2))], [(0, v1 276 (1260 * y2 + 416))], v1)) 2 rfl ?_
            refine e_Ok.if1 rfl (fun h156 => ?_) (fun h156 => ?_)
            · replace h156 : (v1 276 (1260 * y2 + 416) : Int) ≤ 0 := h156
              refine e_Ok.inc (z := y2 + 1) rfl rfl (by omega) (by omega) ?_
              show e_Ok 20 elay ecode eI (d + 1) 408 (124, [(2, (0, y2 + 1)), (3, (0, v1 276 (1260 * y2 + 416))), (0, (1, 275))], [], v1) _
              refine e_Ok.run (t' := (45, [(2, (0, y2 + 1)), (3, (0, v1 276 (1260 * y2 + 416))), (0, (1, 275))], [], v1)) 1 rfl ?_
              refine e_Ok.sub eAlk (e_sub_of rfl ?_) (ih17 (y2 + 1) v1 ⟨j18, j19, j20, by omega, by omega, by omega⟩ (by omega))
              exact ⟨rfl, rfl, trivial⟩
            · replace h156 : (v1 276 (1260 * y2 + 416) : Int) > 0 := by have q : ¬ ((v1 276 (1260 * y2 + 416) : Int) ≤ 0) := h156; omega
              refine e_Ok.run (t' := (68, [(3, (0, v1 276 (1260 * y2 + 416))), (0, (1, 275)), (2, (0, y2))], [(0, 6), (0, v1 276 (1260 * y2 + 416))], v1)) 2 rfl ?_
              refine e_Ok.if2 rfl (fun h157 => ?_) (fun h157 => ?_)
              · replace h157 : (v1 276 (1260 * y2 + 416) : Int) ≥ 6 := h157
                refine e_Ok.inc (z := y2 + 1) rfl rfl (by omega) (by omega) ?_
                show e_Ok 20 elay ecode eI (d + 1) 408 (124, [(2, (0, y2 + 1)), (3, (0, v1 276 (1260 * y2 + 416))), (0, (1, 275))], [], v1) _
                refine e_Ok.run (t' := (45, [(2, (0, y2 + 1)), (3, (0, v1 276 (1260 * y2 + 416))), (0, (1, 275))], [], v1)) 1 rfl ?_
                refine e_Ok.sub eAlk (e_sub_of rfl ?_) (ih17 (y2 + 1) v1 ⟨j18, j19, j20, by omega, by omega, by omega⟩ (by omega))
                exact ⟨rfl, rfl, trivial⟩
              · replace h157 : (v1 276 (1260 * y2 + 416) : Int) < 6 := by have q : ¬ ((v1 276 (1260 * y2 + 416) : Int) ≥ 6) := h157; omega
                refine e_Ok.run (t' := (72, [(3, (0, v1 276 (1260 * y2 + 416))), (0, (1, 275)), (2, (0, y2))], [(1, 275)], v1)) 1 rfl ?_
                refine e_Ok.getr (z := 276) rfl (el_o rfl) rfl rfl ((j18 275 0 no_93_4).trans (e_Has.eq hI.1 rfl)) (by omega) ?_
                refine e_Ok.run (t' := (76, [(3, (0, v1 276 (1260 * y2 + 416))), (0, (1, 275)), (2, (0, y2))], [(0, y2), (1, 276)], v1)) 1 rfl ?_
                refine e_Ok.callS rfl (by omega) rfl rfl (c_269 (by omega)) (fun r158 w159 h160 => ?_)
                obtain ⟨rfl, rfl⟩ := h160
                show e_Ok 20 elay ecode eI (d + 1) 408 (79, [(3, (0, v1 276 (1260 * y2 + 416))), (0, (1, 275)), (2, (0, y2))], [(0, 1260 * y2 + 416), (1, 276)], v1) _
                refine e_Ok.run (t' := (81, [(3, (0, v1 276 (1260 * y2 + 416))), (0, (1, 275)), (2, (0, y2))], [(0, 11), (0, 1260 * y2 + 416), (1, 276)], v1)) 1 rfl ?_
                refine e_Ok.add (z := 1260 * y2 + 427) rfl (by omega) (by omega) ?_
                have h161 := (e_Has.get j19 (c := 276) (k := 1260 * y2 + 427) (lo := 0) (hi := 6001) (nR_ACTS (t := y2) (by omega)) (by decide))
                refine e_Ok.ald (z := v1 276 (1260 * y2 + 427)) rfl (el_o rfl) rfl (by omega) rfl (by omega) ?_
                refine e_Ok.run (t' := (84, [(3, (0, v1 276 (1260 * y2 + 416))), (0, (1, 275)), (2, (0, y2))], [(1, 275), (0, v1 276 (1260 * y2 + 427))], v1)) 1 rfl ?_
                refine e_Ok.getr (z := 276) rfl (el_o rfl) rfl rfl ((j18 275 0 no_93_4).trans (e_Has.eq hI.1 rfl)) (by omega) ?_
                refine e_Ok.run (t' := (88, [(3, (0, v1 276 (1260 * y2 + 416))), (0, (1, 275)), (2, (0, y2))], [(0, 0), (1, 276), (0, v1 276 (1260 * y2 + 427))], v1)) 1 rfl ?_
                have h162 := (e_Has.get j19 (c := 276) (k := 0) (lo := 0) (hi := 6000) rfl (by decide))
                refine e_Ok.ald (z := v1 276 0) rfl (el_o rfl) rfl (by omega) rfl (by omega) ?_
                refine e_Ok.if2 rfl (fun h163 => ?_) (fun h163 => ?_)
                · replace h163 : (v1 276 (1260 * y2 + 427) : Int) > v1 276 0 := h163
                  refine e_Ok.inc (z := y2 + 1) rfl rfl (by omega) (by omega) ?_
                  show e_Ok 20 elay ecode eI (d + 1) 408 (124, [(2, (0, y2 + 1)), (3, (0, v1 276 (1260 * y2 + 416))), (0, (1, 275))], [], v1) _
                  refine e_Ok.run (t' := (45, [(2, (0, y2 + 1)), (3, (0, v1 276 (1260 * y2 + 416))), (0, (1, 275))], [], v1)) 1 rfl ?_
                  refine e_Ok.sub eAlk (e_sub_of rfl ?_) (ih17 (y2 + 1) v1 ⟨j18, j19, j20, by omega, by omega, by omega⟩ (by omega))
                  exact ⟨rfl, rfl, trivial⟩
                · replace h163 : (v1 276 (1260 * y2 + 427) : Int) ≤ v1 276 0 := by have q : ¬ ((v1 276 (1260 * y2 + 427) : Int) > v1 276 0) := h163; omega
                  obtain ⟨xa, xg, xp, xb, xo, xha, xarm, -⟩ := j20.2.2.2.2.2.2.2.2 y2 (by omega) (by omega) (by omega) (by omega)
                  refine e_Ok.run (t' := (93, [(3, (0, v1 276 (1260 * y2 + 416))), (0, (1, 275)), (2, (0, y2))], [(1, 275)], v1)) 1 rfl ?_
                  refine e_Ok.getr (z := 276) rfl (el_o rfl) rfl rfl ((j18 275 0 no_93_4).trans (e_Has.eq hI.1 rfl)) (by omega) ?_
                  refine e_Ok.run (t' := (97, [(3, (0, v1 276 (1260 * y2 + 416))), (0, (1, 275)), (2, (0, y2))], [(1, 275), (1, 276)], v1)) 1 rfl ?_
                  refine e_Ok.getr (z := 276) rfl (el_o rfl) rfl rfl ((j18 275 0 no_93_4).trans (e_Has.eq hI.1 rfl)) (by omega) ?_
                  refine e_Ok.run (t' := (101, [(3, (0, v1 276 (1260 * y2 + 416))), (0, (1, 275)), (2, (0, y2))], [(0, y2), (1, 276), (1, 276)], v1)) 1 rfl ?_
                  refine e_Ok.callS rfl (by omega) rfl rfl (c_269 (by omega)) (fun r164 w165 h166 => ?_)
                  obtain ⟨rfl, rfl⟩ := h166
                  show e_Ok 20 elay ecode eI (d + 1) 408 (104, [(3, (0, v1 276 (1260 * y2 + 416))), (0, (1, 275)), (2, (0, y2))], [(0, 1260 * y2 + 416), (1, 276), (1, 276)], v1) _
                  refine e_Ok.run (t' := (105, [(3, (0, v1 276 (1260 * y2 + 416))), (0, (1, 275)), (2, (0, y2))], [(0, 1), (0, 1260 * y2 + 416), (1, 276), (1, 276)], v1)) 1 rfl ?_
                  refine e_Ok.add (z := 1260 * y2 + 417) rfl (by omega) (by omega) ?_
                  refine e_Ok.ald (z := v1 276 (1260 * y2 + 417)) rfl (el_o rfl) rfl (by omega) rfl (by omega) ?_
                  refine e_Ok.callS rfl (by omega) rfl rfl (c_268 (by omega)) (fun r167 w168 h169 => ?_)
                  obtain ⟨rfl, rfl⟩ := h169
                  show e_Ok 20 elay ecode eI (d + 1) 408 (110, [(3, (0, v1 276 (1260 * y2 + 416))), (0, (1, 275)), (2, (0, y2))], [(0, 36 * v1 276 (1260 * y2 + 417) + 16), (1, 276)], v1) _
                  refine e_Ok.run (t' := (111, [(3, (0, v1 276 (1260 * y2 + 416))), (0, (1, 275)), (2, (0, y2))], [(0, 2), (0, 36 * v1 276 (1260 * y2 + 417) + 16), (1, 276)], v1)) 1 rfl ?_
                  refine e_Ok.add (z := 36 * v1 276 (1260 * y2 + 417) + 18) rfl (by omega) (by omega) ?_
                  have h170 := (e_Has.get j19 (c := 276) (k := 36 * v1 276 (1260 * y2 + 417) + 18) (lo := (-1)) (hi := 15) (nR_STUCK (a := v1 276 (1260 * y2 + 417)) (by omega)) (by decide))
                  refine e_Ok.ald (z := v1 276 (36 * v1 276 (1260 * y2 + 417) + 18)) rfl rfl rfl (by omega) rfl (by omega) ?_
                  refine e_Ok.if1 rfl (fun h171 => ?_) (fun h171 => ?_)
                  · replace h171 : (v1 276 (36 * v1 276 (1260 * y2 + 417) + 18) : Int) ≥ 0 := h171
                    refine e_Ok.inc (z := y2 + 1) rfl rfl (by omega) (by omega) ?_
                    show e_Ok 20 elay ecode eI (d + 1) 408 (124, [(2, (0, y2 + 1)), (3, (0, v1 276 (1260 * y2 + 416))), (0, (1, 275))], [], v1) _
                    refine e_Ok.run (t' := (45, [(2, (0, y2 + 1)), (3, (0, v1 276 (1260 * y2 + 416))), (0, (1, 275))], [], v1)) 1 rfl ?_
                    refine e_Ok.sub eAlk (e_sub_of rfl ?_) (ih17 (y2 + 1) v1 ⟨j18, j19, j20, by omega, by omega, by omega⟩ (by omega))
                    exact ⟨rfl, rfl, trivial⟩
                  · replace h171 : (v1 276 (36 * v1 276 (1260 * y2 + 417) + 18) : Int) < 0 := by have q : ¬ ((v1 276 (36 * v1 276 (1260 * y2 + 417) + 18) : Int) ≥ 0) := h171; omega
                    refine e_Ok.run (t' := (118, [(3, (0, v1 276 (1260 * y2 + 416))), (0, (1, 275)), (2, (0, y2))], [(0, y2), (1, 275)], v1)) 2 rfl ?_
                    refine e_Ok.callV rfl (by omega) rfl rfl rfl rfl (c_366 (by omega) j20.1 j20.2.1 j20.2.2.1 j20.2.2.2.2.2.1 j20.2.2.2.2.2.2.1 (by omega) j20.2.2.2.2.2.2.2.1 (j20.2.2.2.2.2.2.2.2 y2 (by omega) (by omega)) (by omega) (by omega)) (fun r172 w173 h174 => ?_)
                    obtain ⟨rfl, q175, q175T, q175n, q175m, q175o, q175k⟩ := h174
                    have f176 : e_fr mTi w w173 := e_fr.trans j18 (e_fr.mono q175 (fun c k q => by exact tt_ti q))
                    have hI177 : mInv w173 G := mInv.turn j20 q175 q175T q175m q175o q175k
                    have tm178 : w173 276 0 = v1 276 0 := q175 276 0 no_93_16
                    show e_Ok 20 elay ecode eI (d + 1) 408 (121, [(3, (0, v1 276 (1260 * y2 + 416))), (0, (1, 275)), (2, (0, y2))], [], w173) _
                    refine e_Ok.inc (z := y2 + 1) rfl rfl (by omega) (by omega) ?_
                    show e_Ok 20 elay ecode eI (d + 1) 408 (124, [(2, (0, y2 + 1)), (3, (0, v1 276 (1260 * y2 + 416))), (0, (1, 275))], [], w173) _
                    refine e_Ok.run (t' := (45, [(2, (0, y2 + 1)), (3, (0, v1 276 (1260 * y2 + 416))), (0, (1, 275))], [], w173)) 1 rfl ?_
                    refine e_Ok.sub eAlk (e_sub_of rfl ?_) (ih17 (y2 + 1) w173 ⟨f176, hI177.1, hI177, by omega, by omega, by omega⟩ (by omega))
                    exact ⟨rfl, rfl, trivial⟩
      refine e_Ok.sub eAlk (e_sub_of rfl ?_) (hL16 (17 + 1 : Int).toNat 0 w6 ⟨f9, hI10.1, hI10, by omega, by omega, by omega⟩ (by omega))
      exact ⟨rfl, rfl, trivial⟩
    · replace h15 : ((-1) : Int) ≥ 0 := by have q : ¬ (((-1) : Int) < 0) := h15; omega
      exfalso; omega
  · replace h14 : (w 276 1 : Int) = 1 := by have q : ¬ ((w 276 1 : Int) ≠ 1) := h14; omega
    refine e_Ok.run (t' := (25, [(0, (1, 275))], [(1, 275)], w6)) 1 rfl ?_
    refine e_Ok.callV rfl (by omega) rfl rfl rfl rfl (c_400 (by omega) hI10.1) (fun r179 w180 h181 => ?_)
    obtain ⟨z182, rfl, rfl, q183a, q183b⟩ := h181
    show e_Ok 20 elay ecode eI (d + 1) 408 (28, [(0, (1, 275))], [(0, z182)], w6) _
    refine e_Ok.run (t' := (34, [(1, (0, z182)), (0, (1, 275))], [(0, z182)], w6)) 3 rfl ?_
    refine e_Ok.if1 rfl (fun h184 => ?_) (fun h184 => ?_)
    · replace h184 : (z182 : Int) < 0 := h184
      refine e_Ok.run (t' := (45, [(2, (0, 0)), (1, (0, z182)), (0, (1, 275))], [], w6)) 2 rfl ?_
      have hL185 : ∀ (nn : Nat) (y2 : Int) (v1 : eW), e_fr mTi w v1 ∧ e_Has mTy v1 ∧ mInv v1 G ∧ v1 276 0 = w 276 0 + 1 ∧ (w 276 5 ≤ v1 276 5 ∧ v1 276 5 ≤ w 276 5 + 5 + 50 * y2) ∧ (0 ≤ y2 ∧ y2 ≤ 16) → 17 - y2 < nn → e_Ok 20 elay ecode eI (d + 1) 408 (45, [(0, (1, 275)), (2, (0, y2))], [], v1) (fun r w' => r = [] ∧ e_fr mTi w w' ∧ mInv w' G ∧ w' 276 0 = w 276 0 + 1 ∧ (w 276 5 ≤ w' 276 5 ∧ w' 276 5 ≤ w 276 5 + 900)) := by
        intro nn
        induction nn with
        | zero => intro y2 v1 hj hm; obtain ⟨j187, j188, j189, j190, j191, j192⟩ := hj; exfalso; omega
        | succ nn ih186 =>
          intro y2 v1 hj hm
          obtain ⟨j187, j188, j189, j190, j191, j192⟩ := hj
          refine e_Ok.run (t' := (48, [(0, (1, 275)), (2, (0, y2))], [(0, 16), (0, y2)], v1)) 2 rfl ?_
          refine e_Ok.if2 rfl (fun h193 => ?_) (fun h193 => ?_)
          · replace h193 : (y2 : Int) ≥ 16 := h193
            refine e_Ok.run (t' := (128, [(0, (1, 275)), (2, (0, y2))], [(1, 275)], v1)) 1 rfl ?_
            refine e_Ok.getr (z := 276) rfl (el_o rfl) rfl rfl ((j187 275 0 no_93_4).trans (e_Has.eq hI.1 rfl)) (by omega) ?_
            refine e_Ok.run (t' := (132, [(0, (1, 275)), (2, (0, y2))], [(0, 1), (1, 276)], v1)) 1 rfl ?_
            have h194 := (e_Has.get j188 (c := 276) (k := 1) (lo := 0) (hi := 1) rfl (by decide))
            refine e_Ok.ald (z := v1 276 1) rfl (el_o rfl) rfl (by omega) rfl (by omega) ?_
            refine e_Ok.run (t' := (134, [(0, (1, 275)), (2, (0, y2))], [(0, 1), (0, v1 276 1)], v1)) 1 rfl ?_
            refine e_Ok.if2 rfl (fun h195 => ?_) (fun h195 => ?_)
            · replace h195 : (v1 276 1 : Int) ≠ 1 := h195
              refine e_Ok.run (t' := (144, [(2, (0, 0)), (0, (1, 275))], [(0, 0)], v1)) 3 rfl ?_
              refine e_Ok.if1 rfl (fun h196 => ?_) (fun h196 => ?_)
              · replace h196 : (0 : Int) = 0 := h196
                refine e_Ok.run (t' := (153, [(2, (0, 0)), (0, (1, 275))], [(0, 0), (1, 275)], v1)) 2 rfl ?_
                refine e_Ok.callV rfl (by omega) rfl rfl rfl rfl (c_403 j189.1) (fun r197 w198 h199 => ?_)
                obtain ⟨rfl, q200, q200T⟩ := h199
                have f201 : e_fr mTi w w198 := e_fr.trans j187 (e_fr.mono q200 (fun c k q => su_93_19 q))
                have hI202 : mInv w198 G := mInv.same j189 q200 q200T (fun c k q => ti_tl q)
                have tm203 : w198 276 0 = v1 276 0 := q200 276 0 no_93_5
                have ev204 : w198 276 5 = v1 276 5 := q200 276 5 no_93_5
                show e_Ok 20 elay ecode eI (d + 1) 408 (156, [(2, (0, 0)), (0, (1, 275))], [], w198) _
                refine e_Ok.run (t' := (157, [(2, (0, 0)), (0, (1, 275))], [(1, 275)], w198)) 1 rfl ?_
                refine e_Ok.callV rfl (by omega) rfl rfl rfl rfl (c_302 (by omega) hI202.1) (fun r205 w206 h207 => ?_)
                obtain ⟨rfl, q208, q208k⟩ := h207
                have f209 : e_fr mTi w w206 := e_fr.trans f201 (e_fr.mono q208 (fun c k q => su_93_20 q))
                have hI210 : mInv w206 G := mInv.same hI202 q208 (mT_P q208 hI202.1) (fun c k q => ti_p q)
                have tm211 : w206 276 0 = w198 276 0 := q208 276 0 no_93_6
                have ev212 : w206 276 5 = w198 276 5 := q208 276 5 no_93_6
                have kall : ∀ b, 0 ≤ b → b < w206 275 10 → e_pk2 w206 (7 * b) (w206 286 b) := fun b g1 g2 => by rw [q208 286 b no_93_7]; exact q208k b g1 (by rw [q208 275 10 no_93_8] at g2; exact g2)
                show e_Ok 20 elay ecode eI (d + 1) 408 (160, [(2, (0, 0)), (0, (1, 275))], [], w206) _
                refine e_Ok.run (t' := (161, [(2, (0, 0)), (0, (1, 275))], [(0, 0)], w206)) 1 rfl ?_
                refine e_Ok.if1 rfl (fun h213 => ?_) (fun h213 => ?_)
                · replace h213 : (0 : Int) = 0 := h213
                  refine e_Ok.run (t' := (170, [(3, (0, 0)), (2, (0, 0)), (0, (1, 275))], [], w206)) 2 rfl ?_
                  have hL214 : ∀ (nn : Nat) (y3 : Int) (v2 : eW), e_fr mTi w v2 ∧ e_Has mTy v2 ∧ mInv v2 G ∧ v2 276 0 = w 276 0 + 1 ∧ (w 276 5 ≤ v2 276 5 ∧ v2 276 5 ≤ w 276 5 + 820) ∧ (0 ≤ y3 ∧ y3 ≤ 4) → 5 - y3 < nn → e_Ok 20 elay ecode eI (d + 1) 408 (170, [(0, (1, 275)), (3, (0, y3))], [], v2) (fun r w' => r = [] ∧ e_fr mTi w w' ∧ mInv w' G ∧ w' 276 0 = w 276 0 + 1 ∧ (w 276 5 ≤ w' 276 5 ∧ w' 276 5 ≤ w 276 5 + 900)) := by
                    intro nn
                    induction nn with
                    | zero => intro y3 v2 hj hm; obtain ⟨j216, j217, j218, j219, j220, j221⟩ := hj; exfalso; omega
                    | succ nn ih215 =>
                      intro y3 v2 hj hm
                      obtain ⟨j216, j217, j218, j219, j220, j221⟩ := hj
                      refine e_Ok.run (t' := (172, [(0, (1, 275)), (3, (0, y3))], [(1, 275), (0, y3)], v2)) 2 rfl ?_
                      have h222 := (e_Has.get hI.1 (c := 275) (k := 30) (lo := 0) (hi := 4) rfl (by decide))
                      refine e_Ok.getf (z := w 275 30) rfl (el_o rfl) rfl rfl ((j216 275 30 no_93_9).trans rfl) (by omega) ?_
                      refine e_Ok.if2 rfl (fun h223 => ?_) (fun h223 => ?_)
                      · replace h223 : (y3 : Int) ≥ w 275 30 := h223
                        refine e_Ok.run (t' := (190, [(0, (1, 275)), (3, (0, y3))], [(1, 275)], v2)) 1 rfl ?_
                        refine e_Ok.callV rfl (by omega) rfl rfl rfl rfl (c_303 (by omega) j218.1) (fun r224 w225 h226 => ?_)
                        obtain ⟨rfl, q227, q227T⟩ := h226
                        have f228 : e_fr mTi w w225 := e_fr.trans j216 (e_fr.mono q227 (fun c k q => su_93_21 q))
                        have hI229 : mInv w225 G := mInv.same j218 q227 q227T (fun c k q => ti_k q)
                        have tm230 : w225 276 0 = v2 276 0 := q227 276 0 no_93_10
                        have ev231 : w225 276 5 = v2 276 5 := q227 276 5 no_93_11
                        show e_Ok 20 elay ecode eI (d + 1) 408 (193, [(0, (1, 275)), (3, (0, y3))], [], w225) _
                        refine e_Ok.run (t' := (194, [(0, (1, 275)), (3, (0, y3))], [(1, 275)], w225)) 1 rfl ?_
                        refine e_Ok.callV rfl (by omega) rfl rfl rfl rfl (c_407 (by omega) hI229.1) (fun r232 w233 h234 => ?_)
                        obtain ⟨rfl, q235, q235T⟩ := h234
                        have f236 : e_fr mTi w w233 := e_fr.trans f228 (e_fr.mono q235 (fun c k q => su_93_19 q))
                        have hI237 : mInv w233 G := mInv.same hI229 q235 q235T (fun c k q => ti_tl q)
                        have tm238 : w233 276 0 = w225 276 0 := q235 276 0 no_93_5
                        have ev239 : w233 276 5 = w225 276 5 := q235 276 5 no_93_5
                        show e_Ok 20 elay ecode eI (d + 1) 408 (197, [(0, (1, 275)), (3, (0, y3))], [], w233) _
                        refine e_Ok.rets rfl rfl ?_
                        exact ⟨rfl, f236, hI237, by omega, by omega⟩
                      · replace h223 : (y3 : Int) < w 275 30 := by have q : ¬ ((y3 : Int) ≥ w 275 30) := h223; omega
                        refine e_Ok.run (t' := (180, [(0, (1, 275)), (3, (0, y3))], [(0, y3), (1, 275)], v2)) 2 rfl ?_
                        refine e_Ok.callV rfl (by omega) rfl rfl rfl rfl (c_398 (by omega) j218.1 j218.2.1 (by omega)) (fun r240 w241 h242 => ?_)
                        obtain ⟨rfl, q243, q243T⟩ := h242
                        have f244 : e_fr mTi w w241 := e_fr.trans j216 (e_fr.mono q243 (fun c k q => su_93_22 q))
                        have hI245 : mInv w241 G := mInv.same j218 q243 q243T (fun c k q => ti_dr q)
                        have tm246 : w241 276 0 = v2 276 0 := q243 276 0 no_93_12
                        have ev247 : w241 276 5 = v2 276 5 := q243 276 5 no_93_13
                        show e_Ok 20 elay ecode eI (d + 1) 408 (183, [(0, (1, 275)), (3, (0, y3))], [], w241) _
                        refine e_Ok.inc (z := y3 + 1) rfl rfl (by omega) (by omega) ?_
                        show e_Ok 20 elay ecode eI (d + 1) 408 (186, [(3, (0, y3 + 1)), (0, (1, 275))], [], w241) _
                        refine e_Ok.run (t' := (170, [(3, (0, y3 + 1)), (0, (1, 275))], [], w241)) 1 rfl ?_
                        refine e_Ok.sub eAlk (e_sub_of rfl ?_) (ih215 (y3 + 1) w241 ⟨f244, hI245.1, hI245, by omega, by omega, by omega⟩ (by omega))
                        exact ⟨rfl, rfl, trivial⟩
                  refine e_Ok.sub eAlk (e_sub_of rfl ?_) (hL214 (5 + 1 : Int).toNat 0 w206 ⟨f209, hI210.1, hI210, by omega, by omega, by omega⟩ (by omega))
                  exact ⟨rfl, rfl, trivial⟩
                · replace h213 : (0 : Int) ≠ 0 := by have q : ¬ ((0 : Int) = 0) := h213; omega
                  exfalso; omega
              · replace h196 : (0 : Int) ≠ 0 := by have q : ¬ ((0 : Int) = 0) := h196; omega
                exfalso; omega
            · replace h195 : (v1 276 1 : Int) = 1 := by have q : ¬ ((v1 276 1 : Int) ≠ 1) := h195; omega
              refine e_Ok.run (t' := (144, [(2, (0, 1)), (0, (1, 275))], [(0, 1)], v1)) 4 rfl ?_
              refine e_Ok.if1 rfl (fun h248 => ?_) (fun h248 => ?_)
              · replace h248 : (1 : Int) = 0 := h248
                exfalso; omega
              · replace h248 : (1 : Int) ≠ 0 := by have q : ¬ ((1 : Int) = 0) := h248; omega
                refine e_Ok.run (t' := (148, [(2, (0, 1)), (0, (1, 275))], [(1, 275)], v1)) 1 rfl ?_
                refine e_Ok.callV rfl (by omega) rfl rfl rfl rfl (c_402 (by omega) j189.1 j189.2.2.1 j189.2.2.2.2.2.1 (by omega) (by omega)) (fun r249 w250 h251 => ?_)
                obtain ⟨rfl, q252, q252T, q252n, q252m⟩ := h251
                have f253 : e_fr mTi w w250 := e_fr.trans j187 (e_fr.mono q252 (fun c k q => by exact ga_ti q))
                have hI254 : mInv w250 G := mInv.go j189 q252 q252T q252m
                have tm255 : w250 276 0 = v1 276 0 := q252 276 0 no_93_14
                show e_Ok 20 elay ecode eI (d + 1) 408 (151, [(2, (0, 1)), (0, (1, 275))], [], w250) _
                refine e_Ok.run (t' := (153, [(2, (0, 1)), (0, (1, 275))], [(0, 1), (1, 275)], w250)) 2 rfl ?_
                refine e_Ok.callV rfl (by omega) rfl rfl rfl rfl (c_403 hI254.1) (fun r256 w257 h258 => ?_)
                obtain ⟨rfl, q259, q259T⟩ := h258
                have f260 : e_fr mTi w w257 := e_fr.trans f253 (e_fr.mono q259 (fun c k q => su_93_19 q))
                have hI261 : mInv w257 G := mInv.same hI254 q259 q259T (fun c k q => ti_tl q)
                have tm262 : w257 276 0 = w250 276 0 := q259 276 0 no_93_5
                have ev263 : w257 276 5 = w250 276 5 := q259 276 5 no_93_5
                show e_Ok 20 elay ecode eI (d + 1) 408 (156, [(2, (0, 1)), (0, (1, 275))], [], w257) _
                refine e_Ok.run (t' := (157, [(2, (0, 1)), (0, (1, 275))], [(1, 275)], w257)) 1 rfl ?_
                refine e_Ok.callV rfl (by omega) rfl rfl rfl rfl (c_302 (by omega) hI261.1) (fun r264 w265 h266 => ?_)
                obtain ⟨rfl, q267, q267k⟩ := h266
                have f268 : e_fr mTi w w265 := e_fr.trans f260 (e_fr.mono q267 (fun c k q => su_93_20 q))
                have hI269 : mInv w265 G := mInv.same hI261 q267 (mT_P q267 hI261.1) (fun c k q => ti_p q)
                have tm270 : w265 276 0 = w257 276 0 := q267 276 0 no_93_6
                have ev271 : w265 276 5 = w257 276 5 := q267 276 5 no_93_6
                have kall : ∀ b, 0 ≤ b → b < w265 275 10 → e_pk2 w265 (7 * b) (w265 286 b) := fun b g1 g2 => by rw [q267 286 b no_93_7]; exact q267k b g1 (by rw [q267 275 10 no_93_8] at g2; exact g2)
                show e_Ok 20 elay ecode eI (d + 1) 408 (160, [(2, (0, 1)), (0, (1, 275))], [], w265) _
                refine e_Ok.run (t' := (161, [(2, (0, 1)), (0, (1, 275))], [(0, 1)], w265)) 1 rfl ?_
                refine e_Ok.if1 rfl (fun h272 => ?_) (fun h272 => ?_)
                · replace h272 : (1 : Int) = 0 := h272
                  exfalso; omega
                · replace h272 : (1 : Int) ≠ 0 := by have q : ¬ ((1 : Int) = 0) := h272; omega
                  refine e_Ok.run (t' := (165, [(2, (0, 1)), (0, (1, 275))], [(1, 275)], w265)) 1 rfl ?_
                  refine e_Ok.callV rfl (by omega) rfl rfl rfl rfl (c_406 (by omega) hI269.1 hI269.2.2.2.2.2.1 hI269.2.2.2.1 hI269.2.2.2.2.1 kall (by omega)) (fun r273 w274 h275 => ?_)
                  obtain ⟨rfl, q276, q276T, q276n, q276m⟩ := h275
                  have f277 : e_fr mTi w w274 := e_fr.trans f268 (e_fr.mono q276 (fun c k q => by exact lo_ti q))
                  have hI278 : mInv w274 G := mInv.look hI269 q276 q276T q276m
                  have tm279 : w274 276 0 = w265 276 0 := q276 276 0 no_93_15
                  show e_Ok 20 elay ecode eI (d + 1) 408 (168, [(2, (0, 1)), (0, (1, 275))], [], w274) _
                  refine e_Ok.run (t' := (170, [(3, (0, 0)), (2, (0, 1)), (0, (1, 275))], [], w274)) 2 rfl ?_
                  have hL280 : ∀ (nn : Nat) (y3 : Int) (v2 : eW), e_fr mTi w v2 ∧ e_Has mTy v2 ∧ mInv v2 G ∧ v2 276 0 = w 276 0 + 1 ∧ (w 276 5 ≤ v2 276 5 ∧ v2 276 5 ≤ w 276 5 + 820) ∧ (0 ≤ y3 ∧ y3 ≤ 4) → 5 - y3 < nn → e_Ok 20 elay ecode eI (d + 1) 408 (170, [(0, (1, 275)), (3, (0, y3))], [], v2) (fun r w' => r = [] ∧ e_fr mTi w w' ∧ mInv w' G ∧ w' 276 0 = w 276 0 + 1 ∧ (w 276 5 ≤ w' 276 5 ∧ w' 276 5 ≤ w 276 5 + 900)) := by
                    intro nn
                    induction nn with
                    | zero => intro y3 v2 hj hm; obtain ⟨j282, j283, j284, j285, j286, j287⟩ := hj; exfalso; omega
                    | succ nn ih281 =>
                      intro y3 v2 hj hm
                      obtain ⟨j282, j283, j284, j285, j286, j287⟩ := hj
                      refine e_Ok.run (t' := (172, [(0, (1, 275)), (3, (0, y3))], [(1, 275), (0, y3)], v2)) 2 rfl ?_
                      have h288 := (e_Has.get hI.1 (c := 275) (k := 30) (lo := 0) (hi := 4) rfl (by decide))
                      refine e_Ok.getf (z := w 275 30) rfl (el_o rfl) rfl rfl ((j282 275 30 no_93_9).trans rfl) (by omega) ?_
                      refine e_Ok.if2 rfl (fun h289 => ?_) (fun h289 => ?_)
                      · replace h289 : (y3 : Int) ≥ w 275 30 := h289
                        refine e_Ok.run (t' := (190, [(0, (1, 275)), (3, (0, y3))], [(1, 275)], v2)) 1 rfl ?_
                        refine e_Ok.callV rfl (by omega) rfl rfl rfl rfl (c_303 (by omega) j284.1) (fun r290 w291 h292 => ?_)
                        obtain ⟨rfl, q293, q293T⟩ := h292
                        have f294 : e_fr mTi w w291 := e_fr.trans j282 (e_fr.mono q293 (fun c k q => su_93_21 q))
                        have hI295 : mInv w291 G := mInv.same j284 q293 q293T (fun c k q => ti_k q)
                        have tm296 : w291 276 0 = v2 276 0 := q293 276 0 no_93_10
                        have ev297 : w291 276 5 = v2 276 5 := q293 276 5 no_93_11
                        show e_Ok 20 elay ecode eI (d + 1) 408 (193, [(0, (1, 275)), (3, (0, y3))], [], w291) _
                        refine e_Ok.run (t' := (194, [(0, (1, 275)), (3, (0, y3))], [(1, 275)], w291)) 1 rfl ?_
                        refine e_Ok.callV rfl (by omega) rfl rfl rfl rfl (c_407 (by omega) hI295.1) (fun r298 w299 h300 => ?_)
                        obtain ⟨rfl, q301, q301T⟩ := h300
                        have f302 : e_fr mTi w w299 := e_fr.trans f294 (e_fr.mono q301 (fun c k q => su_93_19 q))
                        have hI303 : mInv w299 G := mInv.same hI295 q301 q301T (fun c k q => ti_tl q)
                        have tm304 : w299 276 0 = w291 276 0 := q301 276 0 no_93_5
                        have ev305 : w299 276 5 = w291 276 5 := q301 276 5 no_93_5
                        show e_Ok 20 elay ecode eI (d + 1) 408 (197, [(0, (1, 275)), (3, (0, y3))], [], w299) _
                        refine e_Ok.rets rfl rfl ?_
                        exact ⟨rfl, f302, hI303, by omega, by omega⟩
                      · replace h289 : (y3 : Int) < w 275 30 := by have q : ¬ ((y3 : Int) ≥ w 275 30) := h289; omega
                        refine e_Ok.run (t' := (180, [(0, (1, 275)), (3, (0, y3))], [(0, y3), (1, 275)], v2)) 2 rfl ?_
                        refine e_Ok.callV rfl (by omega) rfl rfl rfl rfl (c_398 (by omega) j284.1 j284.2.1 (by omega)) (fun r306 w307 h308 => ?_)
                        obtain ⟨rfl, q309, q309T⟩ := h308
                        have f310 : e_fr mTi w w307 := e_fr.trans j282 (e_fr.mono q309 (fun c k q => su_93_22 q))
                        have hI311 : mInv w307 G := mInv.same j284 q309 q309T (fun c k q => ti_dr q)
                        have tm312 : w307 276 0 = v2 276 0 := q309 276 0 no_93_12
                        have ev313 : w307 276 5 = v2 276 5 := q309 276 5 no_93_13
                        show e_Ok 20 elay ecode eI (d + 1) 408 (183, [(0, (1, 275)), (3, (0, y3))], [], w307) _
                        refine e_Ok.inc (z := y3 + 1) rfl rfl (by omega) (by omega) ?_
                        show e_Ok 20 elay ecode eI (d + 1) 408 (186, [(3, (0, y3 + 1)), (0, (1, 275))], [], w307) _
                        refine e_Ok.run (t' := (170, [(3, (0, y3 + 1)), (0, (1, 275))], [], w307)) 1 rfl ?_
                        refine e_Ok.sub eAlk (e_sub_of rfl ?_) (ih281 (y3 + 1) w307 ⟨f310, hI311.1, hI311, by omega, by omega, by omega⟩ (by omega))
                        exact ⟨rfl, rfl, trivial⟩
                  refine e_Ok.sub eAlk (e_sub_of rfl ?_) (hL280 (5 + 1 : Int).toNat 0 w274 ⟨f277, hI278.1, hI278, by omega, by omega, by omega⟩ (by omega))
                  exact ⟨rfl, rfl, trivial⟩
          · replace h193 : (y2 : Int) < 16 := by have q : ¬ ((y2 : Int) ≥ 16) := h193; omega
            refine e_Ok.run (t' := (52, [(0, (1, 275)), (2, (0, y2))], [(1, 275)], v1)) 1 rfl ?_
            refine e_Ok.getr (z := 276) rfl (el_o rfl) rfl rfl ((j187 275 0 no_93_4).trans (e_Has.eq hI.1 rfl)) (by omega) ?_
            refine e_Ok.run (t' := (56, [(0, (1, 275)), (2, (0, y2))], [(0, y2), (1, 276)], v1)) 1 rfl ?_
            refine e_Ok.callS rfl (by omega) rfl rfl (c_269 (by omega)) (fun r314 w315 h316 => ?_)
            obtain ⟨rfl, rfl⟩ := h316
            show e_Ok 20 elay ecode eI (d + 1) 408 (59, [(0, (1, 275)), (2, (0, y2))], [(0, 1260 * y2 + 416), (1, 276)], v1) _
            have h317 := (e_Has.get j188 (c := 276) (k := 1260 * y2 + 416) (lo := 0) (hi := 7) (nR_TSTATE (t := y2) (by omega)) (by decide))
            refine e_Ok.ald (z := v1 276 (1260 * y2 + 416)) rfl (el_o rfl) rfl (by omega) rfl (by omega) ?_
            refine e_Ok.run (t' := (62, [(3, (0, v1 276 (1260 * y2 + 416))), (0, (1, 275)), (2, (0, y2))], [(0, v1 276 (1260 * y2 + 416))], v1)) 2 rfl ?_
            refine e_Ok.if1 rfl (fun h318 => ?_) (fun h318 => ?_)
            · replace h318 : (v1 276 (1260 * y2 + 416) : Int) ≤ 0 := h318
              refine e_Ok.inc (z := y2 + 1) rfl rfl (by omega) (by omega) ?_
              show e_Ok 20 elay ecode eI (d + 1) 408 (124, [(2, (0, y2 + 1)), (3, (0, v1 276 (1260 * y2 + 416))), (0, (1, 275))], [], v1) _
              refine e_Ok.run (t' := (45, [(2, (0, y2 + 1)), (3, (0, v1 276 (1260 * y2 + 416))), (0, (1, 275))], [], v1)) 1 rfl ?_
              refine e_Ok.sub eAlk (e_sub_of rfl ?_) (ih186 (y2 + 1) v1 ⟨j187, j188, j189, by omega, by omega, by omega⟩ (by omega))
              exact ⟨rfl, rfl, trivial⟩
            · replace h318 : (v1 276 (1260 * y2 + 416) : Int) > 0 := by have q : ¬ ((v1 276 (1260 * y2 + 416) : Int) ≤ 0) := h318; omega
              refine e_Ok.run (t' := (68, [(3, (0, v1 276 (1260 * y2 + 416))), (0, (1, 275)), (2, (0, y2))], [(0, 6), (0, v1 276 (1260 * y2 + 416))], v1)) 2 rfl ?_
              refine e_Ok.if2 rfl (fun h319 => ?_) (fun h319 => ?_)
              · replace h319 : (v1 276 (1260 * y2 + 416) : Int) ≥ 6 := h319
                refine e_Ok.inc (z := y2 + 1) rfl rfl (by omega) (by omega) ?_
                show e_Ok 20 elay ecode eI (d + 1) 408 (124, [(2, (0, y2 + 1)), (3, (0, v1 276 (1260 * y2 + 416))), (0, (1, 275))], [], v1) _
                refine e_Ok.run (t' := (45, [(2, (0, y2 + 1)), (3, (0, v1 276 (1260 * y2 + 416))), (0, (1, 275))], [], v1)) 1 rfl ?_
                refine e_Ok.sub eAlk (e_sub_of rfl ?_) (ih186 (y2 + 1) v1 ⟨j187, j188, j189, by omega, by omega, by omega⟩ (by omega))
                exact ⟨rfl, rfl, trivial⟩
              · replace h319 : (v1 276 (1260 * y2 + 416) : Int) < 6 := by have q : ¬ ((v1 276 (1260 * y2 + 416) : Int) ≥ 6) := h319; omega
                refine e_Ok.run (t' := (72, [(3, (0, v1 276 (1260 * y2 + 416))), (0, (1, 275)), (2, (0, y2))], [(1, 275)], v1)) 1 rfl ?_
                refine e_Ok.getr (z := 276) rfl (el_o rfl) rfl rfl ((j187 275 0 no_93_4).trans (e_Has.eq hI.1 rfl)) (by omega) ?_
                refine e_Ok.run (t' := (76, [(3, (0, v1 276 (1260 * y2 + 416))), (0, (1, 275)), (2, (0, y2))], [(0, y2), (1, 276)], v1)) 1 rfl ?_
                refine e_Ok.callS rfl (by omega) rfl rfl (c_269 (by omega)) (fun r320 w321 h322 => ?_)
                obtain ⟨rfl, rfl⟩ := h322
                show e_Ok 20 elay ecode eI (d + 1) 408 (79, [(3, (0, v1 276 (1260 * y2 + 416))), (0, (1, 275)), (2, (0, y2))], [(0, 1260 * y2 + 416), (1, 276)], v1) _
                refine e_Ok.run (t' := (81, [(3, (0, v1 276 (1260 * y2 + 416))), (0, (1, 275)), (2, (0, y2))], [(0, 11), (0, 1260 * y2 + 416), (1, 276)], v1)) 1 rfl ?_
                refine e_Ok.add (z := 1260 * y2 + 427) rfl (by omega) (by omega) ?_
                have h323 := (e_Has.get j188 (c := 276) (k := 1260 * y2 + 427) (lo := 0) (hi := 6001) (nR_ACTS (t := y2) (by omega)) (by decide))
                refine e_Ok.ald (z := v1 276 (1260 * y2 + 427)) rfl (el_o rfl) rfl (by omega) rfl (by omega) ?_
                refine e_Ok.run (t' := (84, [(3, (0, v1 276 (1260 * y2 + 416))), (0, (1, 275)), (2, (0, y2))], [(1, 275), (0, v1 276 (1260 * y2 + 427))], v1)) 1 rfl ?_
                refine e_Ok.getr (z := 276) rfl (el_o rfl) rfl rfl ((j187 275 0 no_93_4).trans (e_Has.eq hI.1 rfl)) (by omega) ?_
                refine e_Ok.run (t' := (88, [(3, (0, v1 276 (1260 * y2 + 416))), (0, (1, 275)), (2, (0, y2))], [(0, 0), (1, 276), (0, v1 276 (1260 * y2 + 427))], v1)) 1 rfl ?_
                have h324 := (e_Has.get j188 (c := 276) (k := 0) (lo := 0) (hi := 6000) rfl (by decide))
                refine e_Ok.ald (z := v1 276 0) rfl (el_o rfl) rfl (by omega) rfl (by omega) ?_
                refine e_Ok.if2 rfl (fun h325 => ?_) (fun h325 => ?_)
                · replace h325 : (v1 276 (1260 * y2 + 427) : Int) > v1 276 0 := h325
                  refine e_Ok.inc (z := y2 + 1) rfl rfl (by omega) (by omega) ?_
                  show e_Ok 20 elay ecode eI (d + 1) 408 (124, [(2, (0, y2 + 1)), (3, (0, v1 276 (1260 * y2 + 416))), (0, (1, 275))], [], v1) _
                  refine e_Ok.run (t' := (45, [(2, (0, y2 + 1)), (3, (0, v1 276 (1260 * y2 + 416))), (0, (1, 275))], [], v1)) 1 rfl ?_
                  refine e_Ok.sub eAlk (e_sub_of rfl ?_) (ih186 (y2 + 1) v1 ⟨j187, j188, j189, by omega, by omega, by omega⟩ (by omega))
                  exact ⟨rfl, rfl, trivial⟩
                · replace h325 : (v1 276 (1260 * y2 + 427) : Int) ≤ v1 276 0 := by have q : ¬ ((v1 276 (1260 * y2 + 427) : Int) > v1 276 0) := h325; omega
                  obtain ⟨xa, xg, xp, xb, xo, xha, xarm, -⟩ := j189.2.2.2.2.2.2.2.2 y2 (by omega) (by omega) (by omega) (by omega)
                  refine e_Ok.run (t' := (93, [(3, (0, v1 276 (1260 * y2 + 416))), (0, (1, 275)), (2, (0, y2))], [(1, 275)], v1)) 1 rfl ?_
                  refine e_Ok.getr (z := 276) rfl (el_o rfl) rfl rfl ((j187 275 0 no_93_4).trans (e_Has.eq hI.1 rfl)) (by omega) ?_
                  refine e_Ok.run (t' := (97, [(3, (0, v1 276 (1260 * y2 + 416))), (0, (1, 275)), (2, (0, y2))], [(1, 275), (1, 276)], v1)) 1 rfl ?_
                  refine e_Ok.getr (z := 276) rfl (el_o rfl) rfl rfl ((j187 275 0 no_93_4).trans (e_Has.eq hI.1 rfl)) (by omega) ?_
                  refine e_Ok.run (t' := (101, [(3, (0, v1 276 (1260 * y2 + 416))), (0, (1, 275)), (2, (0, y2))], [(0, y2), (1, 276), (1, 276)], v1)) 1 rfl ?_
                  refine e_Ok.callS rfl (by omega) rfl rfl (c_269 (by omega)) (fun r326 w327 h329 => ?_)
                  obtain ⟨rfl, rfl⟩ := h329
                  show e_Ok 20 elay ecode eI (d + 1) 408 (104, [(3, (0, v1 276 (1260 * y2 + 416))), (0, (1, 275)), (2, (0, y2))], [(0, 1260 * y2 + 416), (1, 276), (1, 276)], v1) _
                  refine e_Ok.run (t' := (105, [(3, (0, v1 276 (1260 * y2 + 416))), (0, (1, 275)), (2, (0, y2))], [(0, 1), (0, 1260 * y2 + 416), (1, 276), (1, 276)], v1)) 1 rfl ?_
                  refine e_Ok.add (z := 1260 * y2 + 417) rfl (by omega) (by omega) ?_
                  refine e_Ok.ald (z := v1 276 (1260 * y2 + 417)) rfl (el_o rfl) rfl (by omega) rfl (by omega) ?_
                  refine e_Ok.callS rfl (by omega) rfl rfl (c_268 (by omega)) (fun r331 w332 h333 => ?_)
                  obtain ⟨rfl, rfl⟩ := h333
                  show e_Ok 20 elay ecode eI (d + 1) 408 (110, [(3, (0, v1 276 (1260 * y2 + 416))), (0, (1, 275)), (2, (0, y2))], [(0, 36 * v1 276 (1260 * y2 + 417) + 16), (1, 276)], v1) _
                  refine e_Ok.run (t' := (111, [(3, (0, v1 276 (1260 * y2 + 416))), (0, (1, 275)), (2, (0, y2))], [(0, 2), (0, 36 * v1 276 (1260 * y2 + 417) + 16), (1, 276)], v1)) 1 rfl ?_
                  refine e_Ok.add (z := 36 * v1 276 (1260 * y2 + 417) + 18) rfl (by omega) (by omega) ?_
                  have h334 := (e_Has.get j188 (c := 276) (k := 36 * v1 276 (1260 * y2 + 417) + 18) (lo := (-1)) (hi := 15) (nR_STUCK (a := v1 276 (1260 * y2 + 417)) (by omega)) (by decide))
                  refine e_Ok.ald (z := v1 276 (36 * v1 276 (1260 * y2 + 417) + 18)) rfl rfl rfl (by omega) rfl (by omega) ?_
                  refine e_Ok.if1 rfl (fun h335 => ?_) (fun h335 => ?_)
                  · replace h335 : (v1 276 (36 * v1 276 (1260 * y2 + 417) + 18) : Int) ≥ 0 := h335
                    refine e_Ok.inc (z := y2 + 1) rfl rfl (by omega) (by omega) ?_
                    show e_Ok 20 elay ecode eI (d + 1) 408 (124, [(2, (0, y2 + 1)), (3, (0, v1 276 (1260 * y2 + 416))), (0, (1, 275))], [], v1) _
                    refine e_Ok.run (t' := (45, [(2, (0, y2 + 1)), (3, (0, v1 276 (1260 * y2 + 416))), (0, (1, 275))], [], v1)) 1 rfl ?_
                    refine e_Ok.sub eAlk (e_sub_of rfl ?_) (ih186 (y2 + 1) v1 ⟨j187, j188, j189, by omega, by omega, by omega⟩ (by omega))
                    exact ⟨rfl, rfl, trivial⟩
                  · replace h335 : (v1 276 (36 * v1 276 (1260 * y2 + 417) + 18) : Int) < 0 := by have q : ¬ ((v1 276 (36 * v1 276 (1260 * y2 + 417) + 18) : Int) ≥ 0) := h335; omega
                    refine e_Ok.run (t' := (118, [(3, (0, v1 276 (1260 * y2 + 416))), (0, (1, 275)), (2, (0, y2))], [(0, y2), (1, 275)], v1)) 2 rfl ?_
                    refine e_Ok.callV rfl (by omega) rfl rfl rfl rfl (c_366 (by omega) j189.1 j189.2.1 j189.2.2.1 j189.2.2.2.2.2.1 j189.2.2.2.2.2.2.1 (by omega) j189.2.2.2.2.2.2.2.1 (j189.2.2.2.2.2.2.2.2 y2 (by omega) (by omega)) (by omega) (by omega)) (fun r336 w337 h339 => ?_)
                    obtain ⟨rfl, q340, q340T, q340n, q340m, q340o, q340k⟩ := h339
                    have f341 : e_fr mTi w w337 := e_fr.trans j187 (e_fr.mono q340 (fun c k q => by exact tt_ti q))
                    have hI342 : mInv w337 G := mInv.turn j189 q340 q340T q340m q340o q340k
                    have tm343 : w337 276 0 = v1 276 0 := q340 276 0 no_93_16
                    show e_Ok 20 elay ecode eI (d + 1) 408 (121, [(3, (0, v1 276 (1260 * y2 + 416))), (0, (1, 275)), (2, (0, y2))], [], w337) _
                    refine e_Ok.inc (z := y2 + 1) rfl rfl (by omega) (by omega) ?_
                    show e_Ok 20 elay ecode eI (d + 1) 408 (124, [(2, (0, y2 + 1)), (3, (0, v1 276 (1260 * y2 + 416))), (0, (1, 275))], [], w337) _
                    refine e_Ok.run (t' := (45, [(2, (0, y2 + 1)), (3, (0, v1 276 (1260 * y2 + 416))), (0, (1, 275))], [], w337)) 1 rfl ?_
                    refine e_Ok.sub eAlk (e_sub_of rfl ?_) (ih186 (y2 + 1) w337 ⟨f341, hI342.1, hI342, by omega, by omega, by omega⟩ (by omega))
                    exact ⟨rfl, rfl, trivial⟩
      refine e_Ok.sub eAlk (e_sub_of rfl ?_) (hL185 (17 + 1 : Int).toNat 0 w6 ⟨f9, hI10.1, hI10, by omega, by omega, by omega⟩ (by omega))
      exact ⟨rfl, rfl, trivial⟩
    · replace h184 : (z182 : Int) ≥ 0 := by have q : ¬ ((z182 : Int) < 0) := h184; omega
      refine e_Ok.run (t' := (40, [(1, (0, z182)), (0, (1, 275))], [(0, z182), (0, 1), (1, 275)], w6)) 3 rfl ?_
      refine e_Ok.callV rfl (by omega) rfl rfl rfl rfl (c_385 (by omega) hI10.1 (by omega) (by omega) (by omega)) (fun r344 w345 h346 => ?_)
      obtain ⟨rfl, q347, q347T, q347n, q347p, q347s, q347t, q347u⟩ := h346
      have f348 : e_fr mTi w w345 := e_fr.trans f9 (e_fr.mono q347 (fun c k q => su_93_23 q))
      have hI349 : mInv w345 G := mInv.trip hI10 q347 q347T q347s q347t q347u
      have tm350 : w345 276 0 = w6 276 0 := q347 276 0 no_93_17
      show e_Ok 20 elay ecode eI (d + 1) 408 (43, [(1, (0, z182)), (0, (1, 275))], [], w345) _
      refine e_Ok.run (t' := (45, [(2, (0, 0)), (1, (0, z182)), (0, (1, 275))], [], w345)) 2 rfl ?_
      have hL351 : ∀ (nn : Nat) (y2 : Int) (v1 : eW), e_fr mTi w v1 ∧ e_Has mTy v1 ∧ mInv v1 G ∧ v1 276 0 = w 276 0 + 1 ∧ (w 276 5 ≤ v1 276 5 ∧ v1 276 5 ≤ w 276 5 + 5 + 50 * y2) ∧ (0 ≤ y2 ∧ y2 ≤ 16) → 17 - y2 < nn → e_Ok 20 elay ecode eI (d + 1) 408 (45, [(0, (1, 275)), (2, (0, y2))], [], v1) (fun r w' => r = [] ∧ e_fr mTi w w' ∧ mInv w' G ∧ w' 276 0 = w 276 0 + 1 ∧ (w 276 5 ≤ w' 276 5 ∧ w' 276 5 ≤ w 276 5 + 900)) := by
        intro nn
        induction nn with
        | zero => intro y2 v1 hj hm; obtain ⟨j353, j354, j355, j356, j357, j358⟩ := hj; exfalso; omega
        | succ nn ih352 =>
          intro y2 v1 hj hm
          obtain ⟨j353, j354, j355, j356, j357, j358⟩ := hj
          refine e_Ok.run (t' := (48, [(0, (1, 275)), (2, (0, y2))], [(0, 16), (0, y2)], v1)) 2 rfl ?_
          refine e_Ok.if2 rfl (fun h359 => ?_) (fun h359 => ?_)
          · replace h359 : (y2 : Int) ≥ 16 := h359
            refine e_Ok.run (t' := (128, [(0, (1, 275)), (2, (0, y2))], [(1, 275)], v1)) 1 rfl ?_
            refine e_Ok.getr (z := 276) rfl (el_o rfl) rfl rfl ((j353 275 0 no_93_4).trans (e_Has.eq hI.1 rfl)) (by omega) ?_
            refine e_Ok.run (t' := (132, [(0, (1, 275)), (2, (0, y2))], [(0, 1), (1, 276)], v1)) 1 rfl ?_
            have h360 := (e_Has.get j354 (c := 276) (k := 1) (lo := 0) (hi := 1) rfl (by decide))
            refine e_Ok.ald (z := v1 276 1) rfl (el_o rfl) rfl (by omega) rfl (by omega) ?_
            refine e_Ok.run (t' := (134, [(0, (1, 275)), (2, (0, y2))], [(0, 1), (0, v1 276 1)], v1)) 1 rfl ?_
            refine e_Ok.if2 rfl (fun h361 => ?_) (fun h361 => ?_)
            · replace h361 : (v1 276 1 : Int) ≠ 1 := h361
              refine e_Ok.run (t' := (144, [(2, (0, 0)), (0, (1, 275))], [(0, 0)], v1)) 3 rfl ?_
              refine e_Ok.if1 rfl (fun h362 => ?_) (fun h362 => ?_)
              · replace h362 : (0 : Int) = 0 := h362
                refine e_Ok.run (t' := (153, [(2, (0, 0)), (0, (1, 275))], [(0, 0), (1, 275)], v1)) 2 rfl ?_
                refine e_Ok.callV rfl (by omega) rfl rfl rfl rfl (c_403 j355.1) (fun r363 w364 h365 => ?_)
                obtain ⟨rfl, q366, q366T⟩ := h365
                have f367 : e_fr mTi w w364 := e_fr.trans j353 (e_fr.mono q366 (fun c k q => su_93_19 q))
                have hI368 : mInv w364 G := mInv.same j355 q366 q366T (fun c k q => ti_tl q)
                have tm369 : w364 276 0 = v1 276 0 := q366 276 0 no_93_5
                have ev370 : w364 276 5 = v1 276 5 := q366 276 5 no_93_5
                show e_Ok 20 elay ecode eI (d + 1) 408 (156, [(2, (0, 0)), (0, (1, 275))], [], w364) _
                refine e_Ok.run (t' := (157, [(2, (0, 0)), (0, (1, 275))], [(1, 275)], w364)) 1 rfl ?_
                refine e_Ok.callV rfl (by omega) rfl rfl rfl rfl (c_302 (by omega) hI368.1) (fun r371 w372 h373 => ?_)
                obtain ⟨rfl, q374, q374k⟩ := h373
                have f375 : e_fr mTi w w372 := e_fr.trans f367 (e_fr.mono q374 (fun c k q => su_93_20 q))
                have hI376 : mInv w372 G := mInv.same hI368 q374 (mT_P q374 hI368.1) (fun c k q => ti_p q)
                have tm377 : w372 276 0 = w364 276 0 := q374 276 0 no_93_6
                have ev378 : w372 276 5 = w364 276 5 := q374 276 5 no_93_6
                have kall : ∀ b, 0 ≤ b → b < w372 275 10 → e_pk2 w372 (7 * b) (w372 286 b) := fun b g1 g2 => by rw [q374 286 b no_93_7]; exact q374k b g1 (by rw [q374 275 10 no_93_8] at g2; exact g2)
                show e_Ok 20 elay ecode eI (d + 1) 408 (160, [(2, (0, 0)), (0, (1, 275))], [], w372) _
                refine e_Ok.run (t' := (161, [(2, (0, 0)), (0, (1, 275))], [(0, 0)], w372)) 1 rfl ?_
                refine e_Ok.if1 rfl (fun h379 => ?_) (fun h379 => ?_)
                · replace h379 : (0 : Int) = 0 := h379
                  refine e_Ok.run (t' := (170, [(3, (0, 0)), (2, (0, 0)), (0, (1, 275))], [], w372)) 2 rfl ?_
                  have hL380 : ∀ (nn : Nat) (y3 : Int) (v2 : eW), e_fr mTi w v2 ∧ e_Has mTy v2 ∧ mInv v2 G ∧ v2 276 0 = w 276 0 + 1 ∧ (w 276 5 ≤ v2 276 5 ∧ v2 276 5 ≤ w 276 5 + 820) ∧ (0 ≤ y3 ∧ y3 ≤ 4) → 5 - y3 < nn → e_Ok 20 elay ecode eI (d + 1) 408 (170, [(0, (1, 275)), (3, (0, y3))], [], v2) (fun r w' => r = [] ∧ e_fr mTi w w' ∧ mInv w' G ∧ w' 276 0 = w 276 0 + 1 ∧ (w 276 5 ≤ w' 276 5 ∧ w' 276 5 ≤ w 276 5 + 900)) := by
                    intro nn
                    induction nn with
                    | zero => intro y3 v2 hj hm; obtain ⟨j382, j383, j384, j385, j386, j387⟩ := hj; exfalso; omega
                    | succ nn ih381 =>
                      intro y3 v2 hj hm
                      obtain ⟨j382, j383, j384, j385, j386, j387⟩ := hj
                      refine e_Ok.run (t' := (172, [(0, (1, 275)), (3, (0, y3))], [(1, 275), (0, y3)], v2)) 2 rfl ?_
                      have h388 := (e_Has.get hI.1 (c := 275) (k := 30) (lo := 0) (hi := 4) rfl (by decide))
                      refine e_Ok.getf (z := w 275 30) rfl (el_o rfl) rfl rfl ((j382 275 30 no_93_9).trans rfl) (by omega) ?_
                      refine e_Ok.if2 rfl (fun h389 => ?_) (fun h389 => ?_)
                      · replace h389 : (y3 : Int) ≥ w 275 30 := h389
                        refine e_Ok.run (t' := (190, [(0, (1, 275)), (3, (0, y3))], [(1, 275)], v2)) 1 rfl ?_
                        refine e_Ok.callV rfl (by omega) rfl rfl rfl rfl (c_303 (by omega) j384.1) (fun r390 w391 h392 => ?_)
                        obtain ⟨rfl, q393, q393T⟩ := h392
                        have f394 : e_fr mTi w w391 := e_fr.trans j382 (e_fr.mono q393 (fun c k q => su_93_21 q))
                        have hI395 : mInv w391 G := mInv.same j384 q393 q393T (fun c k q => ti_k q)
                        have tm396 : w391 276 0 = v2 276 0 := q393 276 0 no_93_10
                        have ev397 : w391 276 5 = v2 276 5 := q393 276 5 no_93_11
                        show e_Ok 20 elay ecode eI (d + 1) 408 (193, [(0, (1, 275)), (3, (0, y3))], [], w391) _
                        refine e_Ok.run (t' := (194, [(0, (1, 275)), (3, (0, y3))], [(1, 275)], w391)) 1 rfl ?_
                        refine e_Ok.callV rfl (by omega) rfl rfl rfl rfl (c_407 (by omega) hI395.1) (fun r398 w399 h400 => ?_)
                        obtain ⟨rfl, q401, q401T⟩ := h400
                        have f402 : e_fr mTi w w399 := e_fr.trans f394 (e_fr.mono q401 (fun c k q => su_93_19 q))
                        have hI403 : mInv w399 G := mInv.same hI395 q401 q401T (fun c k q => ti_tl q)
                        have tm404 : w399 276 0 = w391 276 0 := q401 276 0 no_93_5
                        have ev405 : w399 276 5 = w391 276 5 := q401 276 5 no_93_5
                        show e_Ok 20 elay ecode eI (d + 1) 408 (197, [(0, (1, 275)), (3, (0, y3))], [], w399) _
                        refine e_Ok.rets rfl rfl ?_
                        exact ⟨rfl, f402, hI403, by omega, by omega⟩
                      · replace h389 : (y3 : Int) < w 275 30 := by have q : ¬ ((y3 : Int) ≥ w 275 30) := h389; omega
                        refine e_Ok.run (t' := (180, [(0, (1, 275)), (3, (0, y3))], [(0, y3), (1, 275)], v2)) 2 rfl ?_
                        refine e_Ok.callV rfl (by omega) rfl rfl rfl rfl (c_398 (by omega) j384.1 j384.2.1 (by omega)) (fun r406 w407 h408 => ?_)
                        obtain ⟨rfl, q409, q409T⟩ := h408
                        have f410 : e_fr mTi w w407 := e_fr.trans j382 (e_fr.mono q409 (fun c k q => su_93_22 q))
                        have hI411 : mInv w407 G := mInv.same j384 q409 q409T (fun c k q => ti_dr q)
                        have tm412 : w407 276 0 = v2 276 0 := q409 276 0 no_93_12
                        have ev413 : w407 276 5 = v2 276 5 := q409 276 5 no_93_13
                        show e_Ok 20 elay ecode eI (d + 1) 408 (183, [(0, (1, 275)), (3, (0, y3))], [], w407) _
                        refine e_Ok.inc (z := y3 + 1) rfl rfl (by omega) (by omega) ?_
                        show e_Ok 20 elay ecode eI (d + 1) 408 (186, [(3, (0, y3 + 1)), (0, (1, 275))], [], w407) _
                        refine e_Ok.run (t' := (170, [(3, (0, y3 + 1)), (0, (1, 275))], [], w407)) 1 rfl ?_
                        refine e_Ok.sub eAlk (e_sub_of rfl ?_) (ih381 (y3 + 1) w407 ⟨f410, hI411.1, hI411, by omega, by omega, by omega⟩ (by omega))
                        exact ⟨rfl, rfl, trivial⟩
                  refine e_Ok.sub eAlk (e_sub_of rfl ?_) (hL380 (5 + 1 : Int).toNat 0 w372 ⟨f375, hI376.1, hI376, by omega, by omega, by omega⟩ (by omega))
                  exact ⟨rfl, rfl, trivial⟩
                · replace h379 : (0 : Int) ≠ 0 := by have q : ¬ ((0 : Int) = 0) := h379; omega
                  exfalso; omega
              · replace h362 : (0 : Int) ≠ 0 := by have q : ¬ ((0 : Int) = 0) := h362; omega
                exfalso; omega
            · replace h361 : (v1 276 1 : Int) = 1 := by have q : ¬ ((v1 276 1 : Int) ≠ 1) := h361; omega
              refine e_Ok.run (t' := (144, [(2, (0, 1)), (0, (1, 275))], [(0, 1)], v1)) 4 rfl ?_
              refine e_Ok.if1 rfl (fun h414 => ?_) (fun h414 => ?_)
              · replace h414 : (1 : Int) = 0 := h414
                exfalso; omega
              · replace h414 : (1 : Int) ≠ 0 := by have q : ¬ ((1 : Int) = 0) := h414; omega
                refine e_Ok.run (t' := (148, [(2, (0, 1)), (0, (1, 275))], [(1, 275)], v1)) 1 rfl ?_
                refine e_Ok.callV rfl (by omega) rfl rfl rfl rfl (c_402 (by omega) j355.1 j355.2.2.1 j355.2.2.2.2.2.1 (by omega) (by omega)) (fun r415 w417 h418 => ?_)
                obtain ⟨rfl, q419, q419T, q419n, q419m⟩ := h418
                have f420 : e_fr mTi w w417 := e_fr.trans j353 (e_fr.mono q419 (fun c k q => by exact ga_ti q))
                have hI421 : mInv w417 G := mInv.go j355 q419 q419T q419m
                have tm422 : w417 276 0 = v1 276 0 := q419 276 0 no_93_14
                show e_Ok 20 elay ecode eI (d + 1) 408 (151, [(2, (0, 1)), (0, (1, 275))], [], w417) _
                refine e_Ok.run (t' := (153, [(2, (0, 1)), (0, (1, 275))], [(0, 1), (1, 275)], w417)) 2 rfl ?_
                refine e_Ok.callV rfl (by omega) rfl rfl rfl rfl (c_403 hI421.1) (fun r423 w424 h425 => ?_)
                obtain ⟨rfl, q426, q426T⟩ := h425
                have f427 : e_fr mTi w w424 := e_fr.trans f420 (e_fr.mono q426 (fun c k q => su_93_19 q))
                have hI428 : mInv w424 G := mInv.same hI421 q426 q426T (fun c k q => ti_tl q)
                have tm429 : w424 276 0 = w417 276 0 := q426 276 0 no_93_5
                have ev430 : w424 276 5 = w417 276 5 := q426 276 5 no_93_5
                show e_Ok 20 elay ecode eI (d + 1) 408 (156, [(2, (0, 1)), (0, (1, 275))], [], w424) _
                refine e_Ok.run (t' := (157, [(2, (0, 1)), (0, (1, 275))], [(1, 275)], w424)) 1 rfl ?_
                refine e_Ok.callV rfl (by omega) rfl rfl rfl rfl (c_302 (by omega) hI428.1) (fun r431 w432 h433 => ?_)
                obtain ⟨rfl, q434, q434k⟩ := h433
                have f435 : e_fr mTi w w432 := e_fr.trans f427 (e_fr.mono q434 (fun c k q => su_93_20 q))
                have hI436 : mInv w432 G := mInv.same hI428 q434 (mT_P q434 hI428.1) (fun c k q => ti_p q)
                have tm437 : w432 276 0 = w424 276 0 := q434 276 0 no_93_6
                have ev438 : w432 276 5 = w424 276 5 := q434 276 5 no_93_6
                have kall : ∀ b, 0 ≤ b → b < w432 275 10 → e_pk2 w432 (7 * b) (w432 286 b) := fun b g1 g2 => by rw [q434 286 b no_93_7]; exact q434k b g1 (by rw [q434 275 10 no_93_8] at g2; exact g2)
                show e_Ok 20 elay ecode eI (d + 1) 408 (160, [(2, (0, 1)), (0, (1, 275))], [], w432) _
                refine e_Ok.run (t' := (161, [(2, (0, 1)), (0, (1, 275))], [(0, 1)], w432)) 1 rfl ?_
                refine e_Ok.if1 rfl (fun h439 => ?_) (fun h439 => ?_)
                · replace h439 : (1 : Int) = 0 := h439
                  exfalso; omega
                · replace h439 : (1 : Int) ≠ 0 := by have q : ¬ ((1 : Int) = 0) := h439; omega
                  refine e_Ok.run (t' := (165, [(2, (0, 1)), (0, (1, 275))], [(1, 275)], w432)) 1 rfl ?_
                  refine e_Ok.callV rfl (by omega) rfl rfl rfl rfl (c_406 (by omega) hI436.1 hI436.2.2.2.2.2.1 hI436.2.2.2.1 hI436.2.2.2.2.1 kall (by omega)) (fun r440 w441 h442 => ?_)
                  obtain ⟨rfl, q443, q443T, q443n, q443m⟩ := h442
                  have f444 : e_fr mTi w w441 := e_fr.trans f435 (e_fr.mono q443 (fun c k q => by exact lo_ti q))
                  have hI445 : mInv w441 G := mInv.look hI436 q443 q443T q443m
                  have tm446 : w441 276 0 = w432 276 0 := q443 276 0 no_93_15
                  show e_Ok 20 elay ecode eI (d + 1) 408 (168, [(2, (0, 1)), (0, (1, 275))], [], w441) _
                  refine e_Ok.run (t' := (170, [(3, (0, 0)), (2, (0, 1)), (0, (1, 275))], [], w441)) 2 rfl ?_
                  have hL447 : ∀ (nn : Nat) (y3 : Int) (v2 : eW), e_fr mTi w v2 ∧ e_Has mTy v2 ∧ mInv v2 G ∧ v2 276 0 = w 276 0 + 1 ∧ (w 276 5 ≤ v2 276 5 ∧ v2 276 5 ≤ w 276 5 + 820) ∧ (0 ≤ y3 ∧ y3 ≤ 4) → 5 - y3 < nn → e_Ok 20 elay ecode eI (d + 1) 408 (170, [(0, (1, 275)), (3, (0, y3))], [], v2) (fun r w' => r = [] ∧ e_fr mTi w w' ∧ mInv w' G ∧ w' 276 0 = w 276 0 + 1 ∧ (w 276 5 ≤ w' 276 5 ∧ w' 276 5 ≤ w 276 5 + 900)) := by
                    intro nn
                    induction nn with
                    | zero => intro y3 v2 hj hm; obtain ⟨j449, j450, j451, j452, j453, j454⟩ := hj; exfalso; omega
                    | succ nn ih448 =>
                      intro y3 v2 hj hm
                      obtain ⟨j449, j450, j451, j452, j453, j454⟩ := hj
                      refine e_Ok.run (t' := (172, [(0, (1, 275)), (3, (0, y3))], [(1, 275), (0, y3)], v2)) 2 rfl ?_
                      have h455 := (e_Has.get hI.1 (c := 275) (k := 30) (lo := 0) (hi := 4) rfl (by decide))
                      refine e_Ok.getf (z := w 275 30) rfl (el_o rfl) rfl rfl ((j449 275 30 no_93_9).trans rfl) (by omega) ?_
                      refine e_Ok.if2 rfl (fun h456 => ?_) (fun h456 => ?_)
                      · replace h456 : (y3 : Int) ≥ w 275 30 := h456
                        refine e_Ok.run (t' := (190, [(0, (1, 275)), (3, (0, y3))], [(1, 275)], v2)) 1 rfl ?_
                        refine e_Ok.callV rfl (by omega) rfl rfl rfl rfl (c_303 (by omega) j451.1) (fun r457 w458 h459 => ?_)
                        obtain ⟨rfl, q460, q460T⟩ := h459
                        have f461 : e_fr mTi w w458 := e_fr.trans j449 (e_fr.mono q460 (fun c k q => su_93_21 q))
                        have hI462 : mInv w458 G := mInv.same j451 q460 q460T (fun c k q => ti_k q)
                        have tm463 : w458 276 0 = v2 276 0 := q460 276 0 no_93_10
                        have ev464 : w458 276 5 = v2 276 5 := q460 276 5 no_93_11
                        show e_Ok 20 elay ecode eI (d + 1) 408 (193, [(0, (1, 275)), (3, (0, y3))], [], w458) _
                        refine e_Ok.run (t' := (194, [(0, (1, 275)), (3, (0, y3))], [(1, 275)], w458)) 1 rfl ?_
                        refine e_Ok.callV rfl (by omega) rfl rfl rfl rfl (c_407 (by omega) hI462.1) (fun r465 w466 h467 => ?_)
                        obtain ⟨rfl, q468, q468T⟩ := h467
                        have f469 : e_fr mTi w w466 := e_fr.trans f461 (e_fr.mono q468 (fun c k q => su_93_19 q))
                        have hI470 : mInv w466 G := mInv.same hI462 q468 q468T (fun c k q => ti_tl q)
                        have tm471 : w466 276 0 = w458 276 0 := q468 276 0 no_93_5
                        have ev472 : w466 276 5 = w458 276 5 := q468 276 5 no_93_5
                        show e_Ok 20 elay ecode eI (d + 1) 408 (197, [(0, (1, 275)), (3, (0, y3))], [], w466) _
                        refine e_Ok.rets rfl rfl ?_
                        exact ⟨rfl, f469, hI470, by omega, by omega⟩
                      · replace h456 : (y3 : Int) < w 275 30 := by have q : ¬ ((y3 : Int) ≥ w 275 30) := h456; omega
                        refine e_Ok.run (t' := (180, [(0, (1, 275)), (3, (0, y3))], [(0, y3), (1, 275)], v2)) 2 rfl ?_
                        refine e_Ok.callV rfl (by omega) rfl rfl rfl rfl (c_398 (by omega) j451.1 j451.2.1 (by omega)) (fun r473 w474 h475 => ?_)
                        obtain ⟨rfl, q476, q476T⟩ := h475
                        have f477 : e_fr mTi w w474 := e_fr.trans j449 (e_fr.mono q476 (fun c k q => su_93_22 q))
                        have hI478 : mInv w474 G := mInv.same j451 q476 q476T (fun c k q => ti_dr q)
                        have tm479 : w474 276 0 = v2 276 0 := q476 276 0 no_93_12
                        have ev480 : w474 276 5 = v2 276 5 := q476 276 5 no_93_13
                        show e_Ok 20 elay ecode eI (d + 1) 408 (183, [(0, (1, 275)), (3, (0, y3))], [], w474) _
                        refine e_Ok.inc (z := y3 + 1) rfl rfl (by omega) (by omega) ?_
                        show e_Ok 20 elay ecode eI (d + 1) 408 (186, [(3, (0, y3 + 1)), (0, (1, 275))], [], w474) _
                        refine e_Ok.run (t' := (170, [(3, (0, y3 + 1)), (0, (1, 275))], [], w474)) 1 rfl ?_
                        refine e_Ok.sub eAlk (e_sub_of rfl ?_) (ih448 (y3 + 1) w474 ⟨f477, hI478.1, hI478, by omega, by omega, by omega⟩ (by omega))
                        exact ⟨rfl, rfl, trivial⟩
                  refine e_Ok.sub eAlk (e_sub_of rfl ?_) (hL447 (5 + 1 : Int).toNat 0 w441 ⟨f444, hI445.1, hI445, by omega, by omega, by omega⟩ (by omega))
                  exact ⟨rfl, rfl, trivial⟩
          · replace h359 : (y2 : Int) < 16 := by have q : ¬ ((y2 : Int) ≥ 16) := h359; omega
            refine e_Ok.run (t' := (52, [(0, (1, 275)), (2, (0, y2))], [(1, 275)], v1)) 1 rfl ?_
            refine e_Ok.getr (z := 276) rfl (el_o rfl) rfl rfl ((j353 275 0 no_93_4).trans (e_Has.eq hI.1 rfl)) (by omega) ?_
            refine e_Ok.run (t' := (56, [(0, (1, 275)), (2, (0, y2))], [(0, y2), (1, 276)], v1)) 1 rfl ?_
            refine e_Ok.callS rfl (by omega) rfl rfl (c_269 (by omega)) (fun r481 w482 h483 => ?_)
            obtain ⟨rfl, rfl⟩ := h483
            show e_Ok 20 elay ecode eI (d + 1) 408 (59, [(0, (1, 275)), (2, (0, y2))], [(0, 1260 * y2 + 416), (1, 276)], v1) _
            have h484 := (e_Has.get j354 (c := 276) (k := 1260 * y2 + 416) (lo := 0) (hi := 7) (nR_TSTATE (t := y2) (by omega)) (by decide))
            refine e_Ok.ald (z := v1 276 (1260 * y2 + 416)) rfl (el_o rfl) rfl (by omega) rfl (by omega) ?_
            refine e_Ok.run (t' := (62, [(3, (0, v1 276 (1260 * y2 + 416))), (0, (1, 275)), (2, (0, y2))], [(0, v1 276 (1260 * y2 + 416))], v1)) 2 rfl ?_
            refine e_Ok.if1 rfl (fun h485 => ?_) (fun h485 => ?_)
            · replace h485 : (v1 276 (1260 * y2 + 416) : Int) ≤ 0 := h485
              refine e_Ok.inc (z := y2 + 1) rfl rfl (by omega) (by omega) ?_
              show e_Ok 20 elay ecode eI (d + 1) 408 (124, [(2, (0, y2 + 1)), (3, (0, v1 276 (1260 * y2 + 416))), (0, (1, 275))], [], v1) _
              refine e_Ok.run (t' := (45, [(2, (0, y2 + 1)), (3, (0, v1 276 (1260 * y2 + 416))), (0, (1, 275))], [], v1)) 1 rfl ?_
              refine e_Ok.sub eAlk (e_sub_of rfl ?_) (ih352 (y2 + 1) v1 ⟨j353, j354, j355, by omega, by omega, by omega⟩ (by omega))
              exact ⟨rfl, rfl, trivial⟩
            · replace h485 : (v1 276 (1260 * y2 + 416) : Int) > 0 := by have q : ¬ ((v1 276 (1260 * y2 + 416) : Int) ≤ 0) := h485; omega
              refine e_Ok.run (t' := (68, [(3, (0, v1 276 (1260 * y2 + 416))), (0, (1, 275)), (2, (0, y2))], [(0, 6), (0, v1 276 (1260 * y2 + 416))], v1)) 2 rfl ?_
              refine e_Ok.if2 rfl (fun h486 => ?_) (fun h486 => ?_)
              · replace h486 : (v1 276 (1260 * y2 + 416) : Int) ≥ 6 := h486
                refine e_Ok.inc (z := y2 + 1) rfl rfl (by omega) (by omega) ?_
                show e_Ok 20 elay ecode eI (d + 1) 408 (124, [(2, (0, y2 + 1)), (3, (0, v1 276 (1260 * y2 + 416))), (0, (1, 275))], [], v1) _
                refine e_Ok.run (t' := (45, [(2, (0, y2 + 1)), (3, (0, v1 276 (1260 * y2 + 416))), (0, (1, 275))], [], v1)) 1 rfl ?_
                refine e_Ok.sub eAlk (e_sub_of rfl ?_) (ih352 (y2 + 1) v1 ⟨j353, j354, j355, by omega, by omega, by omega⟩ (by omega))
                exact ⟨rfl, rfl, trivial⟩
              · replace h486 : (v1 276 (1260 * y2 + 416) : Int) < 6 := by have q : ¬ ((v1 276 (1260 * y2 + 416) : Int) ≥ 6) := h486; omega
                refine e_Ok.run (t' := (72, [(3, (0, v1 276 (1260 * y2 + 416))), (0, (1, 275)), (2, (0, y2))], [(1, 275)], v1)) 1 rfl ?_
                refine e_Ok.getr (z := 276) rfl (el_o rfl) rfl rfl ((j353 275 0 no_93_4).trans (e_Has.eq hI.1 rfl)) (by omega) ?_
                refine e_Ok.run (t' := (76, [(3, (0, v1 276 (1260 * y2 + 416))), (0, (1, 275)), (2, (0, y2))], [(0, y2), (1, 276)], v1)) 1 rfl ?_
                refine e_Ok.callS rfl (by omega) rfl rfl (c_269 (by omega)) (fun r487 w488 h489 => ?_)
                obtain ⟨rfl, rfl⟩ := h489
                show e_Ok 20 elay ecode eI (d + 1) 408 (79, [(3, (0, v1 276 (1260 * y2 + 416))), (0, (1, 275)), (2, (0, y2))], [(0, 1260 * y2 + 416), (1, 276)], v1) _
                refine e_Ok.run (t' := (81, [(3, (0, v1 276 (1260 * y2 + 416))), (0, (1, 275)), (2, (0, y2))], [(0, 11), (0, 1260 * y2 + 416), (1, 276)], v1)) 1 rfl ?_
                refine e_Ok.add (z := 1260 * y2 + 427) rfl (by omega) (by omega) ?_
                have h490 := (e_Has.get j354 (c := 276) (k := 1260 * y2 + 427) (lo := 0) (hi := 6001) (nR_ACTS (t := y2) (by omega)) (by decide))
                refine e_Ok.ald (z := v1 276 (1260 * y2 + 427)) rfl (el_o rfl) rfl (by omega) rfl (by omega) ?_
                refine e_Ok.run (t' := (84, [(3, (0, v1 276 (1260 * y2 + 416))), (0, (1, 275)), (2, (0, y2))], [(1, 275), (0, v1 276 (1260 * y2 + 427))], v1)) 1 rfl ?_
                refine e_Ok.getr (z := 276) rfl (el_o rfl) rfl rfl ((j353 275 0 no_93_4).trans (e_Has.eq hI.1 rfl)) (by omega) ?_
                refine e_Ok.run (t' := (88, [(3, (0, v1 276 (1260 * y2 + 416))), (0, (1, 275)), (2, (0, y2))], [(0, 0), (1, 276), (0, v1 276 (1260 * y2 + 427))], v1)) 1 rfl ?_
                have h491 := (e_Has.get j354 (c := 276) (k := 0) (lo := 0) (hi := 6000) rfl (by decide))
                refine e_Ok.ald (z := v1 276 0) rfl (el_o rfl) rfl (by omega) rfl (by omega) ?_
                refine e_Ok.if2 rfl (fun h492 => ?_) (fun h492 => ?_)
                · replace h492 : (v1 276 (1260 * y2 + 427) : Int) > v1 276 0 := h492
                  refine e_Ok.inc (z := y2 + 1) rfl rfl (by omega) (by omega) ?_
                  show e_Ok 20 elay ecode eI (d + 1) 408 (124, [(2, (0, y2 + 1)), (3, (0, v1 276 (1260 * y2 + 416))), (0, (1, 275))], [], v1) _
                  refine e_Ok.run (t' := (45, [(2, (0, y2 + 1)), (3, (0, v1 276 (1260 * y2 + 416))), (0, (1, 275))], [], v1)) 1 rfl ?_
                  refine e_Ok.sub eAlk (e_sub_of rfl ?_) (ih352 (y2 + 1) v1 ⟨j353, j354, j355, by omega, by omega, by omega⟩ (by omega))
                  exact ⟨rfl, rfl, trivial⟩
                · replace h492 : (v1 276 (1260 * y2 + 427) : Int) ≤ v1 276 0 := by have q : ¬ ((v1 276 (1260 * y2 + 427) : Int) > v1 276 0) := h492; omega
                  obtain ⟨xa, xg, xp, xb, xo, xha, xarm, -⟩ := j355.2.2.2.2.2.2.2.2 y2 (by omega) (by omega) (by omega) (by omega)
                  refine e_Ok.run (t' := (93, [(3, (0, v1 276 (1260 * y2 + 416))), (0, (1, 275)), (2, (0, y2))], [(1, 275)], v1)) 1 rfl ?_
                  refine e_Ok.getr (z := 276) rfl (el_o rfl) rfl rfl ((j353 275 0 no_93_4).trans (e_Has.eq hI.1 rfl)) (by omega) ?_
                  refine e_Ok.run (t' := (97, [(3, (0, v1 276 (1260 * y2 + 416))), (0, (1, 275)), (2, (0, y2))], [(1, 275), (1, 276)], v1)) 1 rfl ?_
                  refine e_Ok.getr (z := 276) rfl (el_o rfl) rfl rfl ((j353 275 0 no_93_4).trans (e_Has.eq hI.1 rfl)) (by omega) ?_
                  refine e_Ok.run (t' := (101, [(3, (0, v1 276 (1260 * y2 + 416))), (0, (1, 275)), (2, (0, y2))], [(0, y2), (1, 276), (1, 276)], v1)) 1 rfl ?_
                  refine e_Ok.callS rfl (by omega) rfl rfl (c_269 (by omega)) (fun r493 w494 h495 => ?_)
                  obtain ⟨rfl, rfl⟩ := h495
                  show e_Ok 20 elay ecode eI (d + 1) 408 (104, [(3, (0, v1 276 (1260 * y2 + 416))), (0, (1, 275)), (2, (0, y2))], [(0, 1260 * y2 + 416), (1, 276), (1, 276)], v1) _
                  refine e_Ok.run (t' := (105, [(3, (0, v1 276 (1260 * y2 + 416))), (0, (1, 275)), (2, (0, y2))], [(0, 1), (0, 1260 * y2 + 416), (1, 276), (1, 276)], v1)) 1 rfl ?_
                  refine e_Ok.add (z := 1260 * y2 + 417) rfl (by omega) (by omega) ?_
                  refine e_Ok.ald (z := v1 276 (1260 * y2 + 417)) rfl (el_o rfl) rfl (by omega) rfl (by omega) ?_
                  refine e_Ok.callS rfl (by omega) rfl rfl (c_268 (by omega)) (fun r496 w497 h498 => ?_)
                  obtain ⟨rfl, rfl⟩ := h498
                  show e_Ok 20 elay ecode eI (d + 1) 408 (110, [(3, (0, v1 276 (1260 * y2 + 416))), (0, (1, 275)), (2, (0, y2))], [(0, 36 * v1 276 (1260 * y2 + 417) + 16), (1, 276)], v1) _
                  refine e_Ok.run (t' := (111, [(3, (0, v1 276 (1260 * y2 + 416))), (0, (1, 275)), (2, (0, y2))], [(0, 2), (0, 36 * v1 276 (1260 * y2 + 417) + 16), (1, 276)], v1)) 1 rfl ?_
                  refine e_Ok.add (z := 36 * v1 276 (1260 * y2 + 417) + 18) rfl (by omega) (by omega) ?_
                  have h499 := (e_Has.get j354 (c := 276) (k := 36 * v1 276 (1260 * y2 + 417) + 18) (lo := (-1)) (hi := 15) (nR_STUCK (a := v1 276 (1260 * y2 + 417)) (by omega)) (by decide))
                  refine e_Ok.ald (z := v1 276 (36 * v1 276 (1260 * y2 + 417) + 18)) rfl rfl rfl (by omega) rfl (by omega) ?_
                  refine e_Ok.if1 rfl (fun h500 => ?_) (fun h500 => ?_)
                  · replace h500 : (v1 276 (36 * v1 276 (1260 * y2 + 417) + 18) : Int) ≥ 0 := h500
                    refine e_Ok.inc (z := y2 + 1) rfl rfl (by omega) (by omega) ?_
                    show e_Ok 20 elay ecode eI (d + 1) 408 (124, [(2, (0, y2 + 1)), (3, (0, v1 276 (1260 * y2 + 416))), (0, (1, 275))], [], v1) _
                    refine e_Ok.run (t' := (45, [(2, (0, y2 + 1)), (3, (0, v1 276 (1260 * y2 + 416))), (0, (1, 275))], [], v1)) 1 rfl ?_
                    refine e_Ok.sub eAlk (e_sub_of rfl ?_) (ih352 (y2 + 1) v1 ⟨j353, j354, j355, by omega, by omega, by omega⟩ (by omega))
                    exact ⟨rfl, rfl, trivial⟩
                  · replace h500 : (v1 276 (36 * v1 276 (1260 * y2 + 417) + 18) : Int) < 0 := by have q : ¬ ((v1 276 (36 * v1 276 (1260 * y2 + 417) + 18) : Int) ≥ 0) := h500; omega
                    refine e_Ok.run (t' := (118, [(3, (0, v1 276 (1260 * y2 + 416))), (0, (1, 275)), (2, (0, y2))], [(0, y2), (1, 275)], v1)) 2 rfl ?_
                    refine e_Ok.callV rfl (by omega) rfl rfl rfl rfl (c_366 (by omega) j355.1 j355.2.1 j355.2.2.1 j355.2.2.2.2.2.1 j355.2.2.2.2.2.2.1 (by omega) j355.2.2.2.2.2.2.2.1 (j355.2.2.2.2.2.2.2.2 y2 (by omega) (by omega)) (by omega) (by omega)) (fun r501 w502 h503 => ?_)
                    obtain ⟨rfl, q504, q504T, q504n, q504m, q504o, q504k⟩ := h503
                    have f505 : e_fr mTi w w502 := e_fr.trans j353 (e_fr.mono q504 (fun c k q => by exact tt_ti q))
                    have hI506 : mInv w502 G := mInv.turn j355 q504 q504T q504m q504o q504k
                    have tm507 : w502 276 0 = v1 276 0 := q504 276 0 no_93_16
                    show e_Ok 20 elay ecode eI (d + 1) 408 (121, [(3, (0, v1 276 (1260 * y2 + 416))), (0, (1, 275)), (2, (0, y2))], [], w502) _
                    refine e_Ok.inc (z := y2 + 1) rfl rfl (by omega) (by omega) ?_
                    show e_Ok 20 elay ecode eI (d + 1) 408 (124, [(2, (0, y2 + 1)), (3, (0, v1 276 (1260 * y2 + 416))), (0, (1, 275))], [], w502) _
                    refine e_Ok.run (t' := (45, [(2, (0, y2 + 1)), (3, (0, v1 276 (1260 * y2 + 416))), (0, (1, 275))], [], w502)) 1 rfl ?_
                    refine e_Ok.sub eAlk (e_sub_of rfl ?_) (ih352 (y2 + 1) w502 ⟨f505, hI506.1, hI506, by omega, by omega, by omega⟩ (by omega))
                    exact ⟨rfl, rfl, trivial⟩
      refine e_Ok.sub eAlk (e_sub_of rfl ?_) (hL351 (17 + 1 : Int).toNat 0 w345 ⟨f348, hI349.1, hI349, by omega, by omega, by omega⟩ (by omega))
      exact ⟨rfl, rfl, trivial⟩
end
