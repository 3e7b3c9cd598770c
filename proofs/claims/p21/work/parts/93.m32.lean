noncomputable section
def mTi (c k : Int) : Prop := c = 276 ∨ (c = 275 ∧ ((58 ≤ k ∧ k ≤ 60) ∨ (96 ≤ k ∧ k ≤ 100) ∨ k = 102)) ∨ (321 ≤ c ∧ c ≤ 327) ∨ c = 345 ∨ c = 346 ∨ c = 280
theorem ti_time {c k : Int} (q : c = 276 ∧ k = 0) : idl c k := by unfold idl; omega
theorem ti_in {c k : Int} (q : mIn c k) : idl c k := by unfold mIn at q; unfold idl; omega
theorem ti_tl {c k : Int} (q : mTl c k) : idl c k := by unfold mTl at q; unfold idl; omega
theorem ti_p {c k : Int} (q : mP c k) : idl c k := by unfold mP at q; unfold idl; omega
theorem ti_dr {c k : Int} (q : mDr c k) : idl c k := by unfold mDr at q; unfold idl; omega
theorem ti_k {c k : Int} (q : mK c k) : idl c k := by unfold mK at q; unfold idl; omega
theorem tt_ti {c k : Int} (q : mTt c k) : mTi c k := by unfold mTt mTn at q; unfold mTi; omega
theorem ga_ti {c k : Int} (q : mGA c k) : mTi c k := by unfold mGA at q; unfold mTi; omega
theorem lo_ti {c k : Int} (q : mLo c k) : mTi c k := by unfold mLo mLt mTr at q; unfold mTi; omega
theorem no_93_0 : ¬ mTi 275 30 := by unfold mTi; omega
theorem no_93_1 : ¬ mK 276 0 := by unfold mK; omega
theorem no_93_2 : ¬ mK 276 5 := by unfold mK; omega
theorem no_93_3 {k : Int} : ¬ mTl 276 k := by unfold mTl; omega
theorem no_93_4 : ¬ mDr 276 0 := by unfold mDr; omega
theorem no_93_5 : ¬ mDr 276 5 := by unfold mDr; omega
theorem no_93_6 : ¬ mTi 275 0 := by unfold mTi; omega
theorem no_93_7 {k : Int} : ¬ mP 276 k := by unfold mP; omega
theorem no_93_8 {k : Int} : ¬ mP 286 k := by unfold mP; omega
theorem no_93_9 {k : Int} : ¬ mP 275 k := by unfold mP; omega
theorem no_93_10 : ¬ mGA 276 0 := by unfold mGA; omega
theorem no_93_11 : ¬ mLo 276 0 := by unfold mLo mLt mTr; omega
theorem no_93_12 : ¬ mTt 276 0 := by unfold mTt mTn; omega
theorem no_93_13 : ¬ mIn 276 0 := by unfold mIn; omega
theorem no_93_14 : ¬ mIn 276 5 := by unfold mIn; omega
theorem no_93_15 {k : Int} : ¬ mIn 275 k := by unfold mIn; omega
theorem no_93_16 : ¬ mIn 276 1 := by unfold mIn; omega
theorem no_93_17 : ¬ mTr 276 0 := by unfold mTr; omega
theorem su_93_18 {c k : Int} (q : mK c k) : mTi c k := by
  unfold mK at q
  rcases q with ⟨q, ⟨q, q⟩⟩ | q | q
  · exact Or.inl (by omega)
  · exact Or.inr (Or.inr (Or.inl ⟨(by omega), (by omega)⟩))
  · exact Or.inr (Or.inr (Or.inl ⟨(by omega), (by omega)⟩))
theorem su_93_19 {c k : Int} (q : mTl c k) : mTi c k := by
  unfold mTl at q
  rcases q with q
  · exact Or.inr (Or.inr (Or.inr (Or.inr (Or.inr (by omega)))))
theorem su_93_20 {c k : Int} (q : mDr c k) : mTi c k := by
  unfold mDr at q
  rcases q with ⟨q, (⟨q, ⟨q, q⟩⟩ | ⟨q, q⟩ | ⟨q, q⟩)⟩ | q | q
  · exact Or.inl (by omega)
  · exact Or.inl (by omega)
  · exact Or.inl (by omega)
  · exact Or.inr (Or.inr (Or.inl ⟨(by omega), (by omega)⟩))
  · exact Or.inr (Or.inr (Or.inl ⟨(by omega), (by omega)⟩))
theorem su_93_21 {c k : Int} (q : mP c k) : mTi c k := by
  unfold mP at q
  rcases q with q | q
  · exact Or.inr (Or.inr (Or.inl ⟨(by omega), (by omega)⟩))
  · exact Or.inr (Or.inr (Or.inl ⟨(by omega), (by omega)⟩))
theorem su_93_22 {c k : Int} (q : mIn c k) : mTi c k := by
  unfold mIn at q
  rcases q with ⟨q, ⟨q, q⟩⟩
  · exact Or.inl (by omega)
theorem su_93_23 {c k : Int} (q : mTr c k) : mTi c k := by
  unfold mTr at q
  rcases q with ⟨q, (⟨q, q⟩ | q | ⟨q, (⟨q, (q | q | q | ⟨q, q⟩)⟩)⟩ | ⟨q, ⟨q, q⟩⟩)⟩
  · exact Or.inl (by omega)
  · exact Or.inl (by omega)
  · exact Or.inl (by omega)
  · unfold mTi; omega
  · exact Or.inl (by omega)
  · unfold mTi; omega
  · exact Or.inl (by omega)
set_option maxHeartbeats 4000000 in
theorem c_408 {d : Nat} (hd : 43 ≤ d) {w : eW} {G : Int → Gh} (hI : mInv w G) (htm : w 276 0 ≤ 5999) (hE : w 276 5 ≤ 2147400000) : e_Ok 20 elay ecode eI d 408 (0, [(0, (1, 275))], [], w) (fun r w' => r = [] ∧ e_fr mTi w w' ∧ mInv w' G ∧ w' 276 0 = w 276 0 + 1 ∧ (w 276 5 ≤ w' 276 5 ∧ w' 276 5 ≤ w 276 5 + 900)) := by
  obtain ⟨d, rfl⟩ : ∃ e, d = e + 1 := ⟨d - 1, by omega⟩
  have ht0 := e_Has.get hI.1 (c := 276) (k := 0) (lo := 0) (hi := 6000) rfl (by decide)
  refine e_Ok.run (t' := (1, [(0, (1, 275))], [(1, 275)], w)) 1 rfl ?_
  refine e_Ok.getr (z := 276) rfl (el_o rfl) rfl rfl (e_Has.eq hI.1 rfl) (by omega) ?_
  refine e_Ok.run (t' := (6, [(0, (1, 275))], [(0, 0), (1, 276), (0, 0), (1, 276)], w)) 2 rfl ?_
  refine e_Ok.ald (z := w 276 0) rfl (el_o rfl) rfl (by omega) rfl (by omega) ?_
  refine e_Ok.run (t' := (8, [(0, (1, 275))], [(0, 1), (0, w 276 0), (0, 0), (1, 276)], w)) 1 rfl ?_
  refine e_Ok.add (z := w 276 0 + 1) rfl (by omega) (by omega) ?_
  refine e_Ok.ast rfl (el_o rfl) rfl rfl (by omega) ?_
  generalize hw1 : e_up w 276 0 (w 276 0 + 1) = w1
  have f2 : e_fr mTi w w1 := e_fr.up (e_fr.refl w) hw1 (by unfold mTi; omega)
  have hT3 : e_Has mTy w1 := e_Has.upr hI.1 hw1 rfl (by omega)
  have f0 : e_fr (fun c k => c = 276 ∧ k = 0) w w1 := e_fr.up (e_fr.refl w) hw1 ⟨rfl, rfl⟩
  have hI4 : mInv w1 G := mInv.same hI f0 hT3 (fun c k q => ti_time q)
  have tm0 : w1 276 0 = w 276 0 + 1 := (by rw [← hw1]; exact e_up_eq _ _ _ _)
  have ev0 : w1 276 5 = w 276 5 := (by rw [← hw1]; exact (e_up_ne _ _ (Or.inr (by omega))).trans rfl)
  refine e_Ok.run (t' := (11, [(0, (1, 275))], [(1, 275)], w1)) 1 rfl ?_
  have hL5 : ∀ (nn : Nat) (y3 : Int) (v2 : eW), e_fr mTi w v2 ∧ e_Has mTy v2 ∧ mInv v2 G ∧ v2 276 0 = w 276 0 + 1 ∧ (w 276 5 ≤ v2 276 5 ∧ v2 276 5 ≤ w 276 5 + 820) ∧ (0 ≤ y3 ∧ y3 ≤ 4) → 5 - y3 < nn → e_Ok 20 elay ecode eI (d + 1) 408 (170, [(0, (1, 275)), (3, (0, y3))], [], v2) (fun r w' => r = [] ∧ e_fr mTi w w' ∧ mInv w' G ∧ w' 276 0 = w 276 0 + 1 ∧ (w 276 5 ≤ w' 276 5 ∧ w' 276 5 ≤ w 276 5 + 900)) := by
    intro nn
    induction nn with
    | zero => intro y3 v2 hj hm; obtain ⟨j7, j8, j9, j10, j11, j12⟩ := hj; exfalso; omega
    | succ nn ih6 =>
      intro y3 v2 hj hm
      obtain ⟨j7, j8, j9, j10, j11, j12⟩ := hj
      refine e_Ok.run (t' := (172, [(0, (1, 275)), (3, (0, y3))], [(1, 275), (0, y3)], v2)) 2 rfl ?_
      have h13 := (e_Has.get hI.1 (c := 275) (k := 30) (lo := 0) (hi := 4) rfl (by decide))
      refine e_Ok.getf (z := w 275 30) rfl (el_o rfl) rfl rfl ((j7 275 30 no_93_0).trans rfl) (by omega) ?_
      refine e_Ok.if2 rfl (fun h14 => ?_) (fun h14 => ?_)
      · replace h14 : (y3 : Int) ≥ w 275 30 := h14
        refine e_Ok.run (t' := (190, [(0, (1, 275)), (3, (0, y3))], [(1, 275)], v2)) 1 rfl ?_
        refine e_Ok.callV rfl (by omega) rfl rfl rfl rfl (c_303 (by omega) j9.1) (fun r15 w16 h17 => ?_)
        obtain ⟨rfl, q18, q18T⟩ := h17
        have f19 : e_fr mTi w w16 := e_fr.trans j7 (e_fr.mono q18 (fun c k q => su_93_18 q))
        have hI20 : mInv w16 G := mInv.same j9 q18 q18T (fun c k q => ti_k q)
        have tm21 : w16 276 0 = v2 276 0 := q18 276 0 no_93_1
        have ev22 : w16 276 5 = v2 276 5 := q18 276 5 no_93_2
        show e_Ok 20 elay ecode eI (d + 1) 408 (193, [(0, (1, 275)), (3, (0, y3))], [], w16) _
        refine e_Ok.run (t' := (194, [(0, (1, 275)), (3, (0, y3))], [(1, 275)], w16)) 1 rfl ?_
        refine e_Ok.callV rfl (by omega) rfl rfl rfl rfl (c_407 (by omega) hI20.1) (fun r23 w24 h25 => ?_)
        obtain ⟨rfl, q26, q26T⟩ := h25
        have f27 : e_fr mTi w w24 := e_fr.trans f19 (e_fr.mono q26 (fun c k q => su_93_19 q))
        have hI28 : mInv w24 G := mInv.same hI20 q26 q26T (fun c k q => ti_tl q)
        have tm29 : w24 276 0 = w16 276 0 := q26 276 0 no_93_3
        have ev30 : w24 276 5 = w16 276 5 := q26 276 5 no_93_3
        show e_Ok 20 elay ecode eI (d + 1) 408 (197, [(0, (1, 275)), (3, (0, y3))], [], w24) _
        refine e_Ok.rets rfl rfl ?_
        exact ⟨rfl, f27, hI28, by omega, by omega⟩
      · replace h14 : (y3 : Int) < w 275 30 := by have q : ¬ ((y3 : Int) ≥ w 275 30) := h14; omega
        refine e_Ok.run (t' := (180, [(0, (1, 275)), (3, (0, y3))], [(0, y3), (1, 275)], v2)) 2 rfl ?_
        refine e_Ok.callV rfl (by omega) rfl rfl rfl rfl (c_398 (by omega) j9.1 j9.2.1 (by omega)) (fun r31 w32 h33 => ?_)
        obtain ⟨rfl, q34, q34T⟩ := h33
        have f35 : e_fr mTi w w32 := e_fr.trans j7 (e_fr.mono q34 (fun c k q => su_93_20 q))
        have hI36 : mInv w32 G := mInv.same j9 q34 q34T (fun c k q => ti_dr q)
        have tm37 : w32 276 0 = v2 276 0 := q34 276 0 no_93_4
        have ev38 : w32 276 5 = v2 276 5 := q34 276 5 no_93_5
        show e_Ok 20 elay ecode eI (d + 1) 408 (183, [(0, (1, 275)), (3, (0, y3))], [], w32) _
        refine e_Ok.inc (z := y3 + 1) rfl rfl (by omega) (by omega) ?_
        show e_Ok 20 elay ecode eI (d + 1) 408 (186, [(3, (0, y3 + 1)), (0, (1, 275))], [], w32) _
        refine e_Ok.run (t' := (170, [(3, (0, y3 + 1)), (0, (1, 275))], [], w32)) 1 rfl ?_
        refine e_Ok.sub eAlk (e_sub_of rfl ?_) (ih6 (y3 + 1) w32 ⟨f35, hI36.1, hI36, by omega, by omega, by omega⟩ (by omega))
        exact ⟨rfl, rfl, trivial⟩
  have hL40 : ∀ (nn : Nat) (y2 : Int) (v1 : eW), e_fr mTi w v1 ∧ e_Has mTy v1 ∧ mInv v1 G ∧ v1 276 0 = w 276 0 + 1 ∧ (w 276 5 ≤ v1 276 5 ∧ v1 276 5 ≤ w 276 5 + 5 + 50 * y2) ∧ (0 ≤ y2 ∧ y2 ≤ 16) → 17 - y2 < nn → e_Ok 20 elay ecode eI (d + 1) 408 (45, [(0, (1, 275)), (2, (0, y2))], [], v1) (fun r w' => r = [] ∧ e_fr mTi w w' ∧ mInv w' G ∧ w' 276 0 = w 276 0 + 1 ∧ (w 276 5 ≤ w' 276 5 ∧ w' 276 5 ≤ w 276 5 + 900)) := by
    intro nn
    induction nn with
    | zero => intro y2 v1 hj hm; obtain ⟨j42, j43, j44, j45, j46, j47⟩ := hj; exfalso; omega
    | succ nn ih41 =>
      intro y2 v1 hj hm
      obtain ⟨j42, j43, j44, j45, j46, j47⟩ := hj
      refine e_Ok.run (t' := (48, [(0, (1, 275)), (2, (0, y2))], [(0, 16), (0, y2)], v1)) 2 rfl ?_
      refine e_Ok.if2 rfl (fun h48 => ?_) (fun h48 => ?_)
      · replace h48 : (y2 : Int) ≥ 16 := h48
        refine e_Ok.run (t' := (128, [(0, (1, 275)), (2, (0, y2))], [(1, 275)], v1)) 1 rfl ?_
        refine e_Ok.getr (z := 276) rfl (el_o rfl) rfl rfl ((j42 275 0 no_93_6).trans (e_Has.eq hI.1 rfl)) (by omega) ?_
        refine e_Ok.run (t' := (132, [(0, (1, 275)), (2, (0, y2))], [(0, 1), (1, 276)], v1)) 1 rfl ?_
        have h49 := (e_Has.get j43 (c := 276) (k := 1) (lo := 0) (hi := 1) rfl (by decide))
        refine e_Ok.ald (z := v1 276 1) rfl (el_o rfl) rfl (by omega) rfl (by omega) ?_
        refine e_Ok.run (t' := (134, [(0, (1, 275)), (2, (0, y2))], [(0, 1), (0, v1 276 1)], v1)) 1 rfl ?_
        refine e_Ok.if2 rfl (fun h50 => ?_) (fun h50 => ?_)
        · replace h50 : (v1 276 1 : Int) ≠ 1 := h50
          refine e_Ok.run (t' := (144, [(2, (0, 0)), (0, (1, 275))], [(0, 0)], v1)) 3 rfl ?_
          refine e_Ok.if1 rfl (fun h51 => ?_) (fun h51 => ?_)
          · replace h51 : (0 : Int) = 0 := h51
            refine e_Ok.run (t' := (153, [(2, (0, 0)), (0, (1, 275))], [(0, 0), (1, 275)], v1)) 2 rfl ?_
            refine e_Ok.callV rfl (by omega) rfl rfl rfl rfl (c_403 j44.1) (fun r52 w53 h54 => ?_)
            obtain ⟨rfl, q55, q55T⟩ := h54
            have f56 : e_fr mTi w w53 := e_fr.trans j42 (e_fr.mono q55 (fun c k q => su_93_19 q))
            have hI57 : mInv w53 G := mInv.same j44 q55 q55T (fun c k q => ti_tl q)
            have tm58 : w53 276 0 = v1 276 0 := q55 276 0 no_93_3
            have ev59 : w53 276 5 = v1 276 5 := q55 276 5 no_93_3
            show e_Ok 20 elay ecode eI (d + 1) 408 (156, [(2, (0, 0)), (0, (1, 275))], [], w53) _
            refine e_Ok.run (t' := (157, [(2, (0, 0)), (0, (1, 275))], [(1, 275)], w53)) 1 rfl ?_
            refine e_Ok.callV rfl (by omega) rfl rfl rfl rfl (c_302 (by omega) hI57.1) (fun r60 w61 h62 => ?_)
            obtain ⟨rfl, q63, q63k⟩ := h62
            have f64 : e_fr mTi w w61 := e_fr.trans f56 (e_fr.mono q63 (fun c k q => su_93_21 q))
            have hI65 : mInv w61 G := mInv.same hI57 q63 (mT_P q63 hI57.1) (fun c k q => ti_p q)
            have tm66 : w61 276 0 = w53 276 0 := q63 276 0 no_93_7
            have ev67 : w61 276 5 = w53 276 5 := q63 276 5 no_93_7
            have kall : ∀ b, 0 ≤ b → b < w61 275 10 → e_pk2 w61 (7 * b) (w61 286 b) := fun b g1 g2 => by rw [q63 286 b no_93_8]; exact q63k b g1 (by rw [q63 275 10 no_93_9] at g2; exact g2)
            show e_Ok 20 elay ecode eI (d + 1) 408 (160, [(2, (0, 0)), (0, (1, 275))], [], w61) _
            refine e_Ok.run (t' := (161, [(2, (0, 0)), (0, (1, 275))], [(0, 0)], w61)) 1 rfl ?_
            refine e_Ok.if1 rfl (fun h68 => ?_) (fun h68 => ?_)
            · replace h68 : (0 : Int) = 0 := h68
              refine e_Ok.run (t' := (170, [(3, (0, 0)), (2, (0, 0)), (0, (1, 275))], [], w61)) 2 rfl ?_
              refine e_Ok.sub eAlk (e_sub_of rfl ?_) (hL5 (5 + 1 : Int).toNat 0 w61 ⟨f64, hI65.1, hI65, by omega, by omega, by omega⟩ (by omega))
              exact ⟨rfl, rfl, trivial⟩
            · replace h68 : (0 : Int) ≠ 0 := by have q : ¬ ((0 : Int) = 0) := h68; omega
              exfalso; omega
          · replace h51 : (0 : Int) ≠ 0 := by have q : ¬ ((0 : Int) = 0) := h51; omega
            exfalso; omega
        · replace h50 : (v1 276 1 : Int) = 1 := by have q : ¬ ((v1 276 1 : Int) ≠ 1) := h50; omega
          refine e_Ok.run (t' := (144, [(2, (0, 1)), (0, (1, 275))], [(0, 1)], v1)) 4 rfl ?_
          refine e_Ok.if1 rfl (fun h69 => ?_) (fun h69 => ?_)
          · replace h69 : (1 : Int) = 0 := h69
            exfalso; omega
          · replace h69 : (1 : Int) ≠ 0 := by have q : ¬ ((1 : Int) = 0) := h69; omega
            refine e_Ok.run (t' := (148, [(2, (0, 1)), (0, (1, 275))], [(1, 275)], v1)) 1 rfl ?_
            refine e_Ok.callV rfl (by omega) rfl rfl rfl rfl (c_402 (by omega) j44.1 j44.2.2.1 j44.2.2.2.2.2.1 (by omega) (by omega)) (fun r70 w71 h72 => ?_)
            obtain ⟨rfl, q73, q73T, q73n, q73m⟩ := h72
            have f74 : e_fr mTi w w71 := e_fr.trans j42 (e_fr.mono q73 (fun c k q => by exact ga_ti q))
            have hI75 : mInv w71 G := mInv.go j44 q73 q73T q73m
            have tm76 : w71 276 0 = v1 276 0 := q73 276 0 no_93_10
            show e_Ok 20 elay ecode eI (d + 1) 408 (151, [(2, (0, 1)), (0, (1, 275))], [], w71) _
            refine e_Ok.run (t' := (153, [(2, (0, 1)), (0, (1, 275))], [(0, 1), (1, 275)], w71)) 2 rfl ?_
            refine e_Ok.callV rfl (by omega) rfl rfl rfl rfl (c_403 hI75.1) (fun r77 w78 h79 => ?_)
            obtain ⟨rfl, q80, q80T⟩ := h79
            have f81 : e_fr mTi w w78 := e_fr.trans f74 (e_fr.mono q80 (fun c k q => su_93_19 q))
            have hI82 : mInv w78 G := mInv.same hI75 q80 q80T (fun c k q => ti_tl q)
            have tm83 : w78 276 0 = w71 276 0 := q80 276 0 no_93_3
            have ev84 : w78 276 5 = w71 276 5 := q80 276 5 no_93_3
            show e_Ok 20 elay ecode eI (d + 1) 408 (156, [(2, (0, 1)), (0, (1, 275))], [], w78) _
            refine e_Ok.run (t' := (157, [(2, (0, 1)), (0, (1, 275))], [(1, 275)], w78)) 1 rfl ?_
            refine e_Ok.callV rfl (by omega) rfl rfl rfl rfl (c_302 (by omega) hI82.1) (fun r85 w86 h87 => ?_)
            obtain ⟨rfl, q88, q88k⟩ := h87
            have f89 : e_fr mTi w w86 := e_fr.trans f81 (e_fr.mono q88 (fun c k q => su_93_21 q))
            have hI90 : mInv w86 G := mInv.same hI82 q88 (mT_P q88 hI82.1) (fun c k q => ti_p q)
            have tm91 : w86 276 0 = w78 276 0 := q88 276 0 no_93_7
            have ev92 : w86 276 5 = w78 276 5 := q88 276 5 no_93_7
            have kall : ∀ b, 0 ≤ b → b < w86 275 10 → e_pk2 w86 (7 * b) (w86 286 b) := fun b g1 g2 => by rw [q88 286 b no_93_8]; exact q88k b g1 (by rw [q88 275 10 no_93_9] at g2; exact g2)
            show e_Ok 20 elay ecode eI (d + 1) 408 (160, [(2, (0, 1)), (0, (1, 275))], [], w86) _
            refine e_Ok.run (t' := (161, [(2, (0, 1)), (0, (1, 275))], [(0, 1)], w86)) 1 rfl ?_
            refine e_Ok.if1 rfl (fun h93 => ?_) (fun h93 => ?_)
            · replace h93 : (1 : Int) = 0 := h93
              exfalso; omega
            · replace h93 : (1 : Int) ≠ 0 := by have q : ¬ ((1 : Int) = 0) := h93; omega
              refine e_Ok.run (t' := (165, [(2, (0, 1)), (0, (1, 275))], [(1, 275)], w86)) 1 rfl ?_
              refine e_Ok.callV rfl (by omega) rfl rfl rfl rfl (c_406 (by omega) hI90.1 hI90.2.2.2.2.2.1 hI90.2.2.2.1 hI90.2.2.2.2.1 kall (by omega)) (fun r94 w95 h101 => ?_)
              obtain ⟨rfl, q103, q103T, q103n, q103m⟩ := h101
              have f104 : e_fr mTi w w95 := e_fr.trans f89 (e_fr.mono q103 (fun c k q => by exact lo_ti q))
              have hI105 : mInv w95 G := mInv.look hI90 q103 q103T q103m
              have tm106 : w95 276 0 = w86 276 0 := q103 276 0 no_93_11
              show e_Ok 20 elay ecode eI (d + 1) 408 (168, [(2, (0, 1)), (0, (1, 275))], [], w95) _
              refine e_Ok.run (t' := (170, [(3, (0, 0)), (2, (0, 1)), (0, (1, 275))], [], w95)) 2 rfl ?_
              refine e_Ok.sub eAlk (e_sub_of rfl ?_) (hL5 (5 + 1 : Int).toNat 0 w95 ⟨f104, hI105.1, hI105, by omega, by omega, by omega⟩ (by omega))
              exact ⟨rfl, rfl, trivial⟩
      · replace h48 : (y2 : Int) < 16 := by have q : ¬ ((y2 : Int) ≥ 16) := h48; omega
        refine e_Ok.run (t' := (52, [(0, (1, 275)), (2, (0, y2))], [(1, 275)], v1)) 1 rfl ?_
        refine e_Ok.getr (z := 276) rfl (el_o rfl) rfl rfl ((j42 275 0 no_93_6).trans (e_Has.eq hI.1 rfl)) (by omega) ?_
        refine e_Ok.run (t' := (56, [(0, (1, 275)), (2, (0, y2))], [(0, y2), (1, 276)], v1)) 1 rfl ?_
        refine e_Ok.callS rfl (by omega) rfl rfl (c_269 (by omega)) (fun r107 w108 h109 => ?_)
        obtain ⟨rfl, rfl⟩ := h109
        show e_Ok 20 elay ecode eI (d + 1) 408 (59, [(0, (1, 275)), (2, (0, y2))], [(0, 1260 * y2 + 416), (1, 276)], v1) _
        have h110 := (e_Has.get j43 (c := 276) (k := 1260 * y2 + 416) (lo := 0) (hi := 7) (nR_TSTATE (t := y2) (by omega)) (by decide))
        refine e_Ok.ald (z := v1 276 (1260 * y2 + 416)) rfl (el_o rfl) rfl (by omega) rfl (by omega) ?_
        refine e_Ok.run (t' := (62, [(3, (0, v1 276 (1260 * y2 + 416))), (0, (1, 275)), (2, (0, y2))], [(0, v1 276 (1260 * y2 + 416))], v1)) 2 rfl ?_
        refine e_Ok.if1 rfl (fun h111 => ?_) (fun h111 => ?_)
        · replace h111 : (v1 276 (1260 * y2 + 416) : Int) ≤ 0 := h111
          refine e_Ok.inc (z := y2 + 1) rfl rfl (by omega) (by omega) ?_
          show e_Ok 20 elay ecode eI (d + 1) 408 (124, [(2, (0, y2 + 1)), (3, (0, v1 276 (1260 * y2 + 416))), (0, (1, 275))], [], v1) _
          refine e_Ok.run (t' := (45, [(2, (0, y2 + 1)), (3, (0, v1 276 (1260 * y2 + 416))), (0, (1, 275))], [], v1)) 1 rfl ?_
          refine e_Ok.sub eAlk (e_sub_of rfl ?_) (ih41 (y2 + 1) v1 ⟨j42, j43, j44, by omega, by omega, by omega⟩ (by omega))
          exact ⟨rfl, rfl, trivial⟩
        · replace h111 : (v1 276 (1260 * y2 + 416) : Int) > 0 := by have q : ¬ ((v1 276 (1260 * y2 + 416) : Int) ≤ 0) := h111; omega
          refine e_Ok.run (t' := (68, [(3, (0, v1 276 (1260 * y2 + 416))), (0, (1, 275)), (2, (0, y2))], [(0, 6), (0, v1 276 (1260 * y2 + 416))], v1)) 2 rfl ?_
          refine e_Ok.if2 rfl (fun h112 => ?_) (fun h112 => ?_)
          · replace h112 : (v1 276 (1260 * y2 + 416) : Int) ≥ 6 := h112
            refine e_Ok.inc (z := y2 + 1) rfl rfl (by omega) (by omega) ?_
            show e_Ok 20 elay ecode eI (d + 1) 408 (124, [(2, (0, y2 + 1)), (3, (0, v1 276 (1260 * y2 + 416))), (0, (1, 275))], [], v1) _
            refine e_Ok.run (t' := (45, [(2, (0, y2 + 1)), (3, (0, v1 276 (1260 * y2 + 416))), (0, (1, 275))], [], v1)) 1 rfl ?_
            refine e_Ok.sub eAlk (e_sub_of rfl ?_) (ih41 (y2 + 1) v1 ⟨j42, j43, j44, by omega, by omega, by omega⟩ (by omega))
            exact ⟨rfl, rfl, trivial⟩
          · replace h112 : (v1 276 (1260 * y2 + 416) : Int) < 6 := by have q : ¬ ((v1 276 (1260 * y2 + 416) : Int) ≥ 6) := h112; omega
            refine e_Ok.run (t' := (72, [(3, (0, v1 276 (1260 * y2 + 416))), (0, (1, 275)), (2, (0, y2))], [(1, 275)], v1)) 1 rfl ?_
            refine e_Ok.getr (z := 276) rfl (el_o rfl) rfl rfl ((j42 275 0 no_93_6).trans (e_Has.eq hI.1 rfl)) (by omega) ?_
            refine e_Ok.run (t' := (76, [(3, (0, v1 276 (1260 * y2 + 416))), (0, (1, 275)), (2, (0, y2))], [(0, y2), (1, 276)], v1)) 1 rfl ?_
            refine e_Ok.callS rfl (by omega) rfl rfl (c_269 (by omega)) (fun r113 w114 h115 => ?_)
            obtain ⟨rfl, rfl⟩ := h115
            show e_Ok 20 elay ecode eI (d + 1) 408 (79, [(3, (0, v1 276 (1260 * y2 + 416))), (0, (1, 275)), (2, (0, y2))], [(0, 1260 * y2 + 416), (1, 276)], v1) _
            refine e_Ok.run (t' := (81, [(3, (0, v1 276 (1260 * y2 + 416))), (0, (1, 275)), (2, (0, y2))], [(0, 11), (0, 1260 * y2 + 416), (1, 276)], v1)) 1 rfl ?_
            refine e_Ok.add (z := 1260 * y2 + 427) rfl (by omega) (by omega) ?_
            have h116 := (e_Has.get j43 (c := 276) (k := 1260 * y2 + 427) (lo := 0) (hi := 6001) (nR_ACTS (t := y2) (by omega)) (by decide))
            refine e_Ok.ald (z := v1 276 (1260 * y2 + 427)) rfl (el_o rfl) rfl (by omega) rfl (by omega) ?_
            refine e_Ok.run (t' := (84, [(3, (0, v1 276 (1260 * y2 + 416))), (0, (1, 275)), (2, (0, y2))], [(1, 275), (0, v1 276 (1260 * y2 + 427))], v1)) 1 rfl ?_
            refine e_Ok.getr (z := 276) rfl (el_o rfl) rfl rfl ((j42 275 0 no_93_6).trans (e_Has.eq hI.1 rfl)) (by omega) ?_
            refine e_Ok.run (t' := (88, [(3, (0, v1 276 (1260 * y2 + 416))), (0, (1, 275)), (2, (0, y2))], [(0, 0), (1, 276), (0, v1 276 (1260 * y2 + 427))], v1)) 1 rfl ?_
            have h117 := (e_Has.get j43 (c := 276) (k := 0) (lo := 0) (hi := 6000) rfl (by decide))
            refine e_Ok.ald (z := v1 276 0) rfl (el_o rfl) rfl (by omega) rfl (by omega) ?_
            refine e_Ok.if2 rfl (fun h118 => ?_) (fun h118 => ?_)
            · replace h118 : (v1 276 (1260 * y2 + 427) : Int) > v1 276 0 := h118
              refine e_Ok.inc (z := y2 + 1) rfl rfl (by omega) (by omega) ?_
              show e_Ok 20 elay ecode eI (d + 1) 408 (124, [(2, (0, y2 + 1)), (3, (0, v1 276 (1260 * y2 + 416))), (0, (1, 275))], [], v1) _
              refine e_Ok.run (t' := (45, [(2, (0, y2 + 1)), (3, (0, v1 276 (1260 * y2 + 416))), (0, (1, 275))], [], v1)) 1 rfl ?_
              refine e_Ok.sub eAlk (e_sub_of rfl ?_) (ih41 (y2 + 1) v1 ⟨j42, j43, j44, by omega, by omega, by omega⟩ (by omega))
              exact ⟨rfl, rfl, trivial⟩
            · replace h118 : (v1 276 (1260 * y2 + 427) : Int) ≤ v1 276 0 := by have q : ¬ ((v1 276 (1260 * y2 + 427) : Int) > v1 276 0) := h118; omega
              obtain ⟨xa, xg, xp, xb, xo, xha, xarm, -⟩ := j44.2.2.2.2.2.2.2.2 y2 (by omega) (by omega) (by omega) (by omega)
              refine e_Ok.run (t' := (93, [(3, (0, v1 276 (1260 * y2 + 416))), (0, (1, 275)), (2, (0, y2))], [(1, 275)], v1)) 1 rfl ?_
              refine e_Ok.getr (z := 276) rfl (el_o rfl) rfl rfl ((j42 275 0 no_93_6).trans (e_Has.eq hI.1 rfl)) (by omega) ?_
              refine e_Ok.run (t' := (97, [(3, (0, v1 276 (1260 * y2 + 416))), (0, (1, 275)), (2, (0, y2))], [(1, 275), (1, 276)], v1)) 1 rfl ?_
              refine e_Ok.getr (z := 276) rfl (el_o rfl) rfl rfl ((j42 275 0 no_93_6).trans (e_Has.eq hI.1 rfl)) (by omega) ?_
              refine e_Ok.run (t' := (101, [(3, (0, v1 276 (1260 * y2 + 416))), (0, (1, 275)), (2, (0, y2))], [(0, y2), (1, 276), (1, 276)], v1)) 1 rfl ?_
              refine e_Ok.callS rfl (by omega) rfl rfl (c_269 (by omega)) (fun r119 w120 h121 => ?_)
              obtain ⟨rfl, rfl⟩ := h121
              show e_Ok 20 elay ecode eI (d + 1) 408 (104, [(3, (0, v1 276 (1260 * y2 + 416))), (0, (1, 275)), (2, (0, y2))], [(0, 1260 * y2 + 416), (1, 276), (1, 276)], v1) _
              refine e_Ok.run (t' := (105, [(3, (0, v1 276 (1260 * y2 + 416))), (0, (1, 275)), (2, (0, y2))], [(0, 1), (0, 1260 * y2 + 416), (1, 276), (1, 276)], v1)) 1 rfl ?_
              refine e_Ok.add (z := 1260 * y2 + 417) rfl (by omega) (by omega) ?_
              refine e_Ok.ald (z := v1 276 (1260 * y2 + 417)) rfl (el_o rfl) rfl (by omega) rfl (by omega) ?_
              refine e_Ok.callS rfl (by omega) rfl rfl (c_268 (by omega)) (fun r122 w123 h124 => ?_)
              obtain ⟨rfl, rfl⟩ := h124
              show e_Ok 20 elay ecode eI (d + 1) 408 (110, [(3, (0, v1 276 (1260 * y2 + 416))), (0, (1, 275)), (2, (0, y2))], [(0, 36 * v1 276 (1260 * y2 + 417) + 16), (1, 276)], v1) _
              refine e_Ok.run (t' := (111, [(3, (0, v1 276 (1260 * y2 + 416))), (0, (1, 275)), (2, (0, y2))], [(0, 2), (0, 36 * v1 276 (1260 * y2 + 417) + 16), (1, 276)], v1)) 1 rfl ?_
              refine e_Ok.add (z := 36 * v1 276 (1260 * y2 + 417) + 18) rfl (by omega) (by omega) ?_
              have h125 := (e_Has.get j43 (c := 276) (k := 36 * v1 276 (1260 * y2 + 417) + 18) (lo := (-1)) (hi := 15) (nR_STUCK (a := v1 276 (1260 * y2 + 417)) (by omega)) (by decide))
              refine e_Ok.ald (z := v1 276 (36 * v1 276 (1260 * y2 + 417) + 18)) rfl rfl rfl (by omega) rfl (by omega) ?_
              refine e_Ok.if1 rfl (fun h126 => ?_) (fun h126 => ?_)
              · replace h126 : (v1 276 (36 * v1 276 (1260 * y2 + 417) + 18) : Int) ≥ 0 := h126
                refine e_Ok.inc (z := y2 + 1) rfl rfl (by omega) (by omega) ?_
                show e_Ok 20 elay ecode eI (d + 1) 408 (124, [(2, (0, y2 + 1)), (3, (0, v1 276 (1260 * y2 + 416))), (0, (1, 275))], [], v1) _
                refine e_Ok.run (t' := (45, [(2, (0, y2 + 1)), (3, (0, v1 276 (1260 * y2 + 416))), (0, (1, 275))], [], v1)) 1 rfl ?_
                refine e_Ok.sub eAlk (e_sub_of rfl ?_) (ih41 (y2 + 1) v1 ⟨j42, j43, j44, by omega, by omega, by omega⟩ (by omega))
                exact ⟨rfl, rfl, trivial⟩
              · replace h126 : (v1 276 (36 * v1 276 (1260 * y2 + 417) + 18) : Int) < 0 := by have q : ¬ ((v1 276 (36 * v1 276 (1260 * y2 + 417) + 18) : Int) ≥ 0) := h126; omega
                refine e_Ok.run (t' := (118, [(3, (0, v1 276 (1260 * y2 + 416))), (0, (1, 275)), (2, (0, y2))], [(0, y2), (1, 275)], v1)) 2 rfl ?_
                refine e_Ok.callV rfl (by omega) rfl rfl rfl rfl (c_366 (by omega) j44.1 j44.2.1 j44.2.2.1 j44.2.2.2.2.2.1 j44.2.2.2.2.2.2.1 (by omega) j44.2.2.2.2.2.2.2.1 (j44.2.2.2.2.2.2.2.2 y2 (by omega) (by omega)) (by omega) (by omega)) (fun r127 w128 h129 => ?_)
                obtain ⟨rfl, q130, q130T, q130n, q130m, q130o, q130k⟩ := h129
                have f131 : e_fr mTi w w128 := e_fr.trans j42 (e_fr.mono q130 (fun c k q => by exact tt_ti q))
                have hI132 : mInv w128 G := mInv.turn j44 q130 q130T q130m q130o q130k
                have tm133 : w128 276 0 = v1 276 0 := q130 276 0 no_93_12
                show e_Ok 20 elay ecode eI (d + 1) 408 (121, [(3, (0, v1 276 (1260 * y2 + 416))), (0, (1, 275)), (2, (0, y2))], [], w128) _
                refine e_Ok.inc (z := y2 + 1) rfl rfl (by omega) (by omega) ?_
                show e_Ok 20 elay ecode eI (d + 1) 408 (124, [(2, (0, y2 + 1)), (3, (0, v1 276 (1260 * y2 + 416))), (0, (1, 275))], [], w128) _
                refine e_Ok.run (t' := (45, [(2, (0, y2 + 1)), (3, (0, v1 276 (1260 * y2 + 416))), (0, (1, 275))], [], w128)) 1 rfl ?_
                refine e_Ok.sub eAlk (e_sub_of rfl ?_) (ih41 (y2 + 1) w128 ⟨f131, hI132.1, hI132, by omega, by omega, by omega⟩ (by omega))
                exact ⟨rfl, rfl, trivial⟩
  refine e_Ok.callV rfl (by omega) rfl rfl rfl rfl (c_401 hI4.1) (fun r134 w135 h136 => ?_)
  obtain ⟨rfl, q137, q137T⟩ := h136
  have f138 : e_fr mTi w w135 := e_fr.trans f2 (e_fr.mono q137 (fun c k q => su_93_22 q))
  have hI139 : mInv w135 G := mInv.same hI4 q137 q137T (fun c k q => ti_in q)
  have tm140 : w135 276 0 = w1 276 0 := q137 276 0 no_93_13
  have ev141 : w135 276 5 = w1 276 5 := q137 276 5 no_93_14
  show e_Ok 20 elay ecode eI (d + 1) 408 (14, [(0, (1, 275))], [], w135) _
  refine e_Ok.run (t' := (15, [(0, (1, 275))], [(1, 275)], w135)) 1 rfl ?_
  refine e_Ok.getr (z := 276) rfl (el_o rfl) rfl rfl ((q137 275 0 no_93_15).trans (by rw [← hw1]; exact (e_up_ne _ _ (Or.inl (by omega))).trans (e_Has.eq hI.1 rfl))) (by omega) ?_
  refine e_Ok.run (t' := (19, [(0, (1, 275))], [(0, 1), (1, 276)], w135)) 1 rfl ?_
  have h142 := (e_Has.get hI.1 (c := 276) (k := 1) (lo := 0) (hi := 1) rfl (by decide))
  refine e_Ok.ald (z := w 276 1) rfl (el_o rfl) rfl (by omega) ((q137 276 1 no_93_16).trans (by rw [← hw1]; exact (e_up_ne _ _ (Or.inr (by omega))).trans rfl)) (by omega) ?_
  refine e_Ok.run (t' := (21, [(0, (1, 275))], [(0, 1), (0, w 276 1)], w135)) 1 rfl ?_
  refine e_Ok.if2 rfl (fun h143 => ?_) (fun h143 => ?_)
  · replace h143 : (w 276 1 : Int) ≠ 1 := h143
    refine e_Ok.run (t' := (34, [(1, (0, (-1))), (0, (1, 275))], [(0, (-1))], w135)) 3 rfl ?_
    refine e_Ok.if1 rfl (fun h144 => ?_) (fun h144 => ?_)
    · replace h144 : ((-1) : Int) < 0 := h144
      refine e_Ok.run (t' := (45, [(2, (0, 0)), (1, (0, (-1))), (0, (1, 275))], [], w135)) 2 rfl ?_
      refine e_Ok.sub eAlk (e_sub_of rfl ?_) (hL40 (17 + 1 : Int).toNat 0 w135 ⟨f138, hI139.1, hI139, by omega, by omega, by omega⟩ (by omega))
      exact ⟨rfl, rfl, trivial⟩
    · replace h144 : ((-1) : Int) ≥ 0 := by have q : ¬ (((-1) : Int) < 0) := h144; omega
      exfalso; omega
  · replace h143 : (w 276 1 : Int) = 1 := by have q : ¬ ((w 276 1 : Int) ≠ 1) := h143; omega
    refine e_Ok.run (t' := (25, [(0, (1, 275))], [(1, 275)], w135)) 1 rfl ?_
    refine e_Ok.callV rfl (by omega) rfl rfl rfl rfl (c_400 (by omega) hI139.1) (fun r145 w146 h147 => ?_)
    obtain ⟨z148, rfl, rfl, q149a, q149b⟩ := h147
    show e_Ok 20 elay ecode eI (d + 1) 408 (28, [(0, (1, 275))], [(0, z148)], w135) _
    refine e_Ok.run (t' := (34, [(1, (0, z148)), (0, (1, 275))], [(0, z148)], w135)) 3 rfl ?_
    refine e_Ok.if1 rfl (fun h150 => ?_) (fun h150 => ?_)
    · replace h150 : (z148 : Int) < 0 := h150
      refine e_Ok.run (t' := (45, [(2, (0, 0)), (1, (0, z148)), (0, (1, 275))], [], w135)) 2 rfl ?_
      refine e_Ok.sub eAlk (e_sub_of rfl ?_) (hL40 (17 + 1 : Int).toNat 0 w135 ⟨f138, hI139.1, hI139, by omega, by omega, by omega⟩ (by omega))
      exact ⟨rfl, rfl, trivial⟩
    · replace h150 : (z148 : Int) ≥ 0 := by have q : ¬ ((z148 : Int) < 0) := h150; omega
      refine e_Ok.run (t' := (40, [(1, (0, z148)), (0, (1, 275))], [(0, z148), (0, 1), (1, 275)], w135)) 3 rfl ?_
      refine e_Ok.callV rfl (by omega) rfl rfl rfl rfl (c_385 (by omega) hI139.1 (by omega) (by omega) (by omega)) (fun r151 w152 h153 => ?_)
      obtain ⟨rfl, q154, q154T, q154n, q154p, q154s, q154t, q154u⟩ := h153
      have f155 : e_fr mTi w w152 := e_fr.trans f138 (e_fr.mono q154 (fun c k q => su_93_23 q))
      have hI156 : mInv w152 G := mInv.trip hI139 q154 q154T q154s q154t q154u
      have tm157 : w152 276 0 = w135 276 0 := q154 276 0 no_93_17
      show e_Ok 20 elay ecode eI (d + 1) 408 (43, [(1, (0, z148)), (0, (1, 275))], [], w152) _
      refine e_Ok.run (t' := (45, [(2, (0, 0)), (1, (0, z148)), (0, (1, 275))], [], w152)) 2 rfl ?_
      refine e_Ok.sub eAlk (e_sub_of rfl ?_) (hL40 (17 + 1 : Int).toNat 0 w152 ⟨f155, hI156.1, hI156, by omega, by omega, by omega⟩ (by omega))
      exact ⟨rfl, rfl, trivial⟩
end
