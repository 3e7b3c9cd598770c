-- part 93
section
noncomputable section
def mTi (c k : Int) : Prop := c = 276 ∨ (c = 275 ∧ ((58 ≤ k ∧ k ≤ 60) ∨ (96 ≤ k ∧ k ≤ 100) ∨ k = 102)) ∨ (321 ≤ c ∧ c ≤ 327) ∨ c = 345 ∨ c = 346 ∨ c = 280
theorem ti_time {c k : Int} (q : c = 276 ∧ k = 0) : idl c k := by unfold idl; omega
theorem ti_in {c k : Int} (q : mIn c k) : idl c k := by unfold mIn at q; unfold idl; omega
theorem ti_tl {c k : Int} (q : mTl c k) : idl c k := by unfold mTl at q; unfold idl; omega
theorem ti_p {c k : Int} (q : mP c k) : idl c k := by unfold mP at q; unfold idl; omega
theorem ti_dr {c k : Int} (q : mDr c k) : idl c k := by unfold mDr at q; unfold idl; omega
theorem ti_k {c k : Int} (q : mK c k) : idl c k := by unfold mK at q; unfold idl; omega
theorem tt_ti {c k : Int} (q : mTt c k) : mTi c k := by unfold mTt mTn at q; unfold mTi; omega
theorem ga_ti {c k : Int} (q : mGA c k) : mTi c k := by unfold mGA at q; unfold mTi; omega
theorem lo_ti {c k : Int} (q : mLo c k) : mTi c k := by unfold mLo mLt mTr at q; unfold mTi; omega
theorem no_93_0 : ¬ mTi 275 30 := by unfold mTi; omega
theorem no_93_1 : ¬ mK 276 0 := by unfold mK; omega
theorem no_93_2 : ¬ mK 276 5 := by unfold mK; omega
theorem no_93_3 {k : Int} : ¬ mTl 276 k := by unfold mTl; omega
theorem no_93_4 : ¬ mDr 276 0 := by unfold mDr; omega
theorem no_93_5 : ¬ mDr 276 5 := by unfold mDr; omega
theorem no_93_6 : ¬ mTi 275 0 := by unfold mTi; omega
theorem no_93_7 {k : Int} : ¬ mP 276 k := by unfold mP; omega
theorem no_93_8 {k : Int} : ¬ mP 286 k := by unfold mP; omega
theorem no_93_9 {k : Int} : ¬ mP 275 k := by unfold mP; omega
theorem no_93_10 : ¬ mGA 276 0 := by unfold mGA; omega
theorem no_93_11 : ¬ mLo 276 0 := by unfold mLo mLt mTr; omega
theorem no_93_12 : ¬ mTt 276 0 := by unfold mTt mTn; omega
theorem no_93_13 : ¬ mIn 276 0 := by unfold mIn; omega
theorem no_93_14 : ¬ mIn 276 5 := by unfold mIn; omega
theorem no_93_15 {k : Int} : ¬ mIn 275 k := by unfold mIn; omega
theorem no_93_16 : ¬ mIn 276 1 := by unfold mIn; omega
theorem no_93_17 : ¬ mTr 276 0 := by unfold mTr; omega
theorem su_93_18 {c k : Int} (q : mK c k) : mTi c k := by
  unfold mK at q
  rcases q with ⟨q, ⟨q, q⟩⟩ | q | q
  · exact Or.inl (by omega)
  · exact Or.inr (Or.inr (Or.inl ⟨(by omega), (by omega)⟩))
  · exact Or.inr (Or.inr (Or.inl ⟨(by omega), (by omega)⟩))
theorem su_93_19 {c k : Int} (q : mTl c k) : mTi c k := by
  unfold mTl at q
  rcases q with q
  · exact Or.inr (Or.inr (Or.inr (Or.inr (Or.inr (by omega)))))
theorem su_93_20 {c k : Int} (q : mDr c k) : mTi c k := by
  unfold mDr at q
  rcases q with ⟨q, (⟨q, ⟨q, q⟩⟩ | ⟨q, q⟩ | ⟨q, q⟩)⟩ | q | q
  · exact Or.inl (by omega)
  · exact Or.inl (by omega)
  · exact Or.inl (by omega)
  · exact Or.inr (Or.inr (Or.inl ⟨(by omega), (by omega)⟩))
  · exact Or.inr (Or.inr (Or.inl ⟨(by omega), (by omega)⟩))
theorem su_93_21 {c k : Int} (q : mP c k) : mTi c k := by
  unfold mP at q
  rcases q with q | q
  · exact Or.inr (Or.inr (Or.inl ⟨(by omega), (by omega)⟩))
  · exact Or.inr (Or.inr (Or.inl ⟨(by omega), (by omega)⟩))
theorem su_93_22 {c k : Int} (q : mIn c k) : mTi c k := by
  unfold mIn at q
  rcases q with ⟨q, ⟨q, q⟩⟩
  · exact Or.inl (by omega)
theorem su_93_23 {c k : Int} (q : mTr c k) : mTi c k := by
  unfold mTr at q
  rcases q with ⟨q, (⟨q, q⟩ | q | ⟨q, (⟨q, (q | q | q | ⟨q, q⟩)⟩)⟩ | ⟨q, ⟨q, q⟩⟩)⟩
  · exact Or.inl (by omega)
  · exact Or.inl (by omega)
  · exact Or.inl (by omega)
  · unfold mTi; omega
  · exact Or.inl (by omega)
  · unfold mTi; omega
  · exact Or.inl (by omega)
set_option maxHeartbeats 4000000 in
theorem c_408 {d : Nat} (hd : 43 ≤ d) {w : eW} {G : Int → Gh} (hI : mInv w G) (htm : w 276 0 ≤ 5999) (hE : w 276 5 ≤ 2147400000) : e_Ok 20 elay ecode eI d 408 (0, [(0, (1, 275))], [], w) (fun r w' => r = [] ∧ e_fr mTi w w' ∧ mInv w' G ∧ w' 276 0 = w 276 0 + 1 ∧ (w 276 5 ≤ w' 276 5 ∧ w' 276 5 ≤ w 276 5 + 900)) := by
  obtain ⟨d, rfl⟩ : ∃ e, d = e + 1 := ⟨d - 1, by omega⟩
  have ht0 := e_Has.get hI.1 (c := 276) (k := 0) (lo := 0) (hi := 6000) rfl (by decide)
  refine e_Ok.ps1 (x := (1, 275)) (q := 1) 1 rfl ?_
  refine e_Ok.getr (z := 276) rfl (el_o rfl) rfl (ef_o rfl) (e_Has.eq hI.1 rfl) ⟨by decide, by decide⟩ ?_
  refine e_Ok.ps3 (x := (0, 0)) (y := (1, 276)) (z := (0, 0)) (q := 6) 2 rfl ?_
  refine e_Ok.ald (z := w 276 0) rfl (el_o rfl) rfl (by omega) rfl (by omega) ?_
  refine e_Ok.ps1 (x := (0, 1)) (q := 8) 1 rfl ?_
  refine e_Ok.add (z := w 276 0 + 1) rfl rfl (by omega) ?_
  refine e_Ok.ast rfl (el_o rfl) rfl rfl (by omega) ?_
  generalize hw1 : e_up w 276 0 (w 276 0 + 1) = w1
  have hT3 : e_Has mTy w1 := e_Has.upr hI.1 hw1 rfl (by omega)
  have f0 : e_fr (fun c k => c = 276 ∧ k = 0) w w1 := e_fr.up (e_fr.refl w) hw1 ⟨rfl, rfl⟩
  have hI4 : mInv w1 G := mInv.same hI f0 hT3 (fun c k q => ti_time q)
  have tm0 : w1 276 0 = w 276 0 + 1 := (e_ue hw1)
  have ev0 : w1 276 5 = w 276 5 := (e_uq hw1 (Or.inr (by decide)) rfl)
  refine e_Ok.ps1 (x := (1, 275)) (q := 11) 1 rfl ?_
  have hL5 : ∀ (nn : Nat) (y3 : Int) (v2 : eW), e_fr mTi w v2 ∧ e_Has mTy v2 ∧ mInv v2 G ∧ v2 276 0 = w 276 0 + 1 ∧ (w 276 5 ≤ v2 276 5 ∧ v2 276 5 ≤ w 276 5 + 820) ∧ (0 ≤ y3 ∧ y3 ≤ 4) → 5 - y3 < nn → e_Ok 20 elay ecode eI (d + 1) 408 (170, [(0, (1, 275)), (3, (0, y3))], [], v2) (fun r w' => r = [] ∧ e_fr mTi w w' ∧ mInv w' G ∧ w' 276 0 = w 276 0 + 1 ∧ (w 276 5 ≤ w' 276 5 ∧ w' 276 5 ≤ w 276 5 + 900)) := by
    intro nn
    induction nn with
    | zero => intro y3 v2 hj hm; obtain ⟨j7, j8, j9, j10, j11, j12⟩ := hj; exfalso; omega
    | succ nn ih6 =>
      intro y3 v2 hj hm
      obtain ⟨j7, j8, j9, j10, j11, j12⟩ := hj
      refine e_Ok.run (t' := (172, [(0, (1, 275)), (3, (0, y3))], [(1, 275), (0, y3)], v2)) 2 rfl ?_
      have h13 := (e_Has.get hI.1 (c := 275) (k := 30) (lo := 0) (hi := 4) rfl (by decide))
      refine e_Ok.getf (z := w 275 30) rfl (el_o rfl) rfl (ef_o rfl) ((j7 275 30 no_93_0).trans rfl) (e_bq h13 (by decide) (by decide)) ?_
      refine e_Ok.if2 rfl (fun h14 => ?_) (fun h14 => ?_)
      · replace h14 : (y3 : Int) ≥ w 275 30 := h14
        refine e_Ok.ps1 (x := (1, 275)) (q := 190) 1 rfl ?_
        refine e_Ok.callV rfl (e_dq hd rfl) rfl rfl rfl rfl (c_303 (e_dq hd rfl) j9.1) (fun r15 w16 h17 => ?_)
        obtain ⟨rfl, q18, q18T⟩ := h17
        have hI20 : mInv w16 G := mInv.same j9 q18 q18T (fun c k q => ti_k q)
        have tm21 : w16 276 0 = v2 276 0 := q18 276 0 no_93_1
        have ev22 : w16 276 5 = v2 276 5 := q18 276 5 no_93_2
        refine e_Ok.nrm (q := 193) (st' := []) rfl rfl ?_
        refine e_Ok.ps1 (x := (1, 275)) (q := 194) 1 rfl ?_
        refine e_Ok.callV rfl (e_dq hd rfl) rfl rfl rfl rfl (c_407 (e_dq hd rfl) hI20.1) (fun r23 w24 h25 => ?_)
        obtain ⟨rfl, q26, q26T⟩ := h25
        have hI28 : mInv w24 G := mInv.same hI20 q26 q26T (fun c k q => ti_tl q)
        have tm29 : w24 276 0 = w16 276 0 := q26 276 0 no_93_3
        have ev30 : w24 276 5 = w16 276 5 := q26 276 5 no_93_3
        refine e_Ok.nrm (q := 197) (st' := []) rfl rfl ?_
        refine e_Ok.rets rfl rfl ?_
        exact ⟨rfl, (show e_fr mTi w w24 from e_fr.trans (show e_fr mTi w w16 from e_fr.trans j7 (e_fr.mono q18 (fun c k q => su_93_18 q))) (e_fr.mono q26 (fun c k q => su_93_19 q))), hI28, by omega, by omega⟩
      · replace h14 : (y3 : Int) < w 275 30 := Int.not_le.mp (show ¬ ((y3 : Int) ≥ w 275 30) from h14)
        refine e_Ok.ps2 (x := (0, y3)) (y := (1, 275)) (q := 180) 2 rfl ?_
        refine e_Ok.callV rfl (e_dq hd rfl) rfl rfl rfl rfl (c_398 (e_dq hd rfl) j9.1 j9.2.1 (by omega)) (fun r31 w32 h33 => ?_)
        obtain ⟨rfl, q34, q34T⟩ := h33
        have hI36 : mInv w32 G := mInv.same j9 q34 q34T (fun c k q => ti_dr q)
        have tm37 : w32 276 0 = v2 276 0 := q34 276 0 no_93_4
        have ev38 : w32 276 5 = v2 276 5 := q34 276 5 no_93_5
        refine e_Ok.nrm (q := 183) (st' := []) rfl rfl ?_
        refine e_Ok.inc (z := y3 + 1) rfl rfl (by first | with_reducible rfl | omega) (by omega) ?_
        show e_Ok 20 elay ecode eI (d + 1) 408 (186, [(3, (0, y3 + 1)), (0, (1, 275))], [], w32) _
        refine e_Ok.ps0 (q := 170) 1 rfl ?_
        refine e_Ok.sub eAlk (e_sub_of rfl ?_) (ih6 (y3 + 1) w32 ⟨(show e_fr mTi w w32 from e_fr.trans j7 (e_fr.mono q34 (fun c k q => su_93_20 q))), hI36.1, hI36, by omega, by omega, by omega⟩ (by omega))
        exact ⟨rfl, rfl, trivial⟩
  have hL40 : ∀ (nn : Nat) (y2 : Int) (v1 : eW), e_fr mTi w v1 ∧ e_Has mTy v1 ∧ mInv v1 G ∧ v1 276 0 = w 276 0 + 1 ∧ (w 276 5 ≤ v1 276 5 ∧ v1 276 5 ≤ w 276 5 + 5 + 50 * y2) ∧ (0 ≤ y2 ∧ y2 ≤ 16) → 17 - y2 < nn → e_Ok 20 elay ecode eI (d + 1) 408 (45, [(0, (1, 275)), (2, (0, y2))], [], v1) (fun r w' => r = [] ∧ e_fr mTi w w' ∧ mInv w' G ∧ w' 276 0 = w 276 0 + 1 ∧ (w 276 5 ≤ w' 276 5 ∧ w' 276 5 ≤ w 276 5 + 900)) := by
    intro nn
    induction nn with
    | zero => intro y2 v1 hj hm; obtain ⟨j42, j43, j44, j45, j46, j47⟩ := hj; exfalso; omega
    | succ nn ih41 =>
      intro y2 v1 hj hm
      obtain ⟨j42, j43, j44, j45, j46, j47⟩ := hj
      refine e_Ok.run (t' := (48, [(0, (1, 275)), (2, (0, y2))], [(0, 16), (0, y2)], v1)) 2 rfl ?_
      refine e_Ok.if2 rfl (fun h48 => ?_) (fun h48 => ?_)
      · replace h48 : (y2 : Int) ≥ 16 := h48
        refine e_Ok.ps1 (x := (1, 275)) (q := 128) 1 rfl ?_
        refine e_Ok.getr (z := 276) rfl (el_o rfl) rfl (ef_o rfl) ((j42 275 0 no_93_6).trans (e_Has.eq hI.1 rfl)) ⟨by decide, by decide⟩ ?_
        refine e_Ok.ps1 (x := (0, 1)) (q := 132) 1 rfl ?_
        have h49 := (e_Has.get j43 (c := 276) (k := 1) (lo := 0) (hi := 1) rfl (by decide))
        refine e_Ok.ald (z := v1 276 1) rfl (el_o rfl) rfl (by omega) rfl (e_bq h49 (by decide) (by decide)) ?_
        refine e_Ok.ps1 (x := (0, 1)) (q := 134) 1 rfl ?_
        refine e_Ok.if2 rfl (fun h50 => ?_) (fun h50 => ?_)
        · replace h50 : (v1 276 1 : Int) ≠ 1 := h50
          refine e_Ok.run (t' := (144, [(2, (0, 0)), (0, (1, 275))], [(0, 0)], v1)) 3 rfl ?_
          refine e_Ok.if1 rfl (fun h51 => ?_) (fun h51 => ?_)
          · replace h51 : (0 : Int) = 0 := h51
            refine e_Ok.ps2 (x := (0, 0)) (y := (1, 275)) (q := 153) 2 rfl ?_
            refine e_Ok.callV rfl (e_dq hd rfl) rfl rfl rfl rfl (c_403 j44.1) (fun r52 w53 h54 => ?_)
            obtain ⟨rfl, q55, q55T⟩ := h54
            have hI57 : mInv w53 G := mInv.same j44 q55 q55T (fun c k q => ti_tl q)
            have tm58 : w53 276 0 = v1 276 0 := q55 276 0 no_93_3
            have ev59 : w53 276 5 = v1 276 5 := q55 276 5 no_93_3
            refine e_Ok.nrm (q := 156) (st' := []) rfl rfl ?_
            refine e_Ok.ps1 (x := (1, 275)) (q := 157) 1 rfl ?_
            refine e_Ok.callV rfl (e_dq hd rfl) rfl rfl rfl rfl (c_302 (e_dq hd rfl) hI57.1) (fun r60 w61 h62 => ?_)
            obtain ⟨rfl, q63, q63k⟩ := h62
            have hI65 : mInv w61 G := mInv.same hI57 q63 (mT_P q63 hI57.1) (fun c k q => ti_p q)
            have tm66 : w61 276 0 = w53 276 0 := q63 276 0 no_93_7
            have ev67 : w61 276 5 = w53 276 5 := q63 276 5 no_93_7
            have kall : ∀ b, 0 ≤ b → b < w61 275 10 → e_pk2 w61 (7 * b) (w61 286 b) := fun b g1 g2 => by rw [q63 286 b no_93_8]; exact q63k b g1 (by rw [q63 275 10 no_93_9] at g2; exact g2)
            refine e_Ok.nrm (q := 160) (st' := []) rfl rfl ?_
            refine e_Ok.ps1 (x := (0, 0)) (q := 161) 1 rfl ?_
            refine e_Ok.if1 rfl (fun h68 => ?_) (fun h68 => ?_)
            · replace h68 : (0 : Int) = 0 := h68
              refine e_Ok.run (t' := (170, [(3, (0, 0)), (2, (0, 0)), (0, (1, 275))], [], w61)) 2 rfl ?_
              refine e_Ok.sub eAlk (e_sub_of rfl ?_) (hL5 (5 + 1 : Int).toNat 0 w61 ⟨(show e_fr mTi w w61 from e_fr.trans (show e_fr mTi w w53 from e_fr.trans j42 (e_fr.mono q55 (fun c k q => su_93_19 q))) (e_fr.mono q63 (fun c k q => su_93_21 q))), hI65.1, hI65, by omega, by omega, by omega⟩ (by omega))
              exact ⟨rfl, rfl, trivial⟩
            · replace h68 : (0 : Int) ≠ 0 := (show ¬ ((0 : Int) = 0) from h68)
              exfalso; omega
          · replace h51 : (0 : Int) ≠ 0 := (show ¬ ((0 : Int) = 0) from h51)
            exfalso; omega
        · replace h50 : (v1 276 1 : Int) = 1 := Classical.not_not.mp (show ¬ ((v1 276 1 : Int) ≠ 1) from h50)
          refine e_Ok.run (t' := (144, [(2, (0, 1)), (0, (1, 275))], [(0, 1)], v1)) 4 rfl ?_
          refine e_Ok.if1 rfl (fun h69 => ?_) (fun h69 => ?_)
          · replace h69 : (1 : Int) = 0 := h69
            exfalso; omega
          · replace h69 : (1 : Int) ≠ 0 := (show ¬ ((1 : Int) = 0) from h69)
            refine e_Ok.ps1 (x := (1, 275)) (q := 148) 1 rfl ?_
            refine e_Ok.callV rfl (e_dq hd rfl) rfl rfl rfl rfl (c_402 (e_dq hd rfl) j44.1 j44.2.2.1 j44.2.2.2.2.2.1 (by omega) (by omega)) (fun r70 w71 h72 => ?_)
            obtain ⟨rfl, q73, q73T, q73n, q73m⟩ := h72
            have hI75 : mInv w71 G := mInv.go j44 q73 q73T q73m
            have tm76 : w71 276 0 = v1 276 0 := q73 276 0 no_93_10
            refine e_Ok.nrm (q := 151) (st' := []) rfl rfl ?_
            refine e_Ok.ps2 (x := (0, 1)) (y := (1, 275)) (q := 153) 2 rfl ?_
            refine e_Ok.callV rfl (e_dq hd rfl) rfl rfl rfl rfl (c_403 hI75.1) (fun r77 w78 h79 => ?_)
            obtain ⟨rfl, q80, q80T⟩ := h79
            have hI82 : mInv w78 G := mInv.same hI75 q80 q80T (fun c k q => ti_tl q)
            have tm83 : w78 276 0 = w71 276 0 := q80 276 0 no_93_3
            have ev84 : w78 276 5 = w71 276 5 := q80 276 5 no_93_3
            refine e_Ok.nrm (q := 156) (st' := []) rfl rfl ?_
            refine e_Ok.ps1 (x := (1, 275)) (q := 157) 1 rfl ?_
            refine e_Ok.callV rfl (e_dq hd rfl) rfl rfl rfl rfl (c_302 (e_dq hd rfl) hI82.1) (fun r85 w86 h87 => ?_)
            obtain ⟨rfl, q88, q88k⟩ := h87
            have hI90 : mInv w86 G := mInv.same hI82 q88 (mT_P q88 hI82.1) (fun c k q => ti_p q)
            have tm91 : w86 276 0 = w78 276 0 := q88 276 0 no_93_7
            have ev92 : w86 276 5 = w78 276 5 := q88 276 5 no_93_7
            have kall : ∀ b, 0 ≤ b → b < w86 275 10 → e_pk2 w86 (7 * b) (w86 286 b) := fun b g1 g2 => by rw [q88 286 b no_93_8]; exact q88k b g1 (by rw [q88 275 10 no_93_9] at g2; exact g2)
            refine e_Ok.nrm (q := 160) (st' := []) rfl rfl ?_
            refine e_Ok.ps1 (x := (0, 1)) (q := 161) 1 rfl ?_
            refine e_Ok.if1 rfl (fun h93 => ?_) (fun h93 => ?_)
            · replace h93 : (1 : Int) = 0 := h93
              exfalso; omega
            · replace h93 : (1 : Int) ≠ 0 := (show ¬ ((1 : Int) = 0) from h93)
              refine e_Ok.ps1 (x := (1, 275)) (q := 165) 1 rfl ?_
              refine e_Ok.callV rfl (e_dq hd rfl) rfl rfl rfl rfl (c_406 (e_dq hd rfl) hI90.1 hI90.2.2.2.2.2.1 hI90.2.2.2.1 hI90.2.2.2.2.1 kall (by omega)) (fun r94 w95 h101 => ?_)
              obtain ⟨rfl, q103, q103T, q103n, q103m⟩ := h101
              have hI105 : mInv w95 G := mInv.look hI90 q103 q103T q103m
              have tm106 : w95 276 0 = w86 276 0 := q103 276 0 no_93_11
              refine e_Ok.nrm (q := 168) (st' := []) rfl rfl ?_
              refine e_Ok.run (t' := (170, [(3, (0, 0)), (2, (0, 1)), (0, (1, 275))], [], w95)) 2 rfl ?_
              refine e_Ok.sub eAlk (e_sub_of rfl ?_) (hL5 (5 + 1 : Int).toNat 0 w95 ⟨(show e_fr mTi w w95 from e_fr.trans (show e_fr mTi w w86 from e_fr.trans (show e_fr mTi w w78 from e_fr.trans (show e_fr mTi w w71 from e_fr.trans j42 (e_fr.mono q73 (fun c k q => by exact ga_ti q))) (e_fr.mono q80 (fun c k q => su_93_19 q))) (e_fr.mono q88 (fun c k q => su_93_21 q))) (e_fr.mono q103 (fun c k q => by exact lo_ti q))), hI105.1, hI105, by omega, by omega, by omega⟩ (by omega))
              exact ⟨rfl, rfl, trivial⟩
      · replace h48 : (y2 : Int) < 16 := Int.not_le.mp (show ¬ ((y2 : Int) ≥ 16) from h48)
        refine e_Ok.ps1 (x := (1, 275)) (q := 52) 1 rfl ?_
        refine e_Ok.getr (z := 276) rfl (el_o rfl) rfl (ef_o rfl) ((j42 275 0 no_93_6).trans (e_Has.eq hI.1 rfl)) ⟨by decide, by decide⟩ ?_
        refine e_Ok.ps1 (x := (0, y2)) (q := 56) 1 rfl ?_
        refine e_Ok.callS rfl (e_dq hd rfl) rfl rfl (c_269 (by omega)) (fun r107 w108 h109 => ?_)
        obtain ⟨rfl, rfl⟩ := h109
        refine e_Ok.nrm (q := 59) (st' := [(0, 1260 * y2 + 416), (1, 276)]) rfl rfl ?_
        have h110 := (e_Has.get j43 (c := 276) (k := 1260 * y2 + 416) (lo := 0) (hi := 7) (nR_TSTATE (t := y2) (by omega)) (by decide))
        refine e_Ok.ald (z := v1 276 (1260 * y2 + 416)) rfl (el_o rfl) rfl (by omega) rfl (e_bq h110 (by decide) (by decide)) ?_
        refine e_Ok.run (t' := (62, [(3, (0, v1 276 (1260 * y2 + 416))), (0, (1, 275)), (2, (0, y2))], [(0, v1 276 (1260 * y2 + 416))], v1)) 2 rfl ?_
        refine e_Ok.if1 rfl (fun h111 => ?_) (fun h111 => ?_)
        · replace h111 : (v1 276 (1260 * y2 + 416) : Int) ≤ 0 := h111
          refine e_Ok.inc (z := y2 + 1) rfl rfl (by first | with_reducible rfl | omega) (by omega) ?_
          show e_Ok 20 elay ecode eI (d + 1) 408 (124, [(2, (0, y2 + 1)), (3, (0, v1 276 (1260 * y2 + 416))), (0, (1, 275))], [], v1) _
          refine e_Ok.ps0 (q := 45) 1 rfl ?_
          refine e_Ok.sub eAlk (e_sub_of rfl ?_) (ih41 (y2 + 1) v1 ⟨j42, j43, j44, by omega, by omega, by omega⟩ (by omega))
          exact ⟨rfl, rfl, trivial⟩
        · replace h111 : (v1 276 (1260 * y2 + 416) : Int) > 0 := Int.not_le.mp (show ¬ ((v1 276 (1260 * y2 + 416) : Int) ≤ 0) from h111)
          refine e_Ok.ps2 (x := (0, 6)) (y := (0, v1 276 (1260 * y2 + 416))) (q := 68) 2 rfl ?_
          refine e_Ok.if2 rfl (fun h112 => ?_) (fun h112 => ?_)
          · replace h112 : (v1 276 (1260 * y2 + 416) : Int) ≥ 6 := h112
            refine e_Ok.inc (z := y2 + 1) rfl rfl (by first | with_reducible rfl | omega) (by omega) ?_
            show e_Ok 20 elay ecode eI (d + 1) 408 (124, [(2, (0, y2 + 1)), (3, (0, v1 276 (1260 * y2 + 416))), (0, (1, 275))], [], v1) _
            refine e_Ok.ps0 (q := 45) 1 rfl ?_
            refine e_Ok.sub eAlk (e_sub_of rfl ?_) (ih41 (y2 + 1) v1 ⟨j42, j43, j44, by omega, by omega, by omega⟩ (by omega))
            exact ⟨rfl, rfl, trivial⟩
          · replace h112 : (v1 276 (1260 * y2 + 416) : Int) < 6 := Int.not_le.mp (show ¬ ((v1 276 (1260 * y2 + 416) : Int) ≥ 6) from h112)
            refine e_Ok.ps1 (x := (1, 275)) (q := 72) 1 rfl ?_
            refine e_Ok.getr (z := 276) rfl (el_o rfl) rfl (ef_o rfl) ((j42 275 0 no_93_6).trans (e_Has.eq hI.1 rfl)) ⟨by decide, by decide⟩ ?_
            refine e_Ok.ps1 (x := (0, y2)) (q := 76) 1 rfl ?_
            refine e_Ok.callS rfl (e_dq hd rfl) rfl rfl (c_269 (by omega)) (fun r113 w114 h115 => ?_)
            obtain ⟨rfl, rfl⟩ := h115
            refine e_Ok.nrm (q := 79) (st' := [(0, 1260 * y2 + 416), (1, 276)]) rfl rfl ?_
            refine e_Ok.ps1 (x := (0, 11)) (q := 81) 1 rfl ?_
            refine e_Ok.add (z := 1260 * y2 + 427) rfl (e_adl (by decide)) (by omega) ?_
            have h116 := (e_Has.get j43 (c := 276) (k := 1260 * y2 + 427) (lo := 0) (hi := 6001) (nR_ACTS (t := y2) (by omega)) (by decide))
            refine e_Ok.ald (z := v1 276 (1260 * y2 + 427)) rfl (el_o rfl) rfl (by omega) rfl (e_bq h116 (by decide) (by decide)) ?_
            refine e_Ok.ps1 (x := (1, 275)) (q := 84) 1 rfl ?_
            refine e_Ok.getr (z := 276) rfl (el_o rfl) rfl (ef_o rfl) ((j42 275 0 no_93_6).trans (e_Has.eq hI.1 rfl)) ⟨by decide, by decide⟩ ?_
            refine e_Ok.ps1 (x := (0, 0)) (q := 88) 1 rfl ?_
            have h117 := (e_Has.get j43 (c := 276) (k := 0) (lo := 0) (hi := 6000) rfl (by decide))
            refine e_Ok.ald (z := v1 276 0) rfl (el_o rfl) rfl (by omega) rfl (e_bq h117 (by decide) (by decide)) ?_
            refine e_Ok.if2 rfl (fun h118 => ?_) (fun h118 => ?_)
            · replace h118 : (v1 276 (1260 * y2 + 427) : Int) > v1 276 0 := h118
              refine e_Ok.inc (z := y2 + 1) rfl rfl (by first | with_reducible rfl | omega) (by omega) ?_
              show e_Ok 20 elay ecode eI (d + 1) 408 (124, [(2, (0, y2 + 1)), (3, (0, v1 276 (1260 * y2 + 416))), (0, (1, 275))], [], v1) _
              refine e_Ok.ps0 (q := 45) 1 rfl ?_
              refine e_Ok.sub eAlk (e_sub_of rfl ?_) (ih41 (y2 + 1) v1 ⟨j42, j43, j44, by omega, by omega, by omega⟩ (by omega))
              exact ⟨rfl, rfl, trivial⟩
            · replace h118 : (v1 276 (1260 * y2 + 427) : Int) ≤ v1 276 0 := Int.not_lt.mp (show ¬ ((v1 276 (1260 * y2 + 427) : Int) > v1 276 0) from h118)
              obtain ⟨xa, xg, xp, xb, xo, xha, xarm, -⟩ := j44.2.2.2.2.2.2.2.2 y2 (by omega) (by omega) (by omega) (by omega)
              refine e_Ok.ps1 (x := (1, 275)) (q := 93) 1 rfl ?_
              refine e_Ok.getr (z := 276) rfl (el_o rfl) rfl (ef_o rfl) ((j42 275 0 no_93_6).trans (e_Has.eq hI.1 rfl)) ⟨by decide, by decide⟩ ?_
              refine e_Ok.ps1 (x := (1, 275)) (q := 97) 1 rfl ?_
              refine e_Ok.getr (z := 276) rfl (el_o rfl) rfl (ef_o rfl) ((j42 275 0 no_93_6).trans (e_Has.eq hI.1 rfl)) ⟨by decide, by decide⟩ ?_
              refine e_Ok.ps1 (x := (0, y2)) (q := 101) 1 rfl ?_
              refine e_Ok.callS rfl (e_dq hd rfl) rfl rfl (c_269 (by omega)) (fun r119 w120 h121 => ?_)
              obtain ⟨rfl, rfl⟩ := h121
              refine e_Ok.nrm (q := 104) (st' := [(0, 1260 * y2 + 416), (1, 276), (1, 276)]) rfl rfl ?_
              refine e_Ok.ps1 (x := (0, 1)) (q := 105) 1 rfl ?_
              refine e_Ok.add (z := 1260 * y2 + 417) rfl (e_adl (by decide)) (by omega) ?_
              refine e_Ok.ald (z := v1 276 (1260 * y2 + 417)) rfl (el_o rfl) rfl (by omega) rfl (by omega) ?_
              refine e_Ok.callS rfl (e_dq hd rfl) rfl rfl (c_268 (by omega)) (fun r122 w123 h124 => ?_)
              obtain ⟨rfl, rfl⟩ := h124
              refine e_Ok.nrm (q := 110) (st' := [(0, 36 * v1 276 (1260 * y2 + 417) + 16), (1, 276)]) rfl rfl ?_
              refine e_Ok.ps1 (x := (0, 2)) (q := 111) 1 rfl ?_
              refine e_Ok.add (z := 36 * v1 276 (1260 * y2 + 417) + 18) rfl (e_adl (by decide)) (by omega) ?_
              have h125 := (e_Has.get j43 (c := 276) (k := 36 * v1 276 (1260 * y2 + 417) + 18) (lo := (-1)) (hi := 15) (nR_STUCK (a := v1 276 (1260 * y2 + 417)) (by omega)) (by decide))
              refine e_Ok.ald (z := v1 276 (36 * v1 276 (1260 * y2 + 417) + 18)) rfl rfl rfl (by omega) rfl (e_bq h125 (by decide) (by decide)) ?_
              refine e_Ok.if1 rfl (fun h126 => ?_) (fun h126 => ?_)
              · replace h126 : (v1 276 (36 * v1 276 (1260 * y2 + 417) + 18) : Int) ≥ 0 := h126
                refine e_Ok.inc (z := y2 + 1) rfl rfl (by first | with_reducible rfl | omega) (by omega) ?_
                show e_Ok 20 elay ecode eI (d + 1) 408 (124, [(2, (0, y2 + 1)), (3, (0, v1 276 (1260 * y2 + 416))), (0, (1, 275))], [], v1) _
                refine e_Ok.ps0 (q := 45) 1 rfl ?_
                refine e_Ok.sub eAlk (e_sub_of rfl ?_) (ih41 (y2 + 1) v1 ⟨j42, j43, j44, by omega, by omega, by omega⟩ (by omega))
                exact ⟨rfl, rfl, trivial⟩
              · replace h126 : (v1 276 (36 * v1 276 (1260 * y2 + 417) + 18) : Int) < 0 := Int.not_le.mp (show ¬ ((v1 276 (36 * v1 276 (1260 * y2 + 417) + 18) : Int) ≥ 0) from h126)
                refine e_Ok.ps2 (x := (0, y2)) (y := (1, 275)) (q := 118) 2 rfl ?_
                refine e_Ok.callV rfl (e_dq hd rfl) rfl rfl rfl rfl (c_366 (e_dq hd rfl) j44.1 j44.2.1 j44.2.2.1 j44.2.2.2.2.2.1 j44.2.2.2.2.2.2.1 (by omega) j44.2.2.2.2.2.2.2.1 (j44.2.2.2.2.2.2.2.2 y2 (by omega) (by omega)) (by omega) (by omega)) (fun r127 w128 h129 => ?_)
                obtain ⟨rfl, q130, q130T, q130n, q130m, q130o, q130k⟩ := h129
                have hI132 : mInv w128 G := mInv.turn j44 q130 q130T q130m q130o q130k
                have tm133 : w128 276 0 = v1 276 0 := q130 276 0 no_93_12
                refine e_Ok.nrm (q := 121) (st' := []) rfl rfl ?_
                refine e_Ok.inc (z := y2 + 1) rfl rfl (by first | with_reducible rfl | omega) (by omega) ?_
                show e_Ok 20 elay ecode eI (d + 1) 408 (124, [(2, (0, y2 + 1)), (3, (0, v1 276 (1260 * y2 + 416))), (0, (1, 275))], [], w128) _
                refine e_Ok.ps0 (q := 45) 1 rfl ?_
                refine e_Ok.sub eAlk (e_sub_of rfl ?_) (ih41 (y2 + 1) w128 ⟨(show e_fr mTi w w128 from e_fr.trans j42 (e_fr.mono q130 (fun c k q => by exact tt_ti q))), hI132.1, hI132, by omega, by omega, by omega⟩ (by omega))
                exact ⟨rfl, rfl, trivial⟩
  refine e_Ok.callV rfl (e_dq hd rfl) rfl rfl rfl rfl (c_401 hI4.1) (fun r134 w135 h136 => ?_)
  obtain ⟨rfl, q137, q137T⟩ := h136
  have f138 : e_fr mTi w w135 := e_fr.trans (show e_fr mTi w w1 from e_fr.up (e_fr.refl w) hw1 (by first | exact Or.inl rfl | (unfold mTi; omega))) (e_fr.mono q137 (fun c k q => su_93_22 q))
  have hI139 : mInv w135 G := mInv.same hI4 q137 q137T (fun c k q => ti_in q)
  have tm140 : w135 276 0 = w1 276 0 := q137 276 0 no_93_13
  have ev141 : w135 276 5 = w1 276 5 := q137 276 5 no_93_14
  show e_Ok 20 elay ecode eI (d + 1) 408 (14, [(0, (1, 275))], [], w135) _
  refine e_Ok.ps1 (x := (1, 275)) (q := 15) 1 rfl ?_
  refine e_Ok.getr (z := 276) rfl (el_o rfl) rfl (ef_o rfl) ((q137 275 0 no_93_15).trans (e_uq hw1 (Or.inl (by decide)) (e_Has.eq hI.1 rfl))) ⟨by decide, by decide⟩ ?_
  refine e_Ok.ps1 (x := (0, 1)) (q := 19) 1 rfl ?_
  have h142 := (e_Has.get hI.1 (c := 276) (k := 1) (lo := 0) (hi := 1) rfl (by decide))
  refine e_Ok.ald (z := w 276 1) rfl (el_o rfl) rfl (by omega) ((q137 276 1 no_93_16).trans (e_uq hw1 (Or.inr (by decide)) rfl)) (e_bq h142 (by decide) (by decide)) ?_
  refine e_Ok.ps1 (x := (0, 1)) (q := 21) 1 rfl ?_
  refine e_Ok.if2 rfl (fun h143 => ?_) (fun h143 => ?_)
  · replace h143 : (w 276 1 : Int) ≠ 1 := h143
    refine e_Ok.run (t' := (34, [(1, (0, (-1))), (0, (1, 275))], [(0, (-1))], w135)) 3 rfl ?_
    refine e_Ok.if1 rfl (fun h144 => ?_) (fun h144 => ?_)
    · replace h144 : ((-1) : Int) < 0 := h144
      refine e_Ok.run (t' := (45, [(2, (0, 0)), (1, (0, (-1))), (0, (1, 275))], [], w135)) 2 rfl ?_
      refine e_Ok.sub eAlk (e_sub_of rfl ?_) (hL40 (17 + 1 : Int).toNat 0 w135 ⟨f138, hI139.1, hI139, by omega, by omega, by omega⟩ (by omega))
      exact ⟨rfl, rfl, trivial⟩
    · replace h144 : ((-1) : Int) ≥ 0 := Int.not_lt.mp (show ¬ (((-1) : Int) < 0) from h144)
      exfalso; omega
  · replace h143 : (w 276 1 : Int) = 1 := Classical.not_not.mp (show ¬ ((w 276 1 : Int) ≠ 1) from h143)
    refine e_Ok.ps1 (x := (1, 275)) (q := 25) 1 rfl ?_
    refine e_Ok.callV rfl (e_dq hd rfl) rfl rfl rfl rfl (c_400 (e_dq hd rfl) hI139.1) (fun r145 w146 h147 => ?_)
    obtain ⟨z148, rfl, rfl, q149a, q149b⟩ := h147
    refine e_Ok.nrm (q := 28) (st' := [(0, z148)]) rfl rfl ?_
    refine e_Ok.run (t' := (34, [(1, (0, z148)), (0, (1, 275))], [(0, z148)], w135)) 3 rfl ?_
    refine e_Ok.if1 rfl (fun h150 => ?_) (fun h150 => ?_)
    · replace h150 : (z148 : Int) < 0 := h150
      refine e_Ok.run (t' := (45, [(2, (0, 0)), (1, (0, z148)), (0, (1, 275))], [], w135)) 2 rfl ?_
      refine e_Ok.sub eAlk (e_sub_of rfl ?_) (hL40 (17 + 1 : Int).toNat 0 w135 ⟨f138, hI139.1, hI139, by omega, by omega, by omega⟩ (by omega))
      exact ⟨rfl, rfl, trivial⟩
    · replace h150 : (z148 : Int) ≥ 0 := Int.not_lt.mp (show ¬ ((z148 : Int) < 0) from h150)
      refine e_Ok.ps3 (x := (0, z148)) (y := (0, 1)) (z := (1, 275)) (q := 40) 3 rfl ?_
      refine e_Ok.callV rfl (e_dq hd rfl) rfl rfl rfl rfl (c_385 (e_dq hd rfl) hI139.1 (by omega) (by omega) (by omega)) (fun r151 w152 h153 => ?_)
      obtain ⟨rfl, q154, q154T, q154n, q154p, q154s, q154t, q154u⟩ := h153
      have hI156 : mInv w152 G := mInv.trip hI139 q154 q154T q154s q154t q154u
      have tm157 : w152 276 0 = w135 276 0 := q154 276 0 no_93_17
      refine e_Ok.nrm (q := 43) (st' := []) rfl rfl ?_
      refine e_Ok.run (t' := (45, [(2, (0, 0)), (1, (0, z148)), (0, (1, 275))], [], w152)) 2 rfl ?_
      refine e_Ok.sub eAlk (e_sub_of rfl ?_) (hL40 (17 + 1 : Int).toNat 0 w152 ⟨(show e_fr mTi w w152 from e_fr.trans f138 (e_fr.mono q154 (fun c k q => su_93_23 q))), hI156.1, hI156, by omega, by omega, by omega⟩ (by omega))
      exact ⟨rfl, rfl, trivial⟩
end
end
-- part 94
section
noncomputable section
/-! a run is a function: what comes out is the same, however deep it is called, and whatever else is known -/
section E94
variable {fd : Nat} {lay : List eY} {code : Nat → Nat → eE} {I : Nat → xM}
theorem e_may_up {d M' na : Nat} {q' : xM} {st as rest : List eV} (h : e_may fd lay d M' na q' st as rest = true) : e_may fd lay (d + 1) M' na q' st as rest = true := by
  unfold e_may at h ⊢
  simp only [Bool.and_eq_true] at h ⊢
  exact ⟨Nat.ble_eq.mpr (Nat.le_succ_of_le (Nat.ble_eq.mp h.1)), h.2⟩
theorem e_go_up : ∀ {n : Nat} {d M : Nat} {t : eS} {r : List eV × eW}, e_go fd lay code I n d M t = some r → e_go fd lay code I n (d + 1) M t = some r := by
  intro n
  induction n with
  | zero => intro d M t r h; cases h
  | succ n ih =>
    intro d M t r h
    unfold e_go at h
    unfold e_go
    split at h
    · rename_i f a b hc
      split at h
      · rename_i t' hf
        exact ih h
      · cases h
    · rename_i f k b hc
      exact h
    · rename_i f M' na hc
      cases d with
      | zero => cases h
      | succ d' =>
        simp only at h
        simp only
        cases hb : e_may fd lay d' M' na (I M') t.2.2.1 (t.2.2.1.take na).reverse (t.2.2.1.drop na) with
        | false => rw [hb] at h; cases h
        | true =>
          rw [hb] at h
          rw [e_may_up hb]
          simp only [cond_true] at h ⊢
          split at h
          · rename_i rw9 hls
            rw [ih hls]
            exact ih h
          · cases h
    · cases h
theorem e_go_ups {n d k M : Nat} {t : eS} {r : List eV × eW} (h : e_go fd lay code I n d M t = some r) : e_go fd lay code I n (d + k) M t = some r := by
  induction k with
  | zero => exact h
  | succ k ih => exact e_go_up ih
theorem e_go_one {n d n' d' M : Nat} {t : eS} {r r' : List eV × eW} (h : e_go fd lay code I n d M t = some r) (h' : e_go fd lay code I n' d' M t = some r') : r = r' := by
  have h1 := e_go_le (Nat.le_add_right n n') (e_go_ups (k := d') h)
  have h2 := e_go_le (Nat.le_add_left n' n) (e_go_ups (k := d) h')
  rw [Nat.add_comm d' d] at h2
  rw [h1] at h2
  exact Option.some.inj h2
end E94
/-- what the model's method M makes of t -/
def e_phi (M : Nat) (t : eS) : List eV × eW := @dite _ (∃ r n d, e_go 20 elay ecode eI n d M t = some r) (Classical.propDecidable _) (fun h => Classical.choose h) (fun _ => ([], fun _ _ => 0))
theorem e_phi_eq {n d M : Nat} {t : eS} {r : List eV × eW} (h : e_go 20 elay ecode eI n d M t = some r) : e_phi M t = r := by
  have hx : ∃ r n d, e_go 20 elay ecode eI n d M t = some r := ⟨r, n, d, h⟩
  unfold e_phi
  rw [dif_pos hx]
  obtain ⟨n', d', h'⟩ := Classical.choose_spec hx
  exact e_go_one h' h
/-- of w nothing is known but what K says -/
def e_pz (K : Int → Int → Prop) (w : eW) : eW := fun c k => @ite _ (K c k) (Classical.propDecidable _) (w c k) 2147483648
theorem e_pz_in {K : Int → Int → Prop} {w : eW} {c k : Int} (h : K c k) : e_pz K w c k = w c k := if_pos h
theorem e_pz_rf (K : Int → Int → Prop) (w : eW) : e_rf (e_pz K w) w := fun c k h => by
  unfold e_pz at h ⊢
  by_cases q : K c k
  · rw [if_pos q]
  · rw [if_neg q] at h
    exact absurd h (by decide)
theorem e_pz_eq {K : Int → Int → Prop} {w w' : eW} (h : ∀ c k, K c k → w' c k = w c k) : e_pz K w' = e_pz K w := by
  funext c k
  unfold e_pz
  by_cases q : K c k
  · rw [if_pos q, if_pos q, h c k q]
  · rw [if_neg q, if_neg q]
/-- a contract that asks of w no more than K: what comes out is a function of that -/
theorem e_Ok.det {d M : Nat} {l : eL} {w : eW} {Q : eW → List eV → eW → Prop} (K : Int → Int → Prop) (hn : (l.map Prod.fst).Nodup) (h : ∀ u, (∀ c k, K c k → u c k = w c k) → e_Ok 20 elay ecode eI d M (0, l, [], u) (Q u)) :
    e_Ok 20 elay ecode eI d M (0, l, [], w) (fun r v => Q w r v ∧ Q (e_pz K w) r (e_phi M (0, l, [], e_pz K w)).2 ∧ r = (e_phi M (0, l, [], e_pz K w)).1 ∧ e_rf (e_phi M (0, l, [], e_pz K w)).2 v) := by
  obtain ⟨n, r, u, h1, h2⟩ := h (e_pz K w) (fun c k q => e_pz_in q)
  have e := e_phi_eq h1
  have h3 : e_Ok 20 elay ecode eI d M (0, l, [], e_pz K w) (fun r' u' => r' = r ∧ u' = u) := ⟨n, r, u, h1, rfl, rfl⟩
  obtain ⟨n', r', v, h4, u', ⟨h5, h6⟩, h7⟩ := e_Ok.more eAlk hn (e_pz_rf K w) h3
  obtain ⟨n2, r2, v2, h8, h9⟩ := h w (fun _ _ _ => rfl)
  have e2 := e_go_one h4 h8
  refine ⟨n', r', v, h4, ?_⟩
  rw [e]
  subst h5 h6
  have e3 : r' = r2 := congrArg Prod.fst e2
  have e4 : v = v2 := congrArg Prod.snd e2
  refine ⟨by rw [e3, e4]; exact h9, h2, rfl, h7⟩
end
end
-- part 95
section
noncomputable section
/-! what a tick depends on: the cells with a type of mTy -/
def tyQ (x : Int × Int) : Prop := x.1 ≤ x.2
theorem tyQ.ite {c : Prop} [Decidable c] {a b : Int × Int} (ha : c → tyQ a) (hb : ¬ c → tyQ b) : tyQ (if c then a else b) := by
  by_cases h : c
  · rw [if_pos h]; exact ha h
  · rw [if_neg h]; exact hb h
theorem tyQ.nth {l : List (Int × Int)} (h : ∀ x ∈ l, tyQ x) {k : Nat} (hk : k < l.length) : tyQ (x_nthP l k) := by
  unfold x_nthP
  rw [x_at_eq]
  rw [List.getElem?_eq_getElem hk]
  exact h _ (List.getElem_mem hk)
theorem nowQ (k : Int) : tyQ (nowR k) := by
  have h0 : ∀ x ∈ nHead, tyQ x := by unfold tyQ; decide +kernel
  have h1 : ∀ x ∈ nArm, tyQ x := by unfold tyQ; decide +kernel
  have e0 : nHead.length = 16 := by decide +kernel
  have e1 : nArm.length = 36 := by decide +kernel
  have ha : tyQ (-2147483648, 2147483647) := by unfold tyQ; decide
  have ht : ∀ f, tyQ (nTask f) := fun f => by
    refine tyQ.ite (fun q => tyQ.nth ?_ ?_) (fun _ => tyQ.ite (fun _ => tyQ.ite (fun _ => ?_) (fun _ => ?_)) (fun _ => ha))
    · unfold tyQ; decide +kernel
    · show f.toNat < 20; omega
    · unfold tyQ; decide
    · unfold tyQ; decide
  refine tyQ.ite (fun q => tyQ.nth h0 (by rw [e0]; omega)) (fun _ => tyQ.ite (fun q => tyQ.nth h1 (by rw [e1]; omega)) (fun _ => tyQ.ite (fun _ => ha) (fun _ => tyQ.ite (fun _ => ?_) (fun _ => tyQ.ite (fun _ => ha) (fun _ => tyQ.ite (fun _ => ht _) (fun _ => tyQ.ite (fun _ => tyQ.ite (fun _ => ?_) (fun _ => ha)) (fun _ => tyQ.ite (fun _ => tyQ.ite (fun _ => ?_) (fun _ => ?_)) (fun _ => tyQ.ite (fun _ => tyQ.ite (fun _ => ha) (fun _ => ?_)) (fun _ => tyQ.ite (fun _ => ?_) (fun _ => tyQ.ite (fun _ => ha) (fun _ => tyQ.ite (fun _ => ?_) (fun _ => ha)))))))))))) <;> (unfold tyQ; decide)
def K0 (c k : Int) : Prop := (mTy c k).1 ≤ (mTy c k).2
theorem K0_now (k : Int) : K0 276 k := nowQ k
theorem e_Has.now {w : eW} (h : e_Has mTy w) (k : Int) : -2147483648 ≤ w 276 k ∧ w 276 k ≤ 2147483647 := by
  have h1 := h 276 k (K0_now k)
  have h2 := tyP.m 276 k (K0_now k)
  omega
theorem K0_code {c : Int} (k : Int) (h : 328 ≤ c ∧ c ≤ 338) : K0 c k := by
  obtain rfl | rfl | rfl | rfl | rfl | rfl | rfl | rfl | rfl | rfl | rfl : c = 328 ∨ c = 329 ∨ c = 330 ∨ c = 331 ∨ c = 332 ∨ c = 333 ∨ c = 334 ∨ c = 335 ∨ c = 336 ∨ c = 337 ∨ c = 338 := by omega
  all_goals (first | exact (by decide : (-2147483648 : Int) ≤ 2147483647) | exact (by decide : (0 : Int) ≤ 32))
theorem K0_mo {c k : Int} (h : moK c k ∨ (c = 276 ∧ 16 ≤ k ∧ k < 160)) : K0 c k := by
  by_cases e : c = 276
  · rw [e]; exact K0_now k
  · have h2 : (c = 275 ∧ k = 10) ∨ c = 286 ∨ c = 288 ∨ c = 289 ∨ c = 290 ∨ c = 291 := by unfold moK at h; omega
    rcases h2 with ⟨rfl, rfl⟩ | rfl | rfl | rfl | rfl | rfl
    · exact (by decide : (0 : Int) ≤ 4)
    · exact (by decide : (0 : Int) ≤ 6)
    · exact (by decide : (-100000 : Int) ≤ 0)
    · exact (by decide : (0 : Int) ≤ 100000)
    · exact (by decide : (0 : Int) ≤ 2000)
    · exact (by decide : (0 : Int) ≤ 2000)
theorem K0_cf {c k : Int} (h : ¬ K0 c k) : cfN c k := by
  refine ⟨fun e => h ?_, fun e => h ?_, fun e => h ?_, fun e => h ?_, fun e => h ?_, fun e => h (K0_code k e), fun e => h ?_⟩
  · rw [e]; exact (by decide : (-1 : Int) ≤ 63)
  · rw [e]; exact (by decide : (0 : Int) ≤ 6)
  · rw [e]; exact (by decide : (0 : Int) ≤ 2000)
  · rw [e]; exact (by decide : (0 : Int) ≤ 2000)
  · rw [e]; exact (by decide : (0 : Int) ≤ 3)
  · obtain ⟨rfl, rfl | rfl | rfl⟩ := e
    · exact (by decide : (0 : Int) ≤ 4)
    · exact (by decide : (0 : Int) ≤ 32)
    · exact (by decide : (0 : Int) ≤ 8)
theorem e_Has.low {w u : eW} (h : e_Has mTy w) (hu : ∀ c k, K0 c k → u c k = w c k) : e_Has mTy u := fun c k q => by
  rw [hu c k q]
  exact h c k q
/-- the invariant asks no more -/
theorem mInv.low {w u : eW} {G : Int → Gh} (h : mInv w G) (hu : ∀ c k, K0 c k → u c k = w c k) : mInv u G := by
  have h0 := h
  obtain ⟨h1, -, -, -, -, h6, h7, h8, h9⟩ := h0
  have hp := e_Has.get h1 (c := 275) (k := 40) (lo := 0) (hi := 32) rfl (by decide)
  have hF : e_fr (fun c k => ¬ K0 c k) w u := fun c k q => hu c k (Classical.not_not.mp q)
  exact h.next hF (h1.low hu) (fun c k q => K0_cf q) (mMo.same h6 (e_Has.mo h1) (fun c k q => hu c k (K0_mo q))) (mOr.fr h7 hp.2 (e_Has.orn h1) (e_Has.orw h1 hp.2) (fun k q => hu _ _ (K0_now k))) (fun v v1 v2 => tkOk.hop h8 (h9 v v1 v2) hF (fun c k q => ⟨fun e => q (K0_code k e), fun e => absurd (by rw [e]; exact K0_now k) q⟩))
/-- what is kept of the book, but for what is counted -/
def bTy (c k : Int) : Int × Int := if c = 280 then (1, 0) else hTy c k
/-- one tick, as a function -/
def tickF (w : eW) : eW := (e_phi 408 (0, [(0, (1, 275))], [], e_pz K0 w)).2
theorem tickF_eq {w u : eW} (hu : ∀ c k, K0 c k → u c k = w c k) : tickF u = tickF w := by
  unfold tickF
  rw [e_pz_eq hu]
theorem d_408 {d : Nat} (hd : 43 ≤ d) {w : eW} {G : Int → Gh} (hI : mInv w G) (htm : w 276 0 ≤ 5999) (hE : w 276 5 ≤ 2147400000) : e_Ok 20 elay ecode eI d 408 (0, [(0, (1, 275))], [], w) (fun r w' => r = [] ∧ e_fr mTi w w' ∧ mInv w' G ∧ w' 276 0 = w 276 0 + 1 ∧ (w 276 5 ≤ w' 276 5 ∧ w' 276 5 ≤ w 276 5 + 900) ∧ ∀ k, w' 276 k = tickF w 276 k) := by
  refine (e_Ok.det K0 (by decide) (fun u hu => c_408 (G := G) hd (hI.low hu) (by rw [hu 276 0 (K0_now 0)]; exact htm) (by rw [hu 276 5 (K0_now 5)]; exact hE))).imp (fun r v h => ?_)
  obtain ⟨⟨h1, h2, h3, h4, h5⟩, ⟨-, -, h6, -⟩, -, h7⟩ := h
  refine ⟨h1, h2, h3, h4, h5, fun k => h7 276 k ?_⟩
  have := h6.1.now k
  unfold e_okz
  simp only [Bool.and_eq_true, decide_eq_true_eq]
  exact this
end
end
-- part 96
section
noncomputable section
def mKw (R E c k : Int) : Prop := (c = 354 ∧ E ≤ k) ∨ ((c = 355 ∨ c = 356) ∧ k = R)
/-- the way of the row R, which begins at E: kept (n steps, as found), or not -/
def kwR (w w' : eW) (R E n b : Int) : Prop := e_fr (mKw R E) w w' ∧ ((b = 1 ∧ E + n ≤ 200000 ∧ w' 355 R = E ∧ w' 356 R = E + n ∧ (∀ j, 0 ≤ j → j < n → w' 354 (E + j) = w 353 j)) ∨ ((b ≠ 1 ∨ 200000 < E + n) ∧ w' 355 R = -1 ∧ w' 356 R = E))
theorem no_96_0 {R : Int} {E : Int} {k : Int} : ¬ mKw R E 275 k := by unfold mKw; omega
theorem no_96_1 {R : Int} {E : Int} {k : Int} : ¬ mKw R E 353 k := by unfold mKw; omega
theorem c_420_0 {d : Nat} {w : eW} (hT : e_Has mTy w) (hR : w 275 5 = 0) {n b : Int} (hn : 0 ≤ n ∧ n ≤ 1000) (hb : 0 ≤ b ∧ b ≤ 1) (hfo : b = 1 → ∀ i, 0 ≤ i → i ≤ n - 1 → -2147483648 ≤ w 353 i ∧ w 353 i ≤ 2147483647) : e_Ok 20 elay ecode eI d 420 (0, [(0, (1, 275)), (1, (0, n)), (2, (0, b))], [], w) (fun r w' => r = [] ∧ kwR w w' 0 0 n b) := by
  refine e_Ok.ps1 (x := (1, 275)) (q := 1) 1 rfl ?_
  refine e_Ok.getf (z := 0) rfl (el_o rfl) rfl (ef_o rfl) hR (by omega) ?_
  refine e_Ok.if1 rfl (fun h1 => ?_) (fun h1 => ?_)
  · replace h1 : (0 : Int) ≠ 0 := h1
    exfalso; omega
  · replace h1 : (0 : Int) = 0 := Classical.not_not.mp (show ¬ ((0 : Int) ≠ 0) from h1)
    refine e_Ok.run (t' := (24, [(3, (0, 0)), (0, (1, 275)), (1, (0, n)), (2, (0, b))], [(0, b)], w)) 4 rfl ?_
    refine e_Ok.if1 rfl (fun h2 => ?_) (fun h2 => ?_)
    · replace h2 : (b : Int) = 0 := h2
      refine e_Ok.run (t' := (45, [(5, (0, 0)), (4, (0, 0)), (3, (0, 0)), (0, (1, 275)), (1, (0, n)), (2, (0, b))], [], w)) 4 rfl ?_
      have hL3 : ∀ (nn : Nat) (y5 : Int) (v1 : eW), e_fr (mKw 0 0) w v1 ∧ e_Has mTy v1 ∧ (0 ≤ y5 ∧ y5 ≤ n) ∧ (∀ j, 0 ≤ j → j < y5 → v1 354 (0 + j) = w 353 j) → 1001 - y5 < nn → e_Ok 20 elay ecode eI d 420 (45, [(0, (1, 275)), (1, (0, n)), (3, (0, 0)), (4, (0, 0)), (5, (0, y5))], [], v1) (fun r w' => r = [] ∧ kwR w w' 0 0 n b) := by
        intro nn
        induction nn with
        | zero => intro y5 v1 hj hm; obtain ⟨j5, j6, j7, j8⟩ := hj; exfalso; omega
        | succ nn ih4 =>
          intro y5 v1 hj hm
          obtain ⟨j5, j6, j7, j8⟩ := hj
          refine e_Ok.run (t' := (48, [(0, (1, 275)), (1, (0, n)), (3, (0, 0)), (4, (0, 0)), (5, (0, y5))], [(0, n), (0, y5)], v1)) 2 rfl ?_
          refine e_Ok.if2 rfl (fun h9 => ?_) (fun h9 => ?_)
          · replace h9 : (y5 : Int) ≥ n := h9
            refine e_Ok.ps1 (x := (1, 275)) (q := 79) 1 rfl ?_
            refine e_Ok.getr (z := 355) rfl (el_o rfl) rfl (ef_o rfl) ((j5 275 115 (by first | exact no_96_0 | (unfold mKw; omega))).trans (e_Has.eq hT (mt_o rfl))) ⟨by decide, by decide⟩ ?_
            refine e_Ok.ps1 (x := (1, 275)) (q := 83) 1 rfl ?_
            refine e_Ok.getf (z := 0) rfl (el_o rfl) rfl (ef_o rfl) ((j5 275 5 (by first | exact no_96_0 | (unfold mKw; omega))).trans hR) (by omega) ?_
            refine e_Ok.ps1 (x := (0, 0)) (q := 88) 1 rfl ?_
            refine e_Ok.if1 rfl (fun h10 => ?_) (fun h10 => ?_)
            · replace h10 : (0 : Int) = 0 := h10
              refine e_Ok.ps1 (x := (0, (-1))) (q := 96) 1 rfl ?_
              refine e_Ok.ast rfl (el_o rfl) rfl rfl (by omega) ?_
              generalize hw11 : e_up v1 355 0 (-1) = w11
              have hT13 : e_Has mTy w11 := e_Has.ups j6 hw11 rfl
              refine e_Ok.ps1 (x := (1, 275)) (q := 98) 1 rfl ?_
              refine e_Ok.getr (z := 356) rfl (el_o rfl) rfl (ef_o rfl) (e_uq hw11 (Or.inl (by decide)) ((j5 275 116 (by first | exact no_96_0 | (unfold mKw; omega))).trans (e_Has.eq hT (mt_o rfl)))) ⟨by decide, by decide⟩ ?_
              refine e_Ok.ps1 (x := (1, 275)) (q := 102) 1 rfl ?_
              refine e_Ok.getf (z := 0) rfl (el_o rfl) rfl (ef_o rfl) (e_uq hw11 (Or.inl (by decide)) ((j5 275 5 (by first | exact no_96_0 | (unfold mKw; omega))).trans hR)) (by omega) ?_
              refine e_Ok.ps1 (x := (0, 0)) (q := 107) 1 rfl ?_
              refine e_Ok.if1 rfl (fun h14 => ?_) (fun h14 => ?_)
              · replace h14 : (0 : Int) = 0 := h14
                refine e_Ok.ps1 (x := (0, 0)) (q := 117) 1 rfl ?_
                refine e_Ok.ast rfl (el_o rfl) rfl rfl (by omega) ?_
                generalize hw15 : e_up w11 356 0 0 = w15
                have hT17 : e_Has mTy w15 := e_Has.ups hT13 hw15 (mt_o rfl)
                refine e_Ok.rets rfl rfl ?_
                have e5 : w15 355 0 = (-1) := (e_uq hw15 (Or.inl (by decide)) (e_ue hw11))
                have e6 : w15 356 0 = 0 := (e_ue hw15)
                exact ⟨rfl, (show e_fr (mKw 0 0) w w15 from e_fr.up (show e_fr (mKw 0 0) w w11 from e_fr.up j5 hw11 (by first | exact Or.inr ⟨Or.inl rfl, rfl⟩ | (unfold mKw; omega))) hw15 (by first | exact Or.inr ⟨Or.inr rfl, rfl⟩ | (unfold mKw; omega))), Or.inr ⟨by omega, e5, by omega⟩⟩
              · replace h14 : (0 : Int) ≠ 0 := (show ¬ ((0 : Int) = 0) from h14)
                exfalso; omega
            · replace h10 : (0 : Int) ≠ 0 := (show ¬ ((0 : Int) = 0) from h10)
              exfalso; omega
          · replace h9 : (y5 : Int) < n := Int.not_le.mp (show ¬ ((y5 : Int) ≥ n) from h9)
            refine e_Ok.ps1 (x := (0, 0)) (q := 53) 1 rfl ?_
            refine e_Ok.if1 rfl (fun h18 => ?_) (fun h18 => ?_)
            · replace h18 : (0 : Int) = 0 := h18
              refine e_Ok.ps1 (x := (1, 275)) (q := 79) 1 rfl ?_
              refine e_Ok.getr (z := 355) rfl (el_o rfl) rfl (ef_o rfl) ((j5 275 115 (by first | exact no_96_0 | (unfold mKw; omega))).trans (e_Has.eq hT (mt_o rfl))) ⟨by decide, by decide⟩ ?_
              refine e_Ok.ps1 (x := (1, 275)) (q := 83) 1 rfl ?_
              refine e_Ok.getf (z := 0) rfl (el_o rfl) rfl (ef_o rfl) ((j5 275 5 (by first | exact no_96_0 | (unfold mKw; omega))).trans hR) (by omega) ?_
              refine e_Ok.ps1 (x := (0, 0)) (q := 88) 1 rfl ?_
              refine e_Ok.if1 rfl (fun h19 => ?_) (fun h19 => ?_)
              · replace h19 : (0 : Int) = 0 := h19
                refine e_Ok.ps1 (x := (0, (-1))) (q := 96) 1 rfl ?_
                refine e_Ok.ast rfl (el_o rfl) rfl rfl (by omega) ?_
                generalize hw20 : e_up v1 355 0 (-1) = w20
                have hT22 : e_Has mTy w20 := e_Has.ups j6 hw20 rfl
                refine e_Ok.ps1 (x := (1, 275)) (q := 98) 1 rfl ?_
                refine e_Ok.getr (z := 356) rfl (el_o rfl) rfl (ef_o rfl) (e_uq hw20 (Or.inl (by decide)) ((j5 275 116 (by first | exact no_96_0 | (unfold mKw; omega))).trans (e_Has.eq hT (mt_o rfl)))) ⟨by decide, by decide⟩ ?_
                refine e_Ok.ps1 (x := (1, 275)) (q := 102) 1 rfl ?_
                refine e_Ok.getf (z := 0) rfl (el_o rfl) rfl (ef_o rfl) (e_uq hw20 (Or.inl (by decide)) ((j5 275 5 (by first | exact no_96_0 | (unfold mKw; omega))).trans hR)) (by omega) ?_
                refine e_Ok.ps1 (x := (0, 0)) (q := 107) 1 rfl ?_
                refine e_Ok.if1 rfl (fun h23 => ?_) (fun h23 => ?_)
                · replace h23 : (0 : Int) = 0 := h23
                  refine e_Ok.ps1 (x := (0, 0)) (q := 117) 1 rfl ?_
                  refine e_Ok.ast rfl (el_o rfl) rfl rfl (by omega) ?_
                  generalize hw24 : e_up w20 356 0 0 = w24
                  have hT26 : e_Has mTy w24 := e_Has.ups hT22 hw24 (mt_o rfl)
                  refine e_Ok.rets rfl rfl ?_
                  have e5 : w24 355 0 = (-1) := (e_uq hw24 (Or.inl (by decide)) (e_ue hw20))
                  have e6 : w24 356 0 = 0 := (e_ue hw24)
                  exact ⟨rfl, (show e_fr (mKw 0 0) w w24 from e_fr.up (show e_fr (mKw 0 0) w w20 from e_fr.up j5 hw20 (by first | exact Or.inr ⟨Or.inl rfl, rfl⟩ | (unfold mKw; omega))) hw24 (by first | exact Or.inr ⟨Or.inr rfl, rfl⟩ | (unfold mKw; omega))), Or.inr ⟨by omega, e5, by omega⟩⟩
                · replace h23 : (0 : Int) ≠ 0 := (show ¬ ((0 : Int) = 0) from h23)
                  exfalso; omega
              · replace h19 : (0 : Int) ≠ 0 := (show ¬ ((0 : Int) = 0) from h19)
                exfalso; omega
            · replace h18 : (0 : Int) ≠ 0 := (show ¬ ((0 : Int) = 0) from h18)
              exfalso; omega
      refine e_Ok.sub eAlk (e_sub_of rfl ?_) (hL3 (1001 + 1 : Int).toNat 0 w ⟨(e_fr.refl w), hT, by omega, (fun j g1 g2 => by omega)⟩ (by omega))
      exact ⟨rfl, rfl, rfl, rfl, rfl, trivial⟩
    · replace h2 : (b : Int) ≠ 0 := (show ¬ ((b : Int) = 0) from h2)
      refine e_Ok.ps2 (x := (0, n)) (y := (0, 0)) (q := 29) 2 rfl ?_
      refine e_Ok.add (z := n) rfl (by omega) (by omega) ?_
      refine e_Ok.ps1 (x := (0, 200000)) (q := 32) 1 rfl ?_
      refine e_Ok.if2 rfl (fun h27 => ?_) (fun h27 => ?_)
      · replace h27 : (n : Int) > 200000 := h27
        exfalso; omega
      · replace h27 : (n : Int) ≤ 200000 := Int.not_lt.mp (show ¬ ((n : Int) > 200000) from h27)
        refine e_Ok.run (t' := (45, [(5, (0, 0)), (4, (0, 1)), (3, (0, 0)), (0, (1, 275)), (1, (0, n)), (2, (0, b))], [], w)) 5 rfl ?_
        have hL28 : ∀ (nn : Nat) (y5 : Int) (v1 : eW), e_fr (mKw 0 0) w v1 ∧ e_Has mTy v1 ∧ (0 ≤ y5 ∧ y5 ≤ n) ∧ (∀ j, 0 ≤ j → j < y5 → v1 354 (0 + j) = w 353 j) → 1001 - y5 < nn → e_Ok 20 elay ecode eI d 420 (45, [(0, (1, 275)), (1, (0, n)), (3, (0, 0)), (4, (0, 1)), (5, (0, y5))], [], v1) (fun r w' => r = [] ∧ kwR w w' 0 0 n b) := by
          intro nn
          induction nn with
          | zero => intro y5 v1 hj hm; obtain ⟨j30, j31, j32, j33⟩ := hj; exfalso; omega
          | succ nn ih29 =>
            intro y5 v1 hj hm
            obtain ⟨j30, j31, j32, j33⟩ := hj
            refine e_Ok.run (t' := (48, [(0, (1, 275)), (1, (0, n)), (3, (0, 0)), (4, (0, 1)), (5, (0, y5))], [(0, n), (0, y5)], v1)) 2 rfl ?_
            refine e_Ok.if2 rfl (fun h34 => ?_) (fun h34 => ?_)
            · replace h34 : (y5 : Int) ≥ n := h34
              refine e_Ok.ps1 (x := (1, 275)) (q := 79) 1 rfl ?_
              refine e_Ok.getr (z := 355) rfl (el_o rfl) rfl (ef_o rfl) ((j30 275 115 (by first | exact no_96_0 | (unfold mKw; omega))).trans (e_Has.eq hT (mt_o rfl))) ⟨by decide, by decide⟩ ?_
              refine e_Ok.ps1 (x := (1, 275)) (q := 83) 1 rfl ?_
              refine e_Ok.getf (z := 0) rfl (el_o rfl) rfl (ef_o rfl) ((j30 275 5 (by first | exact no_96_0 | (unfold mKw; omega))).trans hR) (by omega) ?_
              refine e_Ok.ps1 (x := (0, 1)) (q := 88) 1 rfl ?_
              refine e_Ok.if1 rfl (fun h35 => ?_) (fun h35 => ?_)
              · replace h35 : (1 : Int) = 0 := h35
                exfalso; omega
              · replace h35 : (1 : Int) ≠ 0 := (show ¬ ((1 : Int) = 0) from h35)
                refine e_Ok.ps1 (x := (0, 0)) (q := 96) 2 rfl ?_
                refine e_Ok.ast rfl (el_o rfl) rfl rfl (by omega) ?_
                generalize hw36 : e_up v1 355 0 0 = w36
                have hT38 : e_Has mTy w36 := e_Has.ups j31 hw36 rfl
                refine e_Ok.ps1 (x := (1, 275)) (q := 98) 1 rfl ?_
                refine e_Ok.getr (z := 356) rfl (el_o rfl) rfl (ef_o rfl) (e_uq hw36 (Or.inl (by decide)) ((j30 275 116 (by first | exact no_96_0 | (unfold mKw; omega))).trans (e_Has.eq hT (mt_o rfl)))) ⟨by decide, by decide⟩ ?_
                refine e_Ok.ps1 (x := (1, 275)) (q := 102) 1 rfl ?_
                refine e_Ok.getf (z := 0) rfl (el_o rfl) rfl (ef_o rfl) (e_uq hw36 (Or.inl (by decide)) ((j30 275 5 (by first | exact no_96_0 | (unfold mKw; omega))).trans hR)) (by omega) ?_
                refine e_Ok.ps1 (x := (0, 1)) (q := 107) 1 rfl ?_
                refine e_Ok.if1 rfl (fun h40 => ?_) (fun h40 => ?_)
                · replace h40 : (1 : Int) = 0 := h40
                  exfalso; omega
                · replace h40 : (1 : Int) ≠ 0 := (show ¬ ((1 : Int) = 0) from h40)
                  refine e_Ok.ps2 (x := (0, n)) (y := (0, 0)) (q := 112) 2 rfl ?_
                  refine e_Ok.add (z := n) rfl (by omega) (by omega) ?_
                  refine e_Ok.ps0 (q := 117) 1 rfl ?_
                  refine e_Ok.ast rfl (el_o rfl) rfl rfl (by omega) ?_
                  generalize hw41 : e_up w36 356 0 n = w41
                  have hT43 : e_Has mTy w41 := e_Has.ups hT38 hw41 (mt_o rfl)
                  refine e_Ok.rets rfl rfl ?_
                  have e5 : w41 355 0 = 0 := (e_uq hw41 (Or.inl (by decide)) (e_ue hw36))
                  have e6 : w41 356 0 = n := (e_ue hw41)
                  exact ⟨rfl, (show e_fr (mKw 0 0) w w41 from e_fr.up (show e_fr (mKw 0 0) w w36 from e_fr.up j30 hw36 (by first | exact Or.inr ⟨Or.inl rfl, rfl⟩ | (unfold mKw; omega))) hw41 (by first | exact Or.inr ⟨Or.inr rfl, rfl⟩ | (unfold mKw; omega))), Or.inl ⟨by omega, by omega, by omega, by omega, (fun j g1 g2 => Eq.trans (show w41 354 (0 + j) = v1 354 (0 + j) from (e_uq hw41 (Or.inl (by omega)) (e_uq hw36 (Or.inl (by omega)) rfl))) (j33 j g1 (by omega)))⟩⟩
            · replace h34 : (y5 : Int) < n := Int.not_le.mp (show ¬ ((y5 : Int) ≥ n) from h34)
              refine e_Ok.ps1 (x := (0, 1)) (q := 53) 1 rfl ?_
              refine e_Ok.if1 rfl (fun h44 => ?_) (fun h44 => ?_)
              · replace h44 : (1 : Int) = 0 := h44
                exfalso; omega
              · replace h44 : (1 : Int) ≠ 0 := (show ¬ ((1 : Int) = 0) from h44)
                refine e_Ok.ps1 (x := (1, 275)) (q := 57) 1 rfl ?_
                refine e_Ok.getr (z := 354) rfl (el_o rfl) rfl (ef_o rfl) ((j30 275 114 (by first | exact no_96_0 | (unfold mKw; omega))).trans (e_Has.eq hT (mt_o rfl))) ⟨by decide, by decide⟩ ?_
                refine e_Ok.ps2 (x := (0, y5)) (y := (0, 0)) (q := 63) 2 rfl ?_
                refine e_Ok.add (z := y5) rfl (by omega) (by omega) ?_
                refine e_Ok.ps1 (x := (1, 275)) (q := 65) 1 rfl ?_
                refine e_Ok.getr (z := 353) rfl (el_o rfl) rfl (ef_o rfl) ((j30 275 113 (by first | exact no_96_0 | (unfold mKw; omega))).trans (e_Has.eq hT (mt_o rfl))) ⟨by decide, by decide⟩ ?_
                refine e_Ok.ps1 (x := (0, y5)) (q := 70) 1 rfl ?_
                have h45 := (hfo (by omega) y5 (by omega) (by omega))
                refine e_Ok.ald (z := w 353 y5) rfl (el_o rfl) rfl (by omega) ((j30 353 y5 (by first | exact no_96_1 | (unfold mKw; omega))).trans rfl) (by omega) ?_
                refine e_Ok.ast rfl (el_o rfl) rfl rfl (by omega) ?_
                generalize hw46 : e_up v1 354 y5 (w 353 y5) = w46
                have hT48 : e_Has mTy w46 := e_Has.ups j31 hw46 rfl
                refine e_Ok.inc (z := y5 + 1) rfl rfl (by first | with_reducible rfl | omega) (by omega) ?_
                show e_Ok 20 elay ecode eI d 420 (75, [(5, (0, y5 + 1)), (0, (1, 275)), (1, (0, n)), (3, (0, 0)), (4, (0, 1))], [], w46) _
                refine e_Ok.ps0 (q := 45) 1 rfl ?_
                refine e_Ok.sub eAlk (e_sub_of rfl ?_) (ih29 (y5 + 1) w46 ⟨(show e_fr (mKw 0 0) w w46 from e_fr.up j30 hw46 (by first | exact Or.inl ⟨rfl, (by omega)⟩ | (unfold mKw; omega))), hT48, by omega, (fun j g1 g2 => Decidable.byCases (p := j = y5) (fun ej => by rw [ej, show 0 + y5 = y5 by omega, ← hw46]; exact e_up_eq _ _ _ _) (fun ej => Eq.trans (show w46 354 (0 + j) = v1 354 (0 + j) from by rw [← hw46]; exact e_up_ne _ _ (Or.inr (by omega))) (j33 j g1 (by omega))))⟩ (by omega))
                exact ⟨rfl, rfl, rfl, rfl, rfl, trivial⟩
        refine e_Ok.sub eAlk (e_sub_of rfl ?_) (hL28 (1001 + 1 : Int).toNat 0 w ⟨(e_fr.refl w), hT, by omega, (fun j g1 g2 => by omega)⟩ (by omega))
        exact ⟨rfl, rfl, rfl, rfl, rfl, trivial⟩
theorem c_420_1 {d : Nat} {w : eW} (hT : e_Has mTy w) {R E : Int} (hR : w 275 5 = R) (hRr : 1 ≤ R ∧ R ≤ 1999) (hE : w 356 (R - 1) = E) (hEr : 0 ≤ E ∧ E ≤ 200000) {n b : Int} (hn : 0 ≤ n ∧ n ≤ 1000) (hb : 0 ≤ b ∧ b ≤ 1) (hfo : b = 1 → ∀ i, 0 ≤ i → i ≤ n - 1 → -2147483648 ≤ w 353 i ∧ w 353 i ≤ 2147483647) : e_Ok 20 elay ecode eI d 420 (0, [(0, (1, 275)), (1, (0, n)), (2, (0, b))], [], w) (fun r w' => r = [] ∧ kwR w w' R E n b) := by
  refine e_Ok.ps1 (x := (1, 275)) (q := 1) 1 rfl ?_
  refine e_Ok.getf (z := R) rfl (el_o rfl) rfl (ef_o rfl) hR (by omega) ?_
  refine e_Ok.if1 rfl (fun h1 => ?_) (fun h1 => ?_)
  · replace h1 : (R : Int) ≠ 0 := h1
    refine e_Ok.ps1 (x := (1, 275)) (q := 12) 1 rfl ?_
    refine e_Ok.getr (z := 356) rfl (el_o rfl) rfl (ef_o rfl) (e_Has.eq hT (mt_o rfl)) ⟨by decide, by decide⟩ ?_
    refine e_Ok.ps1 (x := (1, 275)) (q := 16) 1 rfl ?_
    refine e_Ok.getf (z := R) rfl (el_o rfl) rfl (ef_o rfl) hR (by omega) ?_
    refine e_Ok.ps1 (x := (0, 1)) (q := 20) 1 rfl ?_
    refine e_Ok.sub' (z := R - 1) rfl rfl (by omega) ?_
    refine e_Ok.ald (z := E) rfl (el_o rfl) rfl (by omega) hE (by omega) ?_
    refine e_Ok.run (t' := (24, [(3, (0, E)), (0, (1, 275)), (1, (0, n)), (2, (0, b))], [(0, b)], w)) 2 rfl ?_
    refine e_Ok.if1 rfl (fun h2 => ?_) (fun h2 => ?_)
    · replace h2 : (b : Int) = 0 := h2
      refine e_Ok.run (t' := (45, [(5, (0, 0)), (4, (0, 0)), (3, (0, E)), (0, (1, 275)), (1, (0, n)), (2, (0, b))], [], w)) 4 rfl ?_
      have hL3 : ∀ (nn : Nat) (y5 : Int) (v1 : eW), e_fr (mKw R E) w v1 ∧ e_Has mTy v1 ∧ (0 ≤ y5 ∧ y5 ≤ n) ∧ (∀ j, 0 ≤ j → j < y5 → v1 354 (E + j) = w 353 j) → 1001 - y5 < nn → e_Ok 20 elay ecode eI d 420 (45, [(0, (1, 275)), (1, (0, n)), (3, (0, E)), (4, (0, 0)), (5, (0, y5))], [], v1) (fun r w' => r = [] ∧ kwR w w' R E n b) := by
        intro nn
        induction nn with
        | zero => intro y5 v1 hj hm; obtain ⟨j5, j6, j7, j8⟩ := hj; exfalso; omega
        | succ nn ih4 =>
          intro y5 v1 hj hm
          obtain ⟨j5, j6, j7, j8⟩ := hj
          refine e_Ok.run (t' := (48, [(0, (1, 275)), (1, (0, n)), (3, (0, E)), (4, (0, 0)), (5, (0, y5))], [(0, n), (0, y5)], v1)) 2 rfl ?_
          refine e_Ok.if2 rfl (fun h9 => ?_) (fun h9 => ?_)
          · replace h9 : (y5 : Int) ≥ n := h9
            refine e_Ok.ps1 (x := (1, 275)) (q := 79) 1 rfl ?_
            refine e_Ok.getr (z := 355) rfl (el_o rfl) rfl (ef_o rfl) ((j5 275 115 (by first | exact no_96_0 | (unfold mKw; omega))).trans (e_Has.eq hT (mt_o rfl))) ⟨by decide, by decide⟩ ?_
            refine e_Ok.ps1 (x := (1, 275)) (q := 83) 1 rfl ?_
            refine e_Ok.getf (z := R) rfl (el_o rfl) rfl (ef_o rfl) ((j5 275 5 (by first | exact no_96_0 | (unfold mKw; omega))).trans hR) (by omega) ?_
            refine e_Ok.ps1 (x := (0, 0)) (q := 88) 1 rfl ?_
            refine e_Ok.if1 rfl (fun h10 => ?_) (fun h10 => ?_)
            · replace h10 : (0 : Int) = 0 := h10
              refine e_Ok.ps1 (x := (0, (-1))) (q := 96) 1 rfl ?_
              refine e_Ok.ast rfl (el_o rfl) rfl rfl (by omega) ?_
              generalize hw11 : e_up v1 355 R (-1) = w11
              have hT13 : e_Has mTy w11 := e_Has.ups j6 hw11 rfl
              refine e_Ok.ps1 (x := (1, 275)) (q := 98) 1 rfl ?_
              refine e_Ok.getr (z := 356) rfl (el_o rfl) rfl (ef_o rfl) (e_uq hw11 (Or.inl (by decide)) ((j5 275 116 (by first | exact no_96_0 | (unfold mKw; omega))).trans (e_Has.eq hT (mt_o rfl)))) ⟨by decide, by decide⟩ ?_
              refine e_Ok.ps1 (x := (1, 275)) (q := 102) 1 rfl ?_
              refine e_Ok.getf (z := R) rfl (el_o rfl) rfl (ef_o rfl) (e_uq hw11 (Or.inl (by decide)) ((j5 275 5 (by first | exact no_96_0 | (unfold mKw; omega))).trans hR)) (by omega) ?_
              refine e_Ok.ps1 (x := (0, 0)) (q := 107) 1 rfl ?_
              refine e_Ok.if1 rfl (fun h14 => ?_) (fun h14 => ?_)
              · replace h14 : (0 : Int) = 0 := h14
                refine e_Ok.ps1 (x := (0, E)) (q := 117) 1 rfl ?_
                refine e_Ok.ast rfl (el_o rfl) rfl rfl (by omega) ?_
                generalize hw15 : e_up w11 356 R E = w15
                have hT17 : e_Has mTy w15 := e_Has.ups hT13 hw15 (mt_o rfl)
                refine e_Ok.rets rfl rfl ?_
                have e5 : w15 355 R = (-1) := (e_uq hw15 (Or.inl (by decide)) (e_ue hw11))
                have e6 : w15 356 R = E := (e_ue hw15)
                exact ⟨rfl, (show e_fr (mKw R E) w w15 from e_fr.up (show e_fr (mKw R E) w w11 from e_fr.up j5 hw11 (by first | exact Or.inr ⟨Or.inl rfl, (by omega)⟩ | (unfold mKw; omega))) hw15 (by first | exact Or.inr ⟨Or.inr rfl, (by omega)⟩ | (unfold mKw; omega))), Or.inr ⟨by omega, e5, by omega⟩⟩
              · replace h14 : (0 : Int) ≠ 0 := (show ¬ ((0 : Int) = 0) from h14)
                exfalso; omega
            · replace h10 : (0 : Int) ≠ 0 := (show ¬ ((0 : Int) = 0) from h10)
              exfalso; omega
          · replace h9 : (y5 : Int) < n := Int.not_le.mp (show ¬ ((y5 : Int) ≥ n) from h9)
            refine e_Ok.ps1 (x := (0, 0)) (q := 53) 1 rfl ?_
            refine e_Ok.if1 rfl (fun h18 => ?_) (fun h18 => ?_)
            · replace h18 : (0 : Int) = 0 := h18
              refine e_Ok.ps1 (x := (1, 275)) (q := 79) 1 rfl ?_
              refine e_Ok.getr (z := 355) rfl (el_o rfl) rfl (ef_o rfl) ((j5 275 115 (by first | exact no_96_0 | (unfold mKw; omega))).trans (e_Has.eq hT (mt_o rfl))) ⟨by decide, by decide⟩ ?_
              refine e_Ok.ps1 (x := (1, 275)) (q := 83) 1 rfl ?_
              refine e_Ok.getf (z := R) rfl (el_o rfl) rfl (ef_o rfl) ((j5 275 5 (by first | exact no_96_0 | (unfold mKw; omega))).trans hR) (by omega) ?_
              refine e_Ok.ps1 (x := (0, 0)) (q := 88) 1 rfl ?_
              refine e_Ok.if1 rfl (fun h19 => ?_) (fun h19 => ?_)
              · replace h19 : (0 : Int) = 0 := h19
                refine e_Ok.ps1 (x := (0, (-1))) (q := 96) 1 rfl ?_
                refine e_Ok.ast rfl (el_o rfl) rfl rfl (by omega) ?_
                generalize hw20 : e_up v1 355 R (-1) = w20
                have hT22 : e_Has mTy w20 := e_Has.ups j6 hw20 rfl
                refine e_Ok.ps1 (x := (1, 275)) (q := 98) 1 rfl ?_
                refine e_Ok.getr (z := 356) rfl (el_o rfl) rfl (ef_o rfl) (e_uq hw20 (Or.inl (by decide)) ((j5 275 116 (by first | exact no_96_0 | (unfold mKw; omega))).trans (e_Has.eq hT (mt_o rfl)))) ⟨by decide, by decide⟩ ?_
                refine e_Ok.ps1 (x := (1, 275)) (q := 102) 1 rfl ?_
                refine e_Ok.getf (z := R) rfl (el_o rfl) rfl (ef_o rfl) (e_uq hw20 (Or.inl (by decide)) ((j5 275 5 (by first | exact no_96_0 | (unfold mKw; omega))).trans hR)) (by omega) ?_
                refine e_Ok.ps1 (x := (0, 0)) (q := 107) 1 rfl ?_
                refine e_Ok.if1 rfl (fun h23 => ?_) (fun h23 => ?_)
                · replace h23 : (0 : Int) = 0 := h23
                  refine e_Ok.ps1 (x := (0, E)) (q := 117) 1 rfl ?_
                  refine e_Ok.ast rfl (el_o rfl) rfl rfl (by omega) ?_
                  generalize hw24 : e_up w20 356 R E = w24
                  have hT26 : e_Has mTy w24 := e_Has.ups hT22 hw24 (mt_o rfl)
                  refine e_Ok.rets rfl rfl ?_
                  have e5 : w24 355 R = (-1) := (e_uq hw24 (Or.inl (by decide)) (e_ue hw20))
                  have e6 : w24 356 R = E := (e_ue hw24)
                  exact ⟨rfl, (show e_fr (mKw R E) w w24 from e_fr.up (show e_fr (mKw R E) w w20 from e_fr.up j5 hw20 (by first | exact Or.inr ⟨Or.inl rfl, (by omega)⟩ | (unfold mKw; omega))) hw24 (by first | exact Or.inr ⟨Or.inr rfl, (by omega)⟩ | (unfold mKw; omega))), Or.inr ⟨by omega, e5, by omega⟩⟩
                · replace h23 : (0 : Int) ≠ 0 := (show ¬ ((0 : Int) = 0) from h23)
                  exfalso; omega
              · replace h19 : (0 : Int) ≠ 0 := (show ¬ ((0 : Int) = 0) from h19)
                exfalso; omega
            · replace h18 : (0 : Int) ≠ 0 := (show ¬ ((0 : Int) = 0) from h18)
              exfalso; omega
      refine e_Ok.sub eAlk (e_sub_of rfl ?_) (hL3 (1001 + 1 : Int).toNat 0 w ⟨(e_fr.refl w), hT, by omega, (fun j g1 g2 => by omega)⟩ (by omega))
      exact ⟨rfl, rfl, rfl, rfl, rfl, trivial⟩
    · replace h2 : (b : Int) ≠ 0 := (show ¬ ((b : Int) = 0) from h2)
      refine e_Ok.ps2 (x := (0, n)) (y := (0, E)) (q := 29) 2 rfl ?_
      refine e_Ok.add (z := E + n) rfl rfl (by omega) ?_
      refine e_Ok.ps1 (x := (0, 200000)) (q := 32) 1 rfl ?_
      refine e_Ok.if2 rfl (fun h27 => ?_) (fun h27 => ?_)
      · replace h27 : (E + n : Int) > 200000 := h27
        refine e_Ok.run (t' := (45, [(5, (0, 0)), (4, (0, 0)), (3, (0, E)), (0, (1, 275)), (1, (0, n)), (2, (0, b))], [], w)) 4 rfl ?_
        have hL28 : ∀ (nn : Nat) (y5 : Int) (v1 : eW), e_fr (mKw R E) w v1 ∧ e_Has mTy v1 ∧ (0 ≤ y5 ∧ y5 ≤ n) ∧ (∀ j, 0 ≤ j → j < y5 → v1 354 (E + j) = w 353 j) → 1001 - y5 < nn → e_Ok 20 elay ecode eI d 420 (45, [(0, (1, 275)), (1, (0, n)), (3, (0, E)), (4, (0, 0)), (5, (0, y5))], [], v1) (fun r w' => r = [] ∧ kwR w w' R E n b) := by
          intro nn
          induction nn with
          | zero => intro y5 v1 hj hm; obtain ⟨j30, j31, j32, j33⟩ := hj; exfalso; omega
          | succ nn ih29 =>
            intro y5 v1 hj hm
            obtain ⟨j30, j31, j32, j33⟩ := hj
            refine e_Ok.run (t' := (48, [(0, (1, 275)), (1, (0, n)), (3, (0, E)), (4, (0, 0)), (5, (0, y5))], [(0, n), (0, y5)], v1)) 2 rfl ?_
            refine e_Ok.if2 rfl (fun h34 => ?_) (fun h34 => ?_)
            · replace h34 : (y5 : Int) ≥ n := h34
              refine e_Ok.ps1 (x := (1, 275)) (q := 79) 1 rfl ?_
              refine e_Ok.getr (z := 355) rfl (el_o rfl) rfl (ef_o rfl) ((j30 275 115 (by first | exact no_96_0 | (unfold mKw; omega))).trans (e_Has.eq hT (mt_o rfl))) ⟨by decide, by decide⟩ ?_
              refine e_Ok.ps1 (x := (1, 275)) (q := 83) 1 rfl ?_
              refine e_Ok.getf (z := R) rfl (el_o rfl) rfl (ef_o rfl) ((j30 275 5 (by first | exact no_96_0 | (unfold mKw; omega))).trans hR) (by omega) ?_
              refine e_Ok.ps1 (x := (0, 0)) (q := 88) 1 rfl ?_
              refine e_Ok.if1 rfl (fun h35 => ?_) (fun h35 => ?_)
              · replace h35 : (0 : Int) = 0 := h35
                refine e_Ok.ps1 (x := (0, (-1))) (q := 96) 1 rfl ?_
                refine e_Ok.ast rfl (el_o rfl) rfl rfl (by omega) ?_
                generalize hw36 : e_up v1 355 R (-1) = w36
                have hT38 : e_Has mTy w36 := e_Has.ups j31 hw36 rfl
                refine e_Ok.ps1 (x := (1, 275)) (q := 98) 1 rfl ?_
                refine e_Ok.getr (z := 356) rfl (el_o rfl) rfl (ef_o rfl) (e_uq hw36 (Or.inl (by decide)) ((j30 275 116 (by first | exact no_96_0 | (unfold mKw; omega))).trans (e_Has.eq hT (mt_o rfl)))) ⟨by decide, by decide⟩ ?_
                refine e_Ok.ps1 (x := (1, 275)) (q := 102) 1 rfl ?_
                refine e_Ok.getf (z := R) rfl (el_o rfl) rfl (ef_o rfl) (e_uq hw36 (Or.inl (by decide)) ((j30 275 5 (by first | exact no_96_0 | (unfold mKw; omega))).trans hR)) (by omega) ?_
                refine e_Ok.ps1 (x := (0, 0)) (q := 107) 1 rfl ?_
                refine e_Ok.if1 rfl (fun h40 => ?_) (fun h40 => ?_)
                · replace h40 : (0 : Int) = 0 := h40
                  refine e_Ok.ps1 (x := (0, E)) (q := 117) 1 rfl ?_
                  refine e_Ok.ast rfl (el_o rfl) rfl rfl (by omega) ?_
                  generalize hw41 : e_up w36 356 R E = w41
                  have hT43 : e_Has mTy w41 := e_Has.ups hT38 hw41 (mt_o rfl)
                  refine e_Ok.rets rfl rfl ?_
                  have e5 : w41 355 R = (-1) := (e_uq hw41 (Or.inl (by decide)) (e_ue hw36))
                  have e6 : w41 356 R = E := (e_ue hw41)
                  exact ⟨rfl, (show e_fr (mKw R E) w w41 from e_fr.up (show e_fr (mKw R E) w w36 from e_fr.up j30 hw36 (by first | exact Or.inr ⟨Or.inl rfl, (by omega)⟩ | (unfold mKw; omega))) hw41 (by first | exact Or.inr ⟨Or.inr rfl, (by omega)⟩ | (unfold mKw; omega))), Or.inr ⟨by omega, e5, by omega⟩⟩
                · replace h40 : (0 : Int) ≠ 0 := (show ¬ ((0 : Int) = 0) from h40)
                  exfalso; omega
              · replace h35 : (0 : Int) ≠ 0 := (show ¬ ((0 : Int) = 0) from h35)
                exfalso; omega
            · replace h34 : (y5 : Int) < n := Int.not_le.mp (show ¬ ((y5 : Int) ≥ n) from h34)
              refine e_Ok.ps1 (x := (0, 0)) (q := 53) 1 rfl ?_
              refine e_Ok.if1 rfl (fun h44 => ?_) (fun h44 => ?_)
              · replace h44 : (0 : Int) = 0 := h44
                refine e_Ok.ps1 (x := (1, 275)) (q := 79) 1 rfl ?_
                refine e_Ok.getr (z := 355) rfl (el_o rfl) rfl (ef_o rfl) ((j30 275 115 (by first | exact no_96_0 | (unfold mKw; omega))).trans (e_Has.eq hT (mt_o rfl))) ⟨by decide, by decide⟩ ?_
                refine e_Ok.ps1 (x := (1, 275)) (q := 83) 1 rfl ?_
                refine e_Ok.getf (z := R) rfl (el_o rfl) rfl (ef_o rfl) ((j30 275 5 (by first | exact no_96_0 | (unfold mKw; omega))).trans hR) (by omega) ?_
                refine e_Ok.ps1 (x := (0, 0)) (q := 88) 1 rfl ?_
                refine e_Ok.if1 rfl (fun h45 => ?_) (fun h45 => ?_)
                · replace h45 : (0 : Int) = 0 := h45
                  refine e_Ok.ps1 (x := (0, (-1))) (q := 96) 1 rfl ?_
                  refine e_Ok.ast rfl (el_o rfl) rfl rfl (by omega) ?_
                  generalize hw46 : e_up v1 355 R (-1) = w46
                  have hT48 : e_Has mTy w46 := e_Has.ups j31 hw46 rfl
                  refine e_Ok.ps1 (x := (1, 275)) (q := 98) 1 rfl ?_
                  refine e_Ok.getr (z := 356) rfl (el_o rfl) rfl (ef_o rfl) (e_uq hw46 (Or.inl (by decide)) ((j30 275 116 (by first | exact no_96_0 | (unfold mKw; omega))).trans (e_Has.eq hT (mt_o rfl)))) ⟨by decide, by decide⟩ ?_
                  refine e_Ok.ps1 (x := (1, 275)) (q := 102) 1 rfl ?_
                  refine e_Ok.getf (z := R) rfl (el_o rfl) rfl (ef_o rfl) (e_uq hw46 (Or.inl (by decide)) ((j30 275 5 (by first | exact no_96_0 | (unfold mKw; omega))).trans hR)) (by omega) ?_
                  refine e_Ok.ps1 (x := (0, 0)) (q := 107) 1 rfl ?_
                  refine e_Ok.if1 rfl (fun h49 => ?_) (fun h49 => ?_)
                  · replace h49 : (0 : Int) = 0 := h49
                    refine e_Ok.ps1 (x := (0, E)) (q := 117) 1 rfl ?_
                    refine e_Ok.ast rfl (el_o rfl) rfl rfl (by omega) ?_
                    generalize hw50 : e_up w46 356 R E = w50
                    have hT52 : e_Has mTy w50 := e_Has.ups hT48 hw50 (mt_o rfl)
                    refine e_Ok.rets rfl rfl ?_
                    have e5 : w50 355 R = (-1) := (e_uq hw50 (Or.inl (by decide)) (e_ue hw46))
                    have e6 : w50 356 R = E := (e_ue hw50)
                    exact ⟨rfl, (show e_fr (mKw R E) w w50 from e_fr.up (show e_fr (mKw R E) w w46 from e_fr.up j30 hw46 (by first | exact Or.inr ⟨Or.inl rfl, (by omega)⟩ | (unfold mKw; omega))) hw50 (by first | exact Or.inr ⟨Or.inr rfl, (by omega)⟩ | (unfold mKw; omega))), Or.inr ⟨by omega, e5, by omega⟩⟩
                  · replace h49 : (0 : Int) ≠ 0 := (show ¬ ((0 : Int) = 0) from h49)
                    exfalso; omega
                · replace h45 : (0 : Int) ≠ 0 := (show ¬ ((0 : Int) = 0) from h45)
                  exfalso; omega
              · replace h44 : (0 : Int) ≠ 0 := (show ¬ ((0 : Int) = 0) from h44)
                exfalso; omega
        refine e_Ok.sub eAlk (e_sub_of rfl ?_) (hL28 (1001 + 1 : Int).toNat 0 w ⟨(e_fr.refl w), hT, by omega, (fun j g1 g2 => by omega)⟩ (by omega))
        exact ⟨rfl, rfl, rfl, rfl, rfl, trivial⟩
      · replace h27 : (E + n : Int) ≤ 200000 := Int.not_lt.mp (show ¬ ((E + n : Int) > 200000) from h27)
        refine e_Ok.run (t' := (45, [(5, (0, 0)), (4, (0, 1)), (3, (0, E)), (0, (1, 275)), (1, (0, n)), (2, (0, b))], [], w)) 5 rfl ?_
        have hL53 : ∀ (nn : Nat) (y5 : Int) (v1 : eW), e_fr (mKw R E) w v1 ∧ e_Has mTy v1 ∧ (0 ≤ y5 ∧ y5 ≤ n) ∧ (∀ j, 0 ≤ j → j < y5 → v1 354 (E + j) = w 353 j) → 1001 - y5 < nn → e_Ok 20 elay ecode eI d 420 (45, [(0, (1, 275)), (1, (0, n)), (3, (0, E)), (4, (0, 1)), (5, (0, y5))], [], v1) (fun r w' => r = [] ∧ kwR w w' R E n b) := by
          intro nn
          induction nn with
          | zero => intro y5 v1 hj hm; obtain ⟨j55, j56, j57, j58⟩ := hj; exfalso; omega
          | succ nn ih54 =>
            intro y5 v1 hj hm
            obtain ⟨j55, j56, j57, j58⟩ := hj
            refine e_Ok.run (t' := (48, [(0, (1, 275)), (1, (0, n)), (3, (0, E)), (4, (0, 1)), (5, (0, y5))], [(0, n), (0, y5)], v1)) 2 rfl ?_
            refine e_Ok.if2 rfl (fun h59 => ?_) (fun h59 => ?_)
            · replace h59 : (y5 : Int) ≥ n := h59
              refine e_Ok.ps1 (x := (1, 275)) (q := 79) 1 rfl ?_
              refine e_Ok.getr (z := 355) rfl (el_o rfl) rfl (ef_o rfl) ((j55 275 115 (by first | exact no_96_0 | (unfold mKw; omega))).trans (e_Has.eq hT (mt_o rfl))) ⟨by decide, by decide⟩ ?_
              refine e_Ok.ps1 (x := (1, 275)) (q := 83) 1 rfl ?_
              refine e_Ok.getf (z := R) rfl (el_o rfl) rfl (ef_o rfl) ((j55 275 5 (by first | exact no_96_0 | (unfold mKw; omega))).trans hR) (by omega) ?_
              refine e_Ok.ps1 (x := (0, 1)) (q := 88) 1 rfl ?_
              refine e_Ok.if1 rfl (fun h60 => ?_) (fun h60 => ?_)
              · replace h60 : (1 : Int) = 0 := h60
                exfalso; omega
              · replace h60 : (1 : Int) ≠ 0 := (show ¬ ((1 : Int) = 0) from h60)
                refine e_Ok.ps1 (x := (0, E)) (q := 96) 2 rfl ?_
                refine e_Ok.ast rfl (el_o rfl) rfl rfl (by omega) ?_
                generalize hw61 : e_up v1 355 R E = w61
                have hT63 : e_Has mTy w61 := e_Has.ups j56 hw61 rfl
                refine e_Ok.ps1 (x := (1, 275)) (q := 98) 1 rfl ?_
                refine e_Ok.getr (z := 356) rfl (el_o rfl) rfl (ef_o rfl) (e_uq hw61 (Or.inl (by decide)) ((j55 275 116 (by first | exact no_96_0 | (unfold mKw; omega))).trans (e_Has.eq hT (mt_o rfl)))) ⟨by decide, by decide⟩ ?_
                refine e_Ok.ps1 (x := (1, 275)) (q := 102) 1 rfl ?_
                refine e_Ok.getf (z := R) rfl (el_o rfl) rfl (ef_o rfl) (e_uq hw61 (Or.inl (by decide)) ((j55 275 5 (by first | exact no_96_0 | (unfold mKw; omega))).trans hR)) (by omega) ?_
                refine e_Ok.ps1 (x := (0, 1)) (q := 107) 1 rfl ?_
                refine e_Ok.if1 rfl (fun h64 => ?_) (fun h64 => ?_)
                · replace h64 : (1 : Int) = 0 := h64
                  exfalso; omega
                · replace h64 : (1 : Int) ≠ 0 := (show ¬ ((1 : Int) = 0) from h64)
                  refine e_Ok.ps2 (x := (0, n)) (y := (0, E)) (q := 112) 2 rfl ?_
                  refine e_Ok.add (z := E + n) rfl rfl (by omega) ?_
                  refine e_Ok.ps0 (q := 117) 1 rfl ?_
                  refine e_Ok.ast rfl (el_o rfl) rfl rfl (by omega) ?_
                  generalize hw65 : e_up w61 356 R (E + n) = w65
                  have hT67 : e_Has mTy w65 := e_Has.ups hT63 hw65 (mt_o rfl)
                  refine e_Ok.rets rfl rfl ?_
                  have e5 : w65 355 R = E := (e_uq hw65 (Or.inl (by decide)) (e_ue hw61))
                  have e6 : w65 356 R = E + n := (e_ue hw65)
                  exact ⟨rfl, (show e_fr (mKw R E) w w65 from e_fr.up (show e_fr (mKw R E) w w61 from e_fr.up j55 hw61 (by first | exact Or.inr ⟨Or.inl rfl, (by omega)⟩ | (unfold mKw; omega))) hw65 (by first | exact Or.inr ⟨Or.inr rfl, (by omega)⟩ | (unfold mKw; omega))), Or.inl ⟨by omega, by omega, by omega, by omega, (fun j g1 g2 => Eq.trans (e_uq hw65 (Or.inl (by omega)) (e_uq hw61 (Or.inl (by omega)) rfl)) (j58 j g1 (by omega)))⟩⟩
            · replace h59 : (y5 : Int) < n := Int.not_le.mp (show ¬ ((y5 : Int) ≥ n) from h59)
              refine e_Ok.ps1 (x := (0, 1)) (q := 53) 1 rfl ?_
              refine e_Ok.if1 rfl (fun h68 => ?_) (fun h68 => ?_)
              · replace h68 : (1 : Int) = 0 := h68
                exfalso; omega
              · replace h68 : (1 : Int) ≠ 0 := (show ¬ ((1 : Int) = 0) from h68)
                refine e_Ok.ps1 (x := (1, 275)) (q := 57) 1 rfl ?_
                refine e_Ok.getr (z := 354) rfl (el_o rfl) rfl (ef_o rfl) ((j55 275 114 (by first | exact no_96_0 | (unfold mKw; omega))).trans (e_Has.eq hT (mt_o rfl))) ⟨by decide, by decide⟩ ?_
                refine e_Ok.ps2 (x := (0, y5)) (y := (0, E)) (q := 63) 2 rfl ?_
                refine e_Ok.add (z := E + y5) rfl rfl (by omega) ?_
                refine e_Ok.ps1 (x := (1, 275)) (q := 65) 1 rfl ?_
                refine e_Ok.getr (z := 353) rfl (el_o rfl) rfl (ef_o rfl) ((j55 275 113 (by first | exact no_96_0 | (unfold mKw; omega))).trans (e_Has.eq hT (mt_o rfl))) ⟨by decide, by decide⟩ ?_
                refine e_Ok.ps1 (x := (0, y5)) (q := 70) 1 rfl ?_
                have h69 := (hfo (by omega) y5 (by omega) (by omega))
                refine e_Ok.ald (z := w 353 y5) rfl (el_o rfl) rfl (by omega) ((j55 353 y5 (by first | exact no_96_1 | (unfold mKw; omega))).trans rfl) (by omega) ?_
                refine e_Ok.ast rfl (el_o rfl) rfl rfl (by omega) ?_
                generalize hw70 : e_up v1 354 (E + y5) (w 353 y5) = w70
                have hT72 : e_Has mTy w70 := e_Has.ups j56 hw70 rfl
                refine e_Ok.inc (z := y5 + 1) rfl rfl (by first | with_reducible rfl | omega) (by omega) ?_
                show e_Ok 20 elay ecode eI d 420 (75, [(5, (0, y5 + 1)), (0, (1, 275)), (1, (0, n)), (3, (0, E)), (4, (0, 1))], [], w70) _
                refine e_Ok.ps0 (q := 45) 1 rfl ?_
                refine e_Ok.sub eAlk (e_sub_of rfl ?_) (ih54 (y5 + 1) w70 ⟨(show e_fr (mKw R E) w w70 from e_fr.up j55 hw70 (by first | exact Or.inl ⟨rfl, (by omega)⟩ | (unfold mKw; omega))), hT72, by omega, (fun j g1 g2 => Decidable.byCases (p := j = y5) (fun ej => by rw [ej, show E + y5 = E + y5 by omega, ← hw70]; exact e_up_eq _ _ _ _) (fun ej => Eq.trans (show w70 354 (E + j) = v1 354 (E + j) from by rw [← hw70]; exact e_up_ne _ _ (Or.inr (by omega))) (j58 j g1 (by omega))))⟩ (by omega))
                exact ⟨rfl, rfl, rfl, rfl, rfl, trivial⟩
        refine e_Ok.sub eAlk (e_sub_of rfl ?_) (hL53 (1001 + 1 : Int).toNat 0 w ⟨(e_fr.refl w), hT, by omega, (fun j g1 g2 => by omega)⟩ (by omega))
        exact ⟨rfl, rfl, rfl, rfl, rfl, trivial⟩
  · replace h1 : (R : Int) = 0 := Classical.not_not.mp (show ¬ ((R : Int) ≠ 0) from h1)
    exfalso; omega
theorem c_420 {d : Nat} {w : eW} (hT : e_Has mTy w) {R E n b : Int} (hR : w 275 5 = R) (hRr : 0 ≤ R ∧ R ≤ 1999) (hE0 : R = 0 → E = 0) (hE : 1 ≤ R → w 356 (R - 1) = E) (hEr : 0 ≤ E ∧ E ≤ 200000) (hn : 0 ≤ n ∧ n ≤ 1000) (hb : 0 ≤ b ∧ b ≤ 1) (hfo : b = 1 → ∀ i, 0 ≤ i → i ≤ n - 1 → -2147483648 ≤ w 353 i ∧ w 353 i ≤ 2147483647) : e_Ok 20 elay ecode eI d 420 (0, [(0, (1, 275)), (1, (0, n)), (2, (0, b))], [], w) (fun r w' => r = [] ∧ kwR w w' R E n b) := by
  by_cases h : R = 0
  · have e := hE0 h
    subst h
    subst e
    exact c_420_0 hT hR hn hb hfo
  · exact c_420_1 hT hR (by omega) (hE (by omega)) hEr hn hb hfo
end
end
-- part 97
section
noncomputable section
def mSo (R c k : Int) : Prop := c = 278 ∧ (R + 1) % 100 = 0 ∧ 33060 * ((R + 1) / 100) - 33060 ≤ k ∧ k < 33060 * ((R + 1) / 100)
def mWr (R E c k : Int) : Prop := (c = 275 ∧ k = 5) ∨ mKw R E c k ∨ (c = 279 ∧ 4 * R ≤ k ∧ k ≤ 4 * R + 3) ∨ mSo R c k
/-- the row R of the book is written -/
def wrR (w w' : eW) (R E x a b c : Int) : Prop := w' 275 5 = R + 1 ∧ (w' 279 (4 * R) = x ∧ w' 279 (4 * R + 1) = a ∧ w' 279 (4 * R + 2) = b ∧ w' 279 (4 * R + 3) = c) ∧ e_fr (mWr R E) w w' ∧
  ((x = 10 ∧ ((E + w 276 (36 * a + 19) ≤ 200000 ∧ w' 355 R = E ∧ w' 356 R = E + w 276 (36 * a + 19) ∧ (∀ j, 0 ≤ j → j < w 276 (36 * a + 19) → w' 354 (E + j) = w 353 j)) ∨ (200000 < E + w 276 (36 * a + 19) ∧ w' 355 R = -1 ∧ w' 356 R = E))) ∨ (x ≠ 10 ∧ w' 355 R = -1 ∧ w' 356 R = E)) ∧
  ((R + 1) % 100 = 0 → ∀ k, 0 ≤ k → k < 33060 → w' 278 (33060 * ((R + 1) / 100) - 33060 + k) = w 276 k)
theorem kw_T {w w' : eW} {R E : Int} (h : e_Has mTy w) (hF : e_fr (mKw R E) w w') : e_Has mTy w' := fun c k hl => by
  by_cases e : c = 354 ∨ c = 355 ∨ c = 356
  · rcases e with e | e | e <;> (rw [e] at hl; exact absurd hl (by show ¬ ((1 : Int) ≤ 0); decide))
  · rw [hF c k (by unfold mKw; omega)]
    exact h c k hl
theorem no_97_0 {R : Int} {E : Int} {k : Int} : ¬ mKw R E 275 k := by unfold mKw; omega
theorem no_97_1 {R : Int} {k : Int} : ¬ mSo R 355 k := by unfold mSo; omega
theorem no_97_2 {R : Int} {k : Int} : ¬ mSo R 356 k := by unfold mSo; omega
theorem no_97_3 {R : Int} {k : Int} : ¬ mSo R 275 k := by unfold mSo; omega
theorem no_97_4 {R : Int} {k : Int} : ¬ mSo R 279 k := by unfold mSo; omega
theorem no_97_5 {R : Int} {k : Int} : ¬ mSo R 276 k := by unfold mSo; omega
theorem no_97_6 {R : Int} {E : Int} {k : Int} : ¬ mKw R E 276 k := by unfold mKw; omega
theorem no_97_7 {R : Int} {k : Int} : ¬ mSo R 354 k := by unfold mSo; omega
set_option maxHeartbeats 4000000 in
theorem c_423 {d : Nat} (hd : 22 ≤ d) {w : eW} (hT : e_Has mTy w) {R E x a b c : Int} (hR : w 275 5 = R) (hRr : 0 ≤ R ∧ R ≤ 1999) (hAg : w 275 6 = 0) (hE0 : R = 0 → E = 0) (hE : 1 ≤ R → w 356 (R - 1) = E) (hEr : 0 ≤ E ∧ E ≤ 200000) (hx : 0 ≤ x ∧ x ≤ 11) (hw10 : x = 10 → (0 ≤ a ∧ a ≤ 3) ∧ 0 ≤ w 276 (36 * a + 19) ∧ ∀ i, 0 ≤ i → i ≤ w 276 (36 * a + 19) - 1 → -2147483648 ≤ w 353 i ∧ w 353 i ≤ 2147483647) : e_Ok 20 elay ecode eI d 423 (0, [(0, (1, 275)), (1, (0, x)), (2, (0, a)), (3, (0, b)), (4, (0, c))], [], w) (fun r w' => r = [] ∧ wrR w w' R E x a b c) := by
  obtain ⟨d, rfl⟩ : ∃ e, d = e + 1 := ⟨d - 1, by omega⟩
  have hk276 : ∀ i, 0 ≤ i → i ≤ 33059 → -2147483648 ≤ w 276 i ∧ w 276 i ≤ 2147483647 := fun i _ _ => e_Has.now hT i
  refine e_Ok.ps1 (x := (1, 275)) (q := 1) 1 rfl ?_
  refine e_Ok.getf (z := 0) rfl (el_o rfl) rfl (ef_o rfl) hAg (by omega) ?_
  refine e_Ok.if1 rfl (fun h1 => ?_) (fun h1 => ?_)
  · replace h1 : (0 : Int) = 0 := h1
    refine e_Ok.ps3 (x := (0, 10)) (y := (0, x)) (z := (1, 275)) (q := 12) 3 rfl ?_
    refine e_Ok.if2 rfl (fun h2 => ?_) (fun h2 => ?_)
    · replace h2 : (x : Int) ≠ 10 := h2
      refine e_Ok.ps3 (x := (0, 10)) (y := (0, x)) (z := (0, 0)) (q := 33) 3 rfl ?_
      refine e_Ok.if2 rfl (fun h3 => ?_) (fun h3 => ?_)
      · replace h3 : (x : Int) ≠ 10 := h3
        refine e_Ok.ps1 (x := (0, 0)) (q := 41) 1 rfl ?_
        refine e_Ok.callV rfl (e_dq hd rfl) rfl rfl rfl rfl (c_420 hT (R := R) (E := E) hR (by omega) hE0 hE hEr (by omega) (by omega) (fun e => by omega)) (fun r4 w5 h6 => ?_)
        obtain ⟨rfl, q7, q7k⟩ := h6
        refine e_Ok.nrm (q := 44) (st' := []) rfl rfl ?_
        refine e_Ok.ps1 (x := (1, 275)) (q := 45) 1 rfl ?_
        refine e_Ok.getr (z := 279) rfl (el_o rfl) rfl (ef_o rfl) ((q7 275 4 (by first | exact no_97_0 | (unfold mKw; omega))).trans (e_Has.eq hT (mt_o rfl))) ⟨by decide, by decide⟩ ?_
        refine e_Ok.ps2 (x := (1, 275)) (y := (0, 4)) (q := 50) 2 rfl ?_
        refine e_Ok.getf (z := R) rfl (el_o rfl) rfl (ef_o rfl) ((q7 275 5 (by first | exact no_97_0 | (unfold mKw; omega))).trans hR) (by omega) ?_
        refine e_Ok.mul (z := 4 * R) rfl rfl (by omega) ?_
        refine e_Ok.ps1 (x := (0, x)) (q := 55) 1 rfl ?_
        refine e_Ok.ast rfl (el_o rfl) rfl rfl (by omega) ?_
        generalize hw9 : e_up w5 279 (4 * R) x = w9
        have hT11 : e_Has mTy w9 := e_Has.ups (show e_Has mTy w5 from kw_T hT q7) hw9 (mt_o rfl)
        refine e_Ok.ps1 (x := (1, 275)) (q := 57) 1 rfl ?_
        refine e_Ok.getr (z := 279) rfl (el_o rfl) rfl (ef_o rfl) (e_uq hw9 (Or.inl (by decide)) ((q7 275 4 (by first | exact no_97_0 | (unfold mKw; omega))).trans (e_Has.eq hT (mt_o rfl)))) ⟨by decide, by decide⟩ ?_
        refine e_Ok.ps2 (x := (1, 275)) (y := (0, 4)) (q := 62) 2 rfl ?_
        refine e_Ok.getf (z := R) rfl (el_o rfl) rfl (ef_o rfl) (e_uq hw9 (Or.inl (by decide)) ((q7 275 5 (by first | exact no_97_0 | (unfold mKw; omega))).trans hR)) (by omega) ?_
        refine e_Ok.mul (z := 4 * R) rfl rfl (by omega) ?_
        refine e_Ok.ps1 (x := (0, 1)) (q := 67) 1 rfl ?_
        refine e_Ok.add (z := 4 * R + 1) rfl rfl (by omega) ?_
        refine e_Ok.ps1 (x := (0, a)) (q := 69) 1 rfl ?_
        refine e_Ok.ast rfl (el_o rfl) rfl rfl (by omega) ?_
        generalize hw12 : e_up w9 279 (4 * R + 1) a = w12
        have hT14 : e_Has mTy w12 := e_Has.ups hT11 hw12 (mt_o rfl)
        refine e_Ok.ps1 (x := (1, 275)) (q := 71) 1 rfl ?_
        refine e_Ok.getr (z := 279) rfl (el_o rfl) rfl (ef_o rfl) (e_uq hw12 (Or.inl (by decide)) (e_uq hw9 (Or.inl (by decide)) ((q7 275 4 (by first | exact no_97_0 | (unfold mKw; omega))).trans (e_Has.eq hT (mt_o rfl))))) ⟨by decide, by decide⟩ ?_
        refine e_Ok.ps2 (x := (1, 275)) (y := (0, 4)) (q := 76) 2 rfl ?_
        refine e_Ok.getf (z := R) rfl (el_o rfl) rfl (ef_o rfl) (e_uq hw12 (Or.inl (by decide)) (e_uq hw9 (Or.inl (by decide)) ((q7 275 5 (by first | exact no_97_0 | (unfold mKw; omega))).trans hR))) (by omega) ?_
        refine e_Ok.mul (z := 4 * R) rfl rfl (by omega) ?_
        refine e_Ok.ps1 (x := (0, 2)) (q := 81) 1 rfl ?_
        refine e_Ok.add (z := 4 * R + 2) rfl rfl (by omega) ?_
        refine e_Ok.ps1 (x := (0, b)) (q := 83) 1 rfl ?_
        refine e_Ok.ast rfl (el_o rfl) rfl rfl (by omega) ?_
        generalize hw15 : e_up w12 279 (4 * R + 2) b = w15
        have hT17 : e_Has mTy w15 := e_Has.ups hT14 hw15 (mt_o rfl)
        refine e_Ok.ps1 (x := (1, 275)) (q := 85) 1 rfl ?_
        refine e_Ok.getr (z := 279) rfl (el_o rfl) rfl (ef_o rfl) (e_uq hw15 (Or.inl (by decide)) (e_uq hw12 (Or.inl (by decide)) (e_uq hw9 (Or.inl (by decide)) ((q7 275 4 (by first | exact no_97_0 | (unfold mKw; omega))).trans (e_Has.eq hT (mt_o rfl)))))) ⟨by decide, by decide⟩ ?_
        refine e_Ok.ps2 (x := (1, 275)) (y := (0, 4)) (q := 90) 2 rfl ?_
        refine e_Ok.getf (z := R) rfl (el_o rfl) rfl (ef_o rfl) (e_uq hw15 (Or.inl (by decide)) (e_uq hw12 (Or.inl (by decide)) (e_uq hw9 (Or.inl (by decide)) ((q7 275 5 (by first | exact no_97_0 | (unfold mKw; omega))).trans hR)))) (by omega) ?_
        refine e_Ok.mul (z := 4 * R) rfl rfl (by omega) ?_
        refine e_Ok.ps1 (x := (0, 3)) (q := 95) 1 rfl ?_
        refine e_Ok.add (z := 4 * R + 3) rfl rfl (by omega) ?_
        refine e_Ok.ps1 (x := (0, c)) (q := 98) 1 rfl ?_
        refine e_Ok.ast rfl (el_o rfl) rfl rfl (by omega) ?_
        generalize hw18 : e_up w15 279 (4 * R + 3) c = w18
        have hT20 : e_Has mTy w18 := e_Has.ups hT17 hw18 (mt_o rfl)
        refine e_Ok.ps2 (x := (1, 275)) (y := (1, 275)) (q := 101) 2 rfl ?_
        refine e_Ok.getf (z := R) rfl (el_o rfl) rfl (ef_o rfl) (e_uq hw18 (Or.inl (by decide)) (e_uq hw15 (Or.inl (by decide)) (e_uq hw12 (Or.inl (by decide)) (e_uq hw9 (Or.inl (by decide)) ((q7 275 5 (by first | exact no_97_0 | (unfold mKw; omega))).trans hR))))) (by omega) ?_
        refine e_Ok.ps1 (x := (0, 1)) (q := 105) 1 rfl ?_
        refine e_Ok.add (z := R + 1) rfl rfl (by omega) ?_
        refine e_Ok.putf rfl (el_o rfl) rfl (ef_o rfl) ?_
        generalize hw21 : e_up w18 275 5 (R + 1) = w21
        have f22 : e_fr (mWr R E) w w21 := e_fr.up (show e_fr (mWr R E) w w18 from e_fr.up (show e_fr (mWr R E) w w15 from e_fr.up (show e_fr (mWr R E) w w12 from e_fr.up (show e_fr (mWr R E) w w9 from e_fr.up (show e_fr (mWr R E) w w5 from e_fr.trans (e_fr.refl w) (e_fr.mono q7 (fun c k q => by exact Or.inr (Or.inl q)))) hw9 (by first | exact Or.inr (Or.inr (Or.inl ⟨rfl, ⟨(by omega), (by omega)⟩⟩)) | (unfold mWr mKw mSo; omega))) hw12 (by first | exact Or.inr (Or.inr (Or.inl ⟨rfl, ⟨(by omega), (by omega)⟩⟩)) | (unfold mWr mKw mSo; omega))) hw15 (by first | exact Or.inr (Or.inr (Or.inl ⟨rfl, ⟨(by omega), (by omega)⟩⟩)) | (unfold mWr mKw mSo; omega))) hw18 (by first | exact Or.inr (Or.inr (Or.inl ⟨rfl, ⟨(by omega), (by omega)⟩⟩)) | (unfold mWr mKw mSo; omega))) hw21 (by first | exact Or.inl ⟨rfl, rfl⟩ | (unfold mWr mKw mSo; omega))
        have hT23 : e_Has mTy w21 := e_Has.ups hT20 hw21 (mt_o rfl)
        refine e_Ok.ps1 (x := (1, 275)) (q := 110) 1 rfl ?_
        refine e_Ok.getf (z := R + 1) rfl (el_o rfl) rfl (ef_o rfl) (e_ue hw21) (by omega) ?_
        refine e_Ok.ps1 (x := (0, 100)) (q := 115) 1 rfl ?_
        refine e_Ok.remn (fun z24 hz24 => ?_) rfl (by omega) (by omega)
        replace hz24 : z24 = (R + 1) % 100 := hz24
        have z24r : 0 ≤ z24 ∧ z24 ≤ 99 := by omega
        refine e_Ok.if1 rfl (fun h25 => ?_) (fun h25 => ?_)
        · replace h25 : (z24 : Int) ≠ 0 := h25
          refine e_Ok.rets rfl rfl ?_
          have e5 : w21 355 R = w5 355 R := (e_uq hw21 (Or.inl (by decide)) (e_uq hw18 (Or.inl (by decide)) (e_uq hw15 (Or.inl (by decide)) (e_uq hw12 (Or.inl (by decide)) (e_uq hw9 (Or.inl (by decide)) rfl)))))
          have e6 : w21 356 R = w5 356 R := (e_uq hw21 (Or.inl (by decide)) (e_uq hw18 (Or.inl (by decide)) (e_uq hw15 (Or.inl (by decide)) (e_uq hw12 (Or.inl (by decide)) (e_uq hw9 (Or.inl (by decide)) rfl)))))
          exact ⟨rfl, (e_ue hw21), ⟨(e_uq hw21 (Or.inl (by first | decide | omega)) (e_uq hw18 (Or.inr (by omega)) (e_uq hw15 (Or.inr (by omega)) (e_uq hw12 (Or.inr (by omega)) (e_ue hw9))))), (e_uq hw21 (Or.inl (by first | decide | omega)) (e_uq hw18 (Or.inr (by omega)) (e_uq hw15 (Or.inr (by omega)) (e_ue hw12)))), (e_uq hw21 (Or.inl (by first | decide | omega)) (e_uq hw18 (Or.inr (by omega)) (e_ue hw15))), (e_uq hw21 (Or.inl (by first | decide | omega)) (e_ue hw18))⟩, f22, Or.inr ⟨by omega, q7k.elim (fun h => absurd h.1 (by decide)) (fun h => ⟨e5.trans h.2.1, e6.trans h.2.2⟩)⟩, (fun e => by exfalso; omega)⟩
        · replace h25 : (z24 : Int) = 0 := Classical.not_not.mp (show ¬ ((z24 : Int) ≠ 0) from h25)
          refine e_Ok.ps2 (x := (1, 275)) (y := (0, 33060)) (q := 122) 2 rfl ?_
          refine e_Ok.getf (z := R + 1) rfl (el_o rfl) rfl (ef_o rfl) (e_ue hw21) (by omega) ?_
          refine e_Ok.ps1 (x := (0, 100)) (q := 127) 1 rfl ?_
          refine e_Ok.divn (fun z26 hz26 => ?_) rfl (by omega) (by omega)
          replace hz26 : z26 = (R + 1) / 100 := hz26
          have z26r : 0 ≤ z26 ∧ z26 ≤ 20 := by omega
          refine e_Ok.ps1 (x := (0, 1)) (q := 129) 1 rfl ?_
          refine e_Ok.sub' (z := z26 - 1) rfl rfl (by omega) ?_
          refine e_Ok.mul (z := 33060 * z26 - 33060) rfl (by omega) (by omega) ?_
          refine e_Ok.run (t' := (136, [(6, (0, 0)), (5, (0, 33060 * z26 - 33060)), (0, (1, 275)), (1, (0, x)), (2, (0, a)), (3, (0, b)), (4, (0, c))], [], w21)) 3 rfl ?_
          have hL27 : ∀ (nn : Nat) (y6 : Int) (v1 : eW), e_fr (mWr R E) w v1 ∧ e_Has mTy v1 ∧ (0 ≤ y6 ∧ y6 ≤ 33060) ∧ e_fr (mSo R) w21 v1 ∧ (∀ j, 0 ≤ j → j < y6 → v1 278 (33060 * ((R + 1) / 100) - 33060 + j) = w 276 j) → 33061 - y6 < nn → e_Ok 20 elay ecode eI (d + 1) 423 (136, [(0, (1, 275)), (5, (0, 33060 * z26 - 33060)), (6, (0, y6))], [], v1) (fun r w' => r = [] ∧ wrR w w' R E x a b c) := by
            intro nn
            induction nn with
            | zero => intro y6 v1 hj hm; obtain ⟨j29, j30, j31, j32, j33⟩ := hj; exfalso; omega
            | succ nn ih28 =>
              intro y6 v1 hj hm
              obtain ⟨j29, j30, j31, j32, j33⟩ := hj
              refine e_Ok.run (t' := (140, [(0, (1, 275)), (5, (0, 33060 * z26 - 33060)), (6, (0, y6))], [(0, 33060), (0, y6)], v1)) 2 rfl ?_
              refine e_Ok.if2 rfl (fun h34 => ?_) (fun h34 => ?_)
              · replace h34 : (y6 : Int) ≥ 33060 := h34
                refine e_Ok.rets rfl rfl ?_
                have e5 : v1 355 R = w5 355 R := ((j32 355 R (by first | exact no_97_1 | (unfold mSo; omega))).trans (e_uq hw21 (Or.inl (by decide)) (e_uq hw18 (Or.inl (by decide)) (e_uq hw15 (Or.inl (by decide)) (e_uq hw12 (Or.inl (by decide)) (e_uq hw9 (Or.inl (by decide)) rfl))))))
                have e6 : v1 356 R = w5 356 R := ((j32 356 R (by first | exact no_97_2 | (unfold mSo; omega))).trans (e_uq hw21 (Or.inl (by decide)) (e_uq hw18 (Or.inl (by decide)) (e_uq hw15 (Or.inl (by decide)) (e_uq hw12 (Or.inl (by decide)) (e_uq hw9 (Or.inl (by decide)) rfl))))))
                exact ⟨rfl, ((j32 275 5 (by first | exact no_97_3 | (unfold mSo; omega))).trans (e_ue hw21)), ⟨((j32 279 (4 * R) (by first | exact no_97_4 | (unfold mSo; omega))).trans (e_uq hw21 (Or.inl (by first | decide | omega)) (e_uq hw18 (Or.inr (by omega)) (e_uq hw15 (Or.inr (by omega)) (e_uq hw12 (Or.inr (by omega)) (e_ue hw9)))))), ((j32 279 (4 * R + 1) (by first | exact no_97_4 | (unfold mSo; omega))).trans (e_uq hw21 (Or.inl (by first | decide | omega)) (e_uq hw18 (Or.inr (by omega)) (e_uq hw15 (Or.inr (by omega)) (e_ue hw12))))), ((j32 279 (4 * R + 2) (by first | exact no_97_4 | (unfold mSo; omega))).trans (e_uq hw21 (Or.inl (by first | decide | omega)) (e_uq hw18 (Or.inr (by omega)) (e_ue hw15)))), ((j32 279 (4 * R + 3) (by first | exact no_97_4 | (unfold mSo; omega))).trans (e_uq hw21 (Or.inl (by first | decide | omega)) (e_ue hw18)))⟩, j29, Or.inr ⟨by omega, q7k.elim (fun h => absurd h.1 (by decide)) (fun h => ⟨e5.trans h.2.1, e6.trans h.2.2⟩)⟩, (fun _ k g1 g2 => j33 k g1 (by omega))⟩
              · replace h34 : (y6 : Int) < 33060 := Int.not_le.mp (show ¬ ((y6 : Int) ≥ 33060) from h34)
                refine e_Ok.ps1 (x := (1, 275)) (q := 144) 1 rfl ?_
                refine e_Ok.getr (z := 278) rfl (el_o rfl) rfl (ef_o rfl) ((j32 275 2 (by first | exact no_97_3 | (unfold mSo; omega))).trans (e_uq hw21 (Or.inr (by decide)) (e_uq hw18 (Or.inl (by decide)) (e_uq hw15 (Or.inl (by decide)) (e_uq hw12 (Or.inl (by decide)) (e_uq hw9 (Or.inl (by decide)) ((q7 275 2 (by first | exact no_97_0 | (unfold mKw; omega))).trans (e_Has.eq hT (mt_o rfl))))))))) ⟨by decide, by decide⟩ ?_
                refine e_Ok.ps2 (x := (0, y6)) (y := (0, 33060 * z26 - 33060)) (q := 151) 2 rfl ?_
                refine e_Ok.add (z := 33060 * z26 + y6 - 33060) rfl (by omega) (by omega) ?_
                refine e_Ok.ps1 (x := (1, 275)) (q := 153) 1 rfl ?_
                refine e_Ok.getr (z := 276) rfl (el_o rfl) rfl (ef_o rfl) ((j32 275 0 (by first | exact no_97_3 | (unfold mSo; omega))).trans (e_uq hw21 (Or.inr (by decide)) (e_uq hw18 (Or.inl (by decide)) (e_uq hw15 (Or.inl (by decide)) (e_uq hw12 (Or.inl (by decide)) (e_uq hw9 (Or.inl (by decide)) ((q7 275 0 (by first | exact no_97_0 | (unfold mKw; omega))).trans (e_Has.eq hT (mt_o rfl))))))))) ⟨by decide, by decide⟩ ?_
                refine e_Ok.ps1 (x := (0, y6)) (q := 158) 1 rfl ?_
                have h35 := (hk276 y6 (by omega) (by omega))
                refine e_Ok.ald (z := w 276 y6) rfl (el_o rfl) rfl (by omega) ((j32 276 y6 (by first | exact no_97_5 | (unfold mSo; omega))).trans (e_uq hw21 (Or.inl (by decide)) (e_uq hw18 (Or.inl (by decide)) (e_uq hw15 (Or.inl (by decide)) (e_uq hw12 (Or.inl (by decide)) (e_uq hw9 (Or.inl (by decide)) ((q7 276 y6 (by first | exact no_97_6 | (unfold mKw; omega))).trans rfl))))))) (by omega) ?_
                refine e_Ok.ast rfl (el_o rfl) rfl rfl (by omega) ?_
                generalize hw36 : e_up v1 278 (33060 * z26 + y6 - 33060) (w 276 y6) = w36
                have hT38 : e_Has mTy w36 := e_Has.ups j30 hw36 rfl
                refine e_Ok.inc (z := y6 + 1) rfl rfl (by first | with_reducible rfl | omega) (by omega) ?_
                show e_Ok 20 elay ecode eI (d + 1) 423 (163, [(6, (0, y6 + 1)), (0, (1, 275)), (5, (0, 33060 * z26 - 33060))], [], w36) _
                refine e_Ok.ps0 (q := 136) 1 rfl ?_
                refine e_Ok.sub eAlk (e_sub_of rfl ?_) (ih28 (y6 + 1) w36 ⟨(show e_fr (mWr R E) w w36 from e_fr.up j29 hw36 (by unfold mWr mKw mSo; omega)), hT38, by omega, (e_fr.up j32 hw36 (by unfold mSo; omega)), (fun j g1 g2 => Decidable.byCases (p := j = y6) (fun e => by rw [e, show 33060 * ((R + 1) / 100) - 33060 + y6 = 33060 * z26 + y6 - 33060 by omega, ← hw36]; exact e_up_eq _ _ _ _) (fun e => Eq.trans (show w36 278 (33060 * ((R + 1) / 100) - 33060 + j) = v1 278 (33060 * ((R + 1) / 100) - 33060 + j) from by rw [← hw36]; exact e_up_ne _ _ (Or.inr (by omega))) (j33 j g1 (by omega))))⟩ (by omega))
                exact ⟨rfl, rfl, rfl, trivial⟩
          refine e_Ok.sub eAlk (e_sub_of rfl ?_) (hL27 (33061 + 1 : Int).toNat 0 w21 ⟨f22, hT23, by omega, (e_fr.refl w21), (fun j g1 g2 => by omega)⟩ (by omega))
          exact ⟨rfl, rfl, rfl, trivial⟩
      · replace h3 : (x : Int) = 10 := Classical.not_not.mp (show ¬ ((x : Int) ≠ 10) from h3)
        refine e_Ok.ps1 (x := (0, 1)) (q := 41) 2 rfl ?_
        refine e_Ok.callV rfl (e_dq hd rfl) rfl rfl rfl rfl (c_420 hT (R := R) (E := E) hR (by omega) hE0 hE hEr (by omega) (by omega) (fun _ i g1 g2 => by omega)) (fun r40 w41 h42 => ?_)
        obtain ⟨rfl, q43, q43k⟩ := h42
        refine e_Ok.nrm (q := 44) (st' := []) rfl rfl ?_
        refine e_Ok.ps1 (x := (1, 275)) (q := 45) 1 rfl ?_
        refine e_Ok.getr (z := 279) rfl (el_o rfl) rfl (ef_o rfl) ((q43 275 4 (by first | exact no_97_0 | (unfold mKw; omega))).trans (e_Has.eq hT (mt_o rfl))) ⟨by decide, by decide⟩ ?_
        refine e_Ok.ps2 (x := (1, 275)) (y := (0, 4)) (q := 50) 2 rfl ?_
        refine e_Ok.getf (z := R) rfl (el_o rfl) rfl (ef_o rfl) ((q43 275 5 (by first | exact no_97_0 | (unfold mKw; omega))).trans hR) (by omega) ?_
        refine e_Ok.mul (z := 4 * R) rfl rfl (by omega) ?_
        refine e_Ok.ps1 (x := (0, x)) (q := 55) 1 rfl ?_
        refine e_Ok.ast rfl (el_o rfl) rfl rfl (by omega) ?_
        generalize hw45 : e_up w41 279 (4 * R) x = w45
        have hT47 : e_Has mTy w45 := e_Has.ups (show e_Has mTy w41 from kw_T hT q43) hw45 (mt_o rfl)
        refine e_Ok.ps1 (x := (1, 275)) (q := 57) 1 rfl ?_
        refine e_Ok.getr (z := 279) rfl (el_o rfl) rfl (ef_o rfl) (e_uq hw45 (Or.inl (by decide)) ((q43 275 4 (by first | exact no_97_0 | (unfold mKw; omega))).trans (e_Has.eq hT (mt_o rfl)))) ⟨by decide, by decide⟩ ?_
        refine e_Ok.ps2 (x := (1, 275)) (y := (0, 4)) (q := 62) 2 rfl ?_
        refine e_Ok.getf (z := R) rfl (el_o rfl) rfl (ef_o rfl) (e_uq hw45 (Or.inl (by decide)) ((q43 275 5 (by first | exact no_97_0 | (unfold mKw; omega))).trans hR)) (by omega) ?_
        refine e_Ok.mul (z := 4 * R) rfl rfl (by omega) ?_
        refine e_Ok.ps1 (x := (0, 1)) (q := 67) 1 rfl ?_
        refine e_Ok.add (z := 4 * R + 1) rfl rfl (by omega) ?_
        refine e_Ok.ps1 (x := (0, a)) (q := 69) 1 rfl ?_
        refine e_Ok.ast rfl (el_o rfl) rfl rfl (by omega) ?_
        generalize hw48 : e_up w45 279 (4 * R + 1) a = w48
        have hT50 : e_Has mTy w48 := e_Has.ups hT47 hw48 (mt_o rfl)
        refine e_Ok.ps1 (x := (1, 275)) (q := 71) 1 rfl ?_
        refine e_Ok.getr (z := 279) rfl (el_o rfl) rfl (ef_o rfl) (e_uq hw48 (Or.inl (by decide)) (e_uq hw45 (Or.inl (by decide)) ((q43 275 4 (by first | exact no_97_0 | (unfold mKw; omega))).trans (e_Has.eq hT (mt_o rfl))))) ⟨by decide, by decide⟩ ?_
        refine e_Ok.ps2 (x := (1, 275)) (y := (0, 4)) (q := 76) 2 rfl ?_
        refine e_Ok.getf (z := R) rfl (el_o rfl) rfl (ef_o rfl) (e_uq hw48 (Or.inl (by decide)) (e_uq hw45 (Or.inl (by decide)) ((q43 275 5 (by first | exact no_97_0 | (unfold mKw; omega))).trans hR))) (by omega) ?_
        refine e_Ok.mul (z := 4 * R) rfl rfl (by omega) ?_
        refine e_Ok.ps1 (x := (0, 2)) (q := 81) 1 rfl ?_
        refine e_Ok.add (z := 4 * R + 2) rfl rfl (by omega) ?_
        refine e_Ok.ps1 (x := (0, b)) (q := 83) 1 rfl ?_
        refine e_Ok.ast rfl (el_o rfl) rfl rfl (by omega) ?_
        generalize hw51 : e_up w48 279 (4 * R + 2) b = w51
        have hT53 : e_Has mTy w51 := e_Has.ups hT50 hw51 (mt_o rfl)
        refine e_Ok.ps1 (x := (1, 275)) (q := 85) 1 rfl ?_
        refine e_Ok.getr (z := 279) rfl (el_o rfl) rfl (ef_o rfl) (e_uq hw51 (Or.inl (by decide)) (e_uq hw48 (Or.inl (by decide)) (e_uq hw45 (Or.inl (by decide)) ((q43 275 4 (by first | exact no_97_0 | (unfold mKw; omega))).trans (e_Has.eq hT (mt_o rfl)))))) ⟨by decide, by decide⟩ ?_
        refine e_Ok.ps2 (x := (1, 275)) (y := (0, 4)) (q := 90) 2 rfl ?_
        refine e_Ok.getf (z := R) rfl (el_o rfl) rfl (ef_o rfl) (e_uq hw51 (Or.inl (by decide)) (e_uq hw48 (Or.inl (by decide)) (e_uq hw45 (Or.inl (by decide)) ((q43 275 5 (by first | exact no_97_0 | (unfold mKw; omega))).trans hR)))) (by omega) ?_
        refine e_Ok.mul (z := 4 * R) rfl rfl (by omega) ?_
        refine e_Ok.ps1 (x := (0, 3)) (q := 95) 1 rfl ?_
        refine e_Ok.add (z := 4 * R + 3) rfl rfl (by omega) ?_
        refine e_Ok.ps1 (x := (0, c)) (q := 98) 1 rfl ?_
        refine e_Ok.ast rfl (el_o rfl) rfl rfl (by omega) ?_
        generalize hw54 : e_up w51 279 (4 * R + 3) c = w54
        have hT56 : e_Has mTy w54 := e_Has.ups hT53 hw54 (mt_o rfl)
        refine e_Ok.ps2 (x := (1, 275)) (y := (1, 275)) (q := 101) 2 rfl ?_
        refine e_Ok.getf (z := R) rfl (el_o rfl) rfl (ef_o rfl) (e_uq hw54 (Or.inl (by decide)) (e_uq hw51 (Or.inl (by decide)) (e_uq hw48 (Or.inl (by decide)) (e_uq hw45 (Or.inl (by decide)) ((q43 275 5 (by first | exact no_97_0 | (unfold mKw; omega))).trans hR))))) (by omega) ?_
        refine e_Ok.ps1 (x := (0, 1)) (q := 105) 1 rfl ?_
        refine e_Ok.add (z := R + 1) rfl rfl (by omega) ?_
        refine e_Ok.putf rfl (el_o rfl) rfl (ef_o rfl) ?_
        generalize hw57 : e_up w54 275 5 (R + 1) = w57
        have hT59 : e_Has mTy w57 := e_Has.ups hT56 hw57 (mt_o rfl)
        refine e_Ok.ps1 (x := (1, 275)) (q := 110) 1 rfl ?_
        refine e_Ok.getf (z := R + 1) rfl (el_o rfl) rfl (ef_o rfl) (e_ue hw57) (by omega) ?_
        refine e_Ok.ps1 (x := (0, 100)) (q := 115) 1 rfl ?_
        refine e_Ok.remn (fun z60 hz60 => ?_) rfl (by omega) (by omega)
        replace hz60 : z60 = (R + 1) % 100 := hz60
        have z60r : 0 ≤ z60 ∧ z60 ≤ 99 := by omega
        refine e_Ok.if1 rfl (fun h61 => ?_) (fun h61 => ?_)
        · replace h61 : (z60 : Int) ≠ 0 := h61
          refine e_Ok.rets rfl rfl ?_
          exfalso; omega
        · replace h61 : (z60 : Int) = 0 := Classical.not_not.mp (show ¬ ((z60 : Int) ≠ 0) from h61)
          refine e_Ok.ps2 (x := (1, 275)) (y := (0, 33060)) (q := 122) 2 rfl ?_
          refine e_Ok.getf (z := R + 1) rfl (el_o rfl) rfl (ef_o rfl) (e_ue hw57) (by omega) ?_
          refine e_Ok.ps1 (x := (0, 100)) (q := 127) 1 rfl ?_
          refine e_Ok.divn (fun z62 hz62 => ?_) rfl (by omega) (by omega)
          replace hz62 : z62 = (R + 1) / 100 := hz62
          have z62r : 0 ≤ z62 ∧ z62 ≤ 20 := by omega
          refine e_Ok.ps1 (x := (0, 1)) (q := 129) 1 rfl ?_
          refine e_Ok.sub' (z := z62 - 1) rfl rfl (by omega) ?_
          refine e_Ok.mul (z := 33060 * z62 - 33060) rfl (by omega) (by omega) ?_
          refine e_Ok.run (t' := (136, [(6, (0, 0)), (5, (0, 33060 * z62 - 33060)), (0, (1, 275)), (1, (0, x)), (2, (0, a)), (3, (0, b)), (4, (0, c))], [], w57)) 3 rfl ?_
          have hL63 : ∀ (nn : Nat) (y6 : Int) (v1 : eW), e_fr (mWr R E) w v1 ∧ e_Has mTy v1 ∧ (0 ≤ y6 ∧ y6 ≤ 33060) ∧ e_fr (mSo R) w57 v1 ∧ (∀ j, 0 ≤ j → j < y6 → v1 278 (33060 * ((R + 1) / 100) - 33060 + j) = w 276 j) → 33061 - y6 < nn → e_Ok 20 elay ecode eI (d + 1) 423 (136, [(0, (1, 275)), (5, (0, 33060 * z62 - 33060)), (6, (0, y6))], [], v1) (fun r w' => r = [] ∧ wrR w w' R E x a b c) := by
            intro nn
            induction nn with
            | zero => intro y6 v1 hj hm; obtain ⟨j65, j66, j67, j68, j69⟩ := hj; exfalso; omega
            | succ nn ih64 =>
              intro y6 v1 hj hm
              obtain ⟨j65, j66, j67, j68, j69⟩ := hj
              refine e_Ok.run (t' := (140, [(0, (1, 275)), (5, (0, 33060 * z62 - 33060)), (6, (0, y6))], [(0, 33060), (0, y6)], v1)) 2 rfl ?_
              refine e_Ok.if2 rfl (fun h70 => ?_) (fun h70 => ?_)
              · replace h70 : (y6 : Int) ≥ 33060 := h70
                refine e_Ok.rets rfl rfl ?_
                exfalso; omega
              · replace h70 : (y6 : Int) < 33060 := Int.not_le.mp (show ¬ ((y6 : Int) ≥ 33060) from h70)
                refine e_Ok.ps1 (x := (1, 275)) (q := 144) 1 rfl ?_
                refine e_Ok.getr (z := 278) rfl (el_o rfl) rfl (ef_o rfl) ((j68 275 2 (by first | exact no_97_3 | (unfold mSo; omega))).trans (e_uq hw57 (Or.inr (by decide)) (e_uq hw54 (Or.inl (by decide)) (e_uq hw51 (Or.inl (by decide)) (e_uq hw48 (Or.inl (by decide)) (e_uq hw45 (Or.inl (by decide)) ((q43 275 2 (by first | exact no_97_0 | (unfold mKw; omega))).trans (e_Has.eq hT (mt_o rfl))))))))) ⟨by decide, by decide⟩ ?_
                refine e_Ok.ps2 (x := (0, y6)) (y := (0, 33060 * z62 - 33060)) (q := 151) 2 rfl ?_
                refine e_Ok.add (z := 33060 * z62 + y6 - 33060) rfl (by omega) (by omega) ?_
                refine e_Ok.ps1 (x := (1, 275)) (q := 153) 1 rfl ?_
                refine e_Ok.getr (z := 276) rfl (el_o rfl) rfl (ef_o rfl) ((j68 275 0 (by first | exact no_97_3 | (unfold mSo; omega))).trans (e_uq hw57 (Or.inr (by decide)) (e_uq hw54 (Or.inl (by decide)) (e_uq hw51 (Or.inl (by decide)) (e_uq hw48 (Or.inl (by decide)) (e_uq hw45 (Or.inl (by decide)) ((q43 275 0 (by first | exact no_97_0 | (unfold mKw; omega))).trans (e_Has.eq hT (mt_o rfl))))))))) ⟨by decide, by decide⟩ ?_
                refine e_Ok.ps1 (x := (0, y6)) (q := 158) 1 rfl ?_
                have h71 := (hk276 y6 (by omega) (by omega))
                refine e_Ok.ald (z := w 276 y6) rfl (el_o rfl) rfl (by omega) ((j68 276 y6 (by first | exact no_97_5 | (unfold mSo; omega))).trans (e_uq hw57 (Or.inl (by decide)) (e_uq hw54 (Or.inl (by decide)) (e_uq hw51 (Or.inl (by decide)) (e_uq hw48 (Or.inl (by decide)) (e_uq hw45 (Or.inl (by decide)) ((q43 276 y6 (by first | exact no_97_6 | (unfold mKw; omega))).trans rfl))))))) (by omega) ?_
                refine e_Ok.ast rfl (el_o rfl) rfl rfl (by omega) ?_
                generalize hw72 : e_up v1 278 (33060 * z62 + y6 - 33060) (w 276 y6) = w72
                have hT74 : e_Has mTy w72 := e_Has.ups j66 hw72 rfl
                refine e_Ok.inc (z := y6 + 1) rfl rfl (by first | with_reducible rfl | omega) (by omega) ?_
                show e_Ok 20 elay ecode eI (d + 1) 423 (163, [(6, (0, y6 + 1)), (0, (1, 275)), (5, (0, 33060 * z62 - 33060))], [], w72) _
                refine e_Ok.ps0 (q := 136) 1 rfl ?_
                refine e_Ok.sub eAlk (e_sub_of rfl ?_) (ih64 (y6 + 1) w72 ⟨(show e_fr (mWr R E) w w72 from e_fr.up j65 hw72 (by unfold mWr mKw mSo; omega)), hT74, by omega, (e_fr.up j68 hw72 (by unfold mSo; omega)), (fun j g1 g2 => Decidable.byCases (p := j = y6) (fun e => by rw [e, show 33060 * ((R + 1) / 100) - 33060 + y6 = 33060 * z62 + y6 - 33060 by omega, ← hw72]; exact e_up_eq _ _ _ _) (fun e => Eq.trans (show w72 278 (33060 * ((R + 1) / 100) - 33060 + j) = v1 278 (33060 * ((R + 1) / 100) - 33060 + j) from by rw [← hw72]; exact e_up_ne _ _ (Or.inr (by omega))) (j69 j g1 (by omega))))⟩ (by omega))
                exact ⟨rfl, rfl, rfl, trivial⟩
          refine e_Ok.sub eAlk (e_sub_of rfl ?_) (hL63 (33061 + 1 : Int).toNat 0 w57 ⟨(show e_fr (mWr R E) w w57 from e_fr.up (show e_fr (mWr R E) w w54 from e_fr.up (show e_fr (mWr R E) w w51 from e_fr.up (show e_fr (mWr R E) w w48 from e_fr.up (show e_fr (mWr R E) w w45 from e_fr.up (show e_fr (mWr R E) w w41 from e_fr.trans (e_fr.refl w) (e_fr.mono q43 (fun c k q => by exact Or.inr (Or.inl q)))) hw45 (by first | exact Or.inr (Or.inr (Or.inl ⟨rfl, ⟨(by omega), (by omega)⟩⟩)) | (unfold mWr mKw mSo; omega))) hw48 (by first | exact Or.inr (Or.inr (Or.inl ⟨rfl, ⟨(by omega), (by omega)⟩⟩)) | (unfold mWr mKw mSo; omega))) hw51 (by first | exact Or.inr (Or.inr (Or.inl ⟨rfl, ⟨(by omega), (by omega)⟩⟩)) | (unfold mWr mKw mSo; omega))) hw54 (by first | exact Or.inr (Or.inr (Or.inl ⟨rfl, ⟨(by omega), (by omega)⟩⟩)) | (unfold mWr mKw mSo; omega))) hw57 (by first | exact Or.inl ⟨rfl, rfl⟩ | (unfold mWr mKw mSo; omega))), hT59, by omega, (e_fr.refl w57), (fun j g1 g2 => by omega)⟩ (by omega))
          exact ⟨rfl, rfl, rfl, trivial⟩
    · replace h2 : (x : Int) = 10 := Classical.not_not.mp (show ¬ ((x : Int) ≠ 10) from h2)
      have hw := hw10 (by omega)
      have hws := e_Has.get hT (nR_WAY_SIZE (a := a) (by omega)) (by decide)
      refine e_Ok.ps1 (x := (1, 275)) (q := 16) 1 rfl ?_
      refine e_Ok.getr (z := 276) rfl (el_o rfl) rfl (ef_o rfl) (e_Has.eq hT (mt_o rfl)) ⟨by decide, by decide⟩ ?_
      refine e_Ok.ps1 (x := (0, a)) (q := 20) 1 rfl ?_
      refine e_Ok.callS rfl (e_dq hd rfl) rfl rfl (c_268 (by omega)) (fun r75 w76 h77 => ?_)
      obtain ⟨rfl, rfl⟩ := h77
      refine e_Ok.nrm (q := 23) (st' := [(0, 36 * a + 16), (1, 276), (1, 275)]) rfl rfl ?_
      refine e_Ok.ps1 (x := (0, 3)) (q := 24) 1 rfl ?_
      refine e_Ok.add (z := 36 * a + 19) rfl (e_adl (by decide)) (by omega) ?_
      refine e_Ok.ald (z := w 276 (36 * a + 19)) rfl (el_o rfl) rfl (by omega) rfl (by omega) ?_
      refine e_Ok.ps2 (x := (0, 10)) (y := (0, x)) (q := 33) 3 rfl ?_
      refine e_Ok.if2 rfl (fun h78 => ?_) (fun h78 => ?_)
      · replace h78 : (x : Int) ≠ 10 := h78
        exfalso; omega
      · replace h78 : (x : Int) = 10 := Classical.not_not.mp (show ¬ ((x : Int) ≠ 10) from h78)
        refine e_Ok.ps1 (x := (0, 1)) (q := 41) 2 rfl ?_
        refine e_Ok.callV rfl (e_dq hd rfl) rfl rfl rfl rfl (c_420 hT (R := R) (E := E) hR (by omega) hE0 hE hEr (by omega) (by omega) (fun _ => (hw10 (by omega)).2.2)) (fun r79 w80 h81 => ?_)
        obtain ⟨rfl, q82, q82k⟩ := h81
        refine e_Ok.nrm (q := 44) (st' := []) rfl rfl ?_
        refine e_Ok.ps1 (x := (1, 275)) (q := 45) 1 rfl ?_
        refine e_Ok.getr (z := 279) rfl (el_o rfl) rfl (ef_o rfl) ((q82 275 4 (by first | exact no_97_0 | (unfold mKw; omega))).trans (e_Has.eq hT (mt_o rfl))) ⟨by decide, by decide⟩ ?_
        refine e_Ok.ps2 (x := (1, 275)) (y := (0, 4)) (q := 50) 2 rfl ?_
        refine e_Ok.getf (z := R) rfl (el_o rfl) rfl (ef_o rfl) ((q82 275 5 (by first | exact no_97_0 | (unfold mKw; omega))).trans hR) (by omega) ?_
        refine e_Ok.mul (z := 4 * R) rfl rfl (by omega) ?_
        refine e_Ok.ps1 (x := (0, x)) (q := 55) 1 rfl ?_
        refine e_Ok.ast rfl (el_o rfl) rfl rfl (by omega) ?_
        generalize hw84 : e_up w80 279 (4 * R) x = w84
        have hT86 : e_Has mTy w84 := e_Has.ups (show e_Has mTy w80 from kw_T hT q82) hw84 (mt_o rfl)
        refine e_Ok.ps1 (x := (1, 275)) (q := 57) 1 rfl ?_
        refine e_Ok.getr (z := 279) rfl (el_o rfl) rfl (ef_o rfl) (e_uq hw84 (Or.inl (by decide)) ((q82 275 4 (by first | exact no_97_0 | (unfold mKw; omega))).trans (e_Has.eq hT (mt_o rfl)))) ⟨by decide, by decide⟩ ?_
        refine e_Ok.ps2 (x := (1, 275)) (y := (0, 4)) (q := 62) 2 rfl ?_
        refine e_Ok.getf (z := R) rfl (el_o rfl) rfl (ef_o rfl) (e_uq hw84 (Or.inl (by decide)) ((q82 275 5 (by first | exact no_97_0 | (unfold mKw; omega))).trans hR)) (by omega) ?_
        refine e_Ok.mul (z := 4 * R) rfl rfl (by omega) ?_
        refine e_Ok.ps1 (x := (0, 1)) (q := 67) 1 rfl ?_
        refine e_Ok.add (z := 4 * R + 1) rfl rfl (by omega) ?_
        refine e_Ok.ps1 (x := (0, a)) (q := 69) 1 rfl ?_
        refine e_Ok.ast rfl (el_o rfl) rfl rfl (by omega) ?_
        generalize hw87 : e_up w84 279 (4 * R + 1) a = w87
        have hT89 : e_Has mTy w87 := e_Has.ups hT86 hw87 (mt_o rfl)
        refine e_Ok.ps1 (x := (1, 275)) (q := 71) 1 rfl ?_
        refine e_Ok.getr (z := 279) rfl (el_o rfl) rfl (ef_o rfl) (e_uq hw87 (Or.inl (by decide)) (e_uq hw84 (Or.inl (by decide)) ((q82 275 4 (by first | exact no_97_0 | (unfold mKw; omega))).trans (e_Has.eq hT (mt_o rfl))))) ⟨by decide, by decide⟩ ?_
        refine e_Ok.ps2 (x := (1, 275)) (y := (0, 4)) (q := 76) 2 rfl ?_
        refine e_Ok.getf (z := R) rfl (el_o rfl) rfl (ef_o rfl) (e_uq hw87 (Or.inl (by decide)) (e_uq hw84 (Or.inl (by decide)) ((q82 275 5 (by first | exact no_97_0 | (unfold mKw; omega))).trans hR))) (by omega) ?_
        refine e_Ok.mul (z := 4 * R) rfl rfl (by omega) ?_
        refine e_Ok.ps1 (x := (0, 2)) (q := 81) 1 rfl ?_
        refine e_Ok.add (z := 4 * R + 2) rfl rfl (by omega) ?_
        refine e_Ok.ps1 (x := (0, b)) (q := 83) 1 rfl ?_
        refine e_Ok.ast rfl (el_o rfl) rfl rfl (by omega) ?_
        generalize hw90 : e_up w87 279 (4 * R + 2) b = w90
        have hT92 : e_Has mTy w90 := e_Has.ups hT89 hw90 (mt_o rfl)
        refine e_Ok.ps1 (x := (1, 275)) (q := 85) 1 rfl ?_
        refine e_Ok.getr (z := 279) rfl (el_o rfl) rfl (ef_o rfl) (e_uq hw90 (Or.inl (by decide)) (e_uq hw87 (Or.inl (by decide)) (e_uq hw84 (Or.inl (by decide)) ((q82 275 4 (by first | exact no_97_0 | (unfold mKw; omega))).trans (e_Has.eq hT (mt_o rfl)))))) ⟨by decide, by decide⟩ ?_
        refine e_Ok.ps2 (x := (1, 275)) (y := (0, 4)) (q := 90) 2 rfl ?_
        refine e_Ok.getf (z := R) rfl (el_o rfl) rfl (ef_o rfl) (e_uq hw90 (Or.inl (by decide)) (e_uq hw87 (Or.inl (by decide)) (e_uq hw84 (Or.inl (by decide)) ((q82 275 5 (by first | exact no_97_0 | (unfold mKw; omega))).trans hR)))) (by omega) ?_
        refine e_Ok.mul (z := 4 * R) rfl rfl (by omega) ?_
        refine e_Ok.ps1 (x := (0, 3)) (q := 95) 1 rfl ?_
        refine e_Ok.add (z := 4 * R + 3) rfl rfl (by omega) ?_
        refine e_Ok.ps1 (x := (0, c)) (q := 98) 1 rfl ?_
        refine e_Ok.ast rfl (el_o rfl) rfl rfl (by omega) ?_
        generalize hw93 : e_up w90 279 (4 * R + 3) c = w93
        have hT95 : e_Has mTy w93 := e_Has.ups hT92 hw93 (mt_o rfl)
        refine e_Ok.ps2 (x := (1, 275)) (y := (1, 275)) (q := 101) 2 rfl ?_
        refine e_Ok.getf (z := R) rfl (el_o rfl) rfl (ef_o rfl) (e_uq hw93 (Or.inl (by decide)) (e_uq hw90 (Or.inl (by decide)) (e_uq hw87 (Or.inl (by decide)) (e_uq hw84 (Or.inl (by decide)) ((q82 275 5 (by first | exact no_97_0 | (unfold mKw; omega))).trans hR))))) (by omega) ?_
        refine e_Ok.ps1 (x := (0, 1)) (q := 105) 1 rfl ?_
        refine e_Ok.add (z := R + 1) rfl rfl (by omega) ?_
        refine e_Ok.putf rfl (el_o rfl) rfl (ef_o rfl) ?_
        generalize hw101 : e_up w93 275 5 (R + 1) = w101
        have f103 : e_fr (mWr R E) w w101 := e_fr.up (show e_fr (mWr R E) w w93 from e_fr.up (show e_fr (mWr R E) w w90 from e_fr.up (show e_fr (mWr R E) w w87 from e_fr.up (show e_fr (mWr R E) w w84 from e_fr.up (show e_fr (mWr R E) w w80 from e_fr.trans (e_fr.refl w) (e_fr.mono q82 (fun c k q => by exact Or.inr (Or.inl q)))) hw84 (by first | exact Or.inr (Or.inr (Or.inl ⟨rfl, ⟨(by omega), (by omega)⟩⟩)) | (unfold mWr mKw mSo; omega))) hw87 (by first | exact Or.inr (Or.inr (Or.inl ⟨rfl, ⟨(by omega), (by omega)⟩⟩)) | (unfold mWr mKw mSo; omega))) hw90 (by first | exact Or.inr (Or.inr (Or.inl ⟨rfl, ⟨(by omega), (by omega)⟩⟩)) | (unfold mWr mKw mSo; omega))) hw93 (by first | exact Or.inr (Or.inr (Or.inl ⟨rfl, ⟨(by omega), (by omega)⟩⟩)) | (unfold mWr mKw mSo; omega))) hw101 (by first | exact Or.inl ⟨rfl, rfl⟩ | (unfold mWr mKw mSo; omega))
        have hT104 : e_Has mTy w101 := e_Has.ups hT95 hw101 (mt_o rfl)
        refine e_Ok.ps1 (x := (1, 275)) (q := 110) 1 rfl ?_
        refine e_Ok.getf (z := R + 1) rfl (el_o rfl) rfl (ef_o rfl) (e_ue hw101) (by omega) ?_
        refine e_Ok.ps1 (x := (0, 100)) (q := 115) 1 rfl ?_
        refine e_Ok.remn (fun z105 hz105 => ?_) rfl (by omega) (by omega)
        replace hz105 : z105 = (R + 1) % 100 := hz105
        have z105r : 0 ≤ z105 ∧ z105 ≤ 99 := by omega
        refine e_Ok.if1 rfl (fun h106 => ?_) (fun h106 => ?_)
        · replace h106 : (z105 : Int) ≠ 0 := h106
          refine e_Ok.rets rfl rfl ?_
          have e5 : w101 355 R = w80 355 R := (e_uq hw101 (Or.inl (by decide)) (e_uq hw93 (Or.inl (by decide)) (e_uq hw90 (Or.inl (by decide)) (e_uq hw87 (Or.inl (by decide)) (e_uq hw84 (Or.inl (by decide)) rfl)))))
          have e6 : w101 356 R = w80 356 R := (e_uq hw101 (Or.inl (by decide)) (e_uq hw93 (Or.inl (by decide)) (e_uq hw90 (Or.inl (by decide)) (e_uq hw87 (Or.inl (by decide)) (e_uq hw84 (Or.inl (by decide)) rfl)))))
          exact ⟨rfl, (e_ue hw101), ⟨(e_uq hw101 (Or.inl (by omega)) (e_uq hw93 (Or.inr (by omega)) (e_uq hw90 (Or.inr (by omega)) (e_uq hw87 (Or.inr (by omega)) (e_ue hw84))))), (e_uq hw101 (Or.inl (by omega)) (e_uq hw93 (Or.inr (by omega)) (e_uq hw90 (Or.inr (by omega)) (e_ue hw87)))), (e_uq hw101 (Or.inl (by omega)) (e_uq hw93 (Or.inr (by omega)) (e_ue hw90))), (e_uq hw101 (Or.inl (by omega)) (e_ue hw93))⟩, f103, Or.inl ⟨by omega, q82k.elim (fun h => Or.inl ⟨h.2.1, e5.trans h.2.2.1, e6.trans h.2.2.2.1, (fun j g1 g2 => Eq.trans (e_uq hw101 (Or.inl (by omega)) (e_uq hw93 (Or.inl (by omega)) (e_uq hw90 (Or.inl (by omega)) (e_uq hw87 (Or.inl (by omega)) (e_uq hw84 (Or.inl (by omega)) rfl))))) (h.2.2.2.2 j g1 g2))⟩) (fun h => Or.inr ⟨h.1.resolve_left (fun h => h rfl), e5.trans h.2.1, e6.trans h.2.2⟩)⟩, (fun e => by exfalso; omega)⟩
        · replace h106 : (z105 : Int) = 0 := Classical.not_not.mp (show ¬ ((z105 : Int) ≠ 0) from h106)
          refine e_Ok.ps2 (x := (1, 275)) (y := (0, 33060)) (q := 122) 2 rfl ?_
          refine e_Ok.getf (z := R + 1) rfl (el_o rfl) rfl (ef_o rfl) (e_ue hw101) (by omega) ?_
          refine e_Ok.ps1 (x := (0, 100)) (q := 127) 1 rfl ?_
          refine e_Ok.divn (fun z107 hz107 => ?_) rfl (by omega) (by omega)
          replace hz107 : z107 = (R + 1) / 100 := hz107
          have z107r : 0 ≤ z107 ∧ z107 ≤ 20 := by omega
          refine e_Ok.ps1 (x := (0, 1)) (q := 129) 1 rfl ?_
          refine e_Ok.sub' (z := z107 - 1) rfl rfl (by omega) ?_
          refine e_Ok.mul (z := 33060 * z107 - 33060) rfl (by omega) (by omega) ?_
          refine e_Ok.run (t' := (136, [(6, (0, 0)), (5, (0, 33060 * z107 - 33060)), (0, (1, 275)), (1, (0, x)), (2, (0, a)), (3, (0, b)), (4, (0, c))], [], w101)) 3 rfl ?_
          have hL108 : ∀ (nn : Nat) (y6 : Int) (v1 : eW), e_fr (mWr R E) w v1 ∧ e_Has mTy v1 ∧ (0 ≤ y6 ∧ y6 ≤ 33060) ∧ e_fr (mSo R) w101 v1 ∧ (∀ j, 0 ≤ j → j < y6 → v1 278 (33060 * ((R + 1) / 100) - 33060 + j) = w 276 j) → 33061 - y6 < nn → e_Ok 20 elay ecode eI (d + 1) 423 (136, [(0, (1, 275)), (5, (0, 33060 * z107 - 33060)), (6, (0, y6))], [], v1) (fun r w' => r = [] ∧ wrR w w' R E x a b c) := by
            intro nn
            induction nn with
            | zero => intro y6 v1 hj hm; obtain ⟨j110, j111, j112, j113, j114⟩ := hj; exfalso; omega
            | succ nn ih109 =>
              intro y6 v1 hj hm
              obtain ⟨j110, j111, j112, j113, j114⟩ := hj
              refine e_Ok.run (t' := (140, [(0, (1, 275)), (5, (0, 33060 * z107 - 33060)), (6, (0, y6))], [(0, 33060), (0, y6)], v1)) 2 rfl ?_
              refine e_Ok.if2 rfl (fun h115 => ?_) (fun h115 => ?_)
              · replace h115 : (y6 : Int) ≥ 33060 := h115
                refine e_Ok.rets rfl rfl ?_
                have e5 : v1 355 R = w80 355 R := ((j113 355 R (by first | exact no_97_1 | (unfold mSo; omega))).trans (e_uq hw101 (Or.inl (by decide)) (e_uq hw93 (Or.inl (by decide)) (e_uq hw90 (Or.inl (by decide)) (e_uq hw87 (Or.inl (by decide)) (e_uq hw84 (Or.inl (by decide)) rfl))))))
                have e6 : v1 356 R = w80 356 R := ((j113 356 R (by first | exact no_97_2 | (unfold mSo; omega))).trans (e_uq hw101 (Or.inl (by decide)) (e_uq hw93 (Or.inl (by decide)) (e_uq hw90 (Or.inl (by decide)) (e_uq hw87 (Or.inl (by decide)) (e_uq hw84 (Or.inl (by decide)) rfl))))))
                exact ⟨rfl, ((j113 275 5 (by first | exact no_97_3 | (unfold mSo; omega))).trans (e_ue hw101)), ⟨((j113 279 (4 * R) (by first | exact no_97_4 | (unfold mSo; omega))).trans (e_uq hw101 (Or.inl (by omega)) (e_uq hw93 (Or.inr (by omega)) (e_uq hw90 (Or.inr (by omega)) (e_uq hw87 (Or.inr (by omega)) (e_ue hw84)))))), ((j113 279 (4 * R + 1) (by first | exact no_97_4 | (unfold mSo; omega))).trans (e_uq hw101 (Or.inl (by omega)) (e_uq hw93 (Or.inr (by omega)) (e_uq hw90 (Or.inr (by omega)) (e_ue hw87))))), ((j113 279 (4 * R + 2) (by first | exact no_97_4 | (unfold mSo; omega))).trans (e_uq hw101 (Or.inl (by omega)) (e_uq hw93 (Or.inr (by omega)) (e_ue hw90)))), ((j113 279 (4 * R + 3) (by first | exact no_97_4 | (unfold mSo; omega))).trans (e_uq hw101 (Or.inl (by omega)) (e_ue hw93)))⟩, j110, Or.inl ⟨by omega, q82k.elim (fun h => Or.inl ⟨h.2.1, e5.trans h.2.2.1, e6.trans h.2.2.2.1, (fun j g1 g2 => Eq.trans ((j113 354 (E + j) (by first | exact no_97_7 | (unfold mSo; omega))).trans (e_uq hw101 (Or.inl (by omega)) (e_uq hw93 (Or.inl (by omega)) (e_uq hw90 (Or.inl (by omega)) (e_uq hw87 (Or.inl (by omega)) (e_uq hw84 (Or.inl (by omega)) rfl)))))) (h.2.2.2.2 j g1 g2))⟩) (fun h => Or.inr ⟨h.1.resolve_left (fun h => h rfl), e5.trans h.2.1, e6.trans h.2.2⟩)⟩, (fun _ k g1 g2 => j114 k g1 (by omega))⟩
              · replace h115 : (y6 : Int) < 33060 := Int.not_le.mp (show ¬ ((y6 : Int) ≥ 33060) from h115)
                refine e_Ok.ps1 (x := (1, 275)) (q := 144) 1 rfl ?_
                refine e_Ok.getr (z := 278) rfl (el_o rfl) rfl (ef_o rfl) ((j113 275 2 (by first | exact no_97_3 | (unfold mSo; omega))).trans (e_uq hw101 (Or.inr (by decide)) (e_uq hw93 (Or.inl (by decide)) (e_uq hw90 (Or.inl (by decide)) (e_uq hw87 (Or.inl (by decide)) (e_uq hw84 (Or.inl (by decide)) ((q82 275 2 (by first | exact no_97_0 | (unfold mKw; omega))).trans (e_Has.eq hT (mt_o rfl))))))))) ⟨by decide, by decide⟩ ?_
                refine e_Ok.ps2 (x := (0, y6)) (y := (0, 33060 * z107 - 33060)) (q := 151) 2 rfl ?_
                refine e_Ok.add (z := 33060 * z107 + y6 - 33060) rfl (by omega) (by omega) ?_
                refine e_Ok.ps1 (x := (1, 275)) (q := 153) 1 rfl ?_
                refine e_Ok.getr (z := 276) rfl (el_o rfl) rfl (ef_o rfl) ((j113 275 0 (by first | exact no_97_3 | (unfold mSo; omega))).trans (e_uq hw101 (Or.inr (by decide)) (e_uq hw93 (Or.inl (by decide)) (e_uq hw90 (Or.inl (by decide)) (e_uq hw87 (Or.inl (by decide)) (e_uq hw84 (Or.inl (by decide)) ((q82 275 0 (by first | exact no_97_0 | (unfold mKw; omega))).trans (e_Has.eq hT (mt_o rfl))))))))) ⟨by decide, by decide⟩ ?_
                refine e_Ok.ps1 (x := (0, y6)) (q := 158) 1 rfl ?_
                have h116 := (hk276 y6 (by omega) (by omega))
                refine e_Ok.ald (z := w 276 y6) rfl (el_o rfl) rfl (by omega) ((j113 276 y6 (by first | exact no_97_5 | (unfold mSo; omega))).trans (e_uq hw101 (Or.inl (by decide)) (e_uq hw93 (Or.inl (by decide)) (e_uq hw90 (Or.inl (by decide)) (e_uq hw87 (Or.inl (by decide)) (e_uq hw84 (Or.inl (by decide)) ((q82 276 y6 (by first | exact no_97_6 | (unfold mKw; omega))).trans rfl))))))) (by omega) ?_
                refine e_Ok.ast rfl (el_o rfl) rfl rfl (by omega) ?_
                generalize hw117 : e_up v1 278 (33060 * z107 + y6 - 33060) (w 276 y6) = w117
                have hT119 : e_Has mTy w117 := e_Has.ups j111 hw117 rfl
                refine e_Ok.inc (z := y6 + 1) rfl rfl (by first | with_reducible rfl | omega) (by omega) ?_
                show e_Ok 20 elay ecode eI (d + 1) 423 (163, [(6, (0, y6 + 1)), (0, (1, 275)), (5, (0, 33060 * z107 - 33060))], [], w117) _
                refine e_Ok.ps0 (q := 136) 1 rfl ?_
                refine e_Ok.sub eAlk (e_sub_of rfl ?_) (ih109 (y6 + 1) w117 ⟨(show e_fr (mWr R E) w w117 from e_fr.up j110 hw117 (by unfold mWr mKw mSo; omega)), hT119, by omega, (e_fr.up j113 hw117 (by unfold mSo; omega)), (fun j g1 g2 => Decidable.byCases (p := j = y6) (fun e => by rw [e, show 33060 * ((R + 1) / 100) - 33060 + y6 = 33060 * z107 + y6 - 33060 by omega, ← hw117]; exact e_up_eq _ _ _ _) (fun e => Eq.trans (show w117 278 (33060 * ((R + 1) / 100) - 33060 + j) = v1 278 (33060 * ((R + 1) / 100) - 33060 + j) from by rw [← hw117]; exact e_up_ne _ _ (Or.inr (by omega))) (j114 j g1 (by omega))))⟩ (by omega))
                exact ⟨rfl, rfl, rfl, trivial⟩
          refine e_Ok.sub eAlk (e_sub_of rfl ?_) (hL108 (33061 + 1 : Int).toNat 0 w101 ⟨f103, hT104, by omega, (e_fr.refl w101), (fun j g1 g2 => by omega)⟩ (by omega))
          exact ⟨rfl, rfl, rfl, trivial⟩
  · replace h1 : (0 : Int) ≠ 0 := (show ¬ ((0 : Int) = 0) from h1)
    exfalso; omega
theorem c_423_a {d : Nat} (hd : 22 ≤ d) {w : eW} (hT : e_Has mTy w) {x a b c : Int} (hAg : w 275 6 = 1) : e_Ok 20 elay ecode eI d 423 (0, [(0, (1, 275)), (1, (0, x)), (2, (0, a)), (3, (0, b)), (4, (0, c))], [], w) (fun r w' => r = [] ∧ w = w') := by
  obtain ⟨d, rfl⟩ : ∃ e, d = e + 1 := ⟨d - 1, by omega⟩
  refine e_Ok.ps1 (x := (1, 275)) (q := 1) 1 rfl ?_
  refine e_Ok.getf (z := 1) rfl (el_o rfl) rfl (ef_o rfl) hAg (by omega) ?_
  refine e_Ok.if1 rfl (fun h1 => ?_) (fun h1 => ?_)
  · replace h1 : (1 : Int) = 0 := h1
    exfalso; omega
  · replace h1 : (1 : Int) ≠ 0 := (show ¬ ((1 : Int) = 0) from h1)
    refine e_Ok.rets rfl rfl ?_
    exact ⟨rfl, rfl⟩
end
end
-- part 98
section
noncomputable section
/-! calls that are written down: what they make of the cell is the same, live and again -/
def wE (w : eW) : Int := if w 275 5 = 0 then 0 else w 356 (w 275 5 - 1)
/-- of the book: how many rows, whether it is done again, where the last way ends -/
def bkE (w : eW) : Prop := (0 ≤ w 275 5 ∧ w 275 5 ≤ 2000) ∧ (w 275 6 = 0 ∨ w 275 6 = 1) ∧ (1 ≤ w 275 5 → 0 ≤ w 356 (w 275 5 - 1) ∧ w 356 (w 275 5 - 1) ≤ 200000)
theorem bkE.fr {w w' : eW} (h : bkE w) (h5 : w' 275 5 = w 275 5) (h6 : w' 275 6 = w 275 6) (hw : ∀ k, w' 356 k = w 356 k) : bkE w' ∧ wE w' = wE w := by
  unfold bkE wE
  rw [h5, h6, hw]
  exact ⟨h, rfl⟩
theorem c_423_u {d : Nat} (hd : 22 ≤ d) {w : eW} (hT : e_Has mTy w) (hB : bkE w) {x a b c : Int} (hN : w 275 6 = 0 → w 275 5 ≤ 1999) (hx : 0 ≤ x ∧ x ≤ 11) (hw10 : x = 10 → (0 ≤ a ∧ a ≤ 3) ∧ 0 ≤ w 276 (36 * a + 19) ∧ ∀ i, 0 ≤ i → i ≤ w 276 (36 * a + 19) - 1 → -2147483648 ≤ w 353 i ∧ w 353 i ≤ 2147483647) :
    e_Ok 20 elay ecode eI d 423 (0, [(0, (1, 275)), (1, (0, x)), (2, (0, a)), (3, (0, b)), (4, (0, c))], [], w) (fun r w' => r = [] ∧ ((w 275 6 = 1 ∧ w = w') ∨ (w 275 6 = 0 ∧ wrR w w' (w 275 5) (wE w) x a b c))) := by
  obtain ⟨h1, h2, h3⟩ := hB
  rcases h2 with h2 | h2
  · refine (c_423 hd hT (R := w 275 5) (E := wE w) rfl ⟨h1.1, hN h2⟩ h2 (fun e => by unfold wE; rw [if_pos e]) (fun e => by unfold wE; rw [if_neg (by omega)]) ?_ hx hw10).imp (fun r w' h => ⟨h.1, Or.inr ⟨h2, h.2⟩⟩)
    unfold wE
    split
    · omega
    · exact h3 (by omega)
  · exact (c_423_a hd hT h2).imp (fun r w' h => ⟨h.1, Or.inl ⟨h2, h.2⟩⟩)
theorem wr_K0 {R E c k : Int} (h : mWr R E c k) : ¬ K0 c k := by
  rcases h with ⟨rfl, rfl⟩ | (⟨rfl, -⟩ | ⟨rfl | rfl, -⟩) | ⟨rfl, -⟩ | ⟨rfl, -⟩
  all_goals exact (by decide : ¬ ((1 : Int) ≤ 0))
/-- the call x (a, b, c) was done, and the cell stands at s -/
def opS (w w' : eW) (G : Int → Gh) (x a b c : Int) (s : Int → Int) : Prop := (∀ k, w' 276 k = s k) ∧ mInv w' G ∧ ∃ wm, e_fr mTi w wm ∧ (∀ k, wm 276 k = s k) ∧ ((w 275 6 = 1 ∧ wm = w') ∨ (w 275 6 = 0 ∧ wrR wm w' (w 275 5) (wE w) x a b c))
theorem no_98_0 {k : Int} : ¬ mTi 356 k := by unfold mTi; omega
theorem opS.of {w wm w' : eW} {G : Int → Gh} {x a b c : Int} {s : Int → Int} (hF : e_fr mTi w wm) (hI : mInv wm G) (hs : ∀ k, wm 276 k = s k) (h : (wm 275 6 = 1 ∧ wm = w') ∨ (wm 275 6 = 0 ∧ wrR wm w' (wm 275 5) (wE wm) x a b c)) : opS w w' G x a b c s := by
  have e5 : wm 275 5 = w 275 5 := hF _ _ (by unfold mTi; omega)
  have e6 : wm 275 6 = w 275 6 := hF _ _ (by unfold mTi; omega)
  have eE : wE wm = wE w := by unfold wE; rw [e5, hF 356 _ no_98_0]
  rcases h with ⟨h1, rfl⟩ | ⟨h1, h2⟩
  · exact ⟨hs, hI, wm, hF, hs, Or.inl ⟨e6 ▸ h1, rfl⟩⟩
  · rw [e5, eE] at h2
    have hw := h2.2.2.1
    refine ⟨fun k => Eq.trans (hw 276 k (fun q => wr_K0 q (K0_now k))) (hs k), hI.low (fun c k q => hw c k (fun q1 => wr_K0 q1 q)), wm, hF, hs, Or.inr ⟨e6 ▸ h1, h2⟩⟩
/-- what a method makes of 'now' -/
def nowF (M : Nat) (l : eL) (w : eW) (k : Int) : Int := (e_phi M (0, l, [], e_pz K0 w)).2 276 k
theorem nowF_eq {M : Nat} {l : eL} {w u : eW} (hu : ∀ c k, K0 c k → u c k = w c k) : nowF M l u = nowF M l w := by
  funext k
  unfold nowF
  rw [e_pz_eq hu]
theorem e_Ok.detN {d M : Nat} {l : eL} {w : eW} {Q : eW → List eV → eW → Prop} (hn : (l.map Prod.fst).Nodup) (h : ∀ u, (∀ c k, K0 c k → u c k = w c k) → e_Ok 20 elay ecode eI d M (0, l, [], u) (Q u)) (hq : ∀ u r v, (∀ c k, K0 c k → u c k = w c k) → Q u r v → e_Has mTy v) : e_Ok 20 elay ecode eI d M (0, l, [], w) (fun r v => Q w r v ∧ (∀ k, v 276 k = nowF M l w k) ∧ r = (e_phi M (0, l, [], e_pz K0 w)).1) := by
  refine (e_Ok.det K0 hn h).imp (fun r v h => ?_)
  obtain ⟨h1, h2, h3, h4⟩ := h
  refine ⟨h1, fun k => h4 276 k ?_, h3⟩
  have := (hq _ _ _ (fun c k q => e_pz_in q) h2).now k
  unfold e_okz
  simp only [Bool.and_eq_true, decide_eq_true_eq]
  exact this
theorem d_323 {d : Nat} (hd : 23 ≤ d) {w : eW} (hT : e_Has mTy w) (hA : mAc w) {p v : Int} (hp : 0 ≤ p ∧ p ≤ 63) (hv : -2147483648 ≤ v ∧ v ≤ 2147483647) : e_Ok 20 elay ecode eI d 323 (0, [(0, (1, 275)), (1, (0, p)), (2, (0, v))], [], w) (fun r w' => (r = [] ∧ e_fr mO w w' ∧ e_Has mTy w') ∧ ∀ k, w' 276 k = nowF 323 [(0, (1, 275)), (1, (0, p)), (2, (0, v))] w k) :=
  (e_Ok.detN (l := [(0, (1, 275)), (1, (0, p)), (2, (0, v))]) (show ([0, 1, 2] : List Nat).Nodup by decide) (fun u hu => c_323 hd (hT.low hu) (mAc.fr' (S := fun c k => ¬ K0 c k) (fun k q => q (by exact (by decide : (-1 : Int) ≤ 63))) (fun c k q => hu c k (Classical.not_not.mp q)) hA) hp hv) (fun u r v hu q => q.2.2)).imp (fun r v h => ⟨h.1, h.2.1⟩)
end
end
-- part 99
section
noncomputable section
theorem o_ti {c k : Int} (q : mO c k) : mTi c k := by unfold mO at q; unfold mTi; omega
theorem o_idl {c k : Int} (q : mO c k) : idl c k := by unfold mO at q; unfold idl; omega
def mBk (w : eW) : Prop := w 275 5 = 2000 ∧ w 275 6 = 0
/-- how far time and events went -/
def evG (w w' : eW) : Prop := w 276 0 ≤ w' 276 0 ∧ w' 276 5 ≤ w 276 5 + 16 + 900 * (w' 276 0 - w 276 0)
theorem opS.ev {w wm w' : eW} {G : Int → Gh} {x a b c : Int} {s : Int → Int} (h : opS w w' G x a b c s) (hs : ∀ k, wm 276 k = s k) (he : evG w wm) : opS w w' G x a b c s ∧ evG w w' := by
  refine ⟨h, ?_⟩
  unfold evG at he ⊢
  rw [h.1 0, h.1 5, ← hs 0, ← hs 5]
  exact he
theorem c_422_x {d : Nat} {w : eW} (hT : e_Has mTy w) (hB : bkE w) : e_Ok 20 elay ecode eI d 422 (0, [(0, (1, 275))], [], w) (fun r w' => ∃ z : Int, r = [(0, z)] ∧ w = w' ∧ ((z = 1 ∧ mBk w) ∨ (z = 0 ∧ ¬ mBk w))) := by
  have hB1 := hB.1
  have hB2 := hB.2.1
  refine e_Ok.ps1 (x := (1, 275)) (q := 1) 1 rfl ?_
  refine e_Ok.getf (z := w 275 5) rfl (el_o rfl) rfl (ef_o rfl) rfl (by omega) ?_
  refine e_Ok.ps1 (x := (0, 2000)) (q := 7) 1 rfl ?_
  refine e_Ok.if2 rfl (fun h1 => ?_) (fun h1 => ?_)
  · replace h1 : (w 275 5 : Int) ≠ 2000 := h1
    refine e_Ok.ps1 (x := (0, 0)) (q := 22) 1 rfl ?_
    refine e_Ok.rets rfl rfl ?_
    exact ⟨_, rfl, rfl, Or.inr ⟨rfl, by unfold mBk; omega⟩⟩
  · replace h1 : (w 275 5 : Int) = 2000 := Classical.not_not.mp (show ¬ ((w 275 5 : Int) ≠ 2000) from h1)
    refine e_Ok.ps1 (x := (1, 275)) (q := 11) 1 rfl ?_
    refine e_Ok.getf (z := w 275 6) rfl (el_o rfl) rfl (ef_o rfl) rfl (by omega) ?_
    refine e_Ok.if1 rfl (fun h2 => ?_) (fun h2 => ?_)
    · replace h2 : (w 275 6 : Int) ≠ 0 := h2
      refine e_Ok.ps1 (x := (0, 0)) (q := 22) 1 rfl ?_
      refine e_Ok.rets rfl rfl ?_
      exact ⟨_, rfl, rfl, Or.inr ⟨rfl, by unfold mBk; omega⟩⟩
    · replace h2 : (w 275 6 : Int) = 0 := Classical.not_not.mp (show ¬ ((w 275 6 : Int) ≠ 0) from h2)
      refine e_Ok.ps1 (x := (0, 1)) (q := 22) 2 rfl ?_
      refine e_Ok.rets rfl rfl ?_
      exact ⟨_, rfl, rfl, Or.inl ⟨rfl, by unfold mBk; omega⟩⟩
theorem no_99_0 : ¬ mTi 275 5 := by unfold mTi; omega
theorem no_99_1 : ¬ mTi 275 6 := by unfold mTi; omega
theorem no_99_2 {k : Int} : ¬ mTi 356 k := by unfold mTi; omega
theorem no_99_3 : ¬ mO 276 0 := by unfold mO; omega
theorem no_99_4 : ¬ mO 276 5 := by unfold mO; omega
set_option maxHeartbeats 4000000 in
theorem c_427 {d : Nat} (hd : 25 ≤ d) {w : eW} {G : Int → Gh} (hI : mInv w G) (hB : bkE w) (hE : w 276 5 ≤ 7000000) {p1 p2 : Int} (g1 : -2147483648 ≤ p1 ∧ p1 ≤ 2147483647) (g2 : -2147483648 ≤ p2 ∧ p2 ≤ 2147483647) : e_Ok 20 elay ecode eI d 427 (0, [(0, (1, 275)), (1, (0, p1)), (2, (0, p2))], [], w) (fun r w' => ∃ z : Int, r = [(0, z)] ∧ ((w = w' ∧ ¬ ((0 ≤ p1 ∧ p1 ≤ 63 ∧ w 275 3 = 1) ∧ ¬ mBk w)) ∨ ((0 ≤ p1 ∧ p1 ≤ 63 ∧ w 275 3 = 1) ∧ ¬ mBk w ∧ opS w w' G 2 p1 p2 0 (nowF 323 [(0, (1, 275)), (1, (0, p1)), (2, (0, p2))] w) ∧ evG w w'))) := by
  obtain ⟨d, rfl⟩ : ∃ e, d = e + 1 := ⟨d - 1, by omega⟩
  refine e_Ok.ps2 (x := (0, p1)) (y := (1, 275)) (q := 2) 2 rfl ?_
  refine e_Ok.callV rfl (e_dq hd rfl) rfl rfl rfl rfl (c_424 (e_dq hd rfl)) (fun r1 w2 h3 => ?_)
  obtain ⟨z4, rfl, rfl, q5⟩ := h3
  obtain ⟨rfl, q5⟩ | ⟨rfl, q5⟩ := q5
  · refine e_Ok.nrm (q := 5) (st' := [(0, 1)]) rfl rfl ?_
    refine e_Ok.if1 rfl (fun h6 => ?_) (fun h6 => ?_)
    · replace h6 : (1 : Int) ≠ 0 := h6
      refine e_Ok.ps1 (x := (1, 275)) (q := 11) 1 rfl ?_
      have h7 := (e_Has.get hI.1 (c := 275) (k := 3) (lo := 0) (hi := 1) rfl (by decide))
      refine e_Ok.getf (z := w 275 3) rfl (el_o rfl) rfl (ef_o rfl) rfl (e_bq h7 (by decide) (by decide)) ?_
      refine e_Ok.if1 rfl (fun h8 => ?_) (fun h8 => ?_)
      · replace h8 : (w 275 3 : Int) ≠ 0 := h8
        refine e_Ok.ps1 (x := (1, 275)) (q := 21) 1 rfl ?_
        refine e_Ok.callV rfl (e_dq hd rfl) rfl rfl rfl rfl (c_422_x hI.1 hB) (fun r9 w10 h11 => ?_)
        obtain ⟨z12, rfl, rfl, q13⟩ := h11
        obtain ⟨rfl, q13⟩ | ⟨rfl, q13⟩ := q13
        · refine e_Ok.nrm (q := 24) (st' := [(0, 1)]) rfl rfl ?_
          refine e_Ok.if1 rfl (fun h14 => ?_) (fun h14 => ?_)
          · replace h14 : (1 : Int) = 0 := h14
            exfalso; omega
          · replace h14 : (1 : Int) ≠ 0 := (show ¬ ((1 : Int) = 0) from h14)
            refine e_Ok.ps1 (x := (0, (-3))) (q := 29) 1 rfl ?_
            refine e_Ok.rets rfl rfl ?_
            exact ⟨_, rfl, Or.inl ⟨rfl, fun hc => by first | exact hc.2 (by assumption) | (have h1 := hc.1; omega)⟩⟩
        · refine e_Ok.nrm (q := 24) (st' := [(0, 0)]) rfl rfl ?_
          refine e_Ok.if1 rfl (fun h15 => ?_) (fun h15 => ?_)
          · replace h15 : (0 : Int) = 0 := h15
            refine e_Ok.ps1 (x := (1, 275)) (q := 31) 1 rfl ?_
            refine e_Ok.getr (z := 276) rfl (el_o rfl) rfl (ef_o rfl) (e_Has.eq hI.1 rfl) ⟨by decide, by decide⟩ ?_
            refine e_Ok.ps2 (x := (0, p1)) (y := (0, 160)) (q := 38) 2 rfl ?_
            refine e_Ok.add (z := p1 + 160) rfl (Int.add_comm _ _) (by omega) ?_
            have h16 := (e_Has.get hI.1 (c := 276) (k := p1 + 160) (lo := (-2147483648)) (hi := 2147483647) (nR_OWN (p := p1) (by omega)) (by decide))
            refine e_Ok.ald (z := w 276 (p1 + 160)) rfl (el_o rfl) rfl (by omega) rfl (e_bq h16 (by decide) (by decide)) ?_
            refine e_Ok.run (t' := (44, [(3, (0, w 276 (p1 + 160))), (0, (1, 275)), (1, (0, p1)), (2, (0, p2))], [(0, p2), (0, p1), (1, 275)], w)) 4 rfl ?_
            refine e_Ok.callV rfl (e_dq hd rfl) rfl rfl rfl rfl (d_323 (e_dq hd rfl) hI.1 hI.2.1 (by omega) (by omega)) (fun r17 w18 h19 => ?_)
            obtain ⟨⟨rfl, q20, q20T⟩, q20s⟩ := h19
            have f21 : e_fr mTi w w18 := e_fr.trans (e_fr.refl w) (e_fr.mono q20 (fun c k q => by exact o_ti q))
            have hI22 : mInv w18 G := mInv.same hI q20 q20T (fun c k q => o_idl q)
            refine e_Ok.nrm (q := 47) (st' := []) rfl rfl ?_
            refine e_Ok.run (t' := (52, [(3, (0, w 276 (p1 + 160))), (0, (1, 275)), (1, (0, p1)), (2, (0, p2))], [(0, 0), (0, p2), (0, p1), (0, 2), (1, 275)], w18)) 5 rfl ?_
            refine e_Ok.callV rfl (e_dq hd rfl) rfl rfl rfl rfl (c_423_u (e_dq hd rfl) q20T (bkE.fr hB (f21 275 5 no_99_0) (f21 275 6 no_99_1) (fun k => f21 356 k no_99_2)).1 (fun e => by have e5 : w18 275 5 = w 275 5 := f21 275 5 no_99_0; have e6 : w18 275 6 = w 275 6 := f21 275 6 no_99_1; have h1 := hB.1; have h2 := (show ¬ mBk w by assumption); unfold mBk at h2; omega) (by decide) (fun e => by omega)) (fun r23 w24 h25 => ?_)
            obtain ⟨rfl, q26⟩ := h25
            refine e_Ok.nrm (q := 55) (st' := []) rfl rfl ?_
            refine e_Ok.ps1 (x := (0, w 276 (p1 + 160))) (q := 56) 1 rfl ?_
            refine e_Ok.rets rfl rfl ?_
            have ek0 : w18 276 0 = w 276 0 := ((q20 276 0 no_99_3).trans rfl)
            have ek5 : w18 276 5 = w 276 5 := ((q20 276 5 no_99_4).trans rfl)
            exact ⟨_, rfl, Or.inr ⟨⟨by omega, by omega, by omega⟩, by assumption, opS.ev (wm := w18) (opS.of f21 hI22 q20s q26) q20s (by unfold evG; omega)⟩⟩
          · replace h15 : (0 : Int) ≠ 0 := (show ¬ ((0 : Int) = 0) from h15)
            exfalso; omega
      · replace h8 : (w 275 3 : Int) = 0 := Classical.not_not.mp (show ¬ ((w 275 3 : Int) ≠ 0) from h8)
        refine e_Ok.ps1 (x := (0, (-2))) (q := 19) 1 rfl ?_
        refine e_Ok.rets rfl rfl ?_
        exact ⟨_, rfl, Or.inl ⟨rfl, fun hc => by first | exact hc.2 (by assumption) | (have h1 := hc.1; omega)⟩⟩
    · replace h6 : (1 : Int) = 0 := Classical.not_not.mp (show ¬ ((1 : Int) ≠ 0) from h6)
      exfalso; omega
  · refine e_Ok.nrm (q := 5) (st' := [(0, 0)]) rfl rfl ?_
    refine e_Ok.if1 rfl (fun h27 => ?_) (fun h27 => ?_)
    · replace h27 : (0 : Int) ≠ 0 := h27
      exfalso; omega
    · replace h27 : (0 : Int) = 0 := Classical.not_not.mp (show ¬ ((0 : Int) ≠ 0) from h27)
      refine e_Ok.ps1 (x := (0, (-1))) (q := 9) 1 rfl ?_
      refine e_Ok.rets rfl rfl ?_
      exact ⟨_, rfl, Or.inl ⟨rfl, fun hc => by first | exact hc.2 (by assumption) | (have h1 := hc.1; omega)⟩⟩
end
end
-- part 9a
section
noncomputable section
/-! steps of the calls, and the invariant -/
theorem mInv.up1 {w w' : eW} {G : Int → Gh} {c k z : Int} (h : mInv w G) (hw : e_up w c k z = w') (hT : e_Has mTy w') (hi : idl c k) : mInv w' G :=
  h.same (S := fun c' k' => c' = c ∧ k' = k) (fun c' k' q => by rw [← hw]; exact e_up_ne _ _ (by omega)) hT (fun c' k' q => by rw [q.1, q.2]; exact hi)
/-- a task is taken from its place -/
theorem mInv.ack {w w1 w' : eW} {G : Int → Gh} {a t : Int} (h : mInv w G) (ha : 0 ≤ a ∧ a ≤ 3) (ht : 0 ≤ t ∧ t ≤ 15) (h1 : e_up w 276 (1260 * t + 416) 6 = w1) (h2 : e_up w1 276 (36 * a + 18) (-1) = w') (hT : e_Has mTy w') : mInv w' G := by
  have h0 := h
  obtain ⟨t1, -, -, -, -, h6, h7, h8, h9⟩ := h0
  have hp := e_Has.get t1 (c := 275) (k := 40) (lo := 0) (hi := 32) rfl (by decide)
  have hF : e_fr (fun c k => c = 276 ∧ (k = 1260 * t + 416 ∨ k = 36 * a + 18)) w w' := fun c k q => by
    rw [← h2, ← h1]
    exact (e_up_ne _ _ (by omega)).trans (e_up_ne _ _ (by omega))
  have e16 : w' 276 (1260 * t + 416) = 6 := by
    rw [← h2, ← h1]
    exact (e_up_ne _ _ (Or.inr (by omega))).trans (e_up_eq _ _ _ _)
  refine h.next hF hT (fun c k q => by unfold cfN; omega) (mMo.old h6 (e_Has.mo t1) (fun b g1 g2 => ⟨hF _ _ (by omega), hF _ _ (by omega)⟩) (fun c k q _ => hF c k (fun q1 => by unfold moK at q; omega)) (fun b g1 g2 => Or.inr (hF _ _ (by omega)))) (mOr.fr h7 hp.2 (e_Has.orn t1) (e_Has.orw t1 hp.2) (fun k q => hF _ _ (fun q1 => by unfold orK at q; omega))) (fun v v1 v2 => ?_)
  by_cases e : v = t
  · rw [e]
    exact tkOk.not (Or.inr (by omega))
  · exact tkOk.hop h8 (h9 v v1 v2) hF (fun c k q => ⟨by omega, fun _ => ⟨by omega, fun q2 => by unfold tkK at q2; omega⟩⟩)
theorem br_tk {c k v : Int} (hv : 0 ≤ v ∧ v ≤ 15) (h : mBr c k) : ¬ (328 ≤ c ∧ c ≤ 338) ∧ (c = 276 → k ≠ 1260 * v + 416 ∧ ¬ tkK v k) :=
  ⟨by unfold mBr at h; omega, fun e => ⟨by unfold mBr at h; omega, fun q => by unfold mBr at h; unfold tkK at q; omega⟩⟩
theorem br_or {k : Int} (h : mBr 276 k) (q : orK k) : False := by unfold mBr at h; unfold orK at q; omega
theorem br_cf {c k : Int} (h : mBr c k) : cfN c k := by unfold mBr at h; unfold cfN; omega
theorem br_mo {c k : Int} (h : mBr c k) (q : moK c k) : False := by unfold mBr at h; unfold moK at q; omega
theorem mInv.brake {w w' : eW} {G : Int → Gh} (h : mInv w G) (hF : e_fr mBr w w') (hT : e_Has mTy w') (hS : sRel w w') : mInv w' G := by
  have h0 := h
  obtain ⟨t1, -, h3, -, -, h6, h7, h8, h9⟩ := h0
  have hp := e_Has.get t1 (c := 275) (k := 40) (lo := 0) (hi := 32) rfl (by decide)
  exact h.next hF hT (fun c k q => br_cf q) (mMo.rel h6 (e_Has.mo t1) h3 hS (fun c k q => hF c k (fun q1 => br_mo q1 q))) (mOr.fr h7 hp.2 (e_Has.orn t1) (e_Has.orw t1 hp.2) (fun k q => hF _ _ (fun q1 => br_or q1 q))) (fun v v1 v2 => tkOk.hop h8 (h9 v v1 v2) hF (fun c k q => br_tk ⟨v1, v2⟩ q))
/-- a new task -/
theorem su_9a_0 {z : Int} {c k : Int} (q : mNt z c k) : cfN c k := by
  unfold mNt at q
  rcases q with ⟨q, ⟨q, q⟩⟩
  · exact ⟨(by omega), ⟨(by omega), ⟨(by omega), ⟨(by omega), ⟨(by omega), ⟨(by omega), (by omega)⟩⟩⟩⟩⟩⟩
theorem mInv.fresh {w w' : eW} {G : Int → Gh} {a q u : Int} (h : mInv w G) (ha : 0 ≤ a ∧ a ≤ 3) (hq : 0 ≤ q ∧ q < w 338 a) (hu : 0 ≤ u ∧ u ≤ 15) (hF : e_fr (mNt u) w w') (hT : e_Has mTy w') (h1 : w' 276 (1260 * u + 417) = a) (h2 : w' 276 (1260 * u + 424) = -1) (h3 : w' 276 (1260 * u + 428) = 1) (h4 : w' 276 (1260 * u + 429) = 0) (h5 : w' 276 (1260 * u + 436) = w 337 (32 * a + q)) : mInv w' G := by
  have h0 := h
  obtain ⟨t1, -, -, -, -, h6, h7, h8, h9⟩ := h0
  have hp := e_Has.get t1 (c := 275) (k := 40) (lo := 0) (hi := 32) rfl (by decide)
  refine h.next hF hT (fun c k q => by first | exact su_9a_0 q | (unfold mNt at q; unfold cfN; omega)) (mMo.same h6 (e_Has.mo t1) (fun c k q => hF c k (fun q1 => moK_nt hu q q1))) (mOr.fr h7 hp.2 (e_Has.orn t1) (e_Has.orw t1 hp.2) (fun k q => hF _ _ (fun q1 => by unfold mNt at q1; unfold orK at q; omega))) (fun v v1 v2 => ?_)
  by_cases e : v = u
  · rw [e]
    exact tkOk.new (h8 a ha.1 ha.2) ha hq (fun c k q1 q2 => hF c k (by unfold mNt; omega)) h1 h2 h3 h4 h5
  · exact tkOk.hop h8 (h9 v v1 v2) hF (fun c k q => by unfold mNt at q; exact ⟨by omega, fun _ => ⟨by omega, fun q2 => by unfold tkK at q2; omega⟩⟩)
theorem d_385 {d : Nat} (hd : 22 ≤ d) {w : eW} (hT : e_Has mTy w) {a n : Int} (ha : 0 ≤ a ∧ a ≤ 4) (hn : -2147483648 ≤ n ∧ n ≤ 2147483647) (hE : w 276 5 ≤ 2147483600) : e_Ok 20 elay ecode eI d 385 (0, [(0, (1, 275)), (1, (0, a)), (2, (0, n))], [], w) (fun r w' => (r = [] ∧ e_fr mTr w w' ∧ e_Has mTy w' ∧ (w 276 5 ≤ w' 276 5 ∧ w' 276 5 ≤ w 276 5 + 5) ∧ w' 276 1 = 0 ∧ (∀ b, 0 ≤ b → b < w 275 10 → w' 276 (36 * b + 16) = 0 ∧ ∀ j, 0 ≤ j → j ≤ 5 → w' 276 (36 * b + j + 38) = 0) ∧ (∀ b, 0 ≤ b → b < w 275 10 → (w 276 (36 * b + 16) = 1 ∨ w 276 (36 * b + 22) = 0) → w' 276 (36 * b + 22) = 0) ∧ (∀ b, w 275 10 ≤ b → b ≤ 3 → w' 276 (36 * b + 16) = w 276 (36 * b + 16) ∧ w' 276 (36 * b + 22) = w 276 (36 * b + 22))) ∧ ∀ k, w' 276 k = nowF 385 [(0, (1, 275)), (1, (0, a)), (2, (0, n))] w k) :=
  (e_Ok.detN (l := [(0, (1, 275)), (1, (0, a)), (2, (0, n))]) (show ([0, 1, 2] : List Nat).Nodup by decide) (fun u hu => c_385 hd (hT.low hu) ha hn (by rw [hu 276 5 (K0_now 5)]; exact hE)) (fun u r v hu q => q.2.2.1)).imp (fun r v h => ⟨h.1, h.2.1⟩)
theorem d_384 {d : Nat} (hd : 22 ≤ d) {w : eW} (hT : e_Has mTy w) {a : Int} (ha : 0 ≤ a ∧ a ≤ 3) (hE : w 276 5 ≤ 2147483646) : e_Ok 20 elay ecode eI d 384 (0, [(0, (1, 275)), (1, (0, a))], [], w) (fun r w' => (r = [] ∧ e_fr mBr w w' ∧ e_Has mTy w' ∧ (w 276 5 ≤ w' 276 5 ∧ w' 276 5 ≤ w 276 5 + 1) ∧ sRel w w') ∧ ∀ k, w' 276 k = nowF 384 [(0, (1, 275)), (1, (0, a))] w k) :=
  (e_Ok.detN (l := [(0, (1, 275)), (1, (0, a))]) (show ([0, 1] : List Nat).Nodup by decide) (fun u hu => c_384 hd (hT.low hu) ha (by rw [hu 276 5 (K0_now 5)]; exact hE)) (fun u r v hu q => q.2.2.1)).imp (fun r v h => ⟨h.1, h.2.1⟩)
end
end
-- part 9b
section
noncomputable section
theorem nR_AIM {k : Int} (h : 8 ≤ k ∧ k ≤ 13) : mTy 276 k = (-2147483648, 2147483647) := by
  obtain rfl | rfl | rfl | rfl | rfl | rfl : k = 8 ∨ k = 9 ∨ k = 10 ∨ k = 11 ∨ k = 12 ∨ k = 13 := by omega
  all_goals rfl
theorem d_359 {d : Nat} (hd : 21 ≤ d) {w : eW} (hT : e_Has mTy w) {a q : Int} (ha : 0 ≤ a ∧ a ≤ 3) (hq : 0 ≤ q ∧ q ≤ 31) (hent : 0 ≤ w 337 (32 * a + q) ∧ w 337 (32 * a + q) ≤ 9999) (htm : w 276 0 ≤ 6000) : e_Ok 20 elay ecode eI d 359 (0, [(0, (1, 275)), (1, (0, a)), (2, (0, q))], [], w) (fun r w' => (∃ z : Int, r = [(0, z)] ∧ ((z = -1 ∧ w = w') ∨ ((0 ≤ z ∧ z ≤ 15) ∧ (w 276 (1260 * z + 416) = 0 ∨ w 276 (1260 * z + 416) = 6) ∧ e_fr (mNt z) w w' ∧ e_Has mTy w' ∧ w' 276 (1260 * z + 416) = 1 ∧ w' 276 (1260 * z + 417) = a ∧ w' 276 (1260 * z + 424) = -1 ∧ w' 276 (1260 * z + 428) = 1 ∧ w' 276 (1260 * z + 429) = 0 ∧ w' 276 (1260 * z + 436) = w 337 (32 * a + q) ∧ w' 276 (1260 * z + 437) = 0))) ∧ ∀ k, w' 276 k = nowF 359 [(0, (1, 275)), (1, (0, a)), (2, (0, q))] w k) :=
  (e_Ok.detN (l := [(0, (1, 275)), (1, (0, a)), (2, (0, q))]) (show ([0, 1, 2] : List Nat).Nodup by decide) (fun u hu => c_359 hd (hT.low hu) ha hq (by rw [hu 337 _ (K0_code _ (by omega))]; exact hent) (by rw [hu 276 0 (K0_now 0)]; exact htm)) (fun u r v hu q => by
    obtain ⟨z, -, ⟨-, rfl⟩ | q⟩ := q
    · exact hT.low hu
    · exact q.2.2.2.1)).imp (fun r v h => ⟨h.1, h.2.1⟩)
theorem nt_ti {z c k : Int} (q : mNt z c k) : mTi c k := by unfold mNt at q; unfold mTi; omega
theorem tr_ti {c k : Int} (q : mTr c k) : mTi c k := by unfold mTr at q; unfold mTi; omega
theorem br_ti {c k : Int} (q : mBr c k) : mTi c k := by unfold mBr at q; unfold mTi; omega
theorem no_9b_0 : ¬ mTi 275 5 := by unfold mTi; omega
theorem no_9b_1 : ¬ mTi 275 6 := by unfold mTi; omega
theorem no_9b_2 {k : Int} : ¬ mTi 356 k := by unfold mTi; omega
set_option maxHeartbeats 4000000 in
theorem c_434 {d : Nat} (hd : 25 ≤ d) {w : eW} {G : Int → Gh} (hI : mInv w G) (hB : bkE w) (hE : w 276 5 ≤ 7000000) {p1 p2 : Int} (g1 : -2147483648 ≤ p1 ∧ p1 ≤ 2147483647) (g2 : -2147483648 ≤ p2 ∧ p2 ≤ 2147483647) : e_Ok 20 elay ecode eI d 434 (0, [(0, (1, 275)), (1, (0, p1)), (2, (0, p2))], [], w) (fun r w' => ∃ z : Int, r = [(0, z)] ∧ ((w = w' ∧ ¬ ((0 ≤ p1 ∧ p1 ≤ 5 ∧ w 275 3 = 1) ∧ ¬ mBk w)) ∨ ((0 ≤ p1 ∧ p1 ≤ 5 ∧ w 275 3 = 1) ∧ ¬ mBk w ∧ opS w w' G 9 p1 p2 0 (fun k => e_up w 276 (p1 + 8) p2 276 k) ∧ evG w w'))) := by
  obtain ⟨d, rfl⟩ : ∃ e, d = e + 1 := ⟨d - 1, by omega⟩
  refine e_Ok.ps3 (x := (4, 5)) (y := (4, 0)) (z := (4, p1)) (q := 6) 4 rfl ?_
  refine e_Ok.callS rfl (e_dq hd rfl) rfl rfl (c_266) (fun r1 w2 h3 => ?_)
  obtain ⟨z4, rfl, rfl, q5⟩ := h3
  obtain ⟨rfl, q5⟩ | ⟨rfl, q5⟩ := q5
  · refine e_Ok.nrm (q := 9) (st' := [(0, 1)]) rfl rfl ?_
    refine e_Ok.if1 rfl (fun h6 => ?_) (fun h6 => ?_)
    · replace h6 : (1 : Int) ≠ 0 := h6
      refine e_Ok.ps1 (x := (1, 275)) (q := 15) 1 rfl ?_
      have h7 := (e_Has.get hI.1 (c := 275) (k := 3) (lo := 0) (hi := 1) rfl (by decide))
      refine e_Ok.getf (z := w 275 3) rfl (el_o rfl) rfl (ef_o rfl) rfl (e_bq h7 (by decide) (by decide)) ?_
      refine e_Ok.if1 rfl (fun h8 => ?_) (fun h8 => ?_)
      · replace h8 : (w 275 3 : Int) ≠ 0 := h8
        refine e_Ok.ps1 (x := (1, 275)) (q := 25) 1 rfl ?_
        refine e_Ok.callV rfl (e_dq hd rfl) rfl rfl rfl rfl (c_422_x hI.1 hB) (fun r9 w10 h11 => ?_)
        obtain ⟨z12, rfl, rfl, q13⟩ := h11
        obtain ⟨rfl, q13⟩ | ⟨rfl, q13⟩ := q13
        · refine e_Ok.nrm (q := 28) (st' := [(0, 1)]) rfl rfl ?_
          refine e_Ok.if1 rfl (fun h14 => ?_) (fun h14 => ?_)
          · replace h14 : (1 : Int) = 0 := h14
            exfalso; omega
          · replace h14 : (1 : Int) ≠ 0 := (show ¬ ((1 : Int) = 0) from h14)
            refine e_Ok.ps1 (x := (0, (-3))) (q := 33) 1 rfl ?_
            refine e_Ok.rets rfl rfl ?_
            exact ⟨_, rfl, Or.inl ⟨rfl, fun hc => by first | exact hc.2 (by assumption) | (have h1 := hc.1; omega)⟩⟩
        · refine e_Ok.nrm (q := 28) (st' := [(0, 0)]) rfl rfl ?_
          refine e_Ok.if1 rfl (fun h15 => ?_) (fun h15 => ?_)
          · replace h15 : (0 : Int) = 0 := h15
            refine e_Ok.ps1 (x := (1, 275)) (q := 35) 1 rfl ?_
            refine e_Ok.getr (z := 276) rfl (el_o rfl) rfl (ef_o rfl) (e_Has.eq hI.1 rfl) ⟨by decide, by decide⟩ ?_
            refine e_Ok.ps2 (x := (0, p1)) (y := (0, 8)) (q := 41) 2 rfl ?_
            refine e_Ok.add (z := p1 + 8) rfl (Int.add_comm _ _) (by omega) ?_
            refine e_Ok.ps1 (x := (0, p2)) (q := 43) 1 rfl ?_
            refine e_Ok.ast rfl (el_o rfl) rfl rfl (by omega) ?_
            generalize hw16 : e_up w 276 (p1 + 8) p2 = w16
            have f17 : e_fr mTi w w16 := e_fr.up (e_fr.refl w) hw16 (by first | exact Or.inl rfl | (unfold mTi; omega))
            have hT18 : e_Has mTy w16 := e_Has.upr hI.1 hw16 (nR_AIM (by omega)) (by omega)
            have hI19 : mInv w16 G := (mInv.up1 hI hw16 hT18 (by unfold idl; omega))
            refine e_Ok.run (t' := (50, [(0, (1, 275)), (1, (0, p1)), (2, (0, p2))], [(0, 0), (0, p2), (0, p1), (0, 9), (1, 275)], w16)) 5 rfl ?_
            refine e_Ok.callV rfl (e_dq hd rfl) rfl rfl rfl rfl (c_423_u (e_dq hd rfl) hT18 (bkE.fr hB (f17 275 5 no_9b_0) (f17 275 6 no_9b_1) (fun k => f17 356 k no_9b_2)).1 (fun e => by have e5 : w16 275 5 = w 275 5 := f17 275 5 no_9b_0; have e6 : w16 275 6 = w 275 6 := f17 275 6 no_9b_1; have h1 := hB.1; have h2 := (show ¬ mBk w by assumption); unfold mBk at h2; omega) (by decide) (fun e => by omega)) (fun r20 w21 h22 => ?_)
            obtain ⟨rfl, q23⟩ := h22
            refine e_Ok.nrm (q := 53) (st' := []) rfl rfl ?_
            refine e_Ok.ps1 (x := (0, 0)) (q := 54) 1 rfl ?_
            refine e_Ok.rets rfl rfl ?_
            have ek0 : w16 276 0 = w 276 0 := (e_uq hw16 (Or.inr (by omega)) rfl)
            have ek5 : w16 276 5 = w 276 5 := (e_uq hw16 (Or.inr (by omega)) rfl)
            exact ⟨_, rfl, Or.inr ⟨⟨by omega, by omega, by omega⟩, by assumption, opS.ev (wm := w16) (opS.of f17 hI19 (fun k => rfl) q23) (fun k => rfl) (by unfold evG; omega)⟩⟩
          · replace h15 : (0 : Int) ≠ 0 := (show ¬ ((0 : Int) = 0) from h15)
            exfalso; omega
      · replace h8 : (w 275 3 : Int) = 0 := Classical.not_not.mp (show ¬ ((w 275 3 : Int) ≠ 0) from h8)
        refine e_Ok.ps1 (x := (0, (-2))) (q := 23) 1 rfl ?_
        refine e_Ok.rets rfl rfl ?_
        exact ⟨_, rfl, Or.inl ⟨rfl, fun hc => by first | exact hc.2 (by assumption) | (have h1 := hc.1; omega)⟩⟩
    · replace h6 : (1 : Int) = 0 := Classical.not_not.mp (show ¬ ((1 : Int) ≠ 0) from h6)
      exfalso; omega
  · refine e_Ok.nrm (q := 9) (st' := [(0, 0)]) rfl rfl ?_
    refine e_Ok.if1 rfl (fun h24 => ?_) (fun h24 => ?_)
    · replace h24 : (0 : Int) ≠ 0 := h24
      exfalso; omega
    · replace h24 : (0 : Int) = 0 := Classical.not_not.mp (show ¬ ((0 : Int) ≠ 0) from h24)
      refine e_Ok.ps1 (x := (0, (-1))) (q := 13) 1 rfl ?_
      refine e_Ok.rets rfl rfl ?_
      exact ⟨_, rfl, Or.inl ⟨rfl, fun hc => by first | exact hc.2 (by assumption) | (have h1 := hc.1; omega)⟩⟩
set_option maxHeartbeats 4000000 in
theorem c_429 {d : Nat} (hd : 25 ≤ d) {w : eW} {G : Int → Gh} (hI : mInv w G) (hB : bkE w) (hE : w 276 5 ≤ 7000000) {p1 p2 p3 : Int} (g1 : -2147483648 ≤ p1 ∧ p1 ≤ 2147483647) (g2 : -2147483648 ≤ p2 ∧ p2 ≤ 2147483647) (g3 : -2147483648 ≤ p3 ∧ p3 ≤ 2147483647) (hz2 : 0 ≤ p2 ∧ p2 ≤ 1) (hz3 : 0 ≤ p3 ∧ p3 ≤ 1) : e_Ok 20 elay ecode eI d 429 (0, [(0, (1, 275)), (1, (0, p1)), (2, (0, p2)), (3, (0, p3))], [], w) (fun r w' => ∃ z : Int, r = [(0, z)] ∧ ((w = w' ∧ ¬ ((0 ≤ p1 ∧ p1 < w 275 49 ∧ w 275 3 = 1) ∧ ¬ mBk w)) ∨ ((0 ≤ p1 ∧ p1 < w 275 49 ∧ w 275 3 = 1) ∧ ¬ mBk w ∧ opS w w' G 4 p1 p2 p3 (fun k => e_up (e_up w 276 (4 * p1 + 20836) p2) 276 (4 * p1 + 20837) p3 276 k) ∧ evG w w'))) := by
  obtain ⟨d, rfl⟩ : ∃ e, d = e + 1 := ⟨d - 1, by omega⟩
  refine e_Ok.ps3 (x := (1, 275)) (y := (4, 0)) (z := (4, p1)) (q := 4) 4 rfl ?_
  have h1 := (e_Has.get hI.1 (c := 275) (k := 49) (lo := 0) (hi := 8) rfl (by decide))
  refine e_Ok.getf (z := w 275 49) rfl (el_o rfl) rfl (ef_o rfl) rfl (e_bq h1 (by decide) (by decide)) ?_
  refine e_Ok.ps1 (x := (0, 1)) (q := 8) 1 rfl ?_
  refine e_Ok.sub' (z := w 275 49 - 1) rfl rfl (by omega) ?_
  refine e_Ok.run (t' := (10, [(0, (1, 275)), (1, (0, p1)), (2, (0, p2)), (3, (0, p3))], [(4, w 275 49 - 1), (4, 0), (4, p1)], w)) 1 rfl ?_
  refine e_Ok.callS rfl (e_dq hd rfl) rfl rfl (c_266) (fun r2 w3 h4 => ?_)
  obtain ⟨z5, rfl, rfl, q6⟩ := h4
  obtain ⟨rfl, q6⟩ | ⟨rfl, q6⟩ := q6
  · refine e_Ok.nrm (q := 13) (st' := [(0, 1)]) rfl rfl ?_
    refine e_Ok.if1 rfl (fun h7 => ?_) (fun h7 => ?_)
    · replace h7 : (1 : Int) ≠ 0 := h7
      refine e_Ok.ps1 (x := (1, 275)) (q := 19) 1 rfl ?_
      have h8 := (e_Has.get hI.1 (c := 275) (k := 3) (lo := 0) (hi := 1) rfl (by decide))
      refine e_Ok.getf (z := w 275 3) rfl (el_o rfl) rfl (ef_o rfl) rfl (e_bq h8 (by decide) (by decide)) ?_
      refine e_Ok.if1 rfl (fun h9 => ?_) (fun h9 => ?_)
      · replace h9 : (w 275 3 : Int) ≠ 0 := h9
        refine e_Ok.ps1 (x := (1, 275)) (q := 29) 1 rfl ?_
        refine e_Ok.callV rfl (e_dq hd rfl) rfl rfl rfl rfl (c_422_x hI.1 hB) (fun r10 w11 h12 => ?_)
        obtain ⟨z13, rfl, rfl, q14⟩ := h12
        obtain ⟨rfl, q14⟩ | ⟨rfl, q14⟩ := q14
        · refine e_Ok.nrm (q := 32) (st' := [(0, 1)]) rfl rfl ?_
          refine e_Ok.if1 rfl (fun h15 => ?_) (fun h15 => ?_)
          · replace h15 : (1 : Int) = 0 := h15
            exfalso; omega
          · replace h15 : (1 : Int) ≠ 0 := (show ¬ ((1 : Int) = 0) from h15)
            refine e_Ok.ps1 (x := (0, (-3))) (q := 37) 1 rfl ?_
            refine e_Ok.rets rfl rfl ?_
            exact ⟨_, rfl, Or.inl ⟨rfl, fun hc => by first | exact hc.2 (by assumption) | (have h1 := hc.1; omega)⟩⟩
        · refine e_Ok.nrm (q := 32) (st' := [(0, 0)]) rfl rfl ?_
          refine e_Ok.if1 rfl (fun h16 => ?_) (fun h16 => ?_)
          · replace h16 : (0 : Int) = 0 := h16
            refine e_Ok.ps1 (x := (1, 275)) (q := 39) 1 rfl ?_
            refine e_Ok.getr (z := 276) rfl (el_o rfl) rfl (ef_o rfl) (e_Has.eq hI.1 rfl) ⟨by decide, by decide⟩ ?_
            refine e_Ok.ps3 (x := (0, p1)) (y := (0, 4)) (z := (0, 20836)) (q := 47) 3 rfl ?_
            refine e_Ok.mul (z := 4 * p1) rfl rfl (by omega) ?_
            refine e_Ok.add (z := 4 * p1 + 20836) rfl (Int.add_comm _ _) (by omega) ?_
            refine e_Ok.ps1 (x := (0, p2)) (q := 50) 1 rfl ?_
            refine e_Ok.if1 rfl (fun h17 => ?_) (fun h17 => ?_)
            · replace h17 : (p2 : Int) = 0 := h17
              refine e_Ok.ps1 (x := (0, 0)) (q := 58) 1 rfl ?_
              refine e_Ok.ast rfl (el_o rfl) rfl rfl (by omega) ?_
              generalize hw18 : e_up w 276 (4 * p1 + 20836) 0 = w18
              have f19 : e_fr mTi w w18 := e_fr.up (e_fr.refl w) hw18 (by first | exact Or.inl rfl | (unfold mTi; omega))
              have hT20 : e_Has mTy w18 := e_Has.upr hI.1 hw18 (nR_INPUT (i := p1) (f := 0) (by omega) (by decide)) (by omega)
              refine e_Ok.ps1 (x := (1, 275)) (q := 60) 1 rfl ?_
              refine e_Ok.getr (z := 276) rfl (el_o rfl) rfl (ef_o rfl) (e_uq hw18 (Or.inl (by decide)) (e_Has.eq hI.1 rfl)) ⟨by decide, by decide⟩ ?_
              refine e_Ok.ps3 (x := (0, p1)) (y := (0, 4)) (z := (0, 20836)) (q := 68) 3 rfl ?_
              refine e_Ok.mul (z := 4 * p1) rfl rfl (by omega) ?_
              refine e_Ok.add (z := 4 * p1 + 20836) rfl (Int.add_comm _ _) (by omega) ?_
              refine e_Ok.ps1 (x := (0, 1)) (q := 71) 1 rfl ?_
              refine e_Ok.add (z := 4 * p1 + 20837) rfl (e_adl (by decide)) (by omega) ?_
              refine e_Ok.ps1 (x := (0, p3)) (q := 73) 1 rfl ?_
              refine e_Ok.if1 rfl (fun h21 => ?_) (fun h21 => ?_)
              · replace h21 : (p3 : Int) = 0 := h21
                refine e_Ok.ps1 (x := (0, 0)) (q := 81) 1 rfl ?_
                refine e_Ok.ast rfl (el_o rfl) rfl rfl (by omega) ?_
                generalize hw22 : e_up w18 276 (4 * p1 + 20837) 0 = w22
                have f23 : e_fr mTi w w22 := e_fr.up f19 hw22 (by first | exact Or.inl rfl | (unfold mTi; omega))
                have hT24 : e_Has mTy w22 := e_Has.upr hT20 hw22 (nR_INPUT (i := p1) (f := 1) (by omega) (by decide)) (by omega)
                have hI25 : mInv w22 G := (mInv.up1 (mInv.up1 hI hw18 hT20 (by unfold idl; omega)) hw22 hT24 (by unfold idl; omega))
                refine e_Ok.ps4 (x := (0, p2)) (y := (0, p1)) (z := (0, 4)) (u := (1, 275)) (q := 86) 4 rfl ?_
                refine e_Ok.if1 rfl (fun h26 => ?_) (fun h26 => ?_)
                · replace h26 : (p2 : Int) = 0 := h26
                  refine e_Ok.ps2 (x := (0, p3)) (y := (0, 0)) (q := 95) 2 rfl ?_
                  refine e_Ok.if1 rfl (fun h27 => ?_) (fun h27 => ?_)
                  · replace h27 : (p3 : Int) = 0 := h27
                    refine e_Ok.ps1 (x := (0, 0)) (q := 103) 1 rfl ?_
                    refine e_Ok.callV rfl (e_dq hd rfl) rfl rfl rfl rfl (c_423_u (e_dq hd rfl) hT24 (bkE.fr hB (f23 275 5 no_9b_0) (f23 275 6 no_9b_1) (fun k => f23 356 k no_9b_2)).1 (fun e => by have e5 : w22 275 5 = w 275 5 := f23 275 5 no_9b_0; have e6 : w22 275 6 = w 275 6 := f23 275 6 no_9b_1; have h1 := hB.1; have h2 := (show ¬ mBk w by assumption); unfold mBk at h2; omega) (by decide) (fun e => by omega)) (fun r28 w29 h30 => ?_)
                    obtain ⟨rfl, q31⟩ := h30
                    refine e_Ok.nrm (q := 106) (st' := []) rfl rfl ?_
                    refine e_Ok.ps1 (x := (0, 0)) (q := 107) 1 rfl ?_
                    refine e_Ok.rets rfl rfl ?_
                    have ek0 : w22 276 0 = w 276 0 := (e_uq hw22 (Or.inr (by omega)) (e_uq hw18 (Or.inr (by omega)) rfl))
                    have ek5 : w22 276 5 = w 276 5 := (e_uq hw22 (Or.inr (by omega)) (e_uq hw18 (Or.inr (by omega)) rfl))
                    exact ⟨_, rfl, Or.inr ⟨⟨by omega, by omega, by omega⟩, by assumption, opS.ev (wm := w22) (opS.of f23 hI25 (fun k => by show w22 276 k = e_up (e_up w 276 (4 * p1 + 20836) p2) 276 (4 * p1 + 20837) p3 276 k; rw [show p2 = 0 by omega, show p3 = 0 by omega, hw18, hw22]) (by rw [show p2 = 0 by omega, show p3 = 0 by omega]; exact q31)) (fun k => by show w22 276 k = e_up (e_up w 276 (4 * p1 + 20836) p2) 276 (4 * p1 + 20837) p3 276 k; rw [show p2 = 0 by omega, show p3 = 0 by omega, hw18, hw22]) (by unfold evG; omega)⟩⟩
                  · replace h27 : (p3 : Int) ≠ 0 := (show ¬ ((p3 : Int) = 0) from h27)
                    exfalso; omega
                · replace h26 : (p2 : Int) ≠ 0 := (show ¬ ((p2 : Int) = 0) from h26)
                  exfalso; omega
              · replace h21 : (p3 : Int) ≠ 0 := (show ¬ ((p3 : Int) = 0) from h21)
                refine e_Ok.ps1 (x := (0, 1)) (q := 81) 2 rfl ?_
                refine e_Ok.ast rfl (el_o rfl) rfl rfl (by omega) ?_
                generalize hw32 : e_up w18 276 (4 * p1 + 20837) 1 = w32
                have f33 : e_fr mTi w w32 := e_fr.up f19 hw32 (by first | exact Or.inl rfl | (unfold mTi; omega))
                have hT34 : e_Has mTy w32 := e_Has.upr hT20 hw32 (nR_INPUT (i := p1) (f := 1) (by omega) (by decide)) (by omega)
                have hI35 : mInv w32 G := (mInv.up1 (mInv.up1 hI hw18 hT20 (by unfold idl; omega)) hw32 hT34 (by unfold idl; omega))
                refine e_Ok.ps4 (x := (0, p2)) (y := (0, p1)) (z := (0, 4)) (u := (1, 275)) (q := 86) 4 rfl ?_
                refine e_Ok.if1 rfl (fun h36 => ?_) (fun h36 => ?_)
                · replace h36 : (p2 : Int) = 0 := h36
                  refine e_Ok.ps2 (x := (0, p3)) (y := (0, 0)) (q := 95) 2 rfl ?_
                  refine e_Ok.if1 rfl (fun h37 => ?_) (fun h37 => ?_)
                  · replace h37 : (p3 : Int) = 0 := h37
                    exfalso; omega
                  · replace h37 : (p3 : Int) ≠ 0 := (show ¬ ((p3 : Int) = 0) from h37)
                    refine e_Ok.ps1 (x := (0, 1)) (q := 103) 2 rfl ?_
                    refine e_Ok.callV rfl (e_dq hd rfl) rfl rfl rfl rfl (c_423_u (e_dq hd rfl) hT34 (bkE.fr hB (f33 275 5 no_9b_0) (f33 275 6 no_9b_1) (fun k => f33 356 k no_9b_2)).1 (fun e => by have e5 : w32 275 5 = w 275 5 := f33 275 5 no_9b_0; have e6 : w32 275 6 = w 275 6 := f33 275 6 no_9b_1; have h1 := hB.1; have h2 := (show ¬ mBk w by assumption); unfold mBk at h2; omega) (by decide) (fun e => by omega)) (fun r38 w40 h41 => ?_)
                    obtain ⟨rfl, q42⟩ := h41
                    refine e_Ok.nrm (q := 106) (st' := []) rfl rfl ?_
                    refine e_Ok.ps1 (x := (0, 0)) (q := 107) 1 rfl ?_
                    refine e_Ok.rets rfl rfl ?_
                    have ek0 : w32 276 0 = w 276 0 := (e_uq hw32 (Or.inr (by omega)) (e_uq hw18 (Or.inr (by omega)) rfl))
                    have ek5 : w32 276 5 = w 276 5 := (e_uq hw32 (Or.inr (by omega)) (e_uq hw18 (Or.inr (by omega)) rfl))
                    exact ⟨_, rfl, Or.inr ⟨⟨by omega, by omega, by omega⟩, by assumption, opS.ev (wm := w32) (opS.of f33 hI35 (fun k => by show w32 276 k = e_up (e_up w 276 (4 * p1 + 20836) p2) 276 (4 * p1 + 20837) p3 276 k; rw [show p2 = 0 by omega, show p3 = 1 by omega, hw18, hw32]) (by rw [show p2 = 0 by omega, show p3 = 1 by omega]; exact q42)) (fun k => by show w32 276 k = e_up (e_up w 276 (4 * p1 + 20836) p2) 276 (4 * p1 + 20837) p3 276 k; rw [show p2 = 0 by omega, show p3 = 1 by omega, hw18, hw32]) (by unfold evG; omega)⟩⟩
                · replace h36 : (p2 : Int) ≠ 0 := (show ¬ ((p2 : Int) = 0) from h36)
                  exfalso; omega
            · replace h17 : (p2 : Int) ≠ 0 := (show ¬ ((p2 : Int) = 0) from h17)
              refine e_Ok.ps1 (x := (0, 1)) (q := 58) 2 rfl ?_
              refine e_Ok.ast rfl (el_o rfl) rfl rfl (by omega) ?_
              generalize hw43 : e_up w 276 (4 * p1 + 20836) 1 = w43
              have f44 : e_fr mTi w w43 := e_fr.up (e_fr.refl w) hw43 (by first | exact Or.inl rfl | (unfold mTi; omega))
              have hT45 : e_Has mTy w43 := e_Has.upr hI.1 hw43 (nR_INPUT (i := p1) (f := 0) (by omega) (by decide)) (by omega)
              refine e_Ok.ps1 (x := (1, 275)) (q := 60) 1 rfl ?_
              refine e_Ok.getr (z := 276) rfl (el_o rfl) rfl (ef_o rfl) (e_uq hw43 (Or.inl (by decide)) (e_Has.eq hI.1 rfl)) ⟨by decide, by decide⟩ ?_
              refine e_Ok.ps3 (x := (0, p1)) (y := (0, 4)) (z := (0, 20836)) (q := 68) 3 rfl ?_
              refine e_Ok.mul (z := 4 * p1) rfl rfl (by omega) ?_
              refine e_Ok.add (z := 4 * p1 + 20836) rfl (Int.add_comm _ _) (by omega) ?_
              refine e_Ok.ps1 (x := (0, 1)) (q := 71) 1 rfl ?_
              refine e_Ok.add (z := 4 * p1 + 20837) rfl (e_adl (by decide)) (by omega) ?_
              refine e_Ok.ps1 (x := (0, p3)) (q := 73) 1 rfl ?_
              refine e_Ok.if1 rfl (fun h46 => ?_) (fun h46 => ?_)
              · replace h46 : (p3 : Int) = 0 := h46
                refine e_Ok.ps1 (x := (0, 0)) (q := 81) 1 rfl ?_
                refine e_Ok.ast rfl (el_o rfl) rfl rfl (by omega) ?_
                generalize hw47 : e_up w43 276 (4 * p1 + 20837) 0 = w47
                have f48 : e_fr mTi w w47 := e_fr.up f44 hw47 (by first | exact Or.inl rfl | (unfold mTi; omega))
                have hT49 : e_Has mTy w47 := e_Has.upr hT45 hw47 (nR_INPUT (i := p1) (f := 1) (by omega) (by decide)) (by omega)
                have hI50 : mInv w47 G := (mInv.up1 (mInv.up1 hI hw43 hT45 (by unfold idl; omega)) hw47 hT49 (by unfold idl; omega))
                refine e_Ok.ps4 (x := (0, p2)) (y := (0, p1)) (z := (0, 4)) (u := (1, 275)) (q := 86) 4 rfl ?_
                refine e_Ok.if1 rfl (fun h51 => ?_) (fun h51 => ?_)
                · replace h51 : (p2 : Int) = 0 := h51
                  exfalso; omega
                · replace h51 : (p2 : Int) ≠ 0 := (show ¬ ((p2 : Int) = 0) from h51)
                  refine e_Ok.ps2 (x := (0, p3)) (y := (0, 1)) (q := 95) 3 rfl ?_
                  refine e_Ok.if1 rfl (fun h52 => ?_) (fun h52 => ?_)
                  · replace h52 : (p3 : Int) = 0 := h52
                    refine e_Ok.ps1 (x := (0, 0)) (q := 103) 1 rfl ?_
                    refine e_Ok.callV rfl (e_dq hd rfl) rfl rfl rfl rfl (c_423_u (e_dq hd rfl) hT49 (bkE.fr hB (f48 275 5 no_9b_0) (f48 275 6 no_9b_1) (fun k => f48 356 k no_9b_2)).1 (fun e => by have e5 : w47 275 5 = w 275 5 := f48 275 5 no_9b_0; have e6 : w47 275 6 = w 275 6 := f48 275 6 no_9b_1; have h1 := hB.1; have h2 := (show ¬ mBk w by assumption); unfold mBk at h2; omega) (by decide) (fun e => by omega)) (fun r53 w54 h55 => ?_)
                    obtain ⟨rfl, q56⟩ := h55
                    refine e_Ok.nrm (q := 106) (st' := []) rfl rfl ?_
                    refine e_Ok.ps1 (x := (0, 0)) (q := 107) 1 rfl ?_
                    refine e_Ok.rets rfl rfl ?_
                    have ek0 : w47 276 0 = w 276 0 := (e_uq hw47 (Or.inr (by omega)) (e_uq hw43 (Or.inr (by omega)) rfl))
                    have ek5 : w47 276 5 = w 276 5 := (e_uq hw47 (Or.inr (by omega)) (e_uq hw43 (Or.inr (by omega)) rfl))
                    exact ⟨_, rfl, Or.inr ⟨⟨by omega, by omega, by omega⟩, by assumption, opS.ev (wm := w47) (opS.of f48 hI50 (fun k => by show w47 276 k = e_up (e_up w 276 (4 * p1 + 20836) p2) 276 (4 * p1 + 20837) p3 276 k; rw [show p2 = 1 by omega, show p3 = 0 by omega, hw43, hw47]) (by rw [show p2 = 1 by omega, show p3 = 0 by omega]; exact q56)) (fun k => by show w47 276 k = e_up (e_up w 276 (4 * p1 + 20836) p2) 276 (4 * p1 + 20837) p3 276 k; rw [show p2 = 1 by omega, show p3 = 0 by omega, hw43, hw47]) (by unfold evG; omega)⟩⟩
                  · replace h52 : (p3 : Int) ≠ 0 := (show ¬ ((p3 : Int) = 0) from h52)
                    exfalso; omega
              · replace h46 : (p3 : Int) ≠ 0 := (show ¬ ((p3 : Int) = 0) from h46)
                refine e_Ok.ps1 (x := (0, 1)) (q := 81) 2 rfl ?_
                refine e_Ok.ast rfl (el_o rfl) rfl rfl (by omega) ?_
                generalize hw57 : e_up w43 276 (4 * p1 + 20837) 1 = w57
                have f58 : e_fr mTi w w57 := e_fr.up f44 hw57 (by first | exact Or.inl rfl | (unfold mTi; omega))
                have hT59 : e_Has mTy w57 := e_Has.upr hT45 hw57 (nR_INPUT (i := p1) (f := 1) (by omega) (by decide)) (by omega)
                have hI60 : mInv w57 G := (mInv.up1 (mInv.up1 hI hw43 hT45 (by unfold idl; omega)) hw57 hT59 (by unfold idl; omega))
                refine e_Ok.ps4 (x := (0, p2)) (y := (0, p1)) (z := (0, 4)) (u := (1, 275)) (q := 86) 4 rfl ?_
                refine e_Ok.if1 rfl (fun h61 => ?_) (fun h61 => ?_)
                · replace h61 : (p2 : Int) = 0 := h61
                  exfalso; omega
                · replace h61 : (p2 : Int) ≠ 0 := (show ¬ ((p2 : Int) = 0) from h61)
                  refine e_Ok.ps2 (x := (0, p3)) (y := (0, 1)) (q := 95) 3 rfl ?_
                  refine e_Ok.if1 rfl (fun h62 => ?_) (fun h62 => ?_)
                  · replace h62 : (p3 : Int) = 0 := h62
                    exfalso; omega
                  · replace h62 : (p3 : Int) ≠ 0 := (show ¬ ((p3 : Int) = 0) from h62)
                    refine e_Ok.ps1 (x := (0, 1)) (q := 103) 2 rfl ?_
                    refine e_Ok.callV rfl (e_dq hd rfl) rfl rfl rfl rfl (c_423_u (e_dq hd rfl) hT59 (bkE.fr hB (f58 275 5 no_9b_0) (f58 275 6 no_9b_1) (fun k => f58 356 k no_9b_2)).1 (fun e => by have e5 : w57 275 5 = w 275 5 := f58 275 5 no_9b_0; have e6 : w57 275 6 = w 275 6 := f58 275 6 no_9b_1; have h1 := hB.1; have h2 := (show ¬ mBk w by assumption); unfold mBk at h2; omega) (by decide) (fun e => by omega)) (fun r63 w64 h65 => ?_)
                    obtain ⟨rfl, q66⟩ := h65
                    refine e_Ok.nrm (q := 106) (st' := []) rfl rfl ?_
                    refine e_Ok.ps1 (x := (0, 0)) (q := 107) 1 rfl ?_
                    refine e_Ok.rets rfl rfl ?_
                    have ek0 : w57 276 0 = w 276 0 := (e_uq hw57 (Or.inr (by omega)) (e_uq hw43 (Or.inr (by omega)) rfl))
                    have ek5 : w57 276 5 = w 276 5 := (e_uq hw57 (Or.inr (by omega)) (e_uq hw43 (Or.inr (by omega)) rfl))
                    exact ⟨_, rfl, Or.inr ⟨⟨by omega, by omega, by omega⟩, by assumption, opS.ev (wm := w57) (opS.of f58 hI60 (fun k => by show w57 276 k = e_up (e_up w 276 (4 * p1 + 20836) p2) 276 (4 * p1 + 20837) p3 276 k; rw [show p2 = 1 by omega, show p3 = 1 by omega, hw43, hw57]) (by rw [show p2 = 1 by omega, show p3 = 1 by omega]; exact q66)) (fun k => by show w57 276 k = e_up (e_up w 276 (4 * p1 + 20836) p2) 276 (4 * p1 + 20837) p3 276 k; rw [show p2 = 1 by omega, show p3 = 1 by omega, hw43, hw57]) (by unfold evG; omega)⟩⟩
          · replace h16 : (0 : Int) ≠ 0 := (show ¬ ((0 : Int) = 0) from h16)
            exfalso; omega
      · replace h9 : (w 275 3 : Int) = 0 := Classical.not_not.mp (show ¬ ((w 275 3 : Int) ≠ 0) from h9)
        refine e_Ok.ps1 (x := (0, (-2))) (q := 27) 1 rfl ?_
        refine e_Ok.rets rfl rfl ?_
        exact ⟨_, rfl, Or.inl ⟨rfl, fun hc => by first | exact hc.2 (by assumption) | (have h1 := hc.1; omega)⟩⟩
    · replace h7 : (1 : Int) = 0 := Classical.not_not.mp (show ¬ ((1 : Int) ≠ 0) from h7)
      exfalso; omega
  · refine e_Ok.nrm (q := 13) (st' := [(0, 0)]) rfl rfl ?_
    refine e_Ok.if1 rfl (fun h67 => ?_) (fun h67 => ?_)
    · replace h67 : (0 : Int) ≠ 0 := h67
      exfalso; omega
    · replace h67 : (0 : Int) = 0 := Classical.not_not.mp (show ¬ ((0 : Int) ≠ 0) from h67)
      refine e_Ok.ps1 (x := (0, (-1))) (q := 17) 1 rfl ?_
      refine e_Ok.rets rfl rfl ?_
      exact ⟨_, rfl, Or.inl ⟨rfl, fun hc => by first | exact hc.2 (by assumption) | (have h1 := hc.1; omega)⟩⟩
set_option maxHeartbeats 4000000 in
theorem c_432 {d : Nat} (hd : 25 ≤ d) {w : eW} {G : Int → Gh} (hI : mInv w G) (hB : bkE w) (hE : w 276 5 ≤ 7000000) {p1 : Int} (g1 : -2147483648 ≤ p1 ∧ p1 ≤ 2147483647) : e_Ok 20 elay ecode eI d 432 (0, [(0, (1, 275)), (1, (0, p1))], [], w) (fun r w' => ∃ z : Int, r = [(0, z)] ∧ ((w = w' ∧ ¬ ((0 ≤ p1 ∧ p1 < w 275 10 ∧ w 275 3 = 1 ∧ 0 ≤ w 276 (36 * p1 + 18)) ∧ ¬ mBk w)) ∨ ((0 ≤ p1 ∧ p1 < w 275 10 ∧ w 275 3 = 1 ∧ 0 ≤ w 276 (36 * p1 + 18)) ∧ ¬ mBk w ∧ opS w w' G 7 p1 0 0 (fun k => e_up (e_up w 276 (1260 * w 276 (36 * p1 + 18) + 416) 6) 276 (36 * p1 + 18) (-1) 276 k) ∧ evG w w'))) := by
  obtain ⟨d, rfl⟩ : ∃ e, d = e + 1 := ⟨d - 1, by omega⟩
  refine e_Ok.ps2 (x := (0, p1)) (y := (1, 275)) (q := 2) 2 rfl ?_
  refine e_Ok.callV rfl (e_dq hd rfl) rfl rfl rfl rfl (c_270 (e_dq hd rfl) hI.1) (fun r1 w2 h3 => ?_)
  have h4 := e_Has.get hI.1 (c := 275) (k := 10) (lo := 0) (hi := 4) rfl (by decide)
  obtain ⟨z5, rfl, rfl, q6⟩ := h3
  obtain ⟨rfl, q6⟩ | ⟨rfl, q6⟩ := q6
  · refine e_Ok.nrm (q := 5) (st' := [(0, 1)]) rfl rfl ?_
    refine e_Ok.if1 rfl (fun h7 => ?_) (fun h7 => ?_)
    · replace h7 : (1 : Int) ≠ 0 := h7
      refine e_Ok.ps1 (x := (1, 275)) (q := 11) 1 rfl ?_
      refine e_Ok.getr (z := 276) rfl (el_o rfl) rfl (ef_o rfl) (e_Has.eq hI.1 rfl) ⟨by decide, by decide⟩ ?_
      refine e_Ok.ps1 (x := (0, p1)) (q := 15) 1 rfl ?_
      refine e_Ok.callS rfl (e_dq hd rfl) rfl rfl (c_268 (by omega)) (fun r8 w9 h10 => ?_)
      obtain ⟨rfl, rfl⟩ := h10
      refine e_Ok.nrm (q := 18) (st' := [(0, 36 * p1 + 16), (1, 276)]) rfl rfl ?_
      refine e_Ok.ps1 (x := (0, 2)) (q := 19) 1 rfl ?_
      refine e_Ok.add (z := 36 * p1 + 18) rfl (e_adl (by decide)) (by omega) ?_
      have h11 := (e_Has.get hI.1 (c := 276) (k := 36 * p1 + 18) (lo := (-1)) (hi := 15) (nR_STUCK (a := p1) (by omega)) (by decide))
      refine e_Ok.ald (z := w 276 (36 * p1 + 18)) rfl (el_o rfl) rfl (by omega) rfl (e_bq h11 (by decide) (by decide)) ?_
      refine e_Ok.run (t' := (23, [(2, (0, w 276 (36 * p1 + 18))), (0, (1, 275)), (1, (0, p1))], [(1, 275)], w)) 2 rfl ?_
      have h12 := (e_Has.get hI.1 (c := 275) (k := 3) (lo := 0) (hi := 1) rfl (by decide))
      refine e_Ok.getf (z := w 275 3) rfl (el_o rfl) rfl (ef_o rfl) rfl (e_bq h12 (by decide) (by decide)) ?_
      refine e_Ok.if1 rfl (fun h13 => ?_) (fun h13 => ?_)
      · replace h13 : (w 275 3 : Int) = 0 := h13
        refine e_Ok.ps1 (x := (0, (-2))) (q := 35) 1 rfl ?_
        refine e_Ok.rets rfl rfl ?_
        exact ⟨_, rfl, Or.inl ⟨rfl, fun hc => by first | exact hc.2 (by assumption) | (have h1 := hc.1; omega)⟩⟩
      · replace h13 : (w 275 3 : Int) ≠ 0 := (show ¬ ((w 275 3 : Int) = 0) from h13)
        refine e_Ok.ps1 (x := (0, w 276 (36 * p1 + 18))) (q := 30) 1 rfl ?_
        refine e_Ok.if1 rfl (fun h14 => ?_) (fun h14 => ?_)
        · replace h14 : (w 276 (36 * p1 + 18) : Int) ≥ 0 := h14
          refine e_Ok.ps1 (x := (1, 275)) (q := 37) 1 rfl ?_
          refine e_Ok.callV rfl (e_dq hd rfl) rfl rfl rfl rfl (c_422_x hI.1 hB) (fun r15 w16 h17 => ?_)
          obtain ⟨z18, rfl, rfl, q19⟩ := h17
          obtain ⟨rfl, q19⟩ | ⟨rfl, q19⟩ := q19
          · refine e_Ok.nrm (q := 40) (st' := [(0, 1)]) rfl rfl ?_
            refine e_Ok.if1 rfl (fun h20 => ?_) (fun h20 => ?_)
            · replace h20 : (1 : Int) = 0 := h20
              exfalso; omega
            · replace h20 : (1 : Int) ≠ 0 := (show ¬ ((1 : Int) = 0) from h20)
              refine e_Ok.ps1 (x := (0, (-3))) (q := 45) 1 rfl ?_
              refine e_Ok.rets rfl rfl ?_
              exact ⟨_, rfl, Or.inl ⟨rfl, fun hc => by first | exact hc.2 (by assumption) | (have h1 := hc.1; omega)⟩⟩
          · refine e_Ok.nrm (q := 40) (st' := [(0, 0)]) rfl rfl ?_
            refine e_Ok.if1 rfl (fun h21 => ?_) (fun h21 => ?_)
            · replace h21 : (0 : Int) = 0 := h21
              refine e_Ok.ps1 (x := (1, 275)) (q := 47) 1 rfl ?_
              refine e_Ok.getr (z := 276) rfl (el_o rfl) rfl (ef_o rfl) (e_Has.eq hI.1 rfl) ⟨by decide, by decide⟩ ?_
              refine e_Ok.ps1 (x := (0, w 276 (36 * p1 + 18))) (q := 51) 1 rfl ?_
              refine e_Ok.callS rfl (e_dq hd rfl) rfl rfl (c_269 (by omega)) (fun r22 w23 h24 => ?_)
              obtain ⟨rfl, rfl⟩ := h24
              refine e_Ok.nrm (q := 54) (st' := [(0, 1260 * w 276 (36 * p1 + 18) + 416), (1, 276)]) rfl rfl ?_
              refine e_Ok.ps1 (x := (0, 6)) (q := 56) 1 rfl ?_
              refine e_Ok.ast rfl (el_o rfl) rfl rfl (by omega) ?_
              generalize hw25 : e_up w 276 (1260 * w 276 (36 * p1 + 18) + 416) 6 = w25
              have hT27 : e_Has mTy w25 := e_Has.upr hI.1 hw25 (nR_TSTATE (t := w 276 (36 * p1 + 18)) (by omega)) (by omega)
              refine e_Ok.ps1 (x := (1, 275)) (q := 58) 1 rfl ?_
              refine e_Ok.getr (z := 276) rfl (el_o rfl) rfl (ef_o rfl) (e_uq hw25 (Or.inl (by decide)) (e_Has.eq hI.1 rfl)) ⟨by decide, by decide⟩ ?_
              refine e_Ok.ps1 (x := (0, p1)) (q := 62) 1 rfl ?_
              refine e_Ok.callS rfl (e_dq hd rfl) rfl rfl (c_268 (by omega)) (fun r28 w29 h30 => ?_)
              obtain ⟨rfl, rfl⟩ := h30
              refine e_Ok.nrm (q := 65) (st' := [(0, 36 * p1 + 16), (1, 276)]) rfl rfl ?_
              refine e_Ok.ps1 (x := (0, 2)) (q := 66) 1 rfl ?_
              refine e_Ok.add (z := 36 * p1 + 18) rfl (e_adl (by decide)) (by omega) ?_
              refine e_Ok.ps1 (x := (0, (-1))) (q := 68) 1 rfl ?_
              refine e_Ok.ast rfl (el_o rfl) rfl rfl (by omega) ?_
              generalize hw31 : e_up w25 276 (36 * p1 + 18) (-1) = w31
              have f32 : e_fr mTi w w31 := e_fr.up (show e_fr mTi w w25 from e_fr.up (e_fr.refl w) hw25 (by first | exact Or.inl rfl | (unfold mTi; omega))) hw31 (by first | exact Or.inl rfl | (unfold mTi; omega))
              have hT33 : e_Has mTy w31 := e_Has.upr hT27 hw31 (nR_STUCK (a := p1) (by omega)) (by omega)
              have hI34 : mInv w31 G := mInv.ack hI (by omega) (by omega) hw25 hw31 hT33
              refine e_Ok.run (t' := (75, [(2, (0, w 276 (36 * p1 + 18))), (0, (1, 275)), (1, (0, p1))], [(0, 0), (0, 0), (0, p1), (0, 7), (1, 275)], w31)) 5 rfl ?_
              refine e_Ok.callV rfl (e_dq hd rfl) rfl rfl rfl rfl (c_423_u (e_dq hd rfl) hT33 (bkE.fr hB (f32 275 5 no_9b_0) (f32 275 6 no_9b_1) (fun k => f32 356 k no_9b_2)).1 (fun e => by have e5 : w31 275 5 = w 275 5 := f32 275 5 no_9b_0; have e6 : w31 275 6 = w 275 6 := f32 275 6 no_9b_1; have h1 := hB.1; have h2 := (show ¬ mBk w by assumption); unfold mBk at h2; omega) (by decide) (fun e => by omega)) (fun r35 w36 h37 => ?_)
              obtain ⟨rfl, q38⟩ := h37
              refine e_Ok.nrm (q := 78) (st' := []) rfl rfl ?_
              refine e_Ok.ps1 (x := (0, w 276 (36 * p1 + 18))) (q := 79) 1 rfl ?_
              refine e_Ok.rets rfl rfl ?_
              have ek0 : w31 276 0 = w 276 0 := (e_uq hw31 (Or.inr (by omega)) (e_uq hw25 (Or.inr (by omega)) rfl))
              have ek5 : w31 276 5 = w 276 5 := (e_uq hw31 (Or.inr (by omega)) (e_uq hw25 (Or.inr (by omega)) rfl))
              exact ⟨_, rfl, Or.inr ⟨⟨by omega, by omega, by omega, by omega⟩, by assumption, opS.ev (wm := w31) (opS.of f32 hI34 (fun k => rfl) q38) (fun k => rfl) (by unfold evG; omega)⟩⟩
            · replace h21 : (0 : Int) ≠ 0 := (show ¬ ((0 : Int) = 0) from h21)
              exfalso; omega
        · replace h14 : (w 276 (36 * p1 + 18) : Int) < 0 := Int.not_le.mp (show ¬ ((w 276 (36 * p1 + 18) : Int) ≥ 0) from h14)
          refine e_Ok.ps1 (x := (0, (-2))) (q := 35) 1 rfl ?_
          refine e_Ok.rets rfl rfl ?_
          exact ⟨_, rfl, Or.inl ⟨rfl, fun hc => by first | exact hc.2 (by assumption) | (have h1 := hc.1; omega)⟩⟩
    · replace h7 : (1 : Int) = 0 := Classical.not_not.mp (show ¬ ((1 : Int) ≠ 0) from h7)
      exfalso; omega
  · refine e_Ok.nrm (q := 5) (st' := [(0, 0)]) rfl rfl ?_
    refine e_Ok.if1 rfl (fun h40 => ?_) (fun h40 => ?_)
    · replace h40 : (0 : Int) ≠ 0 := h40
      exfalso; omega
    · replace h40 : (0 : Int) = 0 := Classical.not_not.mp (show ¬ ((0 : Int) ≠ 0) from h40)
      refine e_Ok.ps1 (x := (0, (-1))) (q := 9) 1 rfl ?_
      refine e_Ok.rets rfl rfl ?_
      exact ⟨_, rfl, Or.inl ⟨rfl, fun hc => by first | exact hc.2 (by assumption) | (have h1 := hc.1; omega)⟩⟩
theorem no_9b_3 : ¬ mTr 276 0 := by unfold mTr; omega
theorem no_9b_4 : ¬ mBr 276 0 := by unfold mBr; omega
set_option maxHeartbeats 4000000 in
theorem c_431 {d : Nat} (hd : 27 ≤ d) {w : eW} {G : Int → Gh} (hI : mInv w G) (hB : bkE w) (hE : w 276 5 ≤ 7000000) {p1 : Int} (g1 : -2147483648 ≤ p1 ∧ p1 ≤ 2147483647) : e_Ok 20 elay ecode eI d 431 (0, [(0, (1, 275)), (1, (0, p1))], [], w) (fun r w' => ∃ z : Int, r = [(0, z)] ∧ ((w = w' ∧ ¬ (((p1 = -1 ∨ (0 ≤ p1 ∧ p1 < w 275 10)) ∧ w 275 3 = 1 ∧ (p1 = -1 → w 276 1 ≠ 0)) ∧ ¬ mBk w)) ∨ (((p1 = -1 ∨ (0 ≤ p1 ∧ p1 < w 275 10)) ∧ w 275 3 = 1 ∧ (p1 = -1 → w 276 1 ≠ 0)) ∧ ¬ mBk w ∧ opS w w' G 6 p1 0 0 (fun k => if p1 = -1 then nowF 385 [(0, (1, 275)), (1, (0, 4)), (2, (0, 0))] w k else nowF 384 [(0, (1, 275)), (1, (0, p1))] w k) ∧ evG w w'))) := by
  obtain ⟨d, rfl⟩ : ∃ e, d = e + 1 := ⟨d - 1, by omega⟩
  refine e_Ok.ps2 (x := (0, (-1))) (y := (0, p1)) (q := 2) 2 rfl ?_
  refine e_Ok.if2 rfl (fun h1 => ?_) (fun h1 => ?_)
  · replace h1 : (p1 : Int) = (-1) := h1
    refine e_Ok.ps1 (x := (1, 275)) (q := 16) 1 rfl ?_
    have h2 := (e_Has.get hI.1 (c := 275) (k := 3) (lo := 0) (hi := 1) rfl (by decide))
    refine e_Ok.getf (z := w 275 3) rfl (el_o rfl) rfl (ef_o rfl) rfl (e_bq h2 (by decide) (by decide)) ?_
    refine e_Ok.if1 rfl (fun h3 => ?_) (fun h3 => ?_)
    · replace h3 : (w 275 3 : Int) = 0 := h3
      refine e_Ok.ps1 (x := (0, (-2))) (q := 38) 1 rfl ?_
      refine e_Ok.rets rfl rfl ?_
      exact ⟨_, rfl, Or.inl ⟨rfl, fun hc => by first | exact hc.2 (by assumption) | (have h1 := hc.1; omega)⟩⟩
    · replace h3 : (w 275 3 : Int) ≠ 0 := (show ¬ ((w 275 3 : Int) = 0) from h3)
      refine e_Ok.ps2 (x := (0, (-1))) (y := (0, p1)) (q := 24) 2 rfl ?_
      refine e_Ok.if2 rfl (fun h4 => ?_) (fun h4 => ?_)
      · replace h4 : (p1 : Int) ≠ (-1) := h4
        exfalso; omega
      · replace h4 : (p1 : Int) = (-1) := Classical.not_not.mp (show ¬ ((p1 : Int) ≠ (-1)) from h4)
        refine e_Ok.ps1 (x := (1, 275)) (q := 28) 1 rfl ?_
        refine e_Ok.getr (z := 276) rfl (el_o rfl) rfl (ef_o rfl) (e_Has.eq hI.1 rfl) ⟨by decide, by decide⟩ ?_
        refine e_Ok.ps1 (x := (0, 1)) (q := 32) 1 rfl ?_
        have h5 := (e_Has.get hI.1 (c := 276) (k := 1) (lo := 0) (hi := 1) rfl (by decide))
        refine e_Ok.ald (z := w 276 1) rfl (el_o rfl) rfl (by omega) rfl (e_bq h5 (by decide) (by decide)) ?_
        refine e_Ok.if1 rfl (fun h6 => ?_) (fun h6 => ?_)
        · replace h6 : (w 276 1 : Int) ≠ 0 := h6
          refine e_Ok.ps1 (x := (1, 275)) (q := 40) 1 rfl ?_
          refine e_Ok.callV rfl (e_dq hd rfl) rfl rfl rfl rfl (c_422_x hI.1 hB) (fun r7 w8 h9 => ?_)
          obtain ⟨z10, rfl, rfl, q11⟩ := h9
          obtain ⟨rfl, q11⟩ | ⟨rfl, q11⟩ := q11
          · refine e_Ok.nrm (q := 43) (st' := [(0, 1)]) rfl rfl ?_
            refine e_Ok.if1 rfl (fun h12 => ?_) (fun h12 => ?_)
            · replace h12 : (1 : Int) = 0 := h12
              exfalso; omega
            · replace h12 : (1 : Int) ≠ 0 := (show ¬ ((1 : Int) = 0) from h12)
              refine e_Ok.ps1 (x := (0, (-3))) (q := 48) 1 rfl ?_
              refine e_Ok.rets rfl rfl ?_
              exact ⟨_, rfl, Or.inl ⟨rfl, fun hc => by first | exact hc.2 (by assumption) | (have h1 := hc.1; omega)⟩⟩
          · refine e_Ok.nrm (q := 43) (st' := [(0, 0)]) rfl rfl ?_
            refine e_Ok.if1 rfl (fun h13 => ?_) (fun h13 => ?_)
            · replace h13 : (0 : Int) = 0 := h13
              refine e_Ok.run (t' := (53, [(2, (0, 0)), (0, (1, 275)), (1, (0, p1))], [(0, (-1)), (0, p1)], w)) 4 rfl ?_
              refine e_Ok.if2 rfl (fun h14 => ?_) (fun h14 => ?_)
              · replace h14 : (p1 : Int) ≠ (-1) := h14
                exfalso; omega
              · replace h14 : (p1 : Int) = (-1) := Classical.not_not.mp (show ¬ ((p1 : Int) ≠ (-1)) from h14)
                refine e_Ok.ps3 (x := (0, 0)) (y := (0, 4)) (z := (1, 275)) (q := 59) 3 rfl ?_
                refine e_Ok.callV rfl (e_dq hd rfl) rfl rfl rfl rfl (d_385 (e_dq hd rfl) hI.1 (by omega) (by omega) (by omega)) (fun r15 w16 h17 => ?_)
                obtain ⟨⟨rfl, q18, q18T, q18n, q18p, q18s, q18t, q18u⟩, q18x⟩ := h17
                have f19 : e_fr mTi w w16 := e_fr.trans (e_fr.refl w) (e_fr.mono q18 (fun c k q => by exact tr_ti q))
                have hI20 : mInv w16 G := mInv.trip hI q18 q18T q18s q18t q18u
                have q18o := q18 276 0 no_9b_3
                refine e_Ok.nrm (q := 62) (st' := []) rfl rfl ?_
                refine e_Ok.run (t' := (88, [(2, (0, 0)), (0, (1, 275)), (1, (0, p1))], [(0, 0), (0, 0), (0, p1), (0, 6), (1, 275)], w16)) 6 rfl ?_
                refine e_Ok.callV rfl (e_dq hd rfl) rfl rfl rfl rfl (c_423_u (e_dq hd rfl) q18T (bkE.fr hB (f19 275 5 no_9b_0) (f19 275 6 no_9b_1) (fun k => f19 356 k no_9b_2)).1 (fun e => by have e5 : w16 275 5 = w 275 5 := f19 275 5 no_9b_0; have e6 : w16 275 6 = w 275 6 := f19 275 6 no_9b_1; have h1 := hB.1; have h2 := (show ¬ mBk w by assumption); unfold mBk at h2; omega) (by decide) (fun e => by omega)) (fun r21 w22 h23 => ?_)
                obtain ⟨rfl, q24⟩ := h23
                refine e_Ok.nrm (q := 91) (st' := []) rfl rfl ?_
                refine e_Ok.ps1 (x := (0, 0)) (q := 92) 1 rfl ?_
                refine e_Ok.rets rfl rfl ?_
                have ek0 : w16 276 0 = w 276 0 := ((q18 276 0 no_9b_3).trans rfl)
                have ek5 : w16 276 5 = w16 276 5 := rfl
                exact ⟨_, rfl, Or.inr ⟨⟨by omega, by omega, by omega⟩, by assumption, opS.ev (wm := w16) (opS.of f19 hI20 (fun k => by show w16 276 k = if p1 = -1 then _ else _; rw [if_pos (by omega)]; exact q18x k) q24) (fun k => by show w16 276 k = if p1 = -1 then _ else _; rw [if_pos (by omega)]; exact q18x k) (by unfold evG; omega)⟩⟩
            · replace h13 : (0 : Int) ≠ 0 := (show ¬ ((0 : Int) = 0) from h13)
              exfalso; omega
        · replace h6 : (w 276 1 : Int) = 0 := Classical.not_not.mp (show ¬ ((w 276 1 : Int) ≠ 0) from h6)
          refine e_Ok.ps1 (x := (0, (-2))) (q := 38) 1 rfl ?_
          refine e_Ok.rets rfl rfl ?_
          exact ⟨_, rfl, Or.inl ⟨rfl, fun hc => by first | exact hc.2 (by assumption) | (have h1 := hc.1; omega)⟩⟩
  · replace h1 : (p1 : Int) ≠ (-1) := (show ¬ ((p1 : Int) = (-1)) from h1)
    refine e_Ok.ps2 (x := (0, p1)) (y := (1, 275)) (q := 7) 2 rfl ?_
    refine e_Ok.callV rfl (e_dq hd rfl) rfl rfl rfl rfl (c_270 (e_dq hd rfl) hI.1) (fun r25 w26 h27 => ?_)
    have h28 := e_Has.get hI.1 (c := 275) (k := 10) (lo := 0) (hi := 4) rfl (by decide)
    obtain ⟨z29, rfl, rfl, q30⟩ := h27
    obtain ⟨rfl, q30⟩ | ⟨rfl, q30⟩ := q30
    · refine e_Ok.nrm (q := 10) (st' := [(0, 1)]) rfl rfl ?_
      refine e_Ok.if1 rfl (fun h31 => ?_) (fun h31 => ?_)
      · replace h31 : (1 : Int) ≠ 0 := h31
        refine e_Ok.ps1 (x := (1, 275)) (q := 16) 1 rfl ?_
        have h32 := (e_Has.get hI.1 (c := 275) (k := 3) (lo := 0) (hi := 1) rfl (by decide))
        refine e_Ok.getf (z := w 275 3) rfl (el_o rfl) rfl (ef_o rfl) rfl (e_bq h32 (by decide) (by decide)) ?_
        refine e_Ok.if1 rfl (fun h33 => ?_) (fun h33 => ?_)
        · replace h33 : (w 275 3 : Int) = 0 := h33
          refine e_Ok.ps1 (x := (0, (-2))) (q := 38) 1 rfl ?_
          refine e_Ok.rets rfl rfl ?_
          exact ⟨_, rfl, Or.inl ⟨rfl, fun hc => by first | exact hc.2 (by assumption) | (have h1 := hc.1; omega)⟩⟩
        · replace h33 : (w 275 3 : Int) ≠ 0 := (show ¬ ((w 275 3 : Int) = 0) from h33)
          refine e_Ok.ps2 (x := (0, (-1))) (y := (0, p1)) (q := 24) 2 rfl ?_
          refine e_Ok.if2 rfl (fun h34 => ?_) (fun h34 => ?_)
          · replace h34 : (p1 : Int) ≠ (-1) := h34
            refine e_Ok.ps1 (x := (1, 275)) (q := 40) 1 rfl ?_
            refine e_Ok.callV rfl (e_dq hd rfl) rfl rfl rfl rfl (c_422_x hI.1 hB) (fun r35 w36 h37 => ?_)
            obtain ⟨z38, rfl, rfl, q40⟩ := h37
            obtain ⟨rfl, q40⟩ | ⟨rfl, q40⟩ := q40
            · refine e_Ok.nrm (q := 43) (st' := [(0, 1)]) rfl rfl ?_
              refine e_Ok.if1 rfl (fun h41 => ?_) (fun h41 => ?_)
              · replace h41 : (1 : Int) = 0 := h41
                exfalso; omega
              · replace h41 : (1 : Int) ≠ 0 := (show ¬ ((1 : Int) = 0) from h41)
                refine e_Ok.ps1 (x := (0, (-3))) (q := 48) 1 rfl ?_
                refine e_Ok.rets rfl rfl ?_
                exact ⟨_, rfl, Or.inl ⟨rfl, fun hc => by first | exact hc.2 (by assumption) | (have h1 := hc.1; omega)⟩⟩
            · refine e_Ok.nrm (q := 43) (st' := [(0, 0)]) rfl rfl ?_
              refine e_Ok.if1 rfl (fun h42 => ?_) (fun h42 => ?_)
              · replace h42 : (0 : Int) = 0 := h42
                refine e_Ok.run (t' := (53, [(2, (0, 0)), (0, (1, 275)), (1, (0, p1))], [(0, (-1)), (0, p1)], w)) 4 rfl ?_
                refine e_Ok.if2 rfl (fun h43 => ?_) (fun h43 => ?_)
                · replace h43 : (p1 : Int) ≠ (-1) := h43
                  refine e_Ok.ps1 (x := (1, 275)) (q := 66) 1 rfl ?_
                  refine e_Ok.getr (z := 276) rfl (el_o rfl) rfl (ef_o rfl) (e_Has.eq hI.1 rfl) ⟨by decide, by decide⟩ ?_
                  refine e_Ok.ps1 (x := (0, p1)) (q := 70) 1 rfl ?_
                  refine e_Ok.callS rfl (e_dq hd rfl) rfl rfl (c_268 (by omega)) (fun r44 w45 h46 => ?_)
                  obtain ⟨rfl, rfl⟩ := h46
                  refine e_Ok.nrm (q := 73) (st' := [(0, 36 * p1 + 16), (1, 276)]) rfl rfl ?_
                  refine e_Ok.ps1 (x := (0, 0)) (q := 74) 1 rfl ?_
                  refine e_Ok.add (z := 36 * p1 + 16) rfl (e_adl (by decide)) (by omega) ?_
                  have h47 := (e_Has.get hI.1 (c := 276) (k := 36 * p1 + 16) (lo := 0) (hi := 2) (nR_STATE (a := p1) (by omega)) (by decide))
                  refine e_Ok.ald (z := w 276 (36 * p1 + 16)) rfl (el_o rfl) rfl (by omega) rfl (e_bq h47 (by decide) (by decide)) ?_
                  refine e_Ok.run (t' := (79, [(2, (0, w 276 (36 * p1 + 16))), (0, (1, 275)), (1, (0, p1))], [(0, p1), (1, 275)], w)) 3 rfl ?_
                  refine e_Ok.callV rfl (e_dq hd rfl) rfl rfl rfl rfl (d_384 (e_dq hd rfl) hI.1 (by omega) (by omega)) (fun r48 w49 h50 => ?_)
                  obtain ⟨⟨rfl, q51, q51T, q51n, q51s⟩, q51x⟩ := h50
                  have f52 : e_fr mTi w w49 := e_fr.trans (e_fr.refl w) (e_fr.mono q51 (fun c k q => by exact br_ti q))
                  have hI53 : mInv w49 G := mInv.brake hI q51 q51T q51s
                  have q51o := q51 276 0 no_9b_4
                  refine e_Ok.nrm (q := 82) (st' := []) rfl rfl ?_
                  refine e_Ok.run (t' := (88, [(2, (0, w 276 (36 * p1 + 16))), (0, (1, 275)), (1, (0, p1))], [(0, 0), (0, 0), (0, p1), (0, 6), (1, 275)], w49)) 5 rfl ?_
                  refine e_Ok.callV rfl (e_dq hd rfl) rfl rfl rfl rfl (c_423_u (e_dq hd rfl) q51T (bkE.fr hB (f52 275 5 no_9b_0) (f52 275 6 no_9b_1) (fun k => f52 356 k no_9b_2)).1 (fun e => by have e5 : w49 275 5 = w 275 5 := f52 275 5 no_9b_0; have e6 : w49 275 6 = w 275 6 := f52 275 6 no_9b_1; have h1 := hB.1; have h2 := (show ¬ mBk w by assumption); unfold mBk at h2; omega) (by decide) (fun e => by omega)) (fun r54 w55 h56 => ?_)
                  obtain ⟨rfl, q57⟩ := h56
                  refine e_Ok.nrm (q := 91) (st' := []) rfl rfl ?_
                  refine e_Ok.ps1 (x := (0, w 276 (36 * p1 + 16))) (q := 92) 1 rfl ?_
                  refine e_Ok.rets rfl rfl ?_
                  have ek0 : w49 276 0 = w 276 0 := ((q51 276 0 no_9b_4).trans rfl)
                  have ek5 : w49 276 5 = w49 276 5 := rfl
                  exact ⟨_, rfl, Or.inr ⟨⟨by omega, by omega, by omega⟩, by assumption, opS.ev (wm := w49) (opS.of f52 hI53 (fun k => by show w49 276 k = if p1 = -1 then _ else _; rw [if_neg (by omega)]; exact q51x k) q57) (fun k => by show w49 276 k = if p1 = -1 then _ else _; rw [if_neg (by omega)]; exact q51x k) (by unfold evG; omega)⟩⟩
                · replace h43 : (p1 : Int) = (-1) := Classical.not_not.mp (show ¬ ((p1 : Int) ≠ (-1)) from h43)
                  exfalso; omega
              · replace h42 : (0 : Int) ≠ 0 := (show ¬ ((0 : Int) = 0) from h42)
                exfalso; omega
          · replace h34 : (p1 : Int) = (-1) := Classical.not_not.mp (show ¬ ((p1 : Int) ≠ (-1)) from h34)
            exfalso; omega
      · replace h31 : (1 : Int) = 0 := Classical.not_not.mp (show ¬ ((1 : Int) ≠ 0) from h31)
        exfalso; omega
    · refine e_Ok.nrm (q := 10) (st' := [(0, 0)]) rfl rfl ?_
      refine e_Ok.if1 rfl (fun h58 => ?_) (fun h58 => ?_)
      · replace h58 : (0 : Int) ≠ 0 := h58
        exfalso; omega
      · replace h58 : (0 : Int) = 0 := Classical.not_not.mp (show ¬ ((0 : Int) ≠ 0) from h58)
        refine e_Ok.ps1 (x := (0, (-1))) (q := 14) 1 rfl ?_
        refine e_Ok.rets rfl rfl ?_
        exact ⟨_, rfl, Or.inl ⟨rfl, fun hc => by first | exact hc.2 (by assumption) | (have h1 := hc.1; omega)⟩⟩
end
end
