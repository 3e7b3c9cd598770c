noncomputable section
/-! the class: part, lay: answer and count -/
set_option maxHeartbeats 4000000 in
theorem c_76_ex {d : Nat} (hd : 24 ≤ d) {w : eW} (hT : e_Has kTy w) {n at_ : Int} (hn : w 19 1 = n) (ga : 0 ≤ at_ ∧ at_ ≤ 8) (hA : at_ < 4 → at_ < w 19 0) (hf : fKn w n) {s : Int} (g_s : (-2147483648) ≤ s ∧ s ≤ 2147483647) {x : Int} (g_x : (-2147483648) ≤ x ∧ x ≤ 2147483647) {y : Int} (g_y : (-2147483648) ≤ y ∧ y ≤ 2147483647) {r_ : Int} (g_r_ : (-2147483648) ≤ r_ ∧ r_ ≤ 2147483647) : e_Ok 20 elay kcode eI d 76 (0, [(0, (1, 19)), (1, (0, at_)), (2, (0, s)), (3, (0, x)), (4, (0, y)), (5, (0, r_))], [], w) (fun r w' => ∃ z : Int, r = [(0, z)] ∧ ((w' 19 1 = w 19 1 ∧ 32 ≤ n ∧ z = -3) ∨ (n < 32 ∧ z = n ∧ w' 19 1 = n + 1))) := by
  obtain ⟨d, rfl⟩ : ∃ e, d = e + 1 := ⟨d - 1, by omega⟩
  have hb0 := e_Has.get hT (c := 19) (k := 0) (lo := 0) (hi := 4) (kt_o rfl) (by decide)
  have hp0 := e_Has.get hT (c := 19) (k := 1) (lo := 0) (hi := 32) (kt_o rfl) (by decide)
  refine e_Ok.ps1 (x := (1, 19)) (q := 1) 1 rfl ?_
  refine e_Ok.getf (z := n) rfl (el_o rfl) rfl rfl hn (by omega) ?_
  refine e_Ok.ps1 (x := (0, 32)) (q := 6) 1 rfl ?_
  refine e_Ok.if2 rfl (fun h1 => ?_) (fun h1 => ?_)
  · replace h1 : (n : Int) < 32 := h1
    refine e_Ok.ps1 (x := (1, 19)) (q := 13) 1 rfl ?_
    refine e_Ok.getf (z := n) rfl (el_o rfl) rfl rfl hn (by omega) ?_
    refine e_Ok.run (t' := (19, [(6, (0, n)), (0, (1, 19)), (1, (0, at_)), (2, (0, s)), (3, (0, x)), (4, (0, y)), (5, (0, r_))], [(1, 19)], w)) 2 rfl ?_
    refine e_Ok.getr (z := 41) rfl (el_o rfl) rfl rfl (Eq.trans (e_Has.eq hT (kt_o rfl)) (by omega)) ⟨by decide, by decide⟩ ?_
    refine e_Ok.ps1 (x := (0, n)) (q := 24) 1 rfl ?_
    refine e_Ok.aald (z := n + 42) rfl (el_o rfl) rfl (by omega) (Eq.trans (e_Has.eq hT (k41 (by omega))) (by omega)) (by omega) ?_
    refine e_Ok.ps2 (x := (0, at_)) (y := (0, 0)) (q := 27) 2 rfl ?_
    refine e_Ok.ast rfl (lG (p := n) (by omega) (by omega)) rfl rfl (by omega) ?_
    generalize hw2 : e_up w (n + 42) 0 at_ = w2
    have f3 : e_fr kAp w w2 := e_fr.up (e_fr.refl w) hw2 (by unfold kAp; omega)
    have hT4 : e_Has kTy w2 := e_Has.upr hT hw2 (kG_0 (p := n) (by omega) (by omega)) (by omega)
    refine e_Ok.ps1 (x := (1, 19)) (q := 29) 1 rfl ?_
    refine e_Ok.getr (z := 41) rfl (el_o rfl) rfl rfl (e_uq hw2 (Or.inr (by decide)) (Eq.trans (e_Has.eq hT (kt_o rfl)) (by omega))) ⟨by decide, by decide⟩ ?_
    refine e_Ok.ps1 (x := (0, n)) (q := 34) 1 rfl ?_
    refine e_Ok.aald (z := n + 42) rfl (el_o rfl) rfl (by omega) (e_uq hw2 (Or.inl (by omega)) (Eq.trans (e_Has.eq hT (k41 (by omega))) (by omega))) (by omega) ?_
    refine e_Ok.ps2 (x := (0, s)) (y := (0, 1)) (q := 37) 2 rfl ?_
    refine e_Ok.ast rfl (lG (p := n) (by omega) (by omega)) rfl rfl (by omega) ?_
    generalize hw5 : e_up w2 (n + 42) 1 s = w5
    have f6 : e_fr kAp w w5 := e_fr.up f3 hw5 (by unfold kAp; omega)
    have hT7 : e_Has kTy w5 := e_Has.upr hT4 hw5 (kG_1 (p := n) (by omega) (by omega)) (by omega)
    refine e_Ok.ps1 (x := (1, 19)) (q := 39) 1 rfl ?_
    refine e_Ok.getr (z := 41) rfl (el_o rfl) rfl rfl (e_uq hw5 (Or.inr (by decide)) (e_uq hw2 (Or.inr (by decide)) (Eq.trans (e_Has.eq hT (kt_o rfl)) (by omega)))) ⟨by decide, by decide⟩ ?_
    refine e_Ok.ps1 (x := (0, n)) (q := 44) 1 rfl ?_
    refine e_Ok.aald (z := n + 42) rfl (el_o rfl) rfl (by omega) (e_uq hw5 (Or.inl (by omega)) (e_uq hw2 (Or.inl (by omega)) (Eq.trans (e_Has.eq hT (k41 (by omega))) (by omega)))) (by omega) ?_
    refine e_Ok.ps2 (x := (0, x)) (y := (0, 2)) (q := 47) 2 rfl ?_
    refine e_Ok.ast rfl (lG (p := n) (by omega) (by omega)) rfl rfl (by omega) ?_
    generalize hw8 : e_up w5 (n + 42) 2 x = w8
    have f9 : e_fr kAp w w8 := e_fr.up f6 hw8 (by unfold kAp; omega)
    have hT10 : e_Has kTy w8 := e_Has.upr hT7 hw8 (kG_2 (p := n) (by omega) (by omega)) (by omega)
    refine e_Ok.ps1 (x := (1, 19)) (q := 49) 1 rfl ?_
    refine e_Ok.getr (z := 41) rfl (el_o rfl) rfl rfl (e_uq hw8 (Or.inr (by decide)) (e_uq hw5 (Or.inr (by decide)) (e_uq hw2 (Or.inr (by decide)) (Eq.trans (e_Has.eq hT (kt_o rfl)) (by omega))))) ⟨by decide, by decide⟩ ?_
    refine e_Ok.ps1 (x := (0, n)) (q := 54) 1 rfl ?_
    refine e_Ok.aald (z := n + 42) rfl (el_o rfl) rfl (by omega) (e_uq hw8 (Or.inl (by omega)) (e_uq hw5 (Or.inl (by omega)) (e_uq hw2 (Or.inl (by omega)) (Eq.trans (e_Has.eq hT (k41 (by omega))) (by omega))))) (by omega) ?_
    refine e_Ok.ps2 (x := (0, y)) (y := (0, 3)) (q := 58) 2 rfl ?_
    refine e_Ok.ast rfl (lG (p := n) (by omega) (by omega)) rfl rfl (by omega) ?_
    generalize hw11 : e_up w8 (n + 42) 3 y = w11
    have f12 : e_fr kAp w w11 := e_fr.up f9 hw11 (by unfold kAp; omega)
    have hT13 : e_Has kTy w11 := e_Has.upr hT10 hw11 (kG_3 (p := n) (by omega) (by omega)) (by omega)
    refine e_Ok.ps1 (x := (1, 19)) (q := 60) 1 rfl ?_
    refine e_Ok.getr (z := 38) rfl (el_o rfl) rfl rfl (e_uq hw11 (Or.inr (by decide)) (e_uq hw8 (Or.inr (by decide)) (e_uq hw5 (Or.inr (by decide)) (e_uq hw2 (Or.inr (by decide)) (Eq.trans (e_Has.eq hT (kt_o rfl)) (by omega)))))) ⟨by decide, by decide⟩ ?_
    refine e_Ok.ps2 (x := (0, r_)) (y := (0, n)) (q := 67) 2 rfl ?_
    refine e_Ok.ast rfl (el_o rfl) rfl rfl (by omega) ?_
    generalize hw14 : e_up w11 38 n r_ = w14
    have f15 : e_fr kAp w w14 := e_fr.up f12 hw14 (by unfold kAp; omega)
    have hT16 : e_Has kTy w14 := e_Has.upr hT13 hw14 (kt_o rfl) (by omega)
    refine e_Ok.ps2 (x := (1, 19)) (y := (1, 19)) (q := 70) 2 rfl ?_
    refine e_Ok.getf (z := n) rfl (el_o rfl) rfl rfl (e_uq hw14 (Or.inl (by decide)) (e_uq hw11 (Or.inr (by decide)) (e_uq hw8 (Or.inr (by decide)) (e_uq hw5 (Or.inl (by omega)) (e_uq hw2 (Or.inr (by decide)) hn))))) (by omega) ?_
    refine e_Ok.ps1 (x := (0, 1)) (q := 74) 1 rfl ?_
    refine e_Ok.add (z := n + 1) rfl rfl (by omega) ?_
    refine e_Ok.putf rfl (el_o rfl) rfl rfl ?_
    generalize hw17 : e_up w14 19 1 (n + 1) = w17
    have f18 : e_fr kAp w w17 := e_fr.up f15 hw17 (by unfold kAp; omega)
    have hT19 : e_Has kTy w17 := e_Has.upr hT16 hw17 (kt_o rfl) (by omega)
    refine e_Ok.ps2 (x := (0, n)) (y := (1, 19)) (q := 81) 2 rfl ?_
    have u0 : w17 19 0 = w 19 0 := by rw [← hw17, e_up_ne _ _ (by omega), ← hw14, e_up_ne _ _ (by omega), ← hw11, e_up_ne _ _ (by omega), ← hw8, e_up_ne _ _ (by omega), ← hw5, e_up_ne _ _ (by omega), ← hw2, e_up_ne _ _ (by omega)]
    have un : w17 (n + 42) 0 = at_ := (e_uq hw17 (Or.inr (by decide)) (e_uq hw14 (Or.inl (by omega)) (e_uq hw11 (Or.inr (by decide)) (e_uq hw8 (Or.inr (by decide)) (e_uq hw5 (Or.inr (by decide)) (e_ue hw2))))))
    have u1 : w17 19 1 = n + 1 := (e_ue hw17)
    have uo : ∀ p k, 0 ≤ p → p < n → w17 (p + 42) k = w (p + 42) k := fun p k g1 g2 => by rw [← hw17, e_up_ne _ _ (by omega), ← hw14, e_up_ne _ _ (by omega), ← hw11, e_up_ne _ _ (by omega), ← hw8, e_up_ne _ _ (by omega), ← hw5, e_up_ne _ _ (by omega), ← hw2, e_up_ne _ _ (by omega)]
    have uf : fKn w17 n := fKn.eq0 hb0.2 u0 (fun c k g => by rw [← hw17, e_up_ne _ _ (by omega), ← hw14, e_up_ne _ _ (by omega), ← hw11, e_up_ne _ _ (by omega), ← hw8, e_up_ne _ _ (by omega), ← hw5, e_up_ne _ _ (by omega), ← hw2, e_up_ne _ _ (by omega)]) hf
    refine e_Ok.callV rfl (e_dq hd rfl) rfl rfl rfl rfl (c_78_k (e_dq hd rfl) (p := n) hT19 (by omega) uf (by rw [un, u0]; exact hA)) (fun r20 w21 h22 => ?_)
    obtain ⟨rfl, pf, pT, pk⟩ := h22
    have f23 : e_fr kAp w w21 := e_fr.trans f18 (e_fr.mono pf (fun c k q => by unfold kFl at q; unfold kAp; omega))
    refine e_Ok.nrm (q := 84) (st' := []) rfl rfl ?_
    refine e_Ok.ps1 (x := (0, n)) (q := 86) 1 rfl ?_
    refine e_Ok.rets rfl rfl ?_
    exact ⟨_, rfl, Or.inr ⟨by omega, by omega, (by rw [pf _ _ (by unfold kFl; omega)]; exact u1)⟩⟩
  · replace h1 : (n : Int) ≥ 32 := Int.not_lt.mp (show ¬ ((n : Int) < 32) from h1)
    refine e_Ok.ps1 (x := (0, (-3))) (q := 11) 1 rfl ?_
    refine e_Ok.rets rfl rfl ?_
    exact ⟨_, rfl, Or.inl ⟨rfl, by omega, by omega⟩⟩
set_option maxHeartbeats 4000000 in
theorem c_203_ex {d : Nat} (hd : 27 ≤ d) {w : eW} (hT : e_Has kTy w) (hO : 0 ≤ w 0 13 ∧ w 0 13 ≤ 1) (hf : w 0 13 = 0 → fKn w (w 19 1)) {a : Int} (g_a : (-2147483648) ≤ a ∧ a ≤ 2147483647) {b : Int} (g_b : (-2147483648) ≤ b ∧ b ≤ 2147483647) {c : Int} (g_c : (-2147483648) ≤ c ∧ c ≤ 2147483647) : e_Ok 20 elay kcode eI d 203 (0, [(0, (1, 0)), (1, (0, a)), (2, (0, b)), (3, (0, c))], [], w) (fun r w' => ∃ z : Int, r = [(0, z)] ∧ ((w' 19 1 = w 19 1 ∧ ((¬ ((0 ≤ a ∧ a < w 19 0) ∧ (0 ≤ b ∧ b ≤ w 20 a) ∧ (0 ≤ c ∧ c ≤ 800)) ∧ z = -1) ∨ (((0 ≤ a ∧ a < w 19 0) ∧ (0 ≤ b ∧ b ≤ w 20 a) ∧ (0 ≤ c ∧ c ≤ 800)) ∧ ((w 0 13 ≠ 0 ∧ z = -2) ∨ (w 0 13 = 0 ∧ w 19 1 = 32 ∧ z = -3))))) ∨ ((((0 ≤ a ∧ a < w 19 0) ∧ (0 ≤ b ∧ b ≤ w 20 a) ∧ (0 ≤ c ∧ c ≤ 800)) ∧ w 0 13 = 0 ∧ ¬ (w 19 1 = 32)) ∧ z = w 19 1 ∧ w' 19 1 = w 19 1 + 1))) := by
  obtain ⟨d, rfl⟩ : ∃ e, d = e + 1 := ⟨d - 1, by omega⟩
  have hw0 := e_Has.get hT (c := 0) (k := 11) (lo := 0) (hi := 4) (kt_o rfl) (by decide)
  have hb0 := e_Has.get hT (c := 19) (k := 0) (lo := 0) (hi := 4) (kt_o rfl) (by decide)
  have hp0 := e_Has.get hT (c := 19) (k := 1) (lo := 0) (hi := 32) (kt_o rfl) (by decide)
  refine e_Ok.ps2 (x := (0, a)) (y := (1, 0)) (q := 2) 2 rfl ?_
  refine e_Ok.callV rfl (e_dq hd rfl) rfl rfl rfl rfl (c_248 (e_dq hd rfl) hT (by omega)) (fun r1 w2 h3 => ?_)
  obtain ⟨z4, rfl, rfl, q5⟩ := h3
  obtain ⟨rfl, q5⟩ | ⟨rfl, q5⟩ := q5
  · refine e_Ok.nrm (q := 5) (st' := [(0, 1)]) rfl rfl ?_
    refine e_Ok.if1 rfl (fun h6 => ?_) (fun h6 => ?_)
    · replace h6 : (1 : Int) = 0 := h6
      exfalso; omega
    · replace h6 : (1 : Int) ≠ 0 := (show ¬ ((1 : Int) = 0) from h6)
      refine e_Ok.ps3 (x := (1, 0)) (y := (0, 0)) (z := (0, b)) (q := 11) 3 rfl ?_
      refine e_Ok.getr (z := 19) rfl (el_o rfl) rfl rfl (Eq.trans (e_Has.eq hT (kt_o rfl)) (by omega)) ⟨by decide, by decide⟩ ?_
      refine e_Ok.getr (z := 20) rfl (el_o rfl) rfl rfl (Eq.trans (e_Has.eq hT (kt_o rfl)) (by omega)) ⟨by decide, by decide⟩ ?_
      refine e_Ok.ps1 (x := (0, a)) (q := 18) 1 rfl ?_
      have h7 := (e_Has.get hT (c := 20) (k := a) (lo := (-2147483648)) (hi := 2147483647) (kt_o rfl) (by decide))
      refine e_Ok.ald (z := w 20 a) rfl (el_o rfl) rfl (by omega) rfl (e_bq h7 (by decide) (by decide)) ?_
      refine e_Ok.callS rfl (e_dq hd rfl) rfl rfl (c_242 (by omega) (by omega) (by omega)) (fun r8 w9 h10 => ?_)
      obtain ⟨z11, rfl, rfl, q12⟩ := h10
      obtain ⟨rfl, q12⟩ | ⟨rfl, q12⟩ := q12
      · refine e_Ok.nrm (q := 22) (st' := [(0, 1)]) rfl rfl ?_
        refine e_Ok.if1 rfl (fun h13 => ?_) (fun h13 => ?_)
        · replace h13 : (1 : Int) = 0 := h13
          exfalso; omega
        · replace h13 : (1 : Int) ≠ 0 := (show ¬ ((1 : Int) = 0) from h13)
          refine e_Ok.ps3 (x := (0, 800)) (y := (0, 0)) (z := (0, c)) (q := 30) 3 rfl ?_
          refine e_Ok.callS rfl (e_dq hd rfl) rfl rfl (c_242 (by omega) (by omega) (by omega)) (fun r14 w15 h16 => ?_)
          obtain ⟨z17, rfl, rfl, q18⟩ := h16
          obtain ⟨rfl, q18⟩ | ⟨rfl, q18⟩ := q18
          · refine e_Ok.nrm (q := 33) (st' := [(0, 1)]) rfl rfl ?_
            refine e_Ok.if1 rfl (fun h19 => ?_) (fun h19 => ?_)
            · replace h19 : (1 : Int) ≠ 0 := h19
              refine e_Ok.ps1 (x := (1, 0)) (q := 39) 1 rfl ?_
              refine e_Ok.getf (z := w 0 13) rfl (el_o rfl) rfl rfl rfl (by omega) ?_
              refine e_Ok.if1 rfl (fun h20 => ?_) (fun h20 => ?_)
              · replace h20 : (w 0 13 : Int) = 0 := h20
                refine e_Ok.ps1 (x := (1, 0)) (q := 49) 1 rfl ?_
                refine e_Ok.getr (z := 19) rfl (el_o rfl) rfl rfl (Eq.trans (e_Has.eq hT (kt_o rfl)) (by omega)) ⟨by decide, by decide⟩ ?_
                refine e_Ok.run (t' := (57, [(0, (1, 0)), (1, (0, a)), (2, (0, b)), (3, (0, c))], [(0, c), (0, 0), (0, 0), (0, b), (0, a), (1, 19)], w)) 5 rfl ?_
                refine e_Ok.callV rfl (e_dq hd rfl) rfl rfl rfl rfl (c_76_ex (e_dq hd rfl) (n := w 19 1) (at_ := a) hT rfl (by omega) (by omega) (hf (by omega)) (by omega) (by omega) (by omega) (by omega)) (fun r21 w22 h23 => ?_)
                obtain ⟨z24, rfl, q25⟩ := h23
                refine e_Ok.nrm (q := 60) (st' := [(0, z24)]) rfl rfl ?_
                refine e_Ok.rets rfl rfl ?_
                exact ⟨_, rfl, by omega⟩
              · replace h20 : (w 0 13 : Int) ≠ 0 := (show ¬ ((w 0 13 : Int) = 0) from h20)
                refine e_Ok.ps1 (x := (0, (-2))) (q := 47) 1 rfl ?_
                refine e_Ok.rets rfl rfl ?_
                exact ⟨_, rfl, Or.inl ⟨rfl, by omega⟩⟩
            · replace h19 : (1 : Int) = 0 := Classical.not_not.mp (show ¬ ((1 : Int) ≠ 0) from h19)
              exfalso; omega
          · refine e_Ok.nrm (q := 33) (st' := [(0, 0)]) rfl rfl ?_
            refine e_Ok.if1 rfl (fun h26 => ?_) (fun h26 => ?_)
            · replace h26 : (0 : Int) ≠ 0 := h26
              exfalso; omega
            · replace h26 : (0 : Int) = 0 := Classical.not_not.mp (show ¬ ((0 : Int) ≠ 0) from h26)
              refine e_Ok.ps1 (x := (0, (-1))) (q := 37) 1 rfl ?_
              refine e_Ok.rets rfl rfl ?_
              exact ⟨_, rfl, Or.inl ⟨rfl, by omega⟩⟩
      · refine e_Ok.nrm (q := 22) (st' := [(0, 0)]) rfl rfl ?_
        refine e_Ok.if1 rfl (fun h27 => ?_) (fun h27 => ?_)
        · replace h27 : (0 : Int) = 0 := h27
          refine e_Ok.ps1 (x := (0, (-1))) (q := 37) 1 rfl ?_
          refine e_Ok.rets rfl rfl ?_
          exact ⟨_, rfl, Or.inl ⟨rfl, by omega⟩⟩
        · replace h27 : (0 : Int) ≠ 0 := (show ¬ ((0 : Int) = 0) from h27)
          exfalso; omega
  · refine e_Ok.nrm (q := 5) (st' := [(0, 0)]) rfl rfl ?_
    refine e_Ok.if1 rfl (fun h28 => ?_) (fun h28 => ?_)
    · replace h28 : (0 : Int) = 0 := h28
      refine e_Ok.ps1 (x := (0, (-1))) (q := 37) 1 rfl ?_
      refine e_Ok.rets rfl rfl ?_
      exact ⟨_, rfl, Or.inl ⟨rfl, by omega⟩⟩
    · replace h28 : (0 : Int) ≠ 0 := (show ¬ ((0 : Int) = 0) from h28)
      exfalso; omega
set_option maxHeartbeats 4000000 in
theorem c_204_ex {d : Nat} (hd : 27 ≤ d) {w : eW} (hT : e_Has kTy w) (hO : 0 ≤ w 0 13 ∧ w 0 13 ≤ 1) (hf : w 0 13 = 0 → fKn w (w 19 1)) {a : Int} (g_a : (-2147483648) ≤ a ∧ a ≤ 2147483647) {b : Int} (g_b : (-2147483648) ≤ b ∧ b ≤ 2147483647) {c : Int} (g_c : (-2147483648) ≤ c ∧ c ≤ 2147483647) : e_Ok 20 elay kcode eI d 204 (0, [(0, (1, 0)), (1, (0, a)), (2, (0, b)), (3, (0, c))], [], w) (fun r w' => ∃ z : Int, r = [(0, z)] ∧ ((w' 19 1 = w 19 1 ∧ ((¬ ((-16000 ≤ a ∧ a ≤ 16000) ∧ (-16000 ≤ b ∧ b ≤ 16000) ∧ (0 ≤ c ∧ c ≤ 800)) ∧ z = -1) ∨ (((-16000 ≤ a ∧ a ≤ 16000) ∧ (-16000 ≤ b ∧ b ≤ 16000) ∧ (0 ≤ c ∧ c ≤ 800)) ∧ ((w 0 13 ≠ 0 ∧ z = -2) ∨ (w 0 13 = 0 ∧ w 19 1 = 32 ∧ z = -3))))) ∨ ((((-16000 ≤ a ∧ a ≤ 16000) ∧ (-16000 ≤ b ∧ b ≤ 16000) ∧ (0 ≤ c ∧ c ≤ 800)) ∧ w 0 13 = 0 ∧ ¬ (w 19 1 = 32)) ∧ z = w 19 1 ∧ w' 19 1 = w 19 1 + 1))) := by
  obtain ⟨d, rfl⟩ : ∃ e, d = e + 1 := ⟨d - 1, by omega⟩
  have hw0 := e_Has.get hT (c := 0) (k := 11) (lo := 0) (hi := 4) (kt_o rfl) (by decide)
  have hb0 := e_Has.get hT (c := 19) (k := 0) (lo := 0) (hi := 4) (kt_o rfl) (by decide)
  have hp0 := e_Has.get hT (c := 19) (k := 1) (lo := 0) (hi := 32) (kt_o rfl) (by decide)
  refine e_Ok.ps2 (x := (0, b)) (y := (0, a)) (q := 2) 2 rfl ?_
  refine e_Ok.callS rfl (e_dq hd rfl) rfl rfl (c_243_ex (e_dq hd rfl) (by omega) (by omega)) (fun r1 w2 h3 => ?_)
  obtain ⟨z4, rfl, rfl, q5⟩ := h3
  obtain ⟨rfl, q5⟩ | ⟨rfl, q5⟩ := q5
  · refine e_Ok.nrm (q := 5) (st' := [(0, 1)]) rfl rfl ?_
    refine e_Ok.if1 rfl (fun h6 => ?_) (fun h6 => ?_)
    · replace h6 : (1 : Int) = 0 := h6
      exfalso; omega
    · replace h6 : (1 : Int) ≠ 0 := (show ¬ ((1 : Int) = 0) from h6)
      refine e_Ok.ps3 (x := (0, 800)) (y := (0, 0)) (z := (0, c)) (q := 13) 3 rfl ?_
      refine e_Ok.callS rfl (e_dq hd rfl) rfl rfl (c_242 (by omega) (by omega) (by omega)) (fun r7 w8 h9 => ?_)
      obtain ⟨z10, rfl, rfl, q11⟩ := h9
      obtain ⟨rfl, q11⟩ | ⟨rfl, q11⟩ := q11
      · refine e_Ok.nrm (q := 16) (st' := [(0, 1)]) rfl rfl ?_
        refine e_Ok.if1 rfl (fun h12 => ?_) (fun h12 => ?_)
        · replace h12 : (1 : Int) ≠ 0 := h12
          refine e_Ok.ps1 (x := (1, 0)) (q := 22) 1 rfl ?_
          refine e_Ok.getf (z := w 0 13) rfl (el_o rfl) rfl rfl rfl (by omega) ?_
          refine e_Ok.if1 rfl (fun h13 => ?_) (fun h13 => ?_)
          · replace h13 : (w 0 13 : Int) = 0 := h13
            refine e_Ok.ps1 (x := (1, 0)) (q := 32) 1 rfl ?_
            refine e_Ok.getr (z := 19) rfl (el_o rfl) rfl rfl (Eq.trans (e_Has.eq hT (kt_o rfl)) (by omega)) ⟨by decide, by decide⟩ ?_
            refine e_Ok.run (t' := (41, [(0, (1, 0)), (1, (0, a)), (2, (0, b)), (3, (0, c))], [(0, c), (0, b), (0, a), (0, 0), (0, 8), (1, 19)], w)) 5 rfl ?_
            refine e_Ok.callV rfl (e_dq hd rfl) rfl rfl rfl rfl (c_76_ex (e_dq hd rfl) (n := w 19 1) (at_ := 8) hT rfl (by omega) (by omega) (hf (by omega)) (by omega) (by omega) (by omega) (by omega)) (fun r14 w15 h16 => ?_)
            obtain ⟨z17, rfl, q18⟩ := h16
            refine e_Ok.nrm (q := 44) (st' := [(0, z17)]) rfl rfl ?_
            refine e_Ok.rets rfl rfl ?_
            exact ⟨_, rfl, by omega⟩
          · replace h13 : (w 0 13 : Int) ≠ 0 := (show ¬ ((w 0 13 : Int) = 0) from h13)
            refine e_Ok.ps1 (x := (0, (-2))) (q := 30) 1 rfl ?_
            refine e_Ok.rets rfl rfl ?_
            exact ⟨_, rfl, Or.inl ⟨rfl, by omega⟩⟩
        · replace h12 : (1 : Int) = 0 := Classical.not_not.mp (show ¬ ((1 : Int) ≠ 0) from h12)
          exfalso; omega
      · refine e_Ok.nrm (q := 16) (st' := [(0, 0)]) rfl rfl ?_
        refine e_Ok.if1 rfl (fun h19 => ?_) (fun h19 => ?_)
        · replace h19 : (0 : Int) ≠ 0 := h19
          exfalso; omega
        · replace h19 : (0 : Int) = 0 := Classical.not_not.mp (show ¬ ((0 : Int) ≠ 0) from h19)
          refine e_Ok.ps1 (x := (0, (-1))) (q := 20) 1 rfl ?_
          refine e_Ok.rets rfl rfl ?_
          exact ⟨_, rfl, Or.inl ⟨rfl, by omega⟩⟩
  · refine e_Ok.nrm (q := 5) (st' := [(0, 0)]) rfl rfl ?_
    refine e_Ok.if1 rfl (fun h20 => ?_) (fun h20 => ?_)
    · replace h20 : (0 : Int) = 0 := h20
      refine e_Ok.ps1 (x := (0, (-1))) (q := 20) 1 rfl ?_
      refine e_Ok.rets rfl rfl ?_
      exact ⟨_, rfl, Or.inl ⟨rfl, by omega⟩⟩
    · replace h20 : (0 : Int) ≠ 0 := (show ¬ ((0 : Int) = 0) from h20)
      exfalso; omega
end
