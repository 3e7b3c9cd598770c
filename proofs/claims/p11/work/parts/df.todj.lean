-- part df
section
noncomputable section
/-! the class: calls that only look; the tape -/
def kTp (c k : Int) : Prop := (c = 1 ∧ k = 0) ∨ c = 5
/-- what the calls that only look ask -/
def lkK (w : eW) : Prop := e_Has kTy w ∧ (∀ c k, 0 ≤ c → c ≤ 274 → kn1 (w c k)) ∧ (∀ a, 0 ≤ a → a ≤ 3 → isCd (w (17 * a + 86) 7)) ∧ (∀ a, 0 ≤ a → a ≤ 3 → 0 ≤ w (17 * a + 86) 17 → yD w (w (17 * a + 86) 8) (w (17 * a + 86) 17)) ∧ (∀ a, 0 ≤ a → a ≤ 3 → aK w a) ∧ fK w
theorem ke_arm_hd {x a b : Int} {t : Nat} {r : List (Int × Int × Nat)} (h : a ≤ x ∧ x ≤ b) : e_arm x ((a, b, t) :: r) = some t := by
  unfold e_arm
  rw [decide_eq_true h.1, decide_eq_true h.2]
  rfl
theorem ke_arm_tl {x a b : Int} {t : Nat} {r : List (Int × Int × Nat)} (h : x < a ∨ b < x) : e_arm x ((a, b, t) :: r) = e_arm x r := by
  rw [e_arm]
  have : (decide (a ≤ x) && decide (x ≤ b)) = false := by
    rcases h with h | h
    · rw [decide_eq_false (by omega : ¬ a ≤ x)]; rfl
    · rw [decide_eq_false (by omega : ¬ x ≤ b), Bool.and_false]
  simp only [this, cond_false]
theorem c_96_a {d : Nat} (hd : 22 ≤ d) {w : eW} (hT : e_Has kTy w) {y j : Int} (g_y : (-1) ≤ y ∧ y ≤ 59) (g_j : (-2147483648) ≤ j ∧ j ≤ 2147483647) {m : Int} (hy : 0 ≤ y → yD w m y) (hm : m ≤ 6) : e_Ok 20 elay kcode eI d 96 (0, [(0, (1, 262)), (1, (0, y)), (2, (0, j))], [], w) (fun r w' => ∃ z : Int, r = [(0, z)] ∧ w = w' ∧ ((-2147483648) ≤ z ∧ z ≤ 2147483647)) := by
  obtain ⟨d, rfl⟩ : ∃ e, d = e + 1 := ⟨d - 1, by omega⟩
  refine e_Ok.ps4 (x := (0, y)) (y := (1, 262)) (z := (0, 0)) (u := (0, j)) (q := 4) 4 rfl ?_
  refine e_Ok.callV rfl (e_dq hd rfl) rfl rfl rfl rfl (c_95 (e_dq hd rfl) hT (by omega) hy) (fun r1 w2 h3 => ?_)
  obtain ⟨z5, rfl, rfl, q4r, q4x⟩ := h3
  refine e_Ok.nrm (q := 7) (st' := [(0, z5), (0, 0), (0, j)]) rfl rfl ?_
  refine e_Ok.ps1 (x := (0, 1)) (q := 8) 1 rfl ?_
  refine e_Ok.sub' (z := z5 - 1) rfl rfl (by omega) ?_
  refine e_Ok.callS rfl (e_dq hd rfl) rfl rfl (c_242 (by omega) (by omega) (by omega)) (fun r6 w7 h8 => ?_)
  obtain ⟨z9, rfl, rfl, q10⟩ := h8
  obtain ⟨rfl, q10⟩ | ⟨rfl, q10⟩ := q10
  · refine e_Ok.nrm (q := 12) (st' := [(0, 1)]) rfl rfl ?_
    refine e_Ok.if1 rfl (fun h11 => ?_) (fun h11 => ?_)
    · replace h11 : (1 : Int) = 0 := h11
      exfalso; omega
    · replace h11 : (1 : Int) ≠ 0 := (show ¬ ((1 : Int) = 0) from h11)
      have hq := (hy (by omega)).2.2 j (by omega) (by omega)
      have hy1 := (hy (by omega)).1
      refine e_Ok.ps1 (x := (1, 262)) (q := 16) 1 rfl ?_
      refine e_Ok.getr (z := 269) rfl (el_o rfl) rfl rfl (e_Has.eq hT (kt_o rfl)) ⟨by decide, by decide⟩ ?_
      refine e_Ok.ps2 (x := (0, 1000)) (y := (0, y)) (q := 23) 2 rfl ?_
      refine e_Ok.mul (z := 1000 * y) rfl (Int.mul_comm _ _) (by omega) ?_
      refine e_Ok.ps1 (x := (0, j)) (q := 25) 1 rfl ?_
      refine e_Ok.add (z := 1000 * y + j) rfl rfl (by omega) ?_
      refine e_Ok.ald (z := w 269 (1000 * y + j)) rfl (el_o rfl) rfl (by omega) rfl (by omega) ?_
      refine e_Ok.ps0 (q := 31) 1 rfl ?_
      refine e_Ok.rets rfl rfl ?_
      exact ⟨_, rfl, rfl, ⟨by omega, by omega⟩⟩
  · refine e_Ok.nrm (q := 12) (st' := [(0, 0)]) rfl rfl ?_
    refine e_Ok.if1 rfl (fun h12 => ?_) (fun h12 => ?_)
    · replace h12 : (0 : Int) = 0 := h12
      refine e_Ok.ps1 (x := (0, (-1))) (q := 31) 1 rfl ?_
      refine e_Ok.rets rfl rfl ?_
      exact ⟨_, rfl, rfl, ⟨by omega, by omega⟩⟩
    · replace h12 : (0 : Int) ≠ 0 := (show ¬ ((0 : Int) = 0) from h12)
      exfalso; omega
theorem c_226 {d : Nat} (hd : 25 ≤ d) {w : eW} (hl : lkK w) : e_Ok 20 elay kcode eI d 226 (0, [(0, (1, 0))], [], w) (fun r w' => ∃ z : Int, r = [(0, z)] ∧ w = w') := by
  obtain ⟨hT, hAll, hC, hW, ka, hF⟩ := hl
  have hw0 := e_Has.get hT (c := 0) (k := 11) (lo := 0) (hi := 4) (kt_o rfl) (by decide)
  refine e_Ok.ps1 (x := (1, 0)) (q := 1) 1 rfl ?_
  refine e_Ok.getr (z := 74) rfl (el_o rfl) rfl rfl (e_Has.eq hT (kt_o rfl)) ⟨by decide, by decide⟩ ?_
  have h1 := (e_Has.get hT (c := 74) (k := 0) (lo := 0) (hi := 6000) (kt_o rfl) (by decide))
  refine e_Ok.getf (z := w 74 0) rfl (el_o rfl) rfl rfl rfl (e_bq h1 (by decide) (by decide)) ?_
  refine e_Ok.rets rfl rfl ?_
  exact ⟨_, rfl, rfl⟩
theorem c_227 {d : Nat} (hd : 25 ≤ d) {w : eW} (hl : lkK w) {a : Int} (g_a : (-2147483648) ≤ a ∧ a ≤ 2147483647) {b : Int} (g_b : (-2147483648) ≤ b ∧ b ≤ 2147483647) : e_Ok 20 elay kcode eI d 227 (0, [(0, (1, 0)), (1, (0, a)), (2, (0, b))], [], w) (fun r w' => ∃ z : Int, r = [(0, z)] ∧ w = w') := by
  obtain ⟨d, rfl⟩ : ∃ e, d = e + 1 := ⟨d - 1, by omega⟩
  obtain ⟨hT, hAll, hC, hW, ka, hF⟩ := hl
  have hw0 := e_Has.get hT (c := 0) (k := 11) (lo := 0) (hi := 4) (kt_o rfl) (by decide)
  refine e_Ok.ps2 (x := (0, a)) (y := (1, 0)) (q := 2) 2 rfl ?_
  refine e_Ok.callV rfl (e_dq hd rfl) rfl rfl rfl rfl (c_246 (e_dq hd rfl) hT (by omega)) (fun r1 w2 h3 => ?_)
  obtain ⟨z4, rfl, rfl, q5⟩ := h3
  obtain ⟨rfl, q5⟩ | ⟨rfl, q5⟩ := q5
  · refine e_Ok.nrm (q := 5) (st' := [(0, 1)]) rfl rfl ?_
    refine e_Ok.if1 rfl (fun h6 => ?_) (fun h6 => ?_)
    · replace h6 : (1 : Int) ≠ 0 := h6
      refine e_Ok.ps1 (x := (1, 0)) (q := 11) 1 rfl ?_
      refine e_Ok.getr (z := 9) rfl (el_o rfl) rfl rfl (e_Has.eq hT (kt_o rfl)) ⟨by decide, by decide⟩ ?_
      refine e_Ok.ps1 (x := (0, a)) (q := 15) 1 rfl ?_
      refine e_Ok.aald (z := 17 * a + 86) rfl (el_o rfl) rfl (by omega) (Eq.trans (e_Has.eq hT (k9 (by omega))) (by omega)) (by omega) ?_
      refine e_Ok.run (t' := (17, [(3, (1, 17 * a + 86)), (0, (1, 0)), (1, (0, a)), (2, (0, b))], [], w)) 1 rfl ?_
      have hcd := hC a (by omega) (by omega)
      have hcd2 := hcd; unfold isCd at hcd2
      refine e_Ok.ps1 (x := (0, b)) (q := 18) 1 rfl ?_
      obtain h7 | h7 | h7 | h7 | h7 | h7 | h7 | h7 | h7 | h7 : (b : Int) < 0 ∨ (b : Int) = 0 ∨ (b : Int) = 1 ∨ (b : Int) = 2 ∨ (b : Int) = 3 ∨ (b : Int) = 4 ∨ (b : Int) = 5 ∨ (b : Int) = 6 ∨ (b : Int) = 7 ∨ 7 < (b : Int) := by omega
      · refine e_Ok.swk (tg := 141) rfl (ke_arm_hd (by omega)) ?_
        refine e_Ok.run (t' := (142, [(3, (1, 17 * a + 86)), (0, (1, 0)), (1, (0, a)), (2, (0, b))], [(0, (-1))], w)) 1 rfl ?_
        refine e_Ok.rets rfl rfl ?_
        exact ⟨_, rfl, rfl⟩
      · refine e_Ok.swk (tg := 64) rfl (by rw [ke_arm_tl (by omega)]; exact ke_arm_hd (by omega)) ?_
        refine e_Ok.run (t' := (65, [(3, (1, 17 * a + 86)), (0, (1, 0)), (1, (0, a)), (2, (0, b))], [(1, 17 * a + 86)], w)) 1 rfl ?_
        have h8 := (e_Has.get hT (c := 17 * a + 86) (k := 11) (lo := 0) (hi := 2) (kA_11 (a := a) (by omega) (by omega)) (by decide))
        refine e_Ok.getf (z := w (17 * a + 86) 11) rfl (lA0 (a := a) (by omega) (by omega)) rfl rfl rfl (e_bq h8 (by decide) (by decide)) ?_
        refine e_Ok.rets rfl rfl ?_
        exact ⟨_, rfl, rfl⟩
      · refine e_Ok.swk (tg := 69) rfl (by rw [ke_arm_tl (by omega), ke_arm_tl (by omega)]; exact ke_arm_hd (by omega)) ?_
        refine e_Ok.run (t' := (70, [(3, (1, 17 * a + 86)), (0, (1, 0)), (1, (0, a)), (2, (0, b))], [(1, 17 * a + 86)], w)) 1 rfl ?_
        have h9 := (e_Has.get hT (c := 17 * a + 86) (k := 8) (lo := 0) (hi := 6) (kA_8 (a := a) (by omega) (by omega)) (by decide))
        refine e_Ok.getf (z := w (17 * a + 86) 8) rfl (lA0 (a := a) (by omega) (by omega)) rfl rfl rfl (e_bq h9 (by decide) (by decide)) ?_
        refine e_Ok.rets rfl rfl ?_
        exact ⟨_, rfl, rfl⟩
      · refine e_Ok.swk (tg := 74) rfl (by rw [ke_arm_tl (by omega), ke_arm_tl (by omega), ke_arm_tl (by omega)]; exact ke_arm_hd (by omega)) ?_
        refine e_Ok.run (t' := (75, [(3, (1, 17 * a + 86)), (0, (1, 0)), (1, (0, a)), (2, (0, b))], [(1, 17 * a + 86)], w)) 1 rfl ?_
        have h10 := (e_Has.get hT (c := 17 * a + 86) (k := 14) (lo := (-1)) (hi := 31) (kA_14 (a := a) (by omega) (by omega)) (by decide))
        refine e_Ok.getf (z := w (17 * a + 86) 14) rfl (lA0 (a := a) (by omega) (by omega)) rfl rfl rfl (e_bq h10 (by decide) (by decide)) ?_
        refine e_Ok.rets rfl rfl ?_
        exact ⟨_, rfl, rfl⟩
      · refine e_Ok.swk (tg := 79) rfl (by rw [ke_arm_tl (by omega), ke_arm_tl (by omega), ke_arm_tl (by omega), ke_arm_tl (by omega)]; exact ke_arm_hd (by omega)) ?_
        refine e_Ok.run (t' := (80, [(3, (1, 17 * a + 86)), (0, (1, 0)), (1, (0, a)), (2, (0, b))], [(1, 17 * a + 86)], w)) 1 rfl ?_
        have h11 := (e_Has.get hT (c := 17 * a + 86) (k := 16) (lo := (-1)) (hi := 15) (kA_16 (a := a) (by omega) (by omega)) (by decide))
        refine e_Ok.getf (z := w (17 * a + 86) 16) rfl (lA0 (a := a) (by omega) (by omega)) rfl rfl rfl (e_bq h11 (by decide) (by decide)) ?_
        refine e_Ok.rets rfl rfl ?_
        exact ⟨_, rfl, rfl⟩
      · refine e_Ok.swk (tg := 84) rfl (by rw [ke_arm_tl (by omega), ke_arm_tl (by omega), ke_arm_tl (by omega), ke_arm_tl (by omega), ke_arm_tl (by omega)]; exact ke_arm_hd (by omega)) ?_
        refine e_Ok.run (t' := (85, [(3, (1, 17 * a + 86)), (0, (1, 0)), (1, (0, a)), (2, (0, b))], [(1, 17 * a + 86)], w)) 1 rfl ?_
        refine e_Ok.getr (z := w (17 * a + 86) 7) rfl (lA0 (a := a) (by omega) (by omega)) rfl rfl rfl (by omega) ?_
        have h12 := (e_Has.get hT (c := w (17 * a + 86) 7) (k := 1) (lo := 0) (hi := 32) (kD_1 hcd) (by decide))
        refine e_Ok.getf (z := w (w (17 * a + 86) 7) 1) rfl (lD0 hcd) rfl rfl rfl (e_bq h12 (by decide) (by decide)) ?_
        refine e_Ok.rets rfl rfl ?_
        exact ⟨_, rfl, rfl⟩
      · refine e_Ok.swk (tg := 92) rfl (by rw [ke_arm_tl (by omega), ke_arm_tl (by omega), ke_arm_tl (by omega), ke_arm_tl (by omega), ke_arm_tl (by omega), ke_arm_tl (by omega)]; exact ke_arm_hd (by omega)) ?_
        refine e_Ok.run (t' := (93, [(3, (1, 17 * a + 86)), (0, (1, 0)), (1, (0, a)), (2, (0, b))], [(1, 17 * a + 86)], w)) 1 rfl ?_
        have h13 := (e_Has.get hT (c := 17 * a + 86) (k := 17) (lo := (-1)) (hi := 59) (kA_17 (a := a) (by omega) (by omega)) (by decide))
        refine e_Ok.getf (z := w (17 * a + 86) 17) rfl (lA0 (a := a) (by omega) (by omega)) rfl rfl rfl (e_bq h13 (by decide) (by decide)) ?_
        refine e_Ok.if1 rfl (fun h14 => ?_) (fun h14 => ?_)
        · replace h14 : (w (17 * a + 86) 17 : Int) ≥ 0 := h14
          refine e_Ok.ps1 (x := (1, 0)) (q := 104) 1 rfl ?_
          refine e_Ok.getr (z := 262) rfl (el_o rfl) rfl rfl (e_Has.eq hT (kt_o rfl)) ⟨by decide, by decide⟩ ?_
          refine e_Ok.ps1 (x := (1, 17 * a + 86)) (q := 108) 1 rfl ?_
          refine e_Ok.getf (z := w (17 * a + 86) 17) rfl (lA0 (a := a) (by omega) (by omega)) rfl rfl rfl (by omega) ?_
          refine e_Ok.callV rfl (e_dq hd rfl) rfl rfl rfl rfl (c_95 (e_dq hd rfl) (m := w (17 * a + 86) 8) hT (by omega) (fun g => hW a (by omega) (by omega) g)) (fun r15 w16 h17 => ?_)
          obtain ⟨z18, rfl, rfl, q19r, -⟩ := h17
          refine e_Ok.nrm (q := 114) (st' := [(0, z18)]) rfl rfl ?_
          refine e_Ok.rets rfl rfl ?_
          exact ⟨_, rfl, rfl⟩
        · replace h14 : (w (17 * a + 86) 17 : Int) < 0 := Int.not_le.mp (show ¬ ((w (17 * a + 86) 17 : Int) ≥ 0) from h14)
          refine e_Ok.ps1 (x := (0, (-1))) (q := 114) 2 rfl ?_
          refine e_Ok.rets rfl rfl ?_
          exact ⟨_, rfl, rfl⟩
      · refine e_Ok.swk (tg := 115) rfl (by rw [ke_arm_tl (by omega), ke_arm_tl (by omega), ke_arm_tl (by omega), ke_arm_tl (by omega), ke_arm_tl (by omega), ke_arm_tl (by omega), ke_arm_tl (by omega)]; exact ke_arm_hd (by omega)) ?_
        refine e_Ok.run (t' := (116, [(3, (1, 17 * a + 86)), (0, (1, 0)), (1, (0, a)), (2, (0, b))], [(1, 17 * a + 86)], w)) 1 rfl ?_
        refine e_Ok.callV rfl (e_dq hd rfl) rfl (lA0 (a := a) (by omega) (by omega)) rfl rfl (c_9_b (a := a) hT (by omega)) (fun r20 w21 h22 => ?_)
        obtain ⟨z23, rfl, rfl, q24⟩ := h22
        obtain ⟨rfl, q24⟩ | ⟨rfl, q24⟩ := q24
        · refine e_Ok.nrm (q := 119) (st' := [(0, 1)]) rfl rfl ?_
          refine e_Ok.if1 rfl (fun h25 => ?_) (fun h25 => ?_)
          · replace h25 : (1 : Int) = 0 := h25
            exfalso; omega
          · replace h25 : (1 : Int) ≠ 0 := (show ¬ ((1 : Int) = 0) from h25)
            refine e_Ok.ps1 (x := (0, 1)) (q := 127) 2 rfl ?_
            refine e_Ok.rets rfl rfl ?_
            exact ⟨_, rfl, rfl⟩
        · refine e_Ok.nrm (q := 119) (st' := [(0, 0)]) rfl rfl ?_
          refine e_Ok.if1 rfl (fun h26 => ?_) (fun h26 => ?_)
          · replace h26 : (0 : Int) = 0 := h26
            refine e_Ok.ps1 (x := (0, 0)) (q := 127) 1 rfl ?_
            refine e_Ok.rets rfl rfl ?_
            exact ⟨_, rfl, rfl⟩
          · replace h26 : (0 : Int) ≠ 0 := (show ¬ ((0 : Int) = 0) from h26)
            exfalso; omega
      · refine e_Ok.swk (tg := 128) rfl (by rw [ke_arm_tl (by omega), ke_arm_tl (by omega), ke_arm_tl (by omega), ke_arm_tl (by omega), ke_arm_tl (by omega), ke_arm_tl (by omega), ke_arm_tl (by omega), ke_arm_tl (by omega)]; exact ke_arm_hd (by omega)) ?_
        refine e_Ok.run (t' := (129, [(3, (1, 17 * a + 86)), (0, (1, 0)), (1, (0, a)), (2, (0, b))], [(1, 17 * a + 86)], w)) 1 rfl ?_
        have h27 := (e_Has.get hT (c := 17 * a + 86) (k := 18) (lo := (-1)) (hi := 1000) (kA_18 (a := a) (by omega) (by omega)) (by decide))
        refine e_Ok.getf (z := w (17 * a + 86) 18) rfl (lA0 (a := a) (by omega) (by omega)) rfl rfl rfl (e_bq h27 (by decide) (by decide)) ?_
        refine e_Ok.if1 rfl (fun h28 => ?_) (fun h28 => ?_)
        · replace h28 : (w (17 * a + 86) 18 : Int) < 0 := h28
          refine e_Ok.ps1 (x := (0, 0)) (q := 140) 1 rfl ?_
          refine e_Ok.rets rfl rfl ?_
          exact ⟨_, rfl, rfl⟩
        · replace h28 : (w (17 * a + 86) 18 : Int) ≥ 0 := Int.not_lt.mp (show ¬ ((w (17 * a + 86) 18 : Int) < 0) from h28)
          refine e_Ok.ps1 (x := (0, 1)) (q := 140) 2 rfl ?_
          refine e_Ok.rets rfl rfl ?_
          exact ⟨_, rfl, rfl⟩
      · refine e_Ok.swk (tg := 141) rfl (by rw [ke_arm_tl (by omega), ke_arm_tl (by omega), ke_arm_tl (by omega), ke_arm_tl (by omega), ke_arm_tl (by omega), ke_arm_tl (by omega), ke_arm_tl (by omega), ke_arm_tl (by omega), ke_arm_tl (by omega)]; exact ke_arm_hd (by omega)) ?_
        refine e_Ok.run (t' := (142, [(3, (1, 17 * a + 86)), (0, (1, 0)), (1, (0, a)), (2, (0, b))], [(0, (-1))], w)) 1 rfl ?_
        refine e_Ok.rets rfl rfl ?_
        exact ⟨_, rfl, rfl⟩
    · replace h6 : (1 : Int) = 0 := Classical.not_not.mp (show ¬ ((1 : Int) ≠ 0) from h6)
      exfalso; omega
  · refine e_Ok.nrm (q := 5) (st' := [(0, 0)]) rfl rfl ?_
    refine e_Ok.if1 rfl (fun h29 => ?_) (fun h29 => ?_)
    · replace h29 : (0 : Int) ≠ 0 := h29
      exfalso; omega
    · replace h29 : (0 : Int) = 0 := Classical.not_not.mp (show ¬ ((0 : Int) ≠ 0) from h29)
      refine e_Ok.ps1 (x := (0, (-1))) (q := 9) 1 rfl ?_
      refine e_Ok.rets rfl rfl ?_
      exact ⟨_, rfl, rfl⟩
theorem c_228 {d : Nat} (hd : 25 ≤ d) {w : eW} (hl : lkK w) {a : Int} (g_a : (-2147483648) ≤ a ∧ a ≤ 2147483647) {b : Int} (g_b : (-2147483648) ≤ b ∧ b ≤ 2147483647) : e_Ok 20 elay kcode eI d 228 (0, [(0, (1, 0)), (1, (0, a)), (2, (0, b))], [], w) (fun r w' => ∃ z : Int, r = [(0, z)] ∧ w = w') := by
  obtain ⟨d, rfl⟩ : ∃ e, d = e + 1 := ⟨d - 1, by omega⟩
  obtain ⟨hT, hAll, hC, hW, ka, hF⟩ := hl
  have hw0 := e_Has.get hT (c := 0) (k := 11) (lo := 0) (hi := 4) (kt_o rfl) (by decide)
  refine e_Ok.ps3 (x := (0, b)) (y := (0, a)) (z := (1, 0)) (q := 3) 3 rfl ?_
  refine e_Ok.callV rfl (e_dq hd rfl) rfl rfl rfl rfl (c_247 (e_dq hd rfl) hT (by omega) (by omega)) (fun r1 w2 h3 => ?_)
  obtain ⟨z4, rfl, rfl, q5⟩ := h3
  obtain ⟨rfl, q5⟩ | ⟨rfl, q5⟩ := q5
  · refine e_Ok.nrm (q := 6) (st' := [(0, 1)]) rfl rfl ?_
    refine e_Ok.if1 rfl (fun h6 => ?_) (fun h6 => ?_)
    · replace h6 : (1 : Int) = 0 := h6
      exfalso; omega
    · replace h6 : (1 : Int) ≠ 0 := (show ¬ ((1 : Int) = 0) from h6)
      have hjn := kn_joints hT (a := a) (by omega)
      refine e_Ok.ps1 (x := (1, 0)) (q := 10) 1 rfl ?_
      refine e_Ok.getr (z := 9) rfl (el_o rfl) rfl rfl (e_Has.eq hT (kt_o rfl)) ⟨by decide, by decide⟩ ?_
      refine e_Ok.ps1 (x := (0, a)) (q := 14) 1 rfl ?_
      refine e_Ok.aald (z := 17 * a + 86) rfl (el_o rfl) rfl (by omega) (Eq.trans (e_Has.eq hT (k9 (by omega))) (by omega)) (by omega) ?_
      refine e_Ok.getr (z := 17 * a + 87) rfl (lA0 (a := a) (by omega) (by omega)) rfl rfl (Eq.trans (e_Has.eq hT (kA_0 (a := a) (by omega) (by omega))) (by omega)) (by omega) ?_
      refine e_Ok.ps1 (x := (0, b)) (q := 19) 1 rfl ?_
      refine e_Ok.aald (z := 17 * a + b + 97) rfl (lA1 (a := a) (by omega) (by omega)) rfl (by omega) (Eq.trans (e_Has.eq hT (kA87 (a := a) (by omega) (by omega) (by omega))) (by omega)) (by omega) ?_
      have h7 := (e_Has.get hT (c := 17 * a + b + 97) (k := 7) (lo := (-2147483648)) (hi := 2147483647) (kJ_7 (a := a) (j := b) (by omega) (by omega) (by omega)) (by decide))
      refine e_Ok.getf (z := w (17 * a + b + 97) 7) rfl (lJ (a := a) (j := b) (by omega) (by omega) (by omega)) rfl rfl rfl (e_bq h7 (by decide) (by decide)) ?_
      refine e_Ok.ps0 (q := 27) 1 rfl ?_
      refine e_Ok.rets rfl rfl ?_
      exact ⟨_, rfl, rfl⟩
  · refine e_Ok.nrm (q := 6) (st' := [(0, 0)]) rfl rfl ?_
    refine e_Ok.if1 rfl (fun h8 => ?_) (fun h8 => ?_)
    · replace h8 : (0 : Int) = 0 := h8
      refine e_Ok.ps1 (x := (0, (-1))) (q := 27) 1 rfl ?_
      refine e_Ok.rets rfl rfl ?_
      exact ⟨_, rfl, rfl⟩
    · replace h8 : (0 : Int) ≠ 0 := (show ¬ ((0 : Int) = 0) from h8)
      exfalso; omega
theorem c_229 {d : Nat} (hd : 25 ≤ d) {w : eW} (hl : lkK w) {a : Int} (g_a : (-2147483648) ≤ a ∧ a ≤ 2147483647) {b : Int} (g_b : (-2147483648) ≤ b ∧ b ≤ 2147483647) {c : Int} (g_c : (-2147483648) ≤ c ∧ c ≤ 2147483647) : e_Ok 20 elay kcode eI d 229 (0, [(0, (1, 0)), (1, (0, a)), (2, (0, b)), (3, (0, c))], [], w) (fun r w' => ∃ z : Int, r = [(0, z)] ∧ w = w') := by
  obtain ⟨d, rfl⟩ : ∃ e, d = e + 1 := ⟨d - 1, by omega⟩
  obtain ⟨hT, hAll, hC, hW, ka, hF⟩ := hl
  have hw0 := e_Has.get hT (c := 0) (k := 11) (lo := 0) (hi := 4) (kt_o rfl) (by decide)
  refine e_Ok.ps2 (x := (0, a)) (y := (1, 0)) (q := 2) 2 rfl ?_
  refine e_Ok.callV rfl (e_dq hd rfl) rfl rfl rfl rfl (c_246 (e_dq hd rfl) hT (by omega)) (fun r1 w2 h3 => ?_)
  obtain ⟨z4, rfl, rfl, q5⟩ := h3
  obtain ⟨rfl, q5⟩ | ⟨rfl, q5⟩ := q5
  · refine e_Ok.nrm (q := 5) (st' := [(0, 1)]) rfl rfl ?_
    refine e_Ok.if1 rfl (fun h6 => ?_) (fun h6 => ?_)
    · replace h6 : (1 : Int) = 0 := h6
      exfalso; omega
    · replace h6 : (1 : Int) ≠ 0 := (show ¬ ((1 : Int) = 0) from h6)
      have hjn := kn_joints hT (a := a) (by omega)
      refine e_Ok.ps3 (x := (1, 0)) (y := (0, 0)) (z := (0, b)) (q := 11) 3 rfl ?_
      refine e_Ok.getr (z := 9) rfl (el_o rfl) rfl rfl (e_Has.eq hT (kt_o rfl)) ⟨by decide, by decide⟩ ?_
      refine e_Ok.ps1 (x := (0, a)) (q := 15) 1 rfl ?_
      refine e_Ok.aald (z := 17 * a + 86) rfl (el_o rfl) rfl (by omega) (Eq.trans (e_Has.eq hT (k9 (by omega))) (by omega)) (by omega) ?_
      have h7 := (e_Has.get hT (c := 17 * a + 86) (k := 8) (lo := 0) (hi := 6) (kA_8 (a := a) (by omega) (by omega)) (by decide))
      refine e_Ok.getf (z := w (17 * a + 86) 8) rfl (lA0 (a := a) (by omega) (by omega)) rfl rfl rfl (e_bq h7 (by decide) (by decide)) ?_
      refine e_Ok.callS rfl (e_dq hd rfl) rfl rfl (c_242 (by omega) (by omega) (by omega)) (fun r8 w9 h10 => ?_)
      obtain ⟨z11, rfl, rfl, q12⟩ := h10
      obtain ⟨rfl, q12⟩ | ⟨rfl, q12⟩ := q12
      · refine e_Ok.nrm (q := 22) (st' := [(0, 1)]) rfl rfl ?_
        refine e_Ok.if1 rfl (fun h13 => ?_) (fun h13 => ?_)
        · replace h13 : (1 : Int) = 0 := h13
          exfalso; omega
        · replace h13 : (1 : Int) ≠ 0 := (show ¬ ((1 : Int) = 0) from h13)
          refine e_Ok.ps3 (x := (0, 1)) (y := (0, 0)) (z := (0, c)) (q := 28) 3 rfl ?_
          refine e_Ok.callS rfl (e_dq hd rfl) rfl rfl (c_242 (by omega) (by omega) (by omega)) (fun r14 w15 h16 => ?_)
          obtain ⟨z17, rfl, rfl, q18⟩ := h16
          obtain ⟨rfl, q18⟩ | ⟨rfl, q18⟩ := q18
          · refine e_Ok.nrm (q := 31) (st' := [(0, 1)]) rfl rfl ?_
            refine e_Ok.if1 rfl (fun h19 => ?_) (fun h19 => ?_)
            · replace h19 : (1 : Int) ≠ 0 := h19
              refine e_Ok.ps1 (x := (0, c)) (q := 37) 1 rfl ?_
              refine e_Ok.if1 rfl (fun h20 => ?_) (fun h20 => ?_)
              · replace h20 : (c : Int) ≠ 0 := h20
                refine e_Ok.ps1 (x := (1, 0)) (q := 55) 1 rfl ?_
                refine e_Ok.getr (z := 9) rfl (el_o rfl) rfl rfl (e_Has.eq hT (kt_o rfl)) ⟨by decide, by decide⟩ ?_
                refine e_Ok.ps1 (x := (0, a)) (q := 59) 1 rfl ?_
                refine e_Ok.aald (z := 17 * a + 86) rfl (el_o rfl) rfl (by omega) (Eq.trans (e_Has.eq hT (k9 (by omega))) (by omega)) (by omega) ?_
                refine e_Ok.getr (z := 17 * a + 89) rfl (lA0 (a := a) (by omega) (by omega)) rfl rfl (Eq.trans (e_Has.eq hT (kA_2 (a := a) (by omega) (by omega))) (by omega)) (by omega) ?_
                refine e_Ok.ps1 (x := (0, b)) (q := 64) 1 rfl ?_
                have h21 := (show -2147483648 ≤ w (17 * a + 89) b ∧ w (17 * a + 89) b ≤ 2147483647 from hAll (17 * a + 89) b (by omega) (by omega))
                refine e_Ok.ald (z := w (17 * a + 89) b) rfl (lA3 (a := a) (by omega) (by omega)) rfl (by omega) rfl (by omega) ?_
                refine e_Ok.rets rfl rfl ?_
                exact ⟨_, rfl, rfl⟩
              · replace h20 : (c : Int) = 0 := Classical.not_not.mp (show ¬ ((c : Int) ≠ 0) from h20)
                refine e_Ok.ps1 (x := (1, 0)) (q := 41) 1 rfl ?_
                refine e_Ok.getr (z := 9) rfl (el_o rfl) rfl rfl (e_Has.eq hT (kt_o rfl)) ⟨by decide, by decide⟩ ?_
                refine e_Ok.ps1 (x := (0, a)) (q := 45) 1 rfl ?_
                refine e_Ok.aald (z := 17 * a + 86) rfl (el_o rfl) rfl (by omega) (Eq.trans (e_Has.eq hT (k9 (by omega))) (by omega)) (by omega) ?_
                refine e_Ok.getr (z := 17 * a + 88) rfl (lA0 (a := a) (by omega) (by omega)) rfl rfl (Eq.trans (e_Has.eq hT (kA_1 (a := a) (by omega) (by omega))) (by omega)) (by omega) ?_
                refine e_Ok.ps1 (x := (0, b)) (q := 50) 1 rfl ?_
                have h22 := (show -2147483648 ≤ w (17 * a + 88) b ∧ w (17 * a + 88) b ≤ 2147483647 from hAll (17 * a + 88) b (by omega) (by omega))
                refine e_Ok.ald (z := w (17 * a + 88) b) rfl (lA2 (a := a) (by omega) (by omega)) rfl (by omega) rfl (by omega) ?_
                refine e_Ok.ps0 (q := 65) 1 rfl ?_
                refine e_Ok.rets rfl rfl ?_
                exact ⟨_, rfl, rfl⟩
            · replace h19 : (1 : Int) = 0 := Classical.not_not.mp (show ¬ ((1 : Int) ≠ 0) from h19)
              exfalso; omega
          · refine e_Ok.nrm (q := 31) (st' := [(0, 0)]) rfl rfl ?_
            refine e_Ok.if1 rfl (fun h23 => ?_) (fun h23 => ?_)
            · replace h23 : (0 : Int) ≠ 0 := h23
              exfalso; omega
            · replace h23 : (0 : Int) = 0 := Classical.not_not.mp (show ¬ ((0 : Int) ≠ 0) from h23)
              refine e_Ok.ps1 (x := (0, (-1))) (q := 35) 1 rfl ?_
              refine e_Ok.rets rfl rfl ?_
              exact ⟨_, rfl, rfl⟩
      · refine e_Ok.nrm (q := 22) (st' := [(0, 0)]) rfl rfl ?_
        refine e_Ok.if1 rfl (fun h24 => ?_) (fun h24 => ?_)
        · replace h24 : (0 : Int) = 0 := h24
          refine e_Ok.ps1 (x := (0, (-1))) (q := 35) 1 rfl ?_
          refine e_Ok.rets rfl rfl ?_
          exact ⟨_, rfl, rfl⟩
        · replace h24 : (0 : Int) ≠ 0 := (show ¬ ((0 : Int) = 0) from h24)
          exfalso; omega
  · refine e_Ok.nrm (q := 5) (st' := [(0, 0)]) rfl rfl ?_
    refine e_Ok.if1 rfl (fun h25 => ?_) (fun h25 => ?_)
    · replace h25 : (0 : Int) = 0 := h25
      refine e_Ok.ps1 (x := (0, (-1))) (q := 35) 1 rfl ?_
      refine e_Ok.rets rfl rfl ?_
      exact ⟨_, rfl, rfl⟩
    · replace h25 : (0 : Int) ≠ 0 := (show ¬ ((0 : Int) = 0) from h25)
      exfalso; omega
theorem c_230 {d : Nat} (hd : 25 ≤ d) {w : eW} (hl : lkK w) {a : Int} (g_a : (-2147483648) ≤ a ∧ a ≤ 2147483647) {b : Int} (g_b : (-2147483648) ≤ b ∧ b ≤ 2147483647) : e_Ok 20 elay kcode eI d 230 (0, [(0, (1, 0)), (1, (0, a)), (2, (0, b))], [], w) (fun r w' => ∃ z : Int, r = [(0, z)] ∧ w = w') := by
  obtain ⟨d, rfl⟩ : ∃ e, d = e + 1 := ⟨d - 1, by omega⟩
  obtain ⟨hT, hAll, hC, hW, ka, hF⟩ := hl
  have hw0 := e_Has.get hT (c := 0) (k := 11) (lo := 0) (hi := 4) (kt_o rfl) (by decide)
  refine e_Ok.ps2 (x := (0, a)) (y := (1, 0)) (q := 2) 2 rfl ?_
  refine e_Ok.callV rfl (e_dq hd rfl) rfl rfl rfl rfl (c_246 (e_dq hd rfl) hT (by omega)) (fun r1 w2 h3 => ?_)
  obtain ⟨z4, rfl, rfl, q5⟩ := h3
  obtain ⟨rfl, q5⟩ | ⟨rfl, q5⟩ := q5
  · refine e_Ok.nrm (q := 5) (st' := [(0, 1)]) rfl rfl ?_
    refine e_Ok.if1 rfl (fun h6 => ?_) (fun h6 => ?_)
    · replace h6 : (1 : Int) = 0 := h6
      exfalso; omega
    · replace h6 : (1 : Int) ≠ 0 := (show ¬ ((1 : Int) = 0) from h6)
      refine e_Ok.ps1 (x := (1, 0)) (q := 9) 1 rfl ?_
      refine e_Ok.getr (z := 9) rfl (el_o rfl) rfl rfl (e_Has.eq hT (kt_o rfl)) ⟨by decide, by decide⟩ ?_
      refine e_Ok.ps1 (x := (0, a)) (q := 13) 1 rfl ?_
      refine e_Ok.aald (z := 17 * a + 86) rfl (el_o rfl) rfl (by omega) (Eq.trans (e_Has.eq hT (k9 (by omega))) (by omega)) (by omega) ?_
      have h7 := (e_Has.get hT (c := 17 * a + 86) (k := 17) (lo := (-1)) (hi := 59) (kA_17 (a := a) (by omega) (by omega)) (by decide))
      refine e_Ok.getf (z := w (17 * a + 86) 17) rfl (lA0 (a := a) (by omega) (by omega)) rfl rfl rfl (e_bq h7 (by decide) (by decide)) ?_
      refine e_Ok.if1 rfl (fun h8 => ?_) (fun h8 => ?_)
      · replace h8 : (w (17 * a + 86) 17 : Int) ≥ 0 := h8
        refine e_Ok.ps1 (x := (1, 0)) (q := 23) 1 rfl ?_
        refine e_Ok.getr (z := 262) rfl (el_o rfl) rfl rfl (e_Has.eq hT (kt_o rfl)) ⟨by decide, by decide⟩ ?_
        refine e_Ok.ps1 (x := (1, 0)) (q := 27) 1 rfl ?_
        refine e_Ok.getr (z := 9) rfl (el_o rfl) rfl rfl (e_Has.eq hT (kt_o rfl)) ⟨by decide, by decide⟩ ?_
        refine e_Ok.ps1 (x := (0, a)) (q := 31) 1 rfl ?_
        refine e_Ok.aald (z := 17 * a + 86) rfl (el_o rfl) rfl (by omega) (Eq.trans (e_Has.eq hT (k9 (by omega))) (by omega)) (by omega) ?_
        refine e_Ok.getf (z := w (17 * a + 86) 17) rfl (lA0 (a := a) (by omega) (by omega)) rfl rfl rfl (by omega) ?_
        refine e_Ok.ps1 (x := (0, b)) (q := 36) 1 rfl ?_
        have hjn := kn_joints hT (a := a) (by omega)
        refine e_Ok.callV rfl (e_dq hd rfl) rfl rfl rfl rfl (c_96_a (e_dq hd rfl) (m := w (17 * a + 86) 8) hT (by omega) (by omega) (fun g => hW a (by omega) (by omega) g) (by omega)) (fun r9 w10 h11 => ?_)
        obtain ⟨z12, rfl, rfl, q13r⟩ := h11
        refine e_Ok.nrm (q := 39) (st' := [(0, z12)]) rfl rfl ?_
        refine e_Ok.rets rfl rfl ?_
        exact ⟨_, rfl, rfl⟩
      · replace h8 : (w (17 * a + 86) 17 : Int) < 0 := Int.not_le.mp (show ¬ ((w (17 * a + 86) 17 : Int) ≥ 0) from h8)
        refine e_Ok.ps1 (x := (0, (-1))) (q := 21) 1 rfl ?_
        refine e_Ok.rets rfl rfl ?_
        exact ⟨_, rfl, rfl⟩
  · refine e_Ok.nrm (q := 5) (st' := [(0, 0)]) rfl rfl ?_
    refine e_Ok.if1 rfl (fun h14 => ?_) (fun h14 => ?_)
    · replace h14 : (0 : Int) = 0 := h14
      refine e_Ok.ps1 (x := (0, (-1))) (q := 21) 1 rfl ?_
      refine e_Ok.rets rfl rfl ?_
      exact ⟨_, rfl, rfl⟩
    · replace h14 : (0 : Int) ≠ 0 := (show ¬ ((0 : Int) = 0) from h14)
      exfalso; omega
theorem c_231 {d : Nat} (hd : 25 ≤ d) {w : eW} (hl : lkK w) {a : Int} (g_a : (-2147483648) ≤ a ∧ a ≤ 2147483647) {b : Int} (g_b : (-2147483648) ≤ b ∧ b ≤ 2147483647) : e_Ok 20 elay kcode eI d 231 (0, [(0, (1, 0)), (1, (0, a)), (2, (0, b))], [], w) (fun r w' => ∃ z : Int, r = [(0, z)] ∧ w = w') := by
  obtain ⟨d, rfl⟩ : ∃ e, d = e + 1 := ⟨d - 1, by omega⟩
  obtain ⟨hT, hAll, hC, hW, ka, hF⟩ := hl
  have hw0 := e_Has.get hT (c := 0) (k := 11) (lo := 0) (hi := 4) (kt_o rfl) (by decide)
  refine e_Ok.ps3 (x := (0, 15)) (y := (0, 0)) (z := (0, a)) (q := 4) 3 rfl ?_
  refine e_Ok.callS rfl (e_dq hd rfl) rfl rfl (c_242 (by omega) (by omega) (by omega)) (fun r1 w2 h3 => ?_)
  obtain ⟨z4, rfl, rfl, q5⟩ := h3
  obtain ⟨rfl, q5⟩ | ⟨rfl, q5⟩ := q5
  · refine e_Ok.nrm (q := 7) (st' := [(0, 1)]) rfl rfl ?_
    refine e_Ok.if1 rfl (fun h6 => ?_) (fun h6 => ?_)
    · replace h6 : (1 : Int) ≠ 0 := h6
      refine e_Ok.ps1 (x := (1, 0)) (q := 13) 1 rfl ?_
      refine e_Ok.getr (z := 8) rfl (el_o rfl) rfl rfl (e_Has.eq hT (kt_o rfl)) ⟨by decide, by decide⟩ ?_
      refine e_Ok.getr (z := 82) rfl (el_o rfl) rfl rfl (e_Has.eq hT (kt_o rfl)) ⟨by decide, by decide⟩ ?_
      refine e_Ok.ps1 (x := (0, a)) (q := 20) 1 rfl ?_
      refine e_Ok.aald (z := 6 * a + 154) rfl (el_o rfl) rfl (by omega) (Eq.trans (e_Has.eq hT (k82 (by omega))) (by omega)) (by omega) ?_
      refine e_Ok.run (t' := (23, [(3, (1, 6 * a + 154)), (0, (1, 0)), (1, (0, a)), (2, (0, b))], [(0, b)], w)) 2 rfl ?_
      obtain h7 | h7 | h7 | h7 | h7 | h7 : (b : Int) < 0 ∨ (b : Int) = 0 ∨ (b : Int) = 1 ∨ (b : Int) = 2 ∨ (b : Int) = 3 ∨ 3 < (b : Int) := by omega
      · refine e_Ok.swk (tg := 72) rfl (ke_arm_hd (by omega)) ?_
        refine e_Ok.run (t' := (73, [(3, (1, 6 * a + 154)), (0, (1, 0)), (1, (0, a)), (2, (0, b))], [(0, (-1))], w)) 1 rfl ?_
        refine e_Ok.rets rfl rfl ?_
        exact ⟨_, rfl, rfl⟩
      · refine e_Ok.swk (tg := 52) rfl (by rw [ke_arm_tl (by omega)]; exact ke_arm_hd (by omega)) ?_
        refine e_Ok.run (t' := (53, [(3, (1, 6 * a + 154)), (0, (1, 0)), (1, (0, a)), (2, (0, b))], [(1, 6 * a + 154)], w)) 1 rfl ?_
        have h8 := (e_Has.get hT (c := 6 * a + 154) (k := 1) (lo := 0) (hi := 7) (kT_1 (t := a) (by omega) (by omega)) (by decide))
        refine e_Ok.getf (z := w (6 * a + 154) 1) rfl (lT0 (t := a) (by omega) (by omega)) rfl rfl rfl (e_bq h8 (by decide) (by decide)) ?_
        refine e_Ok.rets rfl rfl ?_
        exact ⟨_, rfl, rfl⟩
      · refine e_Ok.swk (tg := 57) rfl (by rw [ke_arm_tl (by omega), ke_arm_tl (by omega)]; exact ke_arm_hd (by omega)) ?_
        refine e_Ok.run (t' := (58, [(3, (1, 6 * a + 154)), (0, (1, 0)), (1, (0, a)), (2, (0, b))], [(1, 6 * a + 154)], w)) 1 rfl ?_
        have h9 := (e_Has.get hT (c := 6 * a + 154) (k := 2) (lo := (-1)) (hi := 3) (kT_2 (t := a) (by omega) (by omega)) (by decide))
        refine e_Ok.getf (z := w (6 * a + 154) 2) rfl (lT0 (t := a) (by omega) (by omega)) rfl rfl rfl (e_bq h9 (by decide) (by decide)) ?_
        refine e_Ok.rets rfl rfl ?_
        exact ⟨_, rfl, rfl⟩
      · refine e_Ok.swk (tg := 62) rfl (by rw [ke_arm_tl (by omega), ke_arm_tl (by omega), ke_arm_tl (by omega)]; exact ke_arm_hd (by omega)) ?_
        refine e_Ok.run (t' := (63, [(3, (1, 6 * a + 154)), (0, (1, 0)), (1, (0, a)), (2, (0, b))], [(1, 6 * a + 154)], w)) 1 rfl ?_
        have h10 := (e_Has.get hT (c := 6 * a + 154) (k := 5) (lo := (-2147483648)) (hi := 2147483647) (kT_5 (t := a) (by omega) (by omega)) (by decide))
        refine e_Ok.getf (z := w (6 * a + 154) 5) rfl (lT0 (t := a) (by omega) (by omega)) rfl rfl rfl (e_bq h10 (by decide) (by decide)) ?_
        refine e_Ok.rets rfl rfl ?_
        exact ⟨_, rfl, rfl⟩
      · refine e_Ok.swk (tg := 67) rfl (by rw [ke_arm_tl (by omega), ke_arm_tl (by omega), ke_arm_tl (by omega), ke_arm_tl (by omega)]; exact ke_arm_hd (by omega)) ?_
        refine e_Ok.run (t' := (68, [(3, (1, 6 * a + 154)), (0, (1, 0)), (1, (0, a)), (2, (0, b))], [(1, 6 * a + 154)], w)) 1 rfl ?_
        have h11 := (e_Has.get hT (c := 6 * a + 154) (k := 4) (lo := 0) (hi := 20) (kT_4 (t := a) (by omega) (by omega)) (by decide))
        refine e_Ok.getf (z := w (6 * a + 154) 4) rfl (lT0 (t := a) (by omega) (by omega)) rfl rfl rfl (e_bq h11 (by decide) (by decide)) ?_
        refine e_Ok.rets rfl rfl ?_
        exact ⟨_, rfl, rfl⟩
      · refine e_Ok.swk (tg := 72) rfl (by rw [ke_arm_tl (by omega), ke_arm_tl (by omega), ke_arm_tl (by omega), ke_arm_tl (by omega), ke_arm_tl (by omega)]; exact ke_arm_hd (by omega)) ?_
        refine e_Ok.run (t' := (73, [(3, (1, 6 * a + 154)), (0, (1, 0)), (1, (0, a)), (2, (0, b))], [(0, (-1))], w)) 1 rfl ?_
        refine e_Ok.rets rfl rfl ?_
        exact ⟨_, rfl, rfl⟩
    · replace h6 : (1 : Int) = 0 := Classical.not_not.mp (show ¬ ((1 : Int) ≠ 0) from h6)
      exfalso; omega
  · refine e_Ok.nrm (q := 7) (st' := [(0, 0)]) rfl rfl ?_
    refine e_Ok.if1 rfl (fun h12 => ?_) (fun h12 => ?_)
    · replace h12 : (0 : Int) ≠ 0 := h12
      exfalso; omega
    · replace h12 : (0 : Int) = 0 := Classical.not_not.mp (show ¬ ((0 : Int) ≠ 0) from h12)
      refine e_Ok.ps1 (x := (0, (-1))) (q := 11) 1 rfl ?_
      refine e_Ok.rets rfl rfl ?_
      exact ⟨_, rfl, rfl⟩
theorem c_232 {d : Nat} (hd : 25 ≤ d) {w : eW} (hl : lkK w) {a : Int} (g_a : (-2147483648) ≤ a ∧ a ≤ 2147483647) {b : Int} (g_b : (-2147483648) ≤ b ∧ b ≤ 2147483647) : e_Ok 20 elay kcode eI d 232 (0, [(0, (1, 0)), (1, (0, a)), (2, (0, b))], [], w) (fun r w' => ∃ z : Int, r = [(0, z)] ∧ w = w') := by
  obtain ⟨d, rfl⟩ : ∃ e, d = e + 1 := ⟨d - 1, by omega⟩
  obtain ⟨hT, hAll, hC, hW, ka, hF⟩ := hl
  have hw0 := e_Has.get hT (c := 0) (k := 11) (lo := 0) (hi := 4) (kt_o rfl) (by decide)
  refine e_Ok.ps2 (x := (0, a)) (y := (1, 0)) (q := 2) 2 rfl ?_
  refine e_Ok.callV rfl (e_dq hd rfl) rfl rfl rfl rfl (c_246 (e_dq hd rfl) hT (by omega)) (fun r1 w2 h3 => ?_)
  obtain ⟨z4, rfl, rfl, q5⟩ := h3
  obtain ⟨rfl, q5⟩ | ⟨rfl, q5⟩ := q5
  · refine e_Ok.nrm (q := 5) (st' := [(0, 1)]) rfl rfl ?_
    refine e_Ok.if1 rfl (fun h6 => ?_) (fun h6 => ?_)
    · replace h6 : (1 : Int) = 0 := h6
      exfalso; omega
    · replace h6 : (1 : Int) ≠ 0 := (show ¬ ((1 : Int) = 0) from h6)
      have hcd := hC a (by omega) (by omega)
      have hcd2 := hcd; unfold isCd at hcd2
      refine e_Ok.ps3 (x := (1, 0)) (y := (0, 0)) (z := (0, b)) (q := 11) 3 rfl ?_
      refine e_Ok.getr (z := 9) rfl (el_o rfl) rfl rfl (e_Has.eq hT (kt_o rfl)) ⟨by decide, by decide⟩ ?_
      refine e_Ok.ps1 (x := (0, a)) (q := 15) 1 rfl ?_
      refine e_Ok.aald (z := 17 * a + 86) rfl (el_o rfl) rfl (by omega) (Eq.trans (e_Has.eq hT (k9 (by omega))) (by omega)) (by omega) ?_
      refine e_Ok.getr (z := w (17 * a + 86) 7) rfl (lA0 (a := a) (by omega) (by omega)) rfl rfl rfl (by omega) ?_
      have h7 := (e_Has.get hT (c := w (17 * a + 86) 7) (k := 2) (lo := 0) (hi := 32) (kD_2 hcd) (by decide))
      refine e_Ok.getf (z := w (w (17 * a + 86) 7) 2) rfl (lD0 hcd) rfl rfl rfl (e_bq h7 (by decide) (by decide)) ?_
      refine e_Ok.ps1 (x := (0, 1)) (q := 23) 1 rfl ?_
      refine e_Ok.sub' (z := w (w (17 * a + 86) 7) 2 - 1) rfl rfl (by omega) ?_
      refine e_Ok.callS rfl (e_dq hd rfl) rfl rfl (c_242 (by omega) (by omega) (by omega)) (fun r8 w9 h10 => ?_)
      obtain ⟨z11, rfl, rfl, q12⟩ := h10
      obtain ⟨rfl, q12⟩ | ⟨rfl, q12⟩ := q12
      · refine e_Ok.nrm (q := 27) (st' := [(0, 1)]) rfl rfl ?_
        refine e_Ok.if1 rfl (fun h13 => ?_) (fun h13 => ?_)
        · replace h13 : (1 : Int) ≠ 0 := h13
          refine e_Ok.ps1 (x := (1, 0)) (q := 33) 1 rfl ?_
          refine e_Ok.getr (z := 9) rfl (el_o rfl) rfl rfl (e_Has.eq hT (kt_o rfl)) ⟨by decide, by decide⟩ ?_
          refine e_Ok.ps1 (x := (0, a)) (q := 37) 1 rfl ?_
          refine e_Ok.aald (z := 17 * a + 86) rfl (el_o rfl) rfl (by omega) (Eq.trans (e_Has.eq hT (k9 (by omega))) (by omega)) (by omega) ?_
          refine e_Ok.getr (z := 17 * a + 93) rfl (lA0 (a := a) (by omega) (by omega)) rfl rfl (Eq.trans (e_Has.eq hT (kA_6 (a := a) (by omega) (by omega))) (by omega)) (by omega) ?_
          refine e_Ok.ps1 (x := (0, b)) (q := 42) 1 rfl ?_
          have h14 := (e_Has.get hT (c := 17 * a + 93) (k := b) (lo := (-2147483648)) (hi := 2147483647) (kA93 (a := a) _ (by omega) (by omega)) (by decide))
          refine e_Ok.ald (z := w (17 * a + 93) b) rfl (lA7 (a := a) (by omega) (by omega)) rfl (by omega) rfl (e_bq h14 (by decide) (by decide)) ?_
          refine e_Ok.rets rfl rfl ?_
          exact ⟨_, rfl, rfl⟩
        · replace h13 : (1 : Int) = 0 := Classical.not_not.mp (show ¬ ((1 : Int) ≠ 0) from h13)
          exfalso; omega
      · refine e_Ok.nrm (q := 27) (st' := [(0, 0)]) rfl rfl ?_
        refine e_Ok.if1 rfl (fun h15 => ?_) (fun h15 => ?_)
        · replace h15 : (0 : Int) ≠ 0 := h15
          exfalso; omega
        · replace h15 : (0 : Int) = 0 := Classical.not_not.mp (show ¬ ((0 : Int) ≠ 0) from h15)
          refine e_Ok.ps1 (x := (0, (-1))) (q := 31) 1 rfl ?_
          refine e_Ok.rets rfl rfl ?_
          exact ⟨_, rfl, rfl⟩
  · refine e_Ok.nrm (q := 5) (st' := [(0, 0)]) rfl rfl ?_
    refine e_Ok.if1 rfl (fun h16 => ?_) (fun h16 => ?_)
    · replace h16 : (0 : Int) = 0 := h16
      refine e_Ok.ps1 (x := (0, (-1))) (q := 31) 1 rfl ?_
      refine e_Ok.rets rfl rfl ?_
      exact ⟨_, rfl, rfl⟩
    · replace h16 : (0 : Int) ≠ 0 := (show ¬ ((0 : Int) = 0) from h16)
      exfalso; omega
theorem c_233 {d : Nat} (hd : 25 ≤ d) {w : eW} (hl : lkK w) {a : Int} (g_a : (-2147483648) ≤ a ∧ a ≤ 2147483647) {b : Int} (g_b : (-2147483648) ≤ b ∧ b ≤ 2147483647) : e_Ok 20 elay kcode eI d 233 (0, [(0, (1, 0)), (1, (0, a)), (2, (0, b))], [], w) (fun r w' => ∃ z : Int, r = [(0, z)] ∧ w = w') := by
  obtain ⟨d, rfl⟩ : ∃ e, d = e + 1 := ⟨d - 1, by omega⟩
  obtain ⟨hT, hAll, hC, hW, ka, hF⟩ := hl
  have hw0 := e_Has.get hT (c := 0) (k := 11) (lo := 0) (hi := 4) (kt_o rfl) (by decide)
  refine e_Ok.ps1 (x := (0, a)) (q := 1) 1 rfl ?_
  refine e_Ok.callS rfl (e_dq hd rfl) rfl rfl (c_245 (e_dq hd rfl) (by omega)) (fun r1 w2 h3 => ?_)
  obtain ⟨z4, rfl, rfl, q5⟩ := h3
  obtain ⟨rfl, q5⟩ | ⟨rfl, q5⟩ := q5
  · refine e_Ok.nrm (q := 4) (st' := [(0, 1)]) rfl rfl ?_
    refine e_Ok.if1 rfl (fun h6 => ?_) (fun h6 => ?_)
    · replace h6 : (1 : Int) ≠ 0 := h6
      refine e_Ok.ps1 (x := (0, b)) (q := 10) 1 rfl ?_
      obtain h7 | h7 | h7 | h7 | h7 : (b : Int) < 0 ∨ (b : Int) = 0 ∨ (b : Int) = 1 ∨ (b : Int) = 2 ∨ 2 < (b : Int) := by omega
      · refine e_Ok.swk (tg := 66) rfl (ke_arm_hd (by omega)) ?_
        refine e_Ok.run (t' := (67, [(0, (1, 0)), (1, (0, a)), (2, (0, b))], [(0, (-1))], w)) 1 rfl ?_
        refine e_Ok.rets rfl rfl ?_
        exact ⟨_, rfl, rfl⟩
      · refine e_Ok.swk (tg := 36) rfl (by rw [ke_arm_tl (by omega)]; exact ke_arm_hd (by omega)) ?_
        refine e_Ok.run (t' := (37, [(0, (1, 0)), (1, (0, a)), (2, (0, b))], [(1, 0)], w)) 1 rfl ?_
        refine e_Ok.getr (z := 10) rfl (el_o rfl) rfl rfl (e_Has.eq hT (kt_o rfl)) ⟨by decide, by decide⟩ ?_
        refine e_Ok.getr (z := 12) rfl (el_o rfl) rfl rfl (e_Has.eq hT (kt_o rfl)) ⟨by decide, by decide⟩ ?_
        refine e_Ok.ps1 (x := (0, a)) (q := 44) 1 rfl ?_
        have h8 := (e_Has.get hT (c := 12) (k := a) (lo := (-2147483648)) (hi := 2147483647) (kt_o rfl) (by decide))
        refine e_Ok.ald (z := w 12 a) rfl (el_o rfl) rfl (by omega) rfl (e_bq h8 (by decide) (by decide)) ?_
        refine e_Ok.rets rfl rfl ?_
        exact ⟨_, rfl, rfl⟩
      · refine e_Ok.swk (tg := 46) rfl (by rw [ke_arm_tl (by omega), ke_arm_tl (by omega)]; exact ke_arm_hd (by omega)) ?_
        refine e_Ok.run (t' := (47, [(0, (1, 0)), (1, (0, a)), (2, (0, b))], [(1, 0)], w)) 1 rfl ?_
        refine e_Ok.getr (z := 10) rfl (el_o rfl) rfl rfl (e_Has.eq hT (kt_o rfl)) ⟨by decide, by decide⟩ ?_
        refine e_Ok.getr (z := 11) rfl (el_o rfl) rfl rfl (e_Has.eq hT (kt_o rfl)) ⟨by decide, by decide⟩ ?_
        refine e_Ok.ps1 (x := (0, a)) (q := 54) 1 rfl ?_
        have h9 := (e_Has.get hT (c := 11) (k := a) (lo := (-2147483648)) (hi := 2147483647) (kt_o rfl) (by decide))
        refine e_Ok.ald (z := w 11 a) rfl (el_o rfl) rfl (by omega) rfl (e_bq h9 (by decide) (by decide)) ?_
        refine e_Ok.rets rfl rfl ?_
        exact ⟨_, rfl, rfl⟩
      · refine e_Ok.swk (tg := 56) rfl (by rw [ke_arm_tl (by omega), ke_arm_tl (by omega), ke_arm_tl (by omega)]; exact ke_arm_hd (by omega)) ?_
        refine e_Ok.run (t' := (57, [(0, (1, 0)), (1, (0, a)), (2, (0, b))], [(1, 0)], w)) 1 rfl ?_
        refine e_Ok.getr (z := 10) rfl (el_o rfl) rfl rfl (e_Has.eq hT (kt_o rfl)) ⟨by decide, by decide⟩ ?_
        refine e_Ok.getr (z := 13) rfl (el_o rfl) rfl rfl (e_Has.eq hT (kt_o rfl)) ⟨by decide, by decide⟩ ?_
        refine e_Ok.ps1 (x := (0, a)) (q := 64) 1 rfl ?_
        have h10 := (e_Has.get hT (c := 13) (k := a) (lo := (-2147483648)) (hi := 2147483647) (kt_o rfl) (by decide))
        refine e_Ok.ald (z := w 13 a) rfl (el_o rfl) rfl (by omega) rfl (e_bq h10 (by decide) (by decide)) ?_
        refine e_Ok.rets rfl rfl ?_
        exact ⟨_, rfl, rfl⟩
      · refine e_Ok.swk (tg := 66) rfl (by rw [ke_arm_tl (by omega), ke_arm_tl (by omega), ke_arm_tl (by omega), ke_arm_tl (by omega)]; exact ke_arm_hd (by omega)) ?_
        refine e_Ok.run (t' := (67, [(0, (1, 0)), (1, (0, a)), (2, (0, b))], [(0, (-1))], w)) 1 rfl ?_
        refine e_Ok.rets rfl rfl ?_
        exact ⟨_, rfl, rfl⟩
    · replace h6 : (1 : Int) = 0 := Classical.not_not.mp (show ¬ ((1 : Int) ≠ 0) from h6)
      exfalso; omega
  · refine e_Ok.nrm (q := 4) (st' := [(0, 0)]) rfl rfl ?_
    refine e_Ok.if1 rfl (fun h11 => ?_) (fun h11 => ?_)
    · replace h11 : (0 : Int) ≠ 0 := h11
      exfalso; omega
    · replace h11 : (0 : Int) = 0 := Classical.not_not.mp (show ¬ ((0 : Int) ≠ 0) from h11)
      refine e_Ok.ps1 (x := (0, (-1))) (q := 8) 1 rfl ?_
      refine e_Ok.rets rfl rfl ?_
      exact ⟨_, rfl, rfl⟩
theorem c_234 {d : Nat} (hd : 25 ≤ d) {w : eW} (hl : lkK w) {a : Int} (g_a : (-2147483648) ≤ a ∧ a ≤ 2147483647) : e_Ok 20 elay kcode eI d 234 (0, [(0, (1, 0)), (1, (0, a))], [], w) (fun r w' => ∃ z : Int, r = [(0, z)] ∧ w = w') := by
  obtain ⟨d, rfl⟩ : ∃ e, d = e + 1 := ⟨d - 1, by omega⟩
  obtain ⟨hT, hAll, hC, hW, ka, hF⟩ := hl
  have hw0 := e_Has.get hT (c := 0) (k := 11) (lo := 0) (hi := 4) (kt_o rfl) (by decide)
  refine e_Ok.ps3 (x := (0, 7)) (y := (0, 0)) (z := (0, a)) (q := 4) 3 rfl ?_
  refine e_Ok.callS rfl (e_dq hd rfl) rfl rfl (c_242 (by omega) (by omega) (by omega)) (fun r1 w2 h3 => ?_)
  obtain ⟨z4, rfl, rfl, q5⟩ := h3
  obtain ⟨rfl, q5⟩ | ⟨rfl, q5⟩ := q5
  · refine e_Ok.nrm (q := 7) (st' := [(0, 1)]) rfl rfl ?_
    refine e_Ok.if1 rfl (fun h6 => ?_) (fun h6 => ?_)
    · replace h6 : (1 : Int) = 0 := h6
      exfalso; omega
    · replace h6 : (1 : Int) ≠ 0 := (show ¬ ((1 : Int) = 0) from h6)
      refine e_Ok.ps1 (x := (1, 0)) (q := 11) 1 rfl ?_
      refine e_Ok.getr (z := 8) rfl (el_o rfl) rfl rfl (e_Has.eq hT (kt_o rfl)) ⟨by decide, by decide⟩ ?_
      refine e_Ok.getr (z := 83) rfl (el_o rfl) rfl rfl (e_Has.eq hT (kt_o rfl)) ⟨by decide, by decide⟩ ?_
      refine e_Ok.ps1 (x := (0, a)) (q := 18) 1 rfl ?_
      have h7 := (e_Has.get hT (c := 83) (k := a) (lo := (-1)) (hi := 15) (kt_o rfl) (by decide))
      refine e_Ok.ald (z := w 83 a) rfl (el_o rfl) rfl (by omega) rfl (e_bq h7 (by decide) (by decide)) ?_
      refine e_Ok.ps0 (q := 23) 1 rfl ?_
      refine e_Ok.rets rfl rfl ?_
      exact ⟨_, rfl, rfl⟩
  · refine e_Ok.nrm (q := 7) (st' := [(0, 0)]) rfl rfl ?_
    refine e_Ok.if1 rfl (fun h8 => ?_) (fun h8 => ?_)
    · replace h8 : (0 : Int) = 0 := h8
      refine e_Ok.ps1 (x := (0, (-1))) (q := 23) 1 rfl ?_
      refine e_Ok.rets rfl rfl ?_
      exact ⟨_, rfl, rfl⟩
    · replace h8 : (0 : Int) ≠ 0 := (show ¬ ((0 : Int) = 0) from h8)
      exfalso; omega
theorem c_236 {d : Nat} (hd : 25 ≤ d) {w : eW} (hl : lkK w) {a : Int} (g_a : (-2147483648) ≤ a ∧ a ≤ 2147483647) : e_Ok 20 elay kcode eI d 236 (0, [(0, (1, 0)), (1, (0, a))], [], w) (fun r w' => ∃ z : Int, r = [(0, z)] ∧ w = w') := by
  obtain ⟨d, rfl⟩ : ∃ e, d = e + 1 := ⟨d - 1, by omega⟩
  obtain ⟨hT, hAll, hC, hW, ka, hF⟩ := hl
  have hw0 := e_Has.get hT (c := 0) (k := 11) (lo := 0) (hi := 4) (kt_o rfl) (by decide)
  have h742 := e_Has.get hT (c := 74) (k := 2) (lo := 0) (hi := 8) (kt_o rfl) (by decide)
  refine e_Ok.ps1 (x := (0, a)) (q := 1) 1 rfl ?_
  obtain h1 | h1 | h1 | h1 | h1 | h1 : (a : Int) < 0 ∨ (a : Int) = 0 ∨ (a : Int) = 1 ∨ (a : Int) = 2 ∨ (a : Int) = 3 ∨ 3 < (a : Int) := by omega
  · refine e_Ok.swk (tg := 72) rfl (ke_arm_hd (by omega)) ?_
    refine e_Ok.run (t' := (76, [(0, (1, 0)), (1, (0, a))], [(1, 0), (0, 3), (0, 4), (0, a)], w)) 4 rfl ?_
    refine e_Ok.getr (z := 74) rfl (el_o rfl) rfl rfl (e_Has.eq hT (kt_o rfl)) ⟨by decide, by decide⟩ ?_
    have h2 := (e_Has.get hT (c := 74) (k := 2) (lo := 0) (hi := 8) (kt_o rfl) (by decide))
    refine e_Ok.getf (z := w 74 2) rfl (el_o rfl) rfl rfl rfl (e_bq h2 (by decide) (by decide)) ?_
    refine e_Ok.add (z := w 74 2 + 3) rfl (Int.add_comm _ _) (by omega) ?_
    refine e_Ok.callS rfl (e_dq hd rfl) rfl rfl (c_242 (by omega) (by omega) (by omega)) (fun r3 w4 h5 => ?_)
    obtain ⟨z6, rfl, rfl, q7⟩ := h5
    obtain ⟨rfl, q7⟩ | ⟨rfl, q7⟩ := q7
    · refine e_Ok.nrm (q := 86) (st' := [(0, 1)]) rfl rfl ?_
      refine e_Ok.if1 rfl (fun h8 => ?_) (fun h8 => ?_)
      · replace h8 : (1 : Int) = 0 := h8
        exfalso; omega
      · replace h8 : (1 : Int) ≠ 0 := (show ¬ ((1 : Int) = 0) from h8)
        refine e_Ok.ps1 (x := (1, 0)) (q := 90) 1 rfl ?_
        refine e_Ok.getr (z := 74) rfl (el_o rfl) rfl rfl (e_Has.eq hT (kt_o rfl)) ⟨by decide, by decide⟩ ?_
        refine e_Ok.ps2 (x := (0, 4)) (y := (0, a)) (q := 95) 2 rfl ?_
        refine e_Ok.sub' (z := a - 4) rfl rfl (by omega) ?_
        refine e_Ok.callV rfl (e_dq hd rfl) rfl rfl rfl rfl (c_30 (e_dq hd rfl) hT (by omega)) (fun r9 w10 h11 => ?_)
        obtain ⟨z13, rfl, rfl, q12r⟩ := h11
        refine e_Ok.nrm (q := 99) (st' := [(0, z13)]) rfl rfl ?_
        refine e_Ok.ps0 (q := 103) 1 rfl ?_
        refine e_Ok.rets rfl rfl ?_
        exact ⟨_, rfl, rfl⟩
    · refine e_Ok.nrm (q := 86) (st' := [(0, 0)]) rfl rfl ?_
      refine e_Ok.if1 rfl (fun h14 => ?_) (fun h14 => ?_)
      · replace h14 : (0 : Int) = 0 := h14
        refine e_Ok.ps1 (x := (0, (-1))) (q := 103) 1 rfl ?_
        refine e_Ok.rets rfl rfl ?_
        exact ⟨_, rfl, rfl⟩
      · replace h14 : (0 : Int) ≠ 0 := (show ¬ ((0 : Int) = 0) from h14)
        exfalso; omega
  · refine e_Ok.swk (tg := 32) rfl (by rw [ke_arm_tl (by omega)]; exact ke_arm_hd (by omega)) ?_
    refine e_Ok.run (t' := (33, [(0, (1, 0)), (1, (0, a))], [(1, 0)], w)) 1 rfl ?_
    refine e_Ok.getr (z := 74) rfl (el_o rfl) rfl rfl (e_Has.eq hT (kt_o rfl)) ⟨by decide, by decide⟩ ?_
    have h15 := (e_Has.get hT (c := 74) (k := 3) (lo := 0) (hi := 1) (kt_o rfl) (by decide))
    refine e_Ok.getf (z := w 74 3) rfl (el_o rfl) rfl rfl rfl (e_bq h15 (by decide) (by decide)) ?_
    refine e_Ok.if1 rfl (fun h16 => ?_) (fun h16 => ?_)
    · replace h16 : (w 74 3 : Int) = 0 := h16
      refine e_Ok.ps1 (x := (0, 0)) (q := 47) 1 rfl ?_
      refine e_Ok.rets rfl rfl ?_
      exact ⟨_, rfl, rfl⟩
    · replace h16 : (w 74 3 : Int) ≠ 0 := (show ¬ ((w 74 3 : Int) = 0) from h16)
      refine e_Ok.ps1 (x := (0, 1)) (q := 47) 2 rfl ?_
      refine e_Ok.rets rfl rfl ?_
      exact ⟨_, rfl, rfl⟩
  · refine e_Ok.swk (tg := 48) rfl (by rw [ke_arm_tl (by omega), ke_arm_tl (by omega)]; exact ke_arm_hd (by omega)) ?_
    refine e_Ok.run (t' := (49, [(0, (1, 0)), (1, (0, a))], [(1, 0)], w)) 1 rfl ?_
    refine e_Ok.getr (z := 74) rfl (el_o rfl) rfl rfl (e_Has.eq hT (kt_o rfl)) ⟨by decide, by decide⟩ ?_
    have h17 := (e_Has.get hT (c := 74) (k := 4) (lo := (-2147483648)) (hi := 2147483647) (kt_o rfl) (by decide))
    refine e_Ok.getf (z := w 74 4) rfl (el_o rfl) rfl rfl rfl (e_bq h17 (by decide) (by decide)) ?_
    refine e_Ok.rets rfl rfl ?_
    exact ⟨_, rfl, rfl⟩
  · refine e_Ok.swk (tg := 56) rfl (by rw [ke_arm_tl (by omega), ke_arm_tl (by omega), ke_arm_tl (by omega)]; exact ke_arm_hd (by omega)) ?_
    refine e_Ok.run (t' := (57, [(0, (1, 0)), (1, (0, a))], [(1, 0)], w)) 1 rfl ?_
    refine e_Ok.getr (z := 74) rfl (el_o rfl) rfl rfl (e_Has.eq hT (kt_o rfl)) ⟨by decide, by decide⟩ ?_
    have h18 := (e_Has.get hT (c := 74) (k := 5) (lo := (-2147483648)) (hi := 2147483647) (kt_o rfl) (by decide))
    refine e_Ok.getf (z := w 74 5) rfl (el_o rfl) rfl rfl rfl (e_bq h18 (by decide) (by decide)) ?_
    refine e_Ok.rets rfl rfl ?_
    exact ⟨_, rfl, rfl⟩
  · refine e_Ok.swk (tg := 64) rfl (by rw [ke_arm_tl (by omega), ke_arm_tl (by omega), ke_arm_tl (by omega), ke_arm_tl (by omega)]; exact ke_arm_hd (by omega)) ?_
    refine e_Ok.run (t' := (65, [(0, (1, 0)), (1, (0, a))], [(1, 0)], w)) 1 rfl ?_
    refine e_Ok.getr (z := 74) rfl (el_o rfl) rfl rfl (e_Has.eq hT (kt_o rfl)) ⟨by decide, by decide⟩ ?_
    have h19 := (e_Has.get hT (c := 74) (k := 6) (lo := (-2147483648)) (hi := 2147483647) (kt_o rfl) (by decide))
    refine e_Ok.getf (z := w 74 6) rfl (el_o rfl) rfl rfl rfl (e_bq h19 (by decide) (by decide)) ?_
    refine e_Ok.rets rfl rfl ?_
    exact ⟨_, rfl, rfl⟩
  · refine e_Ok.swk (tg := 72) rfl (by rw [ke_arm_tl (by omega), ke_arm_tl (by omega), ke_arm_tl (by omega), ke_arm_tl (by omega), ke_arm_tl (by omega)]; exact ke_arm_hd (by omega)) ?_
    refine e_Ok.run (t' := (76, [(0, (1, 0)), (1, (0, a))], [(1, 0), (0, 3), (0, 4), (0, a)], w)) 4 rfl ?_
    refine e_Ok.getr (z := 74) rfl (el_o rfl) rfl rfl (e_Has.eq hT (kt_o rfl)) ⟨by decide, by decide⟩ ?_
    have h20 := (e_Has.get hT (c := 74) (k := 2) (lo := 0) (hi := 8) (kt_o rfl) (by decide))
    refine e_Ok.getf (z := w 74 2) rfl (el_o rfl) rfl rfl rfl (e_bq h20 (by decide) (by decide)) ?_
    refine e_Ok.add (z := w 74 2 + 3) rfl (Int.add_comm _ _) (by omega) ?_
    refine e_Ok.callS rfl (e_dq hd rfl) rfl rfl (c_242 (by omega) (by omega) (by omega)) (fun r21 w22 h23 => ?_)
    obtain ⟨z24, rfl, rfl, q25⟩ := h23
    obtain ⟨rfl, q25⟩ | ⟨rfl, q25⟩ := q25
    · refine e_Ok.nrm (q := 86) (st' := [(0, 1)]) rfl rfl ?_
      refine e_Ok.if1 rfl (fun h26 => ?_) (fun h26 => ?_)
      · replace h26 : (1 : Int) = 0 := h26
        exfalso; omega
      · replace h26 : (1 : Int) ≠ 0 := (show ¬ ((1 : Int) = 0) from h26)
        refine e_Ok.ps1 (x := (1, 0)) (q := 90) 1 rfl ?_
        refine e_Ok.getr (z := 74) rfl (el_o rfl) rfl rfl (e_Has.eq hT (kt_o rfl)) ⟨by decide, by decide⟩ ?_
        refine e_Ok.ps2 (x := (0, 4)) (y := (0, a)) (q := 95) 2 rfl ?_
        refine e_Ok.sub' (z := a - 4) rfl rfl (by omega) ?_
        refine e_Ok.callV rfl (e_dq hd rfl) rfl rfl rfl rfl (c_30 (e_dq hd rfl) hT (by omega)) (fun r27 w28 h29 => ?_)
        obtain ⟨z31, rfl, rfl, q30r⟩ := h29
        refine e_Ok.nrm (q := 99) (st' := [(0, z31)]) rfl rfl ?_
        refine e_Ok.ps0 (q := 103) 1 rfl ?_
        refine e_Ok.rets rfl rfl ?_
        exact ⟨_, rfl, rfl⟩
    · refine e_Ok.nrm (q := 86) (st' := [(0, 0)]) rfl rfl ?_
      refine e_Ok.if1 rfl (fun h32 => ?_) (fun h32 => ?_)
      · replace h32 : (0 : Int) = 0 := h32
        refine e_Ok.ps1 (x := (0, (-1))) (q := 103) 1 rfl ?_
        refine e_Ok.rets rfl rfl ?_
        exact ⟨_, rfl, rfl⟩
      · replace h32 : (0 : Int) ≠ 0 := (show ¬ ((0 : Int) = 0) from h32)
        exfalso; omega
theorem c_237 {d : Nat} (hd : 25 ≤ d) {w : eW} (hl : lkK w) : e_Ok 20 elay kcode eI d 237 (0, [(0, (1, 0))], [], w) (fun r w' => ∃ z : Int, r = [(0, z)] ∧ w = w') := by
  obtain ⟨hT, hAll, hC, hW, ka, hF⟩ := hl
  have hw0 := e_Has.get hT (c := 0) (k := 11) (lo := 0) (hi := 4) (kt_o rfl) (by decide)
  refine e_Ok.ps1 (x := (1, 0)) (q := 1) 1 rfl ?_
  refine e_Ok.getr (z := 74) rfl (el_o rfl) rfl rfl (e_Has.eq hT (kt_o rfl)) ⟨by decide, by decide⟩ ?_
  have h1 := (e_Has.get hT (c := 74) (k := 1) (lo := 0) (hi := 2147483647) (kt_o rfl) (by decide))
  refine e_Ok.getf (z := w 74 1) rfl (el_o rfl) rfl rfl rfl (e_bq h1 (by decide) (by decide)) ?_
  refine e_Ok.rets rfl rfl ?_
  exact ⟨_, rfl, rfl⟩
theorem c_238 {d : Nat} (hd : 25 ≤ d) {w : eW} (hl : lkK w) {a : Int} (g_a : (-2147483648) ≤ a ∧ a ≤ 2147483647) {b : Int} (g_b : (-2147483648) ≤ b ∧ b ≤ 2147483647) : e_Ok 20 elay kcode eI d 238 (0, [(0, (1, 0)), (1, (0, a)), (2, (0, b))], [], w) (fun r w' => ∃ z : Int, r = [(0, z)] ∧ w = w') := by
  obtain ⟨d, rfl⟩ : ∃ e, d = e + 1 := ⟨d - 1, by omega⟩
  obtain ⟨hT, hAll, hC, hW, ka, hF⟩ := hl
  have hw0 := e_Has.get hT (c := 0) (k := 11) (lo := 0) (hi := 4) (kt_o rfl) (by decide)
  have h741 := e_Has.get hT (c := 74) (k := 1) (lo := 0) (hi := 2147483647) (kt_o rfl) (by decide)
  refine e_Ok.ps3 (x := (1, 0)) (y := (0, 0)) (z := (0, a)) (q := 3) 3 rfl ?_
  refine e_Ok.getr (z := 74) rfl (el_o rfl) rfl rfl (e_Has.eq hT (kt_o rfl)) ⟨by decide, by decide⟩ ?_
  have h1 := (e_Has.get hT (c := 74) (k := 1) (lo := 0) (hi := 2147483647) (kt_o rfl) (by decide))
  refine e_Ok.getf (z := w 74 1) rfl (el_o rfl) rfl rfl rfl (e_bq h1 (by decide) (by decide)) ?_
  refine e_Ok.ps1 (x := (0, 2000)) (q := 12) 1 rfl ?_
  refine e_Ok.mmin rfl rfl (fun z2 hz2 => ?_)
  replace hz2 : (2000 < w 74 1 ∧ z2 = 2000) ∨ ((w 74 1) ≤ 2000 ∧ z2 = w 74 1) := hz2
  refine e_Ok.ps1 (x := (0, 1)) (q := 16) 1 rfl ?_
  refine e_Ok.sub' (z := z2 - 1) rfl rfl (by omega) ?_
  refine e_Ok.callS rfl (e_dq hd rfl) rfl rfl (c_242 (by omega) (by omega) (by omega)) (fun r3 w4 h5 => ?_)
  obtain ⟨z6, rfl, rfl, q7⟩ := h5
  obtain ⟨rfl, q7⟩ | ⟨rfl, q7⟩ := q7
  · refine e_Ok.nrm (q := 20) (st' := [(0, 1)]) rfl rfl ?_
    refine e_Ok.if1 rfl (fun h8 => ?_) (fun h8 => ?_)
    · replace h8 : (1 : Int) = 0 := h8
      exfalso; omega
    · replace h8 : (1 : Int) ≠ 0 := (show ¬ ((1 : Int) = 0) from h8)
      refine e_Ok.ps3 (x := (0, 3)) (y := (0, 0)) (z := (0, b)) (q := 26) 3 rfl ?_
      refine e_Ok.callS rfl (e_dq hd rfl) rfl rfl (c_242 (by omega) (by omega) (by omega)) (fun r9 w10 h11 => ?_)
      obtain ⟨z12, rfl, rfl, q13⟩ := h11
      obtain ⟨rfl, q13⟩ | ⟨rfl, q13⟩ := q13
      · refine e_Ok.nrm (q := 29) (st' := [(0, 1)]) rfl rfl ?_
        refine e_Ok.if1 rfl (fun h14 => ?_) (fun h14 => ?_)
        · replace h14 : (1 : Int) ≠ 0 := h14
          refine e_Ok.ps1 (x := (1, 0)) (q := 35) 1 rfl ?_
          refine e_Ok.getr (z := 74) rfl (el_o rfl) rfl rfl (e_Has.eq hT (kt_o rfl)) ⟨by decide, by decide⟩ ?_
          refine e_Ok.getr (z := 75) rfl (el_o rfl) rfl rfl (e_Has.eq hT (kt_o rfl)) ⟨by decide, by decide⟩ ?_
          refine e_Ok.ps2 (x := (0, 4)) (y := (0, a)) (q := 43) 2 rfl ?_
          refine e_Ok.mul (z := 4 * a) rfl (Int.mul_comm _ _) (by omega) ?_
          refine e_Ok.ps1 (x := (0, b)) (q := 45) 1 rfl ?_
          refine e_Ok.add (z := 4 * a + b) rfl rfl (by omega) ?_
          have h15 := (show -2147483648 ≤ w 75 (4 * a + b) ∧ w 75 (4 * a + b) ≤ 2147483647 from hAll 75 (4 * a + b) (by omega) (by omega))
          refine e_Ok.ald (z := w 75 (4 * a + b)) rfl (el_o rfl) rfl (by omega) rfl (by omega) ?_
          refine e_Ok.rets rfl rfl ?_
          exact ⟨_, rfl, rfl⟩
        · replace h14 : (1 : Int) = 0 := Classical.not_not.mp (show ¬ ((1 : Int) ≠ 0) from h14)
          exfalso; omega
      · refine e_Ok.nrm (q := 29) (st' := [(0, 0)]) rfl rfl ?_
        refine e_Ok.if1 rfl (fun h16 => ?_) (fun h16 => ?_)
        · replace h16 : (0 : Int) ≠ 0 := h16
          exfalso; omega
        · replace h16 : (0 : Int) = 0 := Classical.not_not.mp (show ¬ ((0 : Int) ≠ 0) from h16)
          refine e_Ok.ps1 (x := (0, (-1))) (q := 33) 1 rfl ?_
          refine e_Ok.rets rfl rfl ?_
          exact ⟨_, rfl, rfl⟩
  · refine e_Ok.nrm (q := 20) (st' := [(0, 0)]) rfl rfl ?_
    refine e_Ok.if1 rfl (fun h17 => ?_) (fun h17 => ?_)
    · replace h17 : (0 : Int) = 0 := h17
      refine e_Ok.ps1 (x := (0, (-1))) (q := 33) 1 rfl ?_
      refine e_Ok.rets rfl rfl ?_
      exact ⟨_, rfl, rfl⟩
    · replace h17 : (0 : Int) ≠ 0 := (show ¬ ((0 : Int) = 0) from h17)
      exfalso; omega
theorem c_240 {d : Nat} (hd : 25 ≤ d) {w : eW} (hl : lkK w) {a : Int} (g_a : (-2147483648) ≤ a ∧ a ≤ 2147483647) : e_Ok 20 elay kcode eI d 240 (0, [(0, (1, 0)), (1, (0, a))], [], w) (fun r w' => ∃ z : Int, r = [(0, z)] ∧ w = w') := by
  obtain ⟨hT, hAll, hC, hW, ka, hF⟩ := hl
  have hw0 := e_Has.get hT (c := 0) (k := 11) (lo := 0) (hi := 4) (kt_o rfl) (by decide)
  refine e_Ok.ps1 (x := (0, a)) (q := 1) 1 rfl ?_
  obtain h1 | h1 | h1 | h1 | h1 | h1 | h1 | h1 | h1 | h1 | h1 : (a : Int) < 0 ∨ (a : Int) = 0 ∨ (a : Int) = 1 ∨ (a : Int) = 2 ∨ (a : Int) = 3 ∨ (a : Int) = 4 ∨ (a : Int) = 5 ∨ (a : Int) = 6 ∨ (a : Int) = 7 ∨ (a : Int) = 8 ∨ 8 < (a : Int) := by omega
  · refine e_Ok.swk (tg := 123) rfl (ke_arm_hd (by omega)) ?_
    refine e_Ok.run (t' := (124, [(0, (1, 0)), (1, (0, a))], [(0, (-1))], w)) 1 rfl ?_
    refine e_Ok.rets rfl rfl ?_
    exact ⟨_, rfl, rfl⟩
  · refine e_Ok.swk (tg := 52) rfl (by rw [ke_arm_tl (by omega)]; exact ke_arm_hd (by omega)) ?_
    refine e_Ok.run (t' := (53, [(0, (1, 0)), (1, (0, a))], [(1, 0)], w)) 1 rfl ?_
    have h2 := (e_Has.get hT (c := 0) (k := 11) (lo := 0) (hi := 4) (kt_o rfl) (by decide))
    refine e_Ok.getf (z := w 0 11) rfl (el_o rfl) rfl rfl rfl (e_bq h2 (by decide) (by decide)) ?_
    refine e_Ok.rets rfl rfl ?_
    exact ⟨_, rfl, rfl⟩
  · refine e_Ok.swk (tg := 57) rfl (by rw [ke_arm_tl (by omega), ke_arm_tl (by omega)]; exact ke_arm_hd (by omega)) ?_
    refine e_Ok.run (t' := (58, [(0, (1, 0)), (1, (0, a))], [(1, 0)], w)) 1 rfl ?_
    refine e_Ok.getr (z := 250) rfl (el_o rfl) rfl rfl (e_Has.eq hT (kt_o rfl)) ⟨by decide, by decide⟩ ?_
    have h3 := (e_Has.get hT (c := 250) (k := 0) (lo := 0) (hi := 16) (kt_o rfl) (by decide))
    refine e_Ok.getf (z := w 250 0) rfl (el_o rfl) rfl rfl rfl (e_bq h3 (by decide) (by decide)) ?_
    refine e_Ok.rets rfl rfl ?_
    exact ⟨_, rfl, rfl⟩
  · refine e_Ok.swk (tg := 65) rfl (by rw [ke_arm_tl (by omega), ke_arm_tl (by omega), ke_arm_tl (by omega)]; exact ke_arm_hd (by omega)) ?_
    refine e_Ok.run (t' := (66, [(0, (1, 0)), (1, (0, a))], [(1, 0)], w)) 1 rfl ?_
    refine e_Ok.getr (z := 19) rfl (el_o rfl) rfl rfl (e_Has.eq hT (kt_o rfl)) ⟨by decide, by decide⟩ ?_
    have h4 := (e_Has.get hT (c := 19) (k := 0) (lo := 0) (hi := 4) (kt_o rfl) (by decide))
    refine e_Ok.getf (z := w 19 0) rfl (el_o rfl) rfl rfl rfl (e_bq h4 (by decide) (by decide)) ?_
    refine e_Ok.rets rfl rfl ?_
    exact ⟨_, rfl, rfl⟩
  · refine e_Ok.swk (tg := 73) rfl (by rw [ke_arm_tl (by omega), ke_arm_tl (by omega), ke_arm_tl (by omega), ke_arm_tl (by omega)]; exact ke_arm_hd (by omega)) ?_
    refine e_Ok.run (t' := (74, [(0, (1, 0)), (1, (0, a))], [(1, 0)], w)) 1 rfl ?_
    refine e_Ok.getr (z := 19) rfl (el_o rfl) rfl rfl (e_Has.eq hT (kt_o rfl)) ⟨by decide, by decide⟩ ?_
    have h5 := (e_Has.get hT (c := 19) (k := 1) (lo := 0) (hi := 32) (kt_o rfl) (by decide))
    refine e_Ok.getf (z := w 19 1) rfl (el_o rfl) rfl rfl rfl (e_bq h5 (by decide) (by decide)) ?_
    refine e_Ok.rets rfl rfl ?_
    exact ⟨_, rfl, rfl⟩
  · refine e_Ok.swk (tg := 81) rfl (by rw [ke_arm_tl (by omega), ke_arm_tl (by omega), ke_arm_tl (by omega), ke_arm_tl (by omega), ke_arm_tl (by omega)]; exact ke_arm_hd (by omega)) ?_
    refine e_Ok.run (t' := (82, [(0, (1, 0)), (1, (0, a))], [(1, 0)], w)) 1 rfl ?_
    refine e_Ok.getr (z := 250) rfl (el_o rfl) rfl rfl (e_Has.eq hT (kt_o rfl)) ⟨by decide, by decide⟩ ?_
    have h6 := (e_Has.get hT (c := 250) (k := 1) (lo := 0) (hi := 8) (kt_o rfl) (by decide))
    refine e_Ok.getf (z := w 250 1) rfl (el_o rfl) rfl rfl rfl (e_bq h6 (by decide) (by decide)) ?_
    refine e_Ok.rets rfl rfl ?_
    exact ⟨_, rfl, rfl⟩
  · refine e_Ok.swk (tg := 89) rfl (by rw [ke_arm_tl (by omega), ke_arm_tl (by omega), ke_arm_tl (by omega), ke_arm_tl (by omega), ke_arm_tl (by omega), ke_arm_tl (by omega)]; exact ke_arm_hd (by omega)) ?_
    refine e_Ok.run (t' := (90, [(0, (1, 0)), (1, (0, a))], [(1, 0)], w)) 1 rfl ?_
    refine e_Ok.getr (z := 74) rfl (el_o rfl) rfl rfl (e_Has.eq hT (kt_o rfl)) ⟨by decide, by decide⟩ ?_
    have h7 := (e_Has.get hT (c := 74) (k := 2) (lo := 0) (hi := 8) (kt_o rfl) (by decide))
    refine e_Ok.getf (z := w 74 2) rfl (el_o rfl) rfl rfl rfl (e_bq h7 (by decide) (by decide)) ?_
    refine e_Ok.rets rfl rfl ?_
    exact ⟨_, rfl, rfl⟩
  · refine e_Ok.swk (tg := 97) rfl (by rw [ke_arm_tl (by omega), ke_arm_tl (by omega), ke_arm_tl (by omega), ke_arm_tl (by omega), ke_arm_tl (by omega), ke_arm_tl (by omega), ke_arm_tl (by omega)]; exact ke_arm_hd (by omega)) ?_
    refine e_Ok.run (t' := (98, [(0, (1, 0)), (1, (0, a))], [(1, 0)], w)) 1 rfl ?_
    have h8 := (show -2147483648 ≤ w 0 12 ∧ w 0 12 ≤ 2147483647 from hAll 0 12 (by omega) (by omega))
    refine e_Ok.getf (z := w 0 12) rfl (el_o rfl) rfl rfl rfl (by omega) ?_
    refine e_Ok.rets rfl rfl ?_
    exact ⟨_, rfl, rfl⟩
  · refine e_Ok.swk (tg := 102) rfl (by rw [ke_arm_tl (by omega), ke_arm_tl (by omega), ke_arm_tl (by omega), ke_arm_tl (by omega), ke_arm_tl (by omega), ke_arm_tl (by omega), ke_arm_tl (by omega), ke_arm_tl (by omega)]; exact ke_arm_hd (by omega)) ?_
    refine e_Ok.run (t' := (103, [(0, (1, 0)), (1, (0, a))], [(1, 0)], w)) 1 rfl ?_
    refine e_Ok.getr (z := 1) rfl (el_o rfl) rfl rfl (e_Has.eq hT (kt_o rfl)) ⟨by decide, by decide⟩ ?_
    have h9 := (show -2147483648 ≤ w 1 0 ∧ w 1 0 ≤ 2147483647 from hAll 1 0 (by omega) (by omega))
    refine e_Ok.getf (z := w 1 0) rfl (el_o rfl) rfl rfl rfl (by omega) ?_
    refine e_Ok.rets rfl rfl ?_
    exact ⟨_, rfl, rfl⟩
  · refine e_Ok.swk (tg := 110) rfl (by rw [ke_arm_tl (by omega), ke_arm_tl (by omega), ke_arm_tl (by omega), ke_arm_tl (by omega), ke_arm_tl (by omega), ke_arm_tl (by omega), ke_arm_tl (by omega), ke_arm_tl (by omega), ke_arm_tl (by omega)]; exact ke_arm_hd (by omega)) ?_
    refine e_Ok.run (t' := (111, [(0, (1, 0)), (1, (0, a))], [(1, 0)], w)) 1 rfl ?_
    have h10 := (show -2147483648 ≤ w 0 13 ∧ w 0 13 ≤ 2147483647 from hAll 0 13 (by omega) (by omega))
    refine e_Ok.getf (z := w 0 13) rfl (el_o rfl) rfl rfl rfl (by omega) ?_
    refine e_Ok.if1 rfl (fun h11 => ?_) (fun h11 => ?_)
    · replace h11 : (w 0 13 : Int) = 0 := h11
      refine e_Ok.ps1 (x := (0, 0)) (q := 122) 1 rfl ?_
      refine e_Ok.rets rfl rfl ?_
      exact ⟨_, rfl, rfl⟩
    · replace h11 : (w 0 13 : Int) ≠ 0 := (show ¬ ((w 0 13 : Int) = 0) from h11)
      refine e_Ok.ps1 (x := (0, 1)) (q := 122) 2 rfl ?_
      refine e_Ok.rets rfl rfl ?_
      exact ⟨_, rfl, rfl⟩
  · refine e_Ok.swk (tg := 123) rfl (by rw [ke_arm_tl (by omega), ke_arm_tl (by omega), ke_arm_tl (by omega), ke_arm_tl (by omega), ke_arm_tl (by omega), ke_arm_tl (by omega), ke_arm_tl (by omega), ke_arm_tl (by omega), ke_arm_tl (by omega), ke_arm_tl (by omega)]; exact ke_arm_hd (by omega)) ?_
    refine e_Ok.run (t' := (124, [(0, (1, 0)), (1, (0, a))], [(0, (-1))], w)) 1 rfl ?_
    refine e_Ok.rets rfl rfl ?_
    exact ⟨_, rfl, rfl⟩
theorem c_241 {d : Nat} (hd : 25 ≤ d) {w : eW} (hl : lkK w) {a : Int} (g_a : (-2147483648) ≤ a ∧ a ≤ 2147483647) : e_Ok 20 elay kcode eI d 241 (0, [(0, (1, 0)), (1, (0, a))], [], w) (fun r w' => ∃ z : Int, r = [(0, z)] ∧ w = w') := by
  obtain ⟨d, rfl⟩ : ∃ e, d = e + 1 := ⟨d - 1, by omega⟩
  obtain ⟨hT, hAll, hC, hW, ka, hF⟩ := hl
  have hw0 := e_Has.get hT (c := 0) (k := 11) (lo := 0) (hi := 4) (kt_o rfl) (by decide)
  refine e_Ok.ps3 (x := (0, 3)) (y := (0, 0)) (z := (0, a)) (q := 3) 3 rfl ?_
  refine e_Ok.callS rfl (e_dq hd rfl) rfl rfl (c_242 (by omega) (by omega) (by omega)) (fun r1 w2 h3 => ?_)
  obtain ⟨z4, rfl, rfl, q5⟩ := h3
  obtain ⟨rfl, q5⟩ | ⟨rfl, q5⟩ := q5
  · refine e_Ok.nrm (q := 6) (st' := [(0, 1)]) rfl rfl ?_
    refine e_Ok.if1 rfl (fun h6 => ?_) (fun h6 => ?_)
    · replace h6 : (1 : Int) = 0 := h6
      exfalso; omega
    · replace h6 : (1 : Int) ≠ 0 := (show ¬ ((1 : Int) = 0) from h6)
      refine e_Ok.ps1 (x := (1, 0)) (q := 10) 1 rfl ?_
      refine e_Ok.getr (z := 274) rfl (el_o rfl) rfl rfl (e_Has.eq hT (kt_o rfl)) ⟨by decide, by decide⟩ ?_
      refine e_Ok.ps1 (x := (0, a)) (q := 14) 1 rfl ?_
      have h7 := (show -2147483648 ≤ w 274 a ∧ w 274 a ≤ 2147483647 from hAll 274 a (by omega) (by omega))
      refine e_Ok.ald (z := w 274 a) rfl (el_o rfl) rfl (by omega) rfl (by omega) ?_
      refine e_Ok.ps0 (q := 19) 1 rfl ?_
      refine e_Ok.rets rfl rfl ?_
      exact ⟨_, rfl, rfl⟩
  · refine e_Ok.nrm (q := 6) (st' := [(0, 0)]) rfl rfl ?_
    refine e_Ok.if1 rfl (fun h8 => ?_) (fun h8 => ?_)
    · replace h8 : (0 : Int) = 0 := h8
      refine e_Ok.ps1 (x := (0, (-1))) (q := 19) 1 rfl ?_
      refine e_Ok.rets rfl rfl ?_
      exact ⟨_, rfl, rfl⟩
    · replace h8 : (0 : Int) ≠ 0 := (show ¬ ((0 : Int) = 0) from h8)
      exfalso; omega
theorem c_211 {d : Nat} (hd : 25 ≤ d) {w : eW} (hl : lkK w) {a : Int} (g_a : (-2147483648) ≤ a ∧ a ≤ 2147483647) : e_Ok 20 elay kcode eI d 211 (0, [(0, (1, 0)), (1, (0, a))], [], w) (fun r w' => ∃ z : Int, r = [(0, z)] ∧ w = w') := by
  obtain ⟨d, rfl⟩ : ∃ e, d = e + 1 := ⟨d - 1, by omega⟩
  obtain ⟨hT, hAll, hC, hW, ka, hF⟩ := hl
  have hw0 := e_Has.get hT (c := 0) (k := 11) (lo := 0) (hi := 4) (kt_o rfl) (by decide)
  refine e_Ok.ps3 (x := (0, 1)) (y := (0, 0)) (z := (0, a)) (q := 3) 3 rfl ?_
  refine e_Ok.callS rfl (e_dq hd rfl) rfl rfl (c_242 (by omega) (by omega) (by omega)) (fun r1 w2 h3 => ?_)
  obtain ⟨z4, rfl, rfl, q5⟩ := h3
  obtain ⟨rfl, q5⟩ | ⟨rfl, q5⟩ := q5
  · refine e_Ok.nrm (q := 6) (st' := [(0, 1)]) rfl rfl ?_
    refine e_Ok.if1 rfl (fun h6 => ?_) (fun h6 => ?_)
    · replace h6 : (1 : Int) = 0 := h6
      exfalso; omega
    · replace h6 : (1 : Int) ≠ 0 := (show ¬ ((1 : Int) = 0) from h6)
      refine e_Ok.ps1 (x := (1, 0)) (q := 10) 1 rfl ?_
      refine e_Ok.getr (z := 1) rfl (el_o rfl) rfl rfl (e_Has.eq hT (kt_o rfl)) ⟨by decide, by decide⟩ ?_
      have h7 := (show -2147483648 ≤ w 1 1 ∧ w 1 1 ≤ 2147483647 from hAll 1 1 (by omega) (by omega))
      refine e_Ok.getf (z := w 1 1) rfl (el_o rfl) rfl rfl rfl (by omega) ?_
      refine e_Ok.if1 rfl (fun h8 => ?_) (fun h8 => ?_)
      · replace h8 : (w 1 1 : Int) ≥ 0 := h8
        refine e_Ok.ps1 (x := (1, 0)) (q := 22) 1 rfl ?_
        have h9 := (show -2147483648 ≤ w 0 13 ∧ w 0 13 ≤ 2147483647 from hAll 0 13 (by omega) (by omega))
        refine e_Ok.getf (z := w 0 13) rfl (el_o rfl) rfl rfl rfl (by omega) ?_
        refine e_Ok.if1 rfl (fun h10 => ?_) (fun h10 => ?_)
        · replace h10 : (w 0 13 : Int) = 0 := h10
          refine e_Ok.ps1 (x := (0, a)) (q := 32) 1 rfl ?_
          refine e_Ok.if1 rfl (fun h11 => ?_) (fun h11 => ?_)
          · replace h11 : (a : Int) ≠ 0 := h11
            refine e_Ok.ps1 (x := (1, 0)) (q := 46) 1 rfl ?_
            refine e_Ok.getr (z := 1) rfl (el_o rfl) rfl rfl (e_Has.eq hT (kt_o rfl)) ⟨by decide, by decide⟩ ?_
            have h12 := (show -2147483648 ≤ w 1 2 ∧ w 1 2 ≤ 2147483647 from hAll 1 2 (by omega) (by omega))
            refine e_Ok.getf (z := w 1 2) rfl (el_o rfl) rfl rfl rfl (by omega) ?_
            refine e_Ok.rets rfl rfl ?_
            exact ⟨_, rfl, rfl⟩
          · replace h11 : (a : Int) = 0 := Classical.not_not.mp (show ¬ ((a : Int) ≠ 0) from h11)
            refine e_Ok.ps1 (x := (1, 0)) (q := 36) 1 rfl ?_
            refine e_Ok.getr (z := 1) rfl (el_o rfl) rfl rfl (e_Has.eq hT (kt_o rfl)) ⟨by decide, by decide⟩ ?_
            refine e_Ok.getf (z := w 1 1) rfl (el_o rfl) rfl rfl rfl (by omega) ?_
            refine e_Ok.ps0 (q := 52) 1 rfl ?_
            refine e_Ok.rets rfl rfl ?_
            exact ⟨_, rfl, rfl⟩
        · replace h10 : (w 0 13 : Int) ≠ 0 := (show ¬ ((w 0 13 : Int) = 0) from h10)
          refine e_Ok.ps1 (x := (0, (-2))) (q := 30) 1 rfl ?_
          refine e_Ok.rets rfl rfl ?_
          exact ⟨_, rfl, rfl⟩
      · replace h8 : (w 1 1 : Int) < 0 := Int.not_le.mp (show ¬ ((w 1 1 : Int) ≥ 0) from h8)
        refine e_Ok.ps1 (x := (0, (-1))) (q := 20) 1 rfl ?_
        refine e_Ok.rets rfl rfl ?_
        exact ⟨_, rfl, rfl⟩
  · refine e_Ok.nrm (q := 6) (st' := [(0, 0)]) rfl rfl ?_
    refine e_Ok.if1 rfl (fun h13 => ?_) (fun h13 => ?_)
    · replace h13 : (0 : Int) = 0 := h13
      refine e_Ok.ps1 (x := (0, (-1))) (q := 20) 1 rfl ?_
      refine e_Ok.rets rfl rfl ?_
      exact ⟨_, rfl, rfl⟩
    · replace h13 : (0 : Int) ≠ 0 := (show ¬ ((0 : Int) = 0) from h13)
      exfalso; omega
theorem no_df_0 : ¬ kTp 1 4 := by unfold kTp; omega
theorem c_118 {d : Nat} {w : eW} (hT : e_Has kTy w) {b l : Int} (g_b : -2147483648 ≤ b ∧ b ≤ 2147483647) (hl : w 1 0 = l) (gl : 0 ≤ l ∧ l ≤ 3996) : e_Ok 20 elay kcode eI d 118 (0, [(0, (1, 1)), (1, (0, b))], [], w) (fun r w' => r = [] ∧ e_fr kTp w w' ∧ e_Has kTy w' ∧ w' 1 0 = l + 4) := by
  refine e_Ok.run (t' := (3, [(2, (0, 24)), (0, (1, 1)), (1, (0, b))], [], w)) 2 rfl ?_
  have hL1 : ∀ (nn : Nat) (y2 : Int) (v1 : eW) (q1 : Int), e_fr kTp w v1 ∧ e_Has kTy v1 ∧ v1 1 0 = l + q1 ∧ ((y2 = 24 - 8 * q1 ∧ 0 ≤ q1 ∧ q1 ≤ 4)) → 4 - q1 < nn → e_Ok 20 elay kcode eI d 118 (3, [(0, (1, 1)), (1, (0, b)), (2, (0, y2))], [], v1) (fun r w' => r = [] ∧ e_fr kTp w w' ∧ e_Has kTy w' ∧ w' 1 0 = l + 4) := by
    intro nn
    induction nn with
    | zero => intro y2 v1 q1 hj hm; obtain ⟨j3, j4, j5, j6⟩ := hj; exfalso; omega
    | succ nn ih2 =>
      intro y2 v1 q1 hj hm
      obtain ⟨j3, j4, j5, j6⟩ := hj
      refine e_Ok.run (t' := (4, [(0, (1, 1)), (1, (0, b)), (2, (0, y2))], [(0, y2)], v1)) 1 rfl ?_
      refine e_Ok.if1 rfl (fun h7 => ?_) (fun h7 => ?_)
      · replace h7 : (y2 : Int) < 0 := h7
        refine e_Ok.rets rfl rfl ?_
        exact ⟨rfl, j3, j4, by omega⟩
      · replace h7 : (y2 : Int) ≥ 0 := Int.not_lt.mp (show ¬ ((y2 : Int) < 0) from h7)
        refine e_Ok.ps1 (x := (1, 1)) (q := 8) 1 rfl ?_
        refine e_Ok.getf (z := l + q1) rfl (el_o rfl) rfl rfl j5 (by omega) ?_
        refine e_Ok.ps1 (x := (0, 4000)) (q := 14) 1 rfl ?_
        refine e_Ok.if2 rfl (fun h8 => ?_) (fun h8 => ?_)
        · replace h8 : (l + q1 : Int) ≥ 4000 := h8
          refine e_Ok.rets rfl rfl ?_
          exact ⟨rfl, j3, j4, by omega⟩
        · replace h8 : (l + q1 : Int) < 4000 := Int.not_le.mp (show ¬ ((l + q1 : Int) ≥ 4000) from h8)
          refine e_Ok.ps1 (x := (1, 1)) (q := 18) 1 rfl ?_
          refine e_Ok.getr (z := 5) rfl (el_o rfl) rfl rfl ((j3 1 4 no_df_0).trans (e_Has.eq hT (kt_o rfl))) ⟨by decide, by decide⟩ ?_
          refine e_Ok.ps1 (x := (1, 1)) (q := 22) 1 rfl ?_
          refine e_Ok.getf (z := l + q1) rfl (el_o rfl) rfl rfl j5 (by omega) ?_
          refine e_Ok.ps2 (x := (0, y2)) (y := (0, b)) (q := 27) 2 rfl ?_
          refine e_Ok.any rfl (eB_any _ _) (fun z9 z9a z9b => ?_)
          refine e_Ok.i2b rfl (fun z10 hz10 => ?_)
          obtain ⟨z11, hz11, z11r⟩ := e_nar_2 z10
          refine e_Ok.ast rfl (el_o rfl) rfl hz11 (by omega) ?_
          generalize hw12 : e_up v1 5 (l + q1) z11 = w12
          have hT14 : e_Has kTy w12 := e_Has.ups j4 hw12 rfl
          refine e_Ok.ps2 (x := (1, 1)) (y := (1, 1)) (q := 32) 2 rfl ?_
          refine e_Ok.getf (z := l + q1) rfl (el_o rfl) rfl rfl (e_uq hw12 (Or.inl (by decide)) j5) (by omega) ?_
          refine e_Ok.ps1 (x := (0, 1)) (q := 36) 1 rfl ?_
          refine e_Ok.add (z := l + q1 + 1) rfl rfl (by omega) ?_
          refine e_Ok.putf rfl (el_o rfl) rfl rfl ?_
          generalize hw15 : e_up w12 1 0 (l + q1 + 1) = w15
          have hT17 : e_Has kTy w15 := e_Has.ups hT14 hw15 (kt_o rfl)
          refine e_Ok.inc (z := y2 - 8) rfl rfl (by first | with_reducible rfl | omega) (by omega) ?_
          show e_Ok 20 elay kcode eI d 118 (43, [(2, (0, y2 - 8)), (0, (1, 1)), (1, (0, b))], [], w15) _
          refine e_Ok.ps0 (q := 3) 1 rfl ?_
          refine e_Ok.sub kAlk (e_sub_of rfl ?_) (ih2 (y2 - 8) w15 (q1 + 1) ⟨(show e_fr kTp w w15 from e_fr.up (show e_fr kTp w w12 from e_fr.up j3 hw12 (by first | exact Or.inr rfl | (unfold kTp; omega))) hw15 (by first | exact Or.inl ⟨rfl, rfl⟩ | (unfold kTp; omega))), hT17, (by have g : w15 1 0 = l + q1 + 1 := (e_ue hw15); omega), by omega⟩ (by omega))
          exact ⟨rfl, rfl, rfl, trivial⟩
  refine e_Ok.sub kAlk (e_sub_of rfl ?_) (hL1 (4 + 1 : Int).toNat 24 w 0 ⟨(e_fr.refl w), hT, (by omega), by omega⟩ (by omega))
  exact ⟨rfl, rfl, rfl, trivial⟩
theorem no_df_1 {k : Int} : ¬ kTp 0 k := by unfold kTp; omega
theorem c_190 {d : Nat} (hd : 22 ≤ d) {w : eW} (hT : e_Has kTy w) {a b c e g l : Int} (g_a : -2147483648 ≤ a ∧ a ≤ 2147483647) (g_b : -2147483648 ≤ b ∧ b ≤ 2147483647) (g_c : -2147483648 ≤ c ∧ c ≤ 2147483647) (g_e : -2147483648 ≤ e ∧ e ≤ 2147483647) (g_g : -2147483648 ≤ g ∧ g ≤ 2147483647) (hl : w 1 0 = l) (gl : 0 ≤ l ∧ l ≤ 4000) : e_Ok 20 elay kcode eI d 190 (0, [(0, (1, 0)), (1, (0, a)), (2, (0, b)), (3, (0, c)), (4, (0, e)), (5, (0, g))], [], w) (fun r w' => ∃ z : Int, r = [(0, z)] ∧ e_fr kTp w w' ∧ e_Has kTy w' ∧ ((3980 < l ∧ z = -3 ∧ w' = w) ∨ (l ≤ 3980 ∧ z = l + 20 ∧ w' 1 0 = l + 20))) := by
  obtain ⟨d, rfl⟩ : ∃ e, d = e + 1 := ⟨d - 1, by omega⟩
  refine e_Ok.ps1 (x := (1, 0)) (q := 1) 1 rfl ?_
  refine e_Ok.getr (z := 1) rfl (el_o rfl) rfl rfl (e_Has.eq hT (kt_o rfl)) ⟨by decide, by decide⟩ ?_
  refine e_Ok.getf (z := l) rfl (el_o rfl) rfl rfl hl (by omega) ?_
  refine e_Ok.ps1 (x := (0, 3980)) (q := 10) 1 rfl ?_
  refine e_Ok.if2 rfl (fun h1 => ?_) (fun h1 => ?_)
  · replace h1 : (l : Int) ≤ 3980 := h1
    refine e_Ok.ps1 (x := (1, 0)) (q := 17) 1 rfl ?_
    refine e_Ok.getr (z := 1) rfl (el_o rfl) rfl rfl (e_Has.eq hT (kt_o rfl)) ⟨by decide, by decide⟩ ?_
    refine e_Ok.ps1 (x := (0, a)) (q := 21) 1 rfl ?_
    refine e_Ok.callV rfl (e_dq hd rfl) rfl rfl rfl rfl (c_118 hT (l := l) (by omega) (by have g := hl; omega) (by omega)) (fun r2 w3 h4 => ?_)
    obtain ⟨rfl, q5f, q5T, q5x⟩ := h4
    replace q5x : w3 1 0 = l + 4 := by omega
    refine e_Ok.nrm (q := 24) (st' := []) rfl rfl ?_
    refine e_Ok.ps1 (x := (1, 0)) (q := 25) 1 rfl ?_
    refine e_Ok.getr (z := 1) rfl (el_o rfl) rfl rfl ((q5f 0 0 no_df_1).trans (e_Has.eq hT (kt_o rfl))) ⟨by decide, by decide⟩ ?_
    refine e_Ok.ps1 (x := (0, b)) (q := 29) 1 rfl ?_
    refine e_Ok.callV rfl (e_dq hd rfl) rfl rfl rfl rfl (c_118 q5T (l := l + 4) (by omega) (by have g := q5x; omega) (by omega)) (fun r7 w8 h9 => ?_)
    obtain ⟨rfl, q10f, q10T, q10x⟩ := h9
    replace q10x : w8 1 0 = l + 8 := by omega
    refine e_Ok.nrm (q := 32) (st' := []) rfl rfl ?_
    refine e_Ok.ps1 (x := (1, 0)) (q := 33) 1 rfl ?_
    refine e_Ok.getr (z := 1) rfl (el_o rfl) rfl rfl ((q10f 0 0 no_df_1).trans ((q5f 0 0 no_df_1).trans (e_Has.eq hT (kt_o rfl)))) ⟨by decide, by decide⟩ ?_
    refine e_Ok.ps1 (x := (0, c)) (q := 37) 1 rfl ?_
    refine e_Ok.callV rfl (e_dq hd rfl) rfl rfl rfl rfl (c_118 q10T (l := l + 8) (by omega) (by have g := q10x; omega) (by omega)) (fun r12 w13 h14 => ?_)
    obtain ⟨rfl, q15f, q15T, q15x⟩ := h14
    replace q15x : w13 1 0 = l + 12 := by omega
    refine e_Ok.nrm (q := 40) (st' := []) rfl rfl ?_
    refine e_Ok.ps1 (x := (1, 0)) (q := 41) 1 rfl ?_
    refine e_Ok.getr (z := 1) rfl (el_o rfl) rfl rfl ((q15f 0 0 no_df_1).trans ((q10f 0 0 no_df_1).trans ((q5f 0 0 no_df_1).trans (e_Has.eq hT (kt_o rfl))))) ⟨by decide, by decide⟩ ?_
    refine e_Ok.ps1 (x := (0, e)) (q := 46) 1 rfl ?_
    refine e_Ok.callV rfl (e_dq hd rfl) rfl rfl rfl rfl (c_118 q15T (l := l + 12) (by omega) (by have g := q15x; omega) (by omega)) (fun r17 w18 h19 => ?_)
    obtain ⟨rfl, q20f, q20T, q20x⟩ := h19
    replace q20x : w18 1 0 = l + 16 := by omega
    refine e_Ok.nrm (q := 49) (st' := []) rfl rfl ?_
    refine e_Ok.ps1 (x := (1, 0)) (q := 50) 1 rfl ?_
    refine e_Ok.getr (z := 1) rfl (el_o rfl) rfl rfl ((q20f 0 0 no_df_1).trans ((q15f 0 0 no_df_1).trans ((q10f 0 0 no_df_1).trans ((q5f 0 0 no_df_1).trans (e_Has.eq hT (kt_o rfl)))))) ⟨by decide, by decide⟩ ?_
    refine e_Ok.ps1 (x := (0, g)) (q := 55) 1 rfl ?_
    refine e_Ok.callV rfl (e_dq hd rfl) rfl rfl rfl rfl (c_118 q20T (l := l + 16) (by omega) (by have g := q20x; omega) (by omega)) (fun r22 w23 h24 => ?_)
    obtain ⟨rfl, q25f, q25T, q25x⟩ := h24
    replace q25x : w23 1 0 = l + 20 := by omega
    refine e_Ok.nrm (q := 58) (st' := []) rfl rfl ?_
    refine e_Ok.ps1 (x := (1, 0)) (q := 59) 1 rfl ?_
    refine e_Ok.getr (z := 1) rfl (el_o rfl) rfl rfl ((q25f 0 0 no_df_1).trans ((q20f 0 0 no_df_1).trans ((q15f 0 0 no_df_1).trans ((q10f 0 0 no_df_1).trans ((q5f 0 0 no_df_1).trans (e_Has.eq hT (kt_o rfl))))))) ⟨by decide, by decide⟩ ?_
    refine e_Ok.getf (z := l + 20) rfl (el_o rfl) rfl rfl q25x (by omega) ?_
    refine e_Ok.rets rfl rfl ?_
    exact ⟨_, rfl, (show e_fr kTp w w23 from e_fr.trans (show e_fr kTp w w18 from e_fr.trans (show e_fr kTp w w13 from e_fr.trans (show e_fr kTp w w8 from e_fr.trans (show e_fr kTp w w3 from e_fr.trans (e_fr.refl w) (e_fr.mono q5f (fun c k q => by exact q))) (e_fr.mono q10f (fun c k q => by exact q))) (e_fr.mono q15f (fun c k q => by exact q))) (e_fr.mono q20f (fun c k q => by exact q))) (e_fr.mono q25f (fun c k q => by exact q))), q25T, Or.inr ⟨by omega, by omega, (by have g := q25x; omega)⟩⟩
  · replace h1 : (l : Int) > 3980 := Int.not_le.mp (show ¬ ((l : Int) ≤ 3980) from h1)
    refine e_Ok.ps1 (x := (0, (-3))) (q := 15) 1 rfl ?_
    refine e_Ok.rets rfl rfl ?_
    exact ⟨_, rfl, e_fr.refl w, hT, Or.inl ⟨by omega, rfl, rfl⟩⟩
theorem c_191 {d : Nat} (hd : 21 ≤ d) {w : eW} (hT : e_Has kTy w) {a l : Int} (g_a : -2147483648 ≤ a ∧ a ≤ 2147483647) (hl : w 1 0 = l) (gl : 0 ≤ l ∧ l ≤ 4000) : e_Ok 20 elay kcode eI d 191 (0, [(0, (1, 0)), (1, (0, a))], [], w) (fun r w' => ∃ z : Int, r = [(0, z)] ∧ e_fr kTp w w' ∧ e_Has kTy w' ∧ (((a < 0 ∨ l < a) ∧ z = -1 ∧ w' = w) ∨ ((0 ≤ a ∧ a ≤ l) ∧ z = l - a ∧ w' 1 0 = l - a))) := by
  obtain ⟨d, rfl⟩ : ∃ e, d = e + 1 := ⟨d - 1, by omega⟩
  refine e_Ok.ps3 (x := (1, 0)) (y := (0, 0)) (z := (0, a)) (q := 3) 3 rfl ?_
  refine e_Ok.getr (z := 1) rfl (el_o rfl) rfl rfl (e_Has.eq hT (kt_o rfl)) ⟨by decide, by decide⟩ ?_
  refine e_Ok.getf (z := l) rfl (el_o rfl) rfl rfl hl (by omega) ?_
  refine e_Ok.callS rfl (e_dq hd rfl) rfl rfl (c_242 (by omega) (by omega) (by omega)) (fun r1 w2 h3 => ?_)
  obtain ⟨z4, rfl, rfl, q5⟩ := h3
  obtain ⟨rfl, q5⟩ | ⟨rfl, q5⟩ := q5
  · refine e_Ok.nrm (q := 12) (st' := [(0, 1)]) rfl rfl ?_
    refine e_Ok.if1 rfl (fun h6 => ?_) (fun h6 => ?_)
    · replace h6 : (1 : Int) ≠ 0 := h6
      refine e_Ok.ps1 (x := (1, 0)) (q := 18) 1 rfl ?_
      refine e_Ok.getr (z := 1) rfl (el_o rfl) rfl rfl (e_Has.eq hT (kt_o rfl)) ⟨by decide, by decide⟩ ?_
      refine e_Ok.ps1 (x := (1, 1)) (q := 22) 1 rfl ?_
      refine e_Ok.getf (z := l) rfl (el_o rfl) rfl rfl hl (by omega) ?_
      refine e_Ok.ps1 (x := (0, a)) (q := 26) 1 rfl ?_
      refine e_Ok.sub' (z := l - a) rfl rfl (by omega) ?_
      refine e_Ok.putf rfl (el_o rfl) rfl rfl ?_
      generalize hw7 : e_up w 1 0 (l - a) = w7
      have hT9 : e_Has kTy w7 := e_Has.ups hT hw7 (kt_o rfl)
      refine e_Ok.ps1 (x := (1, 0)) (q := 31) 1 rfl ?_
      refine e_Ok.getr (z := 1) rfl (el_o rfl) rfl rfl (e_uq hw7 (Or.inl (by decide)) (e_Has.eq hT (kt_o rfl))) ⟨by decide, by decide⟩ ?_
      refine e_Ok.getf (z := l - a) rfl (el_o rfl) rfl rfl (e_ue hw7) (by omega) ?_
      refine e_Ok.rets rfl rfl ?_
      exact ⟨_, rfl, (show e_fr kTp w w7 from e_fr.up (e_fr.refl w) hw7 (by first | exact Or.inl ⟨rfl, rfl⟩ | (unfold kTp; omega))), hT9, Or.inr ⟨by omega, by omega, (e_ue hw7)⟩⟩
    · replace h6 : (1 : Int) = 0 := Classical.not_not.mp (show ¬ ((1 : Int) ≠ 0) from h6)
      exfalso; omega
  · refine e_Ok.nrm (q := 12) (st' := [(0, 0)]) rfl rfl ?_
    refine e_Ok.if1 rfl (fun h10 => ?_) (fun h10 => ?_)
    · replace h10 : (0 : Int) ≠ 0 := h10
      exfalso; omega
    · replace h10 : (0 : Int) = 0 := Classical.not_not.mp (show ¬ ((0 : Int) ≠ 0) from h10)
      refine e_Ok.ps1 (x := (0, (-1))) (q := 16) 1 rfl ?_
      refine e_Ok.rets rfl rfl ?_
      exact ⟨_, rfl, e_fr.refl w, hT, Or.inl ⟨by omega, rfl, rfl⟩⟩
end
end
-- part dg
section
noncomputable section
/-! the class: open -/
theorem nt0 (k : Int) (h : (kTy 0 k).1 ≤ (kTy 0 k).2) : (kTy 0 k).1 = (kTy 0 k).2 ∨ (k = 11) := by
  by_cases g : k < 0
  · exact absurd (show (1 : Int) ≤ 0 from by
      have e : kTy 0 k = (1, 0) := by unfold kTy kTyO; rw [if_neg (by decide)]; show (if k < 0 then _ else _) = _; rw [if_pos g]
      rw [e] at h; exact h) (by decide)
  · obtain ⟨n, rfl⟩ : ∃ n : Nat, k = n := ⟨k.toNat, by omega⟩
    by_cases g2 : n < 15
    · have key : ∀ n : Nat, n < 15 → (kTy 0 (n : Int)).1 ≤ (kTy 0 (n : Int)).2 → ((kTy 0 (n : Int)).1 = (kTy 0 (n : Int)).2 ∨ ((n : Int) = 11)) := by decide +kernel
      exact key n g2 h
    · obtain ⟨j, rfl⟩ : ∃ j, n = j + 15 := ⟨n - 15, by omega⟩
      exact absurd (show (1 : Int) ≤ 0 from h) (by decide)
theorem nt1 (k : Int) (h : (kTy 1 k).1 ≤ (kTy 1 k).2) : (kTy 1 k).1 = (kTy 1 k).2 ∨ (False) := by
  by_cases g : k < 0
  · exact absurd (show (1 : Int) ≤ 0 from by
      have e : kTy 1 k = (1, 0) := by unfold kTy kTyO; rw [if_neg (by decide)]; show (if k < 0 then _ else _) = _; rw [if_pos g]
      rw [e] at h; exact h) (by decide)
  · obtain ⟨n, rfl⟩ : ∃ n : Nat, k = n := ⟨k.toNat, by omega⟩
    by_cases g2 : n < 17
    · have key : ∀ n : Nat, n < 17 → (kTy 1 (n : Int)).1 ≤ (kTy 1 (n : Int)).2 → ((kTy 1 (n : Int)).1 = (kTy 1 (n : Int)).2 ∨ (False)) := by decide +kernel
      exact key n g2 h
    · obtain ⟨j, rfl⟩ : ∃ j, n = j + 17 := ⟨n - 17, by omega⟩
      exact absurd (show (1 : Int) ≤ 0 from h) (by decide)
theorem nt262 (k : Int) (h : (kTy 262 k).1 ≤ (kTy 262 k).2) : (kTy 262 k).1 = (kTy 262 k).2 ∨ (False) := by
  by_cases g : k < 0
  · exact absurd (show (1 : Int) ≤ 0 from by
      have e : kTy 262 k = (1, 0) := by unfold kTy kTyO; rw [if_neg (by decide)]; show (if k < 0 then _ else _) = _; rw [if_pos g]
      rw [e] at h; exact h) (by decide)
  · obtain ⟨n, rfl⟩ : ∃ n : Nat, k = n := ⟨k.toNat, by omega⟩
    by_cases g2 : n < 13
    · have key : ∀ n : Nat, n < 13 → (kTy 262 (n : Int)).1 ≤ (kTy 262 (n : Int)).2 → ((kTy 262 (n : Int)).1 = (kTy 262 (n : Int)).2 ∨ (False)) := by decide +kernel
      exact key n g2 h
    · obtain ⟨j, rfl⟩ : ∃ j, n = j + 13 := ⟨n - 13, by omega⟩
      exact absurd (show (1 : Int) ≤ 0 from h) (by decide)
theorem typ_nx {c k : Int} (h : (kTy c k).1 ≤ (kTy c k).2) : ¬ isX c k := fun g => by
  have hr := kTy_rg h
  rcases g with ⟨g, g2⟩ | ⟨rfl, g1, g2⟩
  · rcases g with g | rfl | g | ⟨rfl, g⟩ | g | rfl | g
    · omega
    · rcases nt1 k h with q | q
      · exact g2 q
      · exact q
    · obtain rfl | rfl | rfl : c = 5 ∨ c = 6 ∨ c = 7 := by omega
      all_goals exact absurd (show (1 : Int) ≤ 0 from h) (by decide)
    · rcases nt0 k h with q | q
      · exact g2 q
      · omega
    · obtain rfl | g : c = 262 ∨ 263 ≤ c := by omega
      · rcases nt262 k h with q | q
        · exact g2 q
        · exact q
      · obtain rfl | rfl | rfl | rfl | rfl | rfl | rfl | rfl | rfl : c = 263 ∨ c = 264 ∨ c = 265 ∨ c = 266 ∨ c = 267 ∨ c = 268 ∨ c = 269 ∨ c = 270 ∨ c = 271 := by omega
        all_goals exact absurd (show (1 : Int) ≤ 0 from h) (by decide)
    · exact absurd (show (1 : Int) ≤ 0 from h) (by decide)
    · omega
  · obtain rfl | rfl | rfl | rfl : k = 13 ∨ k = 14 ∨ k = 15 ∨ k = 16 := by omega
    all_goals exact absurd (show (1 : Int) ≤ 0 from h) (by decide)
theorem isX.rg {c k : Int} (h : isX c k) : c < 2 ∨ (5 ≤ c ∧ c ≤ 7) ∨ 250 ≤ c := by
  rcases h with h | h
  · have := h.1; omega
  · omega
theorem isX.n0 {k : Int} (h : isX 0 k) : 12 ≤ k := by
  rcases h with h | h
  · have := h.1; omega
  · omega
theorem dC_nx {c k : Int} (g : dC c k) : ¬ isX c k := fun h => by
  have := h.rg
  unfold dC at g
  omega
/-- of a cell without ways, what pj leaves keeps all -/
theorem kI.pj0 {w s : eW} {OP OD CL : Int → Int → Int} {hh t0 : Int} (q : kI s OP OD CL hh t0) (hz : ∀ a, 0 ≤ a → a ≤ 3 → s (17 * a + 86) 17 = -1 ∧ s (17 * a + 86) 18 = -1) (hb : ∀ j, pj w s 85 j = s 85 j) : kI (pj w s) OP OD CL hh t0 := by
  have e : ∀ c k, ¬ isX c k → pj w s c k = s c k := fun c k g => pj_n g
  have f : e_fr isX s (pj w s) := e
  have hB := q.bel
  have hC := q.cd
  obtain ⟨q1, q2, q3, q4, q5, q6, q7, q8, q9⟩ := q
  have n0 : ∀ c k, 2 ≤ c → c ≤ 4 ∨ (8 ≤ c ∧ c ≤ 249) → ¬ isX c k := fun c k g1 g2 h => by have := h.rg; omega
  refine ⟨fun c k hl => by rw [e c k (typ_nx hl)]; exact q1 c k hl, fun a g1 g2 => ?_, q3.fr f (fun c k g1 g2 => n0 c k (by omega) (by omega)) (fun k => ⟨n0 _ k (by omega) (by omega), n0 _ k (by omega) (by omega)⟩) ⟨n0 _ _ (by omega) (by omega), n0 _ _ (by omega) (by omega)⟩ hB.2, q4.fr f (fun k => ⟨n0 _ k (by omega) (by omega), n0 _ k (by omega) (by omega)⟩), q5.fr f (n0 _ _ (by omega) (by omega)) (fun k => n0 _ k (by omega) (by omega)), fun g a g1 g2 g9 => ?_, q7.eq (fun c k g => e c k (dC_nx g)), fun j g1 g2 g3 => by rw [hb]; exact q8 j g1 g2 g3, fun t g1 g2 => (q9 t g1 g2).eq ⟨g1, g2⟩ q1 hC (fun c k g => ?_)⟩
  · have hn := (kn_joints q1 ⟨g1, g2⟩).2
    obtain ⟨p1, p2, p3, p4, p5, p6⟩ := q2 a g1 g2
    have ea : ∀ c k, 17 * a + 86 ≤ c → c ≤ 17 * a + 102 → pj w s c k = s c k := fun c k h1 h2 => e c k (n0 c k (by omega) (by omega))
    refine ⟨p1.eq (fun c k g => ea c k (by omega) (by omega)), p2.eq (fun c k g => ea c k (by omega) (by omega)), ?_, p4.eq hn (fun c k g => ea c k (by omega) (by omega)), p5.eq (fun c k g => e c k (n0 c k (by omega) (by omega))), ?_⟩
    · rw [ea _ 8 (by omega) (by omega), ea _ 11 (by omega) (by omega)]
      exact p3.eq hn (fun c k g3 g4 _ _ => ea c k (by omega) (by omega))
    · obtain ⟨z1, z2⟩ := hz a g1 g2
      unfold aW
      rw [ea _ 17 (by omega) (by omega), ea _ 18 (by omega) (by omega), z1, z2]
      exact ⟨fun g => absurd g (by decide), fun g => absurd g (by decide), fun g => absurd g (by decide)⟩
  · rw [e 74 3 (n0 _ _ (by omega) (by omega))] at g
    rw [e 0 11 (fun h => by have := h.n0; omega)] at g9
    rw [e _ _ (n0 _ _ (by omega) (by omega))]
    exact q6 g a g1 g2 g9
  · rcases g with g | g
    · exact e c k (n0 c k (by unfold dT at g; omega) (by unfold dT at g; omega))
    · exact e c k (dC_nx g)
theorem nKc13 : ¬ Kc 0 13 := fun h => by
  rcases h.2 with h | h | h
  · exact h (by unfold kNh; omega)
  · exact absurd h (by decide : ¬ (1 : Int) = 0)
  · have z := h.2.2 0 11 15 rfl
    omega
def kNo (c k : Int) : Prop := kNw c k ∨ (c = 0 ∧ (k = 12 ∨ k = 13))
theorem no_dg_0 {k : Int} : ¬ kNw 0 k := by unfold kNw; omega
set_option maxHeartbeats 4000000 in
theorem c_212 {d : Nat} (hd : 28 ≤ d) {w : eW} (hT : e_Has kTy w) (hO : 0 ≤ w 0 13 ∧ w 0 13 ≤ 1) {OP OD CL : Int → Int → Int} (hc : w 0 13 = 0 → cfI w OP OD CL) (hAll : ∀ c k, 0 ≤ c → c ≤ 274 → kn1 (w c k)) (h62 : 0 ≤ w 262 0 ∧ w 262 0 ≤ 60) : e_Ok 20 elay kcode eI d 212 (0, [(0, (1, 0))], [], w) (fun r w' => ∃ z : Int, r = [(0, z)] ∧ e_Has kTy w' ∧ ((w 0 13 = 1 ∧ w' = w) ∨ (w 0 13 = 0 ∧ e_fr kNo w w' ∧ w' 0 13 = 1 ∧ z = w 0 11 ∧ ∃ S, kB w' OP OD CL S))) := by
  obtain ⟨d, rfl⟩ : ∃ e, d = e + 1 := ⟨d - 1, by omega⟩
  have hw0 := e_Has.get hT (c := 0) (k := 11) (lo := 0) (hi := 4) (kt_o rfl) (by decide)
  refine e_Ok.ps1 (x := (1, 0)) (q := 1) 1 rfl ?_
  refine e_Ok.getf (z := w 0 13) rfl (el_o rfl) rfl rfl rfl (by omega) ?_
  refine e_Ok.if1 rfl (fun h1 => ?_) (fun h1 => ?_)
  · replace h1 : (w 0 13 : Int) = 0 := h1
    refine e_Ok.ps2 (x := (0, 1)) (y := (1, 0)) (q := 12) 2 rfl ?_
    refine e_Ok.putb rfl (el_o rfl) rfl rfl (by omega) ?_
    generalize hw2 : e_up w 0 13 1 = w2
    have hT4 : e_Has kTy w2 := e_Has.ups hT hw2 (kt_o rfl)
    refine e_Ok.ps2 (x := (0, 0)) (y := (1, 0)) (q := 17) 2 rfl ?_
    refine e_Ok.putf rfl (el_o rfl) rfl rfl ?_
    generalize hw5 : e_up w2 0 12 0 = w5
    have hT7 : e_Has kTy w5 := e_Has.ups hT4 hw5 (kt_o rfl)
    refine e_Ok.ps1 (x := (1, 0)) (q := 21) 1 rfl ?_
    have eB : ∀ c k, ¬ (c = 0 ∧ (k = 12 ∨ k = 13)) → w5 c k = w c k := fun c k g => by rw [← hw5, e_up_ne _ _ (by omega), ← hw2, e_up_ne _ _ (by omega)]
    have kB0 : ∀ c k, Kc c k → w5 c k = w c k := fun c k g => eB c k (fun g2 => by obtain ⟨rfl, rfl | rfl⟩ := g2; exact nKc12 g; exact nKc13 g)
    have hcb := (hc (by omega)).eq kB0 hT
    obtain ⟨s0, hb, hs1, hs2, hs3⟩ := bas.mk hT7 hcb
    have e12 : w5 0 12 = 0 := (e_ue hw5)
    have e13 : w5 0 13 = 1 := (e_uq hw5 (Or.inr (by decide)) (e_ue hw2))
    refine e_Ok.callV rfl (e_dq hd rfl) rfl rfl rfl rfl (e_Ok.and ((hb w5 (fun _ _ _ => rfl) hT7).dp (by omega)) (c_252 (e_dq hd rfl) hT7 hcb.1 hcb.2.2.2.1)) (fun r8 w9 h10 => ?_)
    obtain ⟨⟨rfl, qf, qT, qo, qx, qa⟩, -, -, -, -, qr⟩ := h10
    refine e_Ok.nrm (q := 24) (st' := []) rfl rfl ?_
    refine e_Ok.ps1 (x := (1, 0)) (q := 25) 1 rfl ?_
    have h12 := (e_Has.get hT (c := 0) (k := 11) (lo := 0) (hi := 4) (kt_o rfl) (by decide))
    refine e_Ok.getf (z := w 0 11) rfl (el_o rfl) rfl rfl ((qf 0 11 no_dg_0).trans (e_uq hw5 (Or.inr (by decide)) (e_uq hw2 (Or.inr (by decide)) rfl))) (e_bq h12 (by decide) (by decide)) ?_
    refine e_Ok.rets rfl rfl ?_
    have hK9 : ∀ c k, Kc c k → w9 c k = w5 c k := Kc.of (qf.mono (fun c k g => Or.inl g)) hT7 qT qo
    have hz : ∀ a, 0 ≤ a → a ≤ 3 → s0 (17 * a + 86) 17 = -1 ∧ s0 (17 * a + 86) 18 = -1 := fun a g1 g2 => by have z := (qr.1 a g1 g2).1.1; rw [kq_A (k := 17) hs1.1 qx ⟨g1, g2⟩ (by omega), kq_A (k := 18) hs1.1 qx ⟨g1, g2⟩ (by omega)] at z; omega
    have r12 : w9 0 12 = 0 := (qf _ _ (by unfold kNw; omega)).trans e12
    have p62 : w9 262 0 = w 262 0 := (qf _ _ (by unfold kNw; omega)).trans (eB _ _ (by omega))
    have hkB : kB w9 OP OD CL (fun _ => s0) := ⟨⟨by omega, by omega⟩, ⟨fun c k g => by rw [hK9 c k g, kB0 c k g]; exact hAll c k g.1.1 g.1.2, qa⟩, hb.eq hK9, qx.rx, fun i g1 g2 => ⟨⟨0, by omega, kI.pj0 hs1 hz (fun j => pj_n (fun h => by have := h.rg; omega))⟩, by show s0 74 1 ≤ 16 * i + 900 * s0 74 0; omega⟩, fun i g1 g2 => by omega⟩
    exact ⟨_, rfl, qT, Or.inr ⟨by omega, (show e_fr kNo w w9 from e_fr.trans (show e_fr kNo w w5 from e_fr.up (show e_fr kNo w w2 from e_fr.up (e_fr.refl w) hw2 (by first | exact Or.inr ⟨rfl, Or.inr rfl⟩ | (unfold kNo kNw; omega))) hw5 (by first | exact Or.inr ⟨rfl, Or.inl rfl⟩ | (unfold kNo kNw; omega))) (e_fr.mono qf (fun c k q => by exact Or.inl q))), (qf _ _ (by unfold kNw; omega)).trans e13, by omega, _, hkB⟩⟩
  · replace h1 : (w 0 13 : Int) ≠ 0 := (show ¬ ((w 0 13 : Int) = 0) from h1)
    refine e_Ok.ps1 (x := (0, (-2))) (q := 9) 1 rfl ?_
    refine e_Ok.rets rfl rfl ?_
    exact ⟨_, rfl, hT, Or.inl ⟨by omega, rfl⟩⟩
theorem c_239 {d : Nat} (hd : 25 ≤ d) {w : eW} (hl : lkK w) {a : Int} (g_a : (-2147483648) ≤ a ∧ a ≤ 2147483647) {b : Int} (g_b : (-2147483648) ≤ b ∧ b ≤ 2147483647) : e_Ok 20 elay kcode eI d 239 (0, [(0, (1, 0)), (1, (0, a)), (2, (0, b))], [], w) (fun r w' => ∃ z : Int, r = [(0, z)] ∧ e_fr kTc w w' ∧ e_Has kTy w') := by
  obtain ⟨d, rfl⟩ : ∃ e, d = e + 1 := ⟨d - 1, by omega⟩
  obtain ⟨hT, hAll, hC, hW, ka, hF⟩ := hl
  have hw0 := e_Has.get hT (c := 0) (k := 11) (lo := 0) (hi := 4) (kt_o rfl) (by decide)
  refine e_Ok.ps2 (x := (0, a)) (y := (1, 0)) (q := 2) 2 rfl ?_
  refine e_Ok.callV rfl (e_dq hd rfl) rfl rfl rfl rfl (c_246 (e_dq hd rfl) hT (by omega)) (fun r1 w2 h3 => ?_)
  obtain ⟨z4, rfl, rfl, q5⟩ := h3
  obtain ⟨rfl, q5⟩ | ⟨rfl, q5⟩ := q5
  · refine e_Ok.nrm (q := 5) (st' := [(0, 1)]) rfl rfl ?_
    refine e_Ok.if1 rfl (fun h6 => ?_) (fun h6 => ?_)
    · replace h6 : (1 : Int) = 0 := h6
      exfalso; omega
    · replace h6 : (1 : Int) ≠ 0 := (show ¬ ((1 : Int) = 0) from h6)
      refine e_Ok.ps3 (x := (0, 2000)) (y := (0, 0)) (z := (0, b)) (q := 13) 3 rfl ?_
      refine e_Ok.callS rfl (e_dq hd rfl) rfl rfl (c_242 (by omega) (by omega) (by omega)) (fun r7 w8 h9 => ?_)
      obtain ⟨z10, rfl, rfl, q11⟩ := h9
      obtain ⟨rfl, q11⟩ | ⟨rfl, q11⟩ := q11
      · refine e_Ok.nrm (q := 16) (st' := [(0, 1)]) rfl rfl ?_
        refine e_Ok.if1 rfl (fun h12 => ?_) (fun h12 => ?_)
        · replace h12 : (1 : Int) ≠ 0 := h12
          refine e_Ok.ps1 (x := (1, 0)) (q := 22) 1 rfl ?_
          refine e_Ok.getr (z := 250) rfl (el_o rfl) rfl rfl (e_Has.eq hT (kt_o rfl)) ⟨by decide, by decide⟩ ?_
          refine e_Ok.ps1 (x := (1, 0)) (q := 26) 1 rfl ?_
          refine e_Ok.getr (z := 9) rfl (el_o rfl) rfl rfl (e_Has.eq hT (kt_o rfl)) ⟨by decide, by decide⟩ ?_
          refine e_Ok.ps1 (x := (1, 0)) (q := 30) 1 rfl ?_
          have h13 := (e_Has.get hT (c := 0) (k := 11) (lo := 0) (hi := 4) (kt_o rfl) (by decide))
          refine e_Ok.getf (z := w 0 11) rfl (el_o rfl) rfl rfl rfl (e_bq h13 (by decide) (by decide)) ?_
          refine e_Ok.ps3 (x := (0, b)) (y := (0, 0)) (z := (0, a)) (q := 36) 3 rfl ?_
          refine e_Ok.callV rfl (e_dq hd rfl) rfl rfl rfl rfl (c_171 (e_dq hd rfl) hT (by omega) (by omega) (by omega) (by omega) ka) (fun r14 w15 h16 => ?_)
          obtain ⟨z17, rfl, q18f, q18T, q18r⟩ := h16
          refine e_Ok.nrm (q := 39) (st' := [(0, z17)]) rfl rfl ?_
          refine e_Ok.if1 rfl (fun h19 => ?_) (fun h19 => ?_)
          · replace h19 : (z17 : Int) = 0 := h19
            refine e_Ok.ps1 (x := (0, 0)) (q := 47) 1 rfl ?_
            refine e_Ok.rets rfl rfl ?_
            exact ⟨_, rfl, q18f, q18T⟩
          · replace h19 : (z17 : Int) ≠ 0 := (show ¬ ((z17 : Int) = 0) from h19)
            refine e_Ok.ps1 (x := (0, 1)) (q := 47) 2 rfl ?_
            refine e_Ok.rets rfl rfl ?_
            exact ⟨_, rfl, q18f, q18T⟩
        · replace h12 : (1 : Int) = 0 := Classical.not_not.mp (show ¬ ((1 : Int) ≠ 0) from h12)
          exfalso; omega
      · refine e_Ok.nrm (q := 16) (st' := [(0, 0)]) rfl rfl ?_
        refine e_Ok.if1 rfl (fun h20 => ?_) (fun h20 => ?_)
        · replace h20 : (0 : Int) ≠ 0 := h20
          exfalso; omega
        · replace h20 : (0 : Int) = 0 := Classical.not_not.mp (show ¬ ((0 : Int) ≠ 0) from h20)
          refine e_Ok.ps1 (x := (0, (-1))) (q := 20) 1 rfl ?_
          refine e_Ok.rets rfl rfl ?_
          exact ⟨_, rfl, e_fr.refl w, hT⟩
  · refine e_Ok.nrm (q := 5) (st' := [(0, 0)]) rfl rfl ?_
    refine e_Ok.if1 rfl (fun h21 => ?_) (fun h21 => ?_)
    · replace h21 : (0 : Int) = 0 := h21
      refine e_Ok.ps1 (x := (0, (-1))) (q := 20) 1 rfl ?_
      refine e_Ok.rets rfl rfl ?_
      exact ⟨_, rfl, e_fr.refl w, hT⟩
    · replace h21 : (0 : Int) ≠ 0 := (show ¬ ((0 : Int) = 0) from h21)
      exfalso; omega
end
end
-- part dh
section
noncomputable section
/-! the class: building calls that set a number -/
def kBj (a b : Int) (c k : Int) : Prop := c = 17 * a + b + 97 ∧ (k = 5 ∨ k = 6)
def kBr (a b : Int) (c k : Int) : Prop := c = 17 * a + b + 97 ∧ k = 4
def kBd (c k : Int) : Prop := c = 21
def kBs (c k : Int) : Prop := c = 22 ∨ c = 23 ∨ c = 24
def kBm0 (c k : Int) : Prop := c = 257
def kBi (c k : Int) : Prop := c = 76 ∨ (c = 74 ∧ k = 2)
def kBp (c k : Int) : Prop := c = 77
theorem c_248 {d : Nat} (hd : 21 ≤ d) {w : eW} (hT : e_Has kTy w) {a : Int} (ga : -2147483648 ≤ a ∧ a ≤ 2147483647) : e_Ok 20 elay kcode eI d 248 (0, [(0, (1, 0)), (1, (0, a))], [], w) (fun r w' => ∃ z : Int, r = [(0, z)] ∧ w = w' ∧ ((z = 1 ∧ 0 ≤ a ∧ a < w 19 0) ∨ (z = 0 ∧ (a < 0 ∨ w 19 0 ≤ a)))) := by
  obtain ⟨d, rfl⟩ : ∃ e, d = e + 1 := ⟨d - 1, by omega⟩
  have hb0 := e_Has.get hT (c := 19) (k := 0) (lo := 0) (hi := 4) (kt_o rfl) (by decide)
  refine e_Ok.ps3 (x := (1, 0)) (y := (0, 0)) (z := (0, a)) (q := 3) 3 rfl ?_
  refine e_Ok.getr (z := 19) rfl (el_o rfl) rfl rfl (e_Has.eq hT (kt_o rfl)) ⟨by decide, by decide⟩ ?_
  have h1 := (e_Has.get hT (c := 19) (k := 0) (lo := 0) (hi := 4) (kt_o rfl) (by decide))
  refine e_Ok.getf (z := w 19 0) rfl (el_o rfl) rfl rfl rfl (e_bq h1 (by decide) (by decide)) ?_
  refine e_Ok.ps1 (x := (0, 1)) (q := 10) 1 rfl ?_
  refine e_Ok.sub' (z := w 19 0 - 1) rfl rfl (by omega) ?_
  refine e_Ok.callS rfl (e_dq hd rfl) rfl rfl (c_242 (by omega) (by omega) (by omega)) (fun r2 w3 h4 => ?_)
  obtain ⟨z5, rfl, rfl, q6⟩ := h4
  obtain ⟨rfl, q6⟩ | ⟨rfl, q6⟩ := q6
  · refine e_Ok.nrm (q := 14) (st' := [(0, 1)]) rfl rfl ?_
    refine e_Ok.rets rfl rfl ?_
    exact ⟨_, rfl, rfl, by omega⟩
  · refine e_Ok.nrm (q := 14) (st' := [(0, 0)]) rfl rfl ?_
    refine e_Ok.rets rfl rfl ?_
    exact ⟨_, rfl, rfl, by omega⟩
theorem c_195 {d : Nat} (hd : 24 ≤ d) {w : eW} (hT : e_Has kTy w) (hO : 0 ≤ w 0 13 ∧ w 0 13 ≤ 1) {a : Int} (g_a : (-2147483648) ≤ a ∧ a ≤ 2147483647) {b : Int} (g_b : (-2147483648) ≤ b ∧ b ≤ 2147483647) {c : Int} (g_c : (-2147483648) ≤ c ∧ c ≤ 2147483647) {e : Int} (g_e : (-2147483648) ≤ e ∧ e ≤ 2147483647) : e_Ok 20 elay kcode eI d 195 (0, [(0, (1, 0)), (1, (0, a)), (2, (0, b)), (3, (0, c)), (4, (0, e))], [], w) (fun r w' => ∃ z : Int, r = [(0, z)] ∧ e_Has kTy w' ∧ (w' = w ∨ (w 0 13 = 0 ∧ e_fr (kBj a b) w w' ∧ ((0 ≤ a ∧ a < w 0 11) ∧ (0 ≤ b ∧ b < w (17 * a + 86) 8) ∧ (1 ≤ c ∧ c ≤ 2000) ∧ (1 ≤ e ∧ e ≤ 2000)) ∧ w' (17 * a + b + 97) 5 = c ∧ w' (17 * a + b + 97) 6 = e))) := by
  obtain ⟨d, rfl⟩ : ∃ e, d = e + 1 := ⟨d - 1, by omega⟩
  have hw0 := e_Has.get hT (c := 0) (k := 11) (lo := 0) (hi := 4) (kt_o rfl) (by decide)
  have hb0 := e_Has.get hT (c := 19) (k := 0) (lo := 0) (hi := 4) (kt_o rfl) (by decide)
  have hz0 := e_Has.get hT (c := 250) (k := 1) (lo := 0) (hi := 8) (kt_o rfl) (by decide)
  refine e_Ok.ps3 (x := (0, b)) (y := (0, a)) (z := (1, 0)) (q := 3) 3 rfl ?_
  refine e_Ok.callV rfl (e_dq hd rfl) rfl rfl rfl rfl (c_247 (e_dq hd rfl) hT (by omega) (by omega)) (fun r1 w2 h3 => ?_)
  obtain ⟨z4, rfl, rfl, q5⟩ := h3
  obtain ⟨rfl, q5⟩ | ⟨rfl, q5⟩ := q5
  · refine e_Ok.nrm (q := 6) (st' := [(0, 1)]) rfl rfl ?_
    refine e_Ok.if1 rfl (fun h6 => ?_) (fun h6 => ?_)
    · replace h6 : (1 : Int) ≠ 0 := h6
      have hjn := kn_joints hT (a := a) (by omega)
      refine e_Ok.ps3 (x := (0, 2000)) (y := (0, 1)) (z := (0, c)) (q := 16) 3 rfl ?_
      refine e_Ok.callS rfl (e_dq hd rfl) rfl rfl (c_242 (by omega) (by omega) (by omega)) (fun r7 w8 h9 => ?_)
      obtain ⟨z10, rfl, rfl, q11⟩ := h9
      obtain ⟨rfl, q11⟩ | ⟨rfl, q11⟩ := q11
      · refine e_Ok.nrm (q := 19) (st' := [(0, 1)]) rfl rfl ?_
        refine e_Ok.if1 rfl (fun h12 => ?_) (fun h12 => ?_)
        · replace h12 : (1 : Int) = 0 := h12
          exfalso; omega
        · replace h12 : (1 : Int) ≠ 0 := (show ¬ ((1 : Int) = 0) from h12)
          refine e_Ok.ps3 (x := (0, 2000)) (y := (0, 1)) (z := (0, e)) (q := 28) 3 rfl ?_
          refine e_Ok.callS rfl (e_dq hd rfl) rfl rfl (c_242 (by omega) (by omega) (by omega)) (fun r13 w14 h15 => ?_)
          obtain ⟨z16, rfl, rfl, q17⟩ := h15
          obtain ⟨rfl, q17⟩ | ⟨rfl, q17⟩ := q17
          · refine e_Ok.nrm (q := 31) (st' := [(0, 1)]) rfl rfl ?_
            refine e_Ok.if1 rfl (fun h18 => ?_) (fun h18 => ?_)
            · replace h18 : (1 : Int) ≠ 0 := h18
              refine e_Ok.ps1 (x := (1, 0)) (q := 37) 1 rfl ?_
              refine e_Ok.getf (z := w 0 13) rfl (el_o rfl) rfl rfl rfl (by omega) ?_
              refine e_Ok.if1 rfl (fun h19 => ?_) (fun h19 => ?_)
              · replace h19 : (w 0 13 : Int) = 0 := h19
                refine e_Ok.ps1 (x := (1, 0)) (q := 47) 1 rfl ?_
                refine e_Ok.getr (z := 9) rfl (el_o rfl) rfl rfl (e_Has.eq hT (kt_o rfl)) ⟨by decide, by decide⟩ ?_
                refine e_Ok.ps1 (x := (0, a)) (q := 51) 1 rfl ?_
                refine e_Ok.aald (z := 17 * a + 86) rfl (el_o rfl) rfl (by omega) (Eq.trans (e_Has.eq hT (k9 (by omega))) (by omega)) (by omega) ?_
                refine e_Ok.getr (z := 17 * a + 87) rfl (lA0 (a := a) (by omega) (by omega)) rfl rfl (Eq.trans (e_Has.eq hT (kA_0 (a := a) (by omega) (by omega))) (by omega)) (by omega) ?_
                refine e_Ok.ps1 (x := (0, b)) (q := 56) 1 rfl ?_
                refine e_Ok.aald (z := 17 * a + b + 97) rfl (lA1 (a := a) (by omega) (by omega)) rfl (by omega) (Eq.trans (e_Has.eq hT (kA87 (a := a) (by omega) (by omega) (by omega))) (by omega)) (by omega) ?_
                refine e_Ok.ps1 (x := (0, c)) (q := 58) 1 rfl ?_
                refine e_Ok.putf rfl (lJ (a := a) (j := b) (by omega) (by omega) (by omega)) rfl rfl ?_
                generalize hw20 : e_up w (17 * a + b + 97) 5 c = w20
                have hT22 : e_Has kTy w20 := e_Has.upr hT hw20 (kJ_5 (a := a) (j := b) (by omega) (by omega) (by omega)) (by omega)
                refine e_Ok.ps1 (x := (1, 0)) (q := 62) 1 rfl ?_
                refine e_Ok.getr (z := 9) rfl (el_o rfl) rfl rfl (e_uq hw20 (Or.inr (by decide)) (e_Has.eq hT (kt_o rfl))) ⟨by decide, by decide⟩ ?_
                refine e_Ok.ps1 (x := (0, a)) (q := 66) 1 rfl ?_
                refine e_Ok.aald (z := 17 * a + 86) rfl (el_o rfl) rfl (by omega) (e_uq hw20 (Or.inl (by omega)) (Eq.trans (e_Has.eq hT (k9 (by omega))) (by omega))) (by omega) ?_
                refine e_Ok.getr (z := 17 * a + 87) rfl (lA0 (a := a) (by omega) (by omega)) rfl rfl (e_uq hw20 (Or.inr (by decide)) (Eq.trans (e_Has.eq hT (kA_0 (a := a) (by omega) (by omega))) (by omega))) (by omega) ?_
                refine e_Ok.ps1 (x := (0, b)) (q := 71) 1 rfl ?_
                refine e_Ok.aald (z := 17 * a + b + 97) rfl (lA1 (a := a) (by omega) (by omega)) rfl (by omega) (e_uq hw20 (Or.inl (by omega)) (Eq.trans (e_Has.eq hT (kA87 (a := a) (by omega) (by omega) (by omega))) (by omega))) (by omega) ?_
                refine e_Ok.ps1 (x := (0, e)) (q := 74) 1 rfl ?_
                refine e_Ok.putf rfl (lJ (a := a) (j := b) (by omega) (by omega) (by omega)) rfl rfl ?_
                generalize hw23 : e_up w20 (17 * a + b + 97) 6 e = w23
                have hT25 : e_Has kTy w23 := e_Has.upr hT22 hw23 (kJ_6 (a := a) (j := b) (by omega) (by omega) (by omega)) (by omega)
                refine e_Ok.ps1 (x := (0, 0)) (q := 78) 1 rfl ?_
                refine e_Ok.rets rfl rfl ?_
                exact ⟨_, rfl, hT25, Or.inr ⟨by omega, (show e_fr (kBj a b) w w23 from e_fr.up (show e_fr (kBj a b) w w20 from e_fr.up (e_fr.refl w) hw20 (by first | exact ⟨(by omega), Or.inl rfl⟩ | (unfold kBj; omega))) hw23 (by first | exact ⟨(by omega), Or.inr rfl⟩ | (unfold kBj; omega))), (show (0 ≤ a ∧ a < w 0 11) ∧ (0 ≤ b ∧ b < w (17 * a + 86) 8) ∧ (1 ≤ c ∧ c ≤ 2000) ∧ (1 ≤ e ∧ e ≤ 2000) from by omega), (e_uq hw23 (Or.inr (by first | decide | omega)) (e_ue hw20)), (e_ue hw23)⟩⟩
              · replace h19 : (w 0 13 : Int) ≠ 0 := (show ¬ ((w 0 13 : Int) = 0) from h19)
                refine e_Ok.ps1 (x := (0, (-2))) (q := 45) 1 rfl ?_
                refine e_Ok.rets rfl rfl ?_
                exact ⟨_, rfl, hT, Or.inl rfl⟩
            · replace h18 : (1 : Int) = 0 := Classical.not_not.mp (show ¬ ((1 : Int) ≠ 0) from h18)
              exfalso; omega
          · refine e_Ok.nrm (q := 31) (st' := [(0, 0)]) rfl rfl ?_
            refine e_Ok.if1 rfl (fun h26 => ?_) (fun h26 => ?_)
            · replace h26 : (0 : Int) ≠ 0 := h26
              exfalso; omega
            · replace h26 : (0 : Int) = 0 := Classical.not_not.mp (show ¬ ((0 : Int) ≠ 0) from h26)
              refine e_Ok.ps1 (x := (0, (-1))) (q := 35) 1 rfl ?_
              refine e_Ok.rets rfl rfl ?_
              exact ⟨_, rfl, hT, Or.inl rfl⟩
      · refine e_Ok.nrm (q := 19) (st' := [(0, 0)]) rfl rfl ?_
        refine e_Ok.if1 rfl (fun h27 => ?_) (fun h27 => ?_)
        · replace h27 : (0 : Int) = 0 := h27
          refine e_Ok.ps1 (x := (0, (-1))) (q := 35) 1 rfl ?_
          refine e_Ok.rets rfl rfl ?_
          exact ⟨_, rfl, hT, Or.inl rfl⟩
        · replace h27 : (0 : Int) ≠ 0 := (show ¬ ((0 : Int) = 0) from h27)
          exfalso; omega
    · replace h6 : (1 : Int) = 0 := Classical.not_not.mp (show ¬ ((1 : Int) ≠ 0) from h6)
      exfalso; omega
  · refine e_Ok.nrm (q := 6) (st' := [(0, 0)]) rfl rfl ?_
    refine e_Ok.if1 rfl (fun h28 => ?_) (fun h28 => ?_)
    · replace h28 : (0 : Int) ≠ 0 := h28
      exfalso; omega
    · replace h28 : (0 : Int) = 0 := Classical.not_not.mp (show ¬ ((0 : Int) ≠ 0) from h28)
      refine e_Ok.ps1 (x := (0, (-1))) (q := 10) 1 rfl ?_
      refine e_Ok.rets rfl rfl ?_
      exact ⟨_, rfl, hT, Or.inl rfl⟩
theorem c_196 {d : Nat} (hd : 24 ≤ d) {w : eW} (hT : e_Has kTy w) (hO : 0 ≤ w 0 13 ∧ w 0 13 ≤ 1) {a : Int} (g_a : (-2147483648) ≤ a ∧ a ≤ 2147483647) {b : Int} (g_b : (-2147483648) ≤ b ∧ b ≤ 2147483647) {c : Int} (g_c : (-2147483648) ≤ c ∧ c ≤ 2147483647) : e_Ok 20 elay kcode eI d 196 (0, [(0, (1, 0)), (1, (0, a)), (2, (0, b)), (3, (0, c))], [], w) (fun r w' => ∃ z : Int, r = [(0, z)] ∧ e_Has kTy w' ∧ (w' = w ∨ (w 0 13 = 0 ∧ e_fr (kBr a b) w w'))) := by
  obtain ⟨d, rfl⟩ : ∃ e, d = e + 1 := ⟨d - 1, by omega⟩
  have hw0 := e_Has.get hT (c := 0) (k := 11) (lo := 0) (hi := 4) (kt_o rfl) (by decide)
  have hb0 := e_Has.get hT (c := 19) (k := 0) (lo := 0) (hi := 4) (kt_o rfl) (by decide)
  have hz0 := e_Has.get hT (c := 250) (k := 1) (lo := 0) (hi := 8) (kt_o rfl) (by decide)
  refine e_Ok.ps3 (x := (0, b)) (y := (0, a)) (z := (1, 0)) (q := 3) 3 rfl ?_
  refine e_Ok.callV rfl (e_dq hd rfl) rfl rfl rfl rfl (c_247 (e_dq hd rfl) hT (by omega) (by omega)) (fun r1 w2 h3 => ?_)
  obtain ⟨z4, rfl, rfl, q5⟩ := h3
  obtain ⟨rfl, q5⟩ | ⟨rfl, q5⟩ := q5
  · refine e_Ok.nrm (q := 6) (st' := [(0, 1)]) rfl rfl ?_
    refine e_Ok.if1 rfl (fun h6 => ?_) (fun h6 => ?_)
    · replace h6 : (1 : Int) = 0 := h6
      exfalso; omega
    · replace h6 : (1 : Int) ≠ 0 := (show ¬ ((1 : Int) = 0) from h6)
      have hjn := kn_joints hT (a := a) (by omega)
      refine e_Ok.ps3 (x := (0, 800)) (y := (0, 0)) (z := (0, c)) (q := 14) 3 rfl ?_
      refine e_Ok.callS rfl (e_dq hd rfl) rfl rfl (c_242 (by omega) (by omega) (by omega)) (fun r7 w8 h9 => ?_)
      obtain ⟨z10, rfl, rfl, q11⟩ := h9
      obtain ⟨rfl, q11⟩ | ⟨rfl, q11⟩ := q11
      · refine e_Ok.nrm (q := 17) (st' := [(0, 1)]) rfl rfl ?_
        refine e_Ok.if1 rfl (fun h12 => ?_) (fun h12 => ?_)
        · replace h12 : (1 : Int) ≠ 0 := h12
          refine e_Ok.ps1 (x := (1, 0)) (q := 23) 1 rfl ?_
          refine e_Ok.getf (z := w 0 13) rfl (el_o rfl) rfl rfl rfl (by omega) ?_
          refine e_Ok.if1 rfl (fun h13 => ?_) (fun h13 => ?_)
          · replace h13 : (w 0 13 : Int) = 0 := h13
            refine e_Ok.ps1 (x := (1, 0)) (q := 33) 1 rfl ?_
            refine e_Ok.getr (z := 9) rfl (el_o rfl) rfl rfl (e_Has.eq hT (kt_o rfl)) ⟨by decide, by decide⟩ ?_
            refine e_Ok.ps1 (x := (0, a)) (q := 37) 1 rfl ?_
            refine e_Ok.aald (z := 17 * a + 86) rfl (el_o rfl) rfl (by omega) (Eq.trans (e_Has.eq hT (k9 (by omega))) (by omega)) (by omega) ?_
            refine e_Ok.getr (z := 17 * a + 87) rfl (lA0 (a := a) (by omega) (by omega)) rfl rfl (Eq.trans (e_Has.eq hT (kA_0 (a := a) (by omega) (by omega))) (by omega)) (by omega) ?_
            refine e_Ok.ps1 (x := (0, b)) (q := 42) 1 rfl ?_
            refine e_Ok.aald (z := 17 * a + b + 97) rfl (lA1 (a := a) (by omega) (by omega)) rfl (by omega) (Eq.trans (e_Has.eq hT (kA87 (a := a) (by omega) (by omega) (by omega))) (by omega)) (by omega) ?_
            have h14 := (e_Has.get hT (c := 17 * a + b + 97) (k := 4) (lo := (-2147483648)) (hi := 2147483647) (kJ_4 (a := a) (j := b) (by omega) (by omega) (by omega)) (by decide))
            refine e_Ok.getf (z := w (17 * a + b + 97) 4) rfl (lJ (a := a) (j := b) (by omega) (by omega) (by omega)) rfl rfl rfl (e_bq h14 (by decide) (by decide)) ?_
            refine e_Ok.run (t' := (49, [(4, (0, w (17 * a + b + 97) 4)), (0, (1, 0)), (1, (0, a)), (2, (0, b)), (3, (0, c))], [(1, 0)], w)) 2 rfl ?_
            refine e_Ok.getr (z := 9) rfl (el_o rfl) rfl rfl (e_Has.eq hT (kt_o rfl)) ⟨by decide, by decide⟩ ?_
            refine e_Ok.ps1 (x := (0, a)) (q := 53) 1 rfl ?_
            refine e_Ok.aald (z := 17 * a + 86) rfl (el_o rfl) rfl (by omega) (Eq.trans (e_Has.eq hT (k9 (by omega))) (by omega)) (by omega) ?_
            refine e_Ok.getr (z := 17 * a + 87) rfl (lA0 (a := a) (by omega) (by omega)) rfl rfl (Eq.trans (e_Has.eq hT (kA_0 (a := a) (by omega) (by omega))) (by omega)) (by omega) ?_
            refine e_Ok.ps1 (x := (0, b)) (q := 58) 1 rfl ?_
            refine e_Ok.aald (z := 17 * a + b + 97) rfl (lA1 (a := a) (by omega) (by omega)) rfl (by omega) (Eq.trans (e_Has.eq hT (kA87 (a := a) (by omega) (by omega) (by omega))) (by omega)) (by omega) ?_
            refine e_Ok.ps1 (x := (0, c)) (q := 60) 1 rfl ?_
            refine e_Ok.putf rfl (lJ (a := a) (j := b) (by omega) (by omega) (by omega)) rfl rfl ?_
            generalize hw15 : e_up w (17 * a + b + 97) 4 c = w15
            have hT17 : e_Has kTy w15 := e_Has.upr hT hw15 (kJ_4 (a := a) (j := b) (by omega) (by omega) (by omega)) (by omega)
            refine e_Ok.ps1 (x := (0, w (17 * a + b + 97) 4)) (q := 65) 1 rfl ?_
            refine e_Ok.rets rfl rfl ?_
            exact ⟨_, rfl, hT17, Or.inr ⟨by omega, (show e_fr (kBr a b) w w15 from e_fr.up (e_fr.refl w) hw15 (by first | exact ⟨(by omega), rfl⟩ | (unfold kBr; omega)))⟩⟩
          · replace h13 : (w 0 13 : Int) ≠ 0 := (show ¬ ((w 0 13 : Int) = 0) from h13)
            refine e_Ok.ps1 (x := (0, (-2))) (q := 31) 1 rfl ?_
            refine e_Ok.rets rfl rfl ?_
            exact ⟨_, rfl, hT, Or.inl rfl⟩
        · replace h12 : (1 : Int) = 0 := Classical.not_not.mp (show ¬ ((1 : Int) ≠ 0) from h12)
          exfalso; omega
      · refine e_Ok.nrm (q := 17) (st' := [(0, 0)]) rfl rfl ?_
        refine e_Ok.if1 rfl (fun h18 => ?_) (fun h18 => ?_)
        · replace h18 : (0 : Int) ≠ 0 := h18
          exfalso; omega
        · replace h18 : (0 : Int) = 0 := Classical.not_not.mp (show ¬ ((0 : Int) ≠ 0) from h18)
          refine e_Ok.ps1 (x := (0, (-1))) (q := 21) 1 rfl ?_
          refine e_Ok.rets rfl rfl ?_
          exact ⟨_, rfl, hT, Or.inl rfl⟩
  · refine e_Ok.nrm (q := 6) (st' := [(0, 0)]) rfl rfl ?_
    refine e_Ok.if1 rfl (fun h19 => ?_) (fun h19 => ?_)
    · replace h19 : (0 : Int) = 0 := h19
      refine e_Ok.ps1 (x := (0, (-1))) (q := 21) 1 rfl ?_
      refine e_Ok.rets rfl rfl ?_
      exact ⟨_, rfl, hT, Or.inl rfl⟩
    · replace h19 : (0 : Int) ≠ 0 := (show ¬ ((0 : Int) = 0) from h19)
      exfalso; omega
theorem c_201 {d : Nat} (hd : 24 ≤ d) {w : eW} (hT : e_Has kTy w) (hO : 0 ≤ w 0 13 ∧ w 0 13 ≤ 1) {a : Int} (g_a : (-2147483648) ≤ a ∧ a ≤ 2147483647) {b : Int} (g_b : (-2147483648) ≤ b ∧ b ≤ 2147483647) : e_Ok 20 elay kcode eI d 201 (0, [(0, (1, 0)), (1, (0, a)), (2, (0, b))], [], w) (fun r w' => ∃ z : Int, r = [(0, z)] ∧ e_Has kTy w' ∧ (w' = w ∨ (w 0 13 = 0 ∧ e_fr kBd w w'))) := by
  obtain ⟨d, rfl⟩ : ∃ e, d = e + 1 := ⟨d - 1, by omega⟩
  have hw0 := e_Has.get hT (c := 0) (k := 11) (lo := 0) (hi := 4) (kt_o rfl) (by decide)
  have hb0 := e_Has.get hT (c := 19) (k := 0) (lo := 0) (hi := 4) (kt_o rfl) (by decide)
  have hz0 := e_Has.get hT (c := 250) (k := 1) (lo := 0) (hi := 8) (kt_o rfl) (by decide)
  refine e_Ok.ps2 (x := (0, a)) (y := (1, 0)) (q := 2) 2 rfl ?_
  refine e_Ok.callV rfl (e_dq hd rfl) rfl rfl rfl rfl (c_248 (e_dq hd rfl) hT (by omega)) (fun r1 w2 h3 => ?_)
  obtain ⟨z4, rfl, rfl, q5⟩ := h3
  obtain ⟨rfl, q5⟩ | ⟨rfl, q5⟩ := q5
  · refine e_Ok.nrm (q := 5) (st' := [(0, 1)]) rfl rfl ?_
    refine e_Ok.if1 rfl (fun h6 => ?_) (fun h6 => ?_)
    · replace h6 : (1 : Int) = 0 := h6
      exfalso; omega
    · replace h6 : (1 : Int) ≠ 0 := (show ¬ ((1 : Int) = 0) from h6)
      refine e_Ok.ps3 (x := (0, 100)) (y := (0, 0)) (z := (0, b)) (q := 12) 3 rfl ?_
      refine e_Ok.callS rfl (e_dq hd rfl) rfl rfl (c_242 (by omega) (by omega) (by omega)) (fun r7 w8 h9 => ?_)
      obtain ⟨z10, rfl, rfl, q11⟩ := h9
      obtain ⟨rfl, q11⟩ | ⟨rfl, q11⟩ := q11
      · refine e_Ok.nrm (q := 15) (st' := [(0, 1)]) rfl rfl ?_
        refine e_Ok.if1 rfl (fun h12 => ?_) (fun h12 => ?_)
        · replace h12 : (1 : Int) ≠ 0 := h12
          refine e_Ok.ps1 (x := (1, 0)) (q := 21) 1 rfl ?_
          refine e_Ok.getf (z := w 0 13) rfl (el_o rfl) rfl rfl rfl (by omega) ?_
          refine e_Ok.if1 rfl (fun h13 => ?_) (fun h13 => ?_)
          · replace h13 : (w 0 13 : Int) = 0 := h13
            refine e_Ok.ps1 (x := (1, 0)) (q := 31) 1 rfl ?_
            refine e_Ok.getr (z := 19) rfl (el_o rfl) rfl rfl (e_Has.eq hT (kt_o rfl)) ⟨by decide, by decide⟩ ?_
            refine e_Ok.getr (z := 21) rfl (el_o rfl) rfl rfl (e_Has.eq hT (kt_o rfl)) ⟨by decide, by decide⟩ ?_
            refine e_Ok.ps1 (x := (0, a)) (q := 38) 1 rfl ?_
            have h14 := (e_Has.get hT (c := 21) (k := a) (lo := (-2147483648)) (hi := 2147483647) (kt_o rfl) (by decide))
            refine e_Ok.ald (z := w 21 a) rfl (el_o rfl) rfl (by omega) rfl (e_bq h14 (by decide) (by decide)) ?_
            refine e_Ok.run (t' := (41, [(3, (0, w 21 a)), (0, (1, 0)), (1, (0, a)), (2, (0, b))], [(1, 0)], w)) 2 rfl ?_
            refine e_Ok.getr (z := 19) rfl (el_o rfl) rfl rfl (e_Has.eq hT (kt_o rfl)) ⟨by decide, by decide⟩ ?_
            refine e_Ok.getr (z := 21) rfl (el_o rfl) rfl rfl (e_Has.eq hT (kt_o rfl)) ⟨by decide, by decide⟩ ?_
            refine e_Ok.ps2 (x := (0, b)) (y := (0, a)) (q := 49) 2 rfl ?_
            refine e_Ok.ast rfl (el_o rfl) rfl rfl (by omega) ?_
            generalize hw15 : e_up w 21 a b = w15
            have hT17 : e_Has kTy w15 := e_Has.upr hT hw15 (kt_o rfl) (by omega)
            refine e_Ok.ps1 (x := (0, w 21 a)) (q := 51) 1 rfl ?_
            refine e_Ok.rets rfl rfl ?_
            exact ⟨_, rfl, hT17, Or.inr ⟨by omega, (show e_fr kBd w w15 from e_fr.up (e_fr.refl w) hw15 (by first | exact rfl | (unfold kBd; omega)))⟩⟩
          · replace h13 : (w 0 13 : Int) ≠ 0 := (show ¬ ((w 0 13 : Int) = 0) from h13)
            refine e_Ok.ps1 (x := (0, (-2))) (q := 29) 1 rfl ?_
            refine e_Ok.rets rfl rfl ?_
            exact ⟨_, rfl, hT, Or.inl rfl⟩
        · replace h12 : (1 : Int) = 0 := Classical.not_not.mp (show ¬ ((1 : Int) ≠ 0) from h12)
          exfalso; omega
      · refine e_Ok.nrm (q := 15) (st' := [(0, 0)]) rfl rfl ?_
        refine e_Ok.if1 rfl (fun h18 => ?_) (fun h18 => ?_)
        · replace h18 : (0 : Int) ≠ 0 := h18
          exfalso; omega
        · replace h18 : (0 : Int) = 0 := Classical.not_not.mp (show ¬ ((0 : Int) ≠ 0) from h18)
          refine e_Ok.ps1 (x := (0, (-1))) (q := 19) 1 rfl ?_
          refine e_Ok.rets rfl rfl ?_
          exact ⟨_, rfl, hT, Or.inl rfl⟩
  · refine e_Ok.nrm (q := 5) (st' := [(0, 0)]) rfl rfl ?_
    refine e_Ok.if1 rfl (fun h19 => ?_) (fun h19 => ?_)
    · replace h19 : (0 : Int) = 0 := h19
      refine e_Ok.ps1 (x := (0, (-1))) (q := 19) 1 rfl ?_
      refine e_Ok.rets rfl rfl ?_
      exact ⟨_, rfl, hT, Or.inl rfl⟩
    · replace h19 : (0 : Int) ≠ 0 := (show ¬ ((0 : Int) = 0) from h19)
      exfalso; omega
theorem c_202 {d : Nat} (hd : 24 ≤ d) {w : eW} (hT : e_Has kTy w) (hO : 0 ≤ w 0 13 ∧ w 0 13 ≤ 1) {a : Int} (g_a : (-2147483648) ≤ a ∧ a ≤ 2147483647) {b : Int} (g_b : (-2147483648) ≤ b ∧ b ≤ 2147483647) {c : Int} (g_c : (-2147483648) ≤ c ∧ c ≤ 2147483647) {e : Int} (g_e : (-2147483648) ≤ e ∧ e ≤ 2147483647) : e_Ok 20 elay kcode eI d 202 (0, [(0, (1, 0)), (1, (0, a)), (2, (0, b)), (3, (0, c)), (4, (0, e))], [], w) (fun r w' => ∃ z : Int, r = [(0, z)] ∧ e_Has kTy w' ∧ (w' = w ∨ (w 0 13 = 0 ∧ e_fr kBs w w'))) := by
  obtain ⟨d, rfl⟩ : ∃ e, d = e + 1 := ⟨d - 1, by omega⟩
  have hw0 := e_Has.get hT (c := 0) (k := 11) (lo := 0) (hi := 4) (kt_o rfl) (by decide)
  have hb0 := e_Has.get hT (c := 19) (k := 0) (lo := 0) (hi := 4) (kt_o rfl) (by decide)
  have hz0 := e_Has.get hT (c := 250) (k := 1) (lo := 0) (hi := 8) (kt_o rfl) (by decide)
  refine e_Ok.ps2 (x := (0, a)) (y := (1, 0)) (q := 2) 2 rfl ?_
  refine e_Ok.callV rfl (e_dq hd rfl) rfl rfl rfl rfl (c_248 (e_dq hd rfl) hT (by omega)) (fun r1 w2 h3 => ?_)
  obtain ⟨z4, rfl, rfl, q5⟩ := h3
  obtain ⟨rfl, q5⟩ | ⟨rfl, q5⟩ := q5
  · refine e_Ok.nrm (q := 5) (st' := [(0, 1)]) rfl rfl ?_
    refine e_Ok.if1 rfl (fun h6 => ?_) (fun h6 => ?_)
    · replace h6 : (1 : Int) = 0 := h6
      exfalso; omega
    · replace h6 : (1 : Int) ≠ 0 := (show ¬ ((1 : Int) = 0) from h6)
      refine e_Ok.ps1 (x := (0, b)) (q := 9) 1 rfl ?_
      refine e_Ok.callS rfl (e_dq hd rfl) rfl rfl (c_245 (e_dq hd rfl) (by omega)) (fun r7 w8 h9 => ?_)
      obtain ⟨z10, rfl, rfl, q11⟩ := h9
      obtain ⟨rfl, q11⟩ | ⟨rfl, q11⟩ := q11
      · refine e_Ok.nrm (q := 12) (st' := [(0, 1)]) rfl rfl ?_
        refine e_Ok.if1 rfl (fun h12 => ?_) (fun h12 => ?_)
        · replace h12 : (1 : Int) = 0 := h12
          exfalso; omega
        · replace h12 : (1 : Int) ≠ 0 := (show ¬ ((1 : Int) = 0) from h12)
          refine e_Ok.ps1 (x := (0, c)) (q := 16) 1 rfl ?_
          refine e_Ok.if1 rfl (fun h13 => ?_) (fun h13 => ?_)
          · replace h13 : (c : Int) < 0 := h13
            refine e_Ok.ps1 (x := (0, (-1))) (q := 26) 1 rfl ?_
            refine e_Ok.rets rfl rfl ?_
            exact ⟨_, rfl, hT, Or.inl rfl⟩
          · replace h13 : (c : Int) ≥ 0 := Int.not_lt.mp (show ¬ ((c : Int) < 0) from h13)
            refine e_Ok.ps2 (x := (0, c)) (y := (0, e)) (q := 22) 2 rfl ?_
            refine e_Ok.if2 rfl (fun h14 => ?_) (fun h14 => ?_)
            · replace h14 : (e : Int) ≥ c := h14
              refine e_Ok.ps1 (x := (1, 0)) (q := 28) 1 rfl ?_
              refine e_Ok.getf (z := w 0 13) rfl (el_o rfl) rfl rfl rfl (by omega) ?_
              refine e_Ok.if1 rfl (fun h15 => ?_) (fun h15 => ?_)
              · replace h15 : (w 0 13 : Int) = 0 := h15
                refine e_Ok.ps1 (x := (1, 0)) (q := 38) 1 rfl ?_
                refine e_Ok.getr (z := 19) rfl (el_o rfl) rfl rfl (e_Has.eq hT (kt_o rfl)) ⟨by decide, by decide⟩ ?_
                refine e_Ok.getr (z := 22) rfl (el_o rfl) rfl rfl (e_Has.eq hT (kt_o rfl)) ⟨by decide, by decide⟩ ?_
                refine e_Ok.ps2 (x := (0, b)) (y := (0, a)) (q := 46) 2 rfl ?_
                refine e_Ok.ast rfl (el_o rfl) rfl rfl (by omega) ?_
                generalize hw16 : e_up w 22 a b = w16
                have hT18 : e_Has kTy w16 := e_Has.upr hT hw16 (kt_o rfl) (by omega)
                refine e_Ok.ps1 (x := (1, 0)) (q := 48) 1 rfl ?_
                refine e_Ok.getr (z := 19) rfl (el_o rfl) rfl rfl (e_uq hw16 (Or.inl (by decide)) (e_Has.eq hT (kt_o rfl))) ⟨by decide, by decide⟩ ?_
                refine e_Ok.getr (z := 23) rfl (el_o rfl) rfl rfl (e_uq hw16 (Or.inl (by decide)) (e_Has.eq hT (kt_o rfl))) ⟨by decide, by decide⟩ ?_
                refine e_Ok.ps2 (x := (0, c)) (y := (0, a)) (q := 56) 2 rfl ?_
                refine e_Ok.ast rfl (el_o rfl) rfl rfl (by omega) ?_
                generalize hw19 : e_up w16 23 a c = w19
                have hT21 : e_Has kTy w19 := e_Has.upr hT18 hw19 (kt_o rfl) (by omega)
                refine e_Ok.ps1 (x := (1, 0)) (q := 58) 1 rfl ?_
                refine e_Ok.getr (z := 19) rfl (el_o rfl) rfl rfl (e_uq hw19 (Or.inl (by decide)) (e_uq hw16 (Or.inl (by decide)) (e_Has.eq hT (kt_o rfl)))) ⟨by decide, by decide⟩ ?_
                refine e_Ok.getr (z := 24) rfl (el_o rfl) rfl rfl (e_uq hw19 (Or.inl (by decide)) (e_uq hw16 (Or.inl (by decide)) (e_Has.eq hT (kt_o rfl)))) ⟨by decide, by decide⟩ ?_
                refine e_Ok.ps2 (x := (0, e)) (y := (0, a)) (q := 67) 2 rfl ?_
                refine e_Ok.ast rfl (el_o rfl) rfl rfl (by omega) ?_
                generalize hw22 : e_up w19 24 a e = w22
                have hT24 : e_Has kTy w22 := e_Has.upr hT21 hw22 (kt_o rfl) (by omega)
                refine e_Ok.ps1 (x := (0, 0)) (q := 69) 1 rfl ?_
                refine e_Ok.rets rfl rfl ?_
                exact ⟨_, rfl, hT24, Or.inr ⟨by omega, (show e_fr kBs w w22 from e_fr.up (show e_fr kBs w w19 from e_fr.up (show e_fr kBs w w16 from e_fr.up (e_fr.refl w) hw16 (by first | exact Or.inl rfl | (unfold kBs; omega))) hw19 (by first | exact Or.inr (Or.inl rfl) | (unfold kBs; omega))) hw22 (by first | exact Or.inr (Or.inr rfl) | (unfold kBs; omega)))⟩⟩
              · replace h15 : (w 0 13 : Int) ≠ 0 := (show ¬ ((w 0 13 : Int) = 0) from h15)
                refine e_Ok.ps1 (x := (0, (-2))) (q := 36) 1 rfl ?_
                refine e_Ok.rets rfl rfl ?_
                exact ⟨_, rfl, hT, Or.inl rfl⟩
            · replace h14 : (e : Int) < c := Int.not_le.mp (show ¬ ((e : Int) ≥ c) from h14)
              refine e_Ok.ps1 (x := (0, (-1))) (q := 26) 1 rfl ?_
              refine e_Ok.rets rfl rfl ?_
              exact ⟨_, rfl, hT, Or.inl rfl⟩
      · refine e_Ok.nrm (q := 12) (st' := [(0, 0)]) rfl rfl ?_
        refine e_Ok.if1 rfl (fun h25 => ?_) (fun h25 => ?_)
        · replace h25 : (0 : Int) = 0 := h25
          refine e_Ok.ps1 (x := (0, (-1))) (q := 26) 1 rfl ?_
          refine e_Ok.rets rfl rfl ?_
          exact ⟨_, rfl, hT, Or.inl rfl⟩
        · replace h25 : (0 : Int) ≠ 0 := (show ¬ ((0 : Int) = 0) from h25)
          exfalso; omega
  · refine e_Ok.nrm (q := 5) (st' := [(0, 0)]) rfl rfl ?_
    refine e_Ok.if1 rfl (fun h26 => ?_) (fun h26 => ?_)
    · replace h26 : (0 : Int) = 0 := h26
      refine e_Ok.ps1 (x := (0, (-1))) (q := 26) 1 rfl ?_
      refine e_Ok.rets rfl rfl ?_
      exact ⟨_, rfl, hT, Or.inl rfl⟩
    · replace h26 : (0 : Int) ≠ 0 := (show ¬ ((0 : Int) = 0) from h26)
      exfalso; omega
theorem c_206 {d : Nat} (hd : 24 ≤ d) {w : eW} (hT : e_Has kTy w) (hO : 0 ≤ w 0 13 ∧ w 0 13 ≤ 1) {a : Int} (g_a : (-2147483648) ≤ a ∧ a ≤ 2147483647) {b : Int} (g_b : (-2147483648) ≤ b ∧ b ≤ 2147483647) : e_Ok 20 elay kcode eI d 206 (0, [(0, (1, 0)), (1, (0, a)), (2, (0, b))], [], w) (fun r w' => ∃ z : Int, r = [(0, z)] ∧ e_Has kTy w' ∧ (w' = w ∨ (w 0 13 = 0 ∧ e_fr kBm0 w w'))) := by
  obtain ⟨d, rfl⟩ : ∃ e, d = e + 1 := ⟨d - 1, by omega⟩
  have hw0 := e_Has.get hT (c := 0) (k := 11) (lo := 0) (hi := 4) (kt_o rfl) (by decide)
  have hb0 := e_Has.get hT (c := 19) (k := 0) (lo := 0) (hi := 4) (kt_o rfl) (by decide)
  have hz0 := e_Has.get hT (c := 250) (k := 1) (lo := 0) (hi := 8) (kt_o rfl) (by decide)
  refine e_Ok.ps3 (x := (1, 0)) (y := (0, 0)) (z := (0, a)) (q := 3) 3 rfl ?_
  refine e_Ok.getr (z := 250) rfl (el_o rfl) rfl rfl (e_Has.eq hT (kt_o rfl)) ⟨by decide, by decide⟩ ?_
  have h1 := (e_Has.get hT (c := 250) (k := 1) (lo := 0) (hi := 8) (kt_o rfl) (by decide))
  refine e_Ok.getf (z := w 250 1) rfl (el_o rfl) rfl rfl rfl (e_bq h1 (by decide) (by decide)) ?_
  refine e_Ok.ps1 (x := (0, 1)) (q := 10) 1 rfl ?_
  refine e_Ok.sub' (z := w 250 1 - 1) rfl rfl (by omega) ?_
  refine e_Ok.callS rfl (e_dq hd rfl) rfl rfl (c_242 (by omega) (by omega) (by omega)) (fun r2 w3 h4 => ?_)
  obtain ⟨z5, rfl, rfl, q6⟩ := h4
  obtain ⟨rfl, q6⟩ | ⟨rfl, q6⟩ := q6
  · refine e_Ok.nrm (q := 14) (st' := [(0, 1)]) rfl rfl ?_
    refine e_Ok.if1 rfl (fun h7 => ?_) (fun h7 => ?_)
    · replace h7 : (1 : Int) = 0 := h7
      exfalso; omega
    · replace h7 : (1 : Int) ≠ 0 := (show ¬ ((1 : Int) = 0) from h7)
      refine e_Ok.ps3 (x := (0, 32000)) (y := (0, (-1))) (z := (0, b)) (q := 22) 3 rfl ?_
      refine e_Ok.callS rfl (e_dq hd rfl) rfl rfl (c_242 (by omega) (by omega) (by omega)) (fun r8 w9 h10 => ?_)
      obtain ⟨z11, rfl, rfl, q12⟩ := h10
      obtain ⟨rfl, q12⟩ | ⟨rfl, q12⟩ := q12
      · refine e_Ok.nrm (q := 25) (st' := [(0, 1)]) rfl rfl ?_
        refine e_Ok.if1 rfl (fun h13 => ?_) (fun h13 => ?_)
        · replace h13 : (1 : Int) ≠ 0 := h13
          refine e_Ok.ps1 (x := (1, 0)) (q := 31) 1 rfl ?_
          refine e_Ok.getf (z := w 0 13) rfl (el_o rfl) rfl rfl rfl (by omega) ?_
          refine e_Ok.if1 rfl (fun h14 => ?_) (fun h14 => ?_)
          · replace h14 : (w 0 13 : Int) = 0 := h14
            refine e_Ok.ps1 (x := (1, 0)) (q := 41) 1 rfl ?_
            refine e_Ok.getr (z := 250) rfl (el_o rfl) rfl rfl (e_Has.eq hT (kt_o rfl)) ⟨by decide, by decide⟩ ?_
            refine e_Ok.getr (z := 257) rfl (el_o rfl) rfl rfl (e_Has.eq hT (kt_o rfl)) ⟨by decide, by decide⟩ ?_
            refine e_Ok.ps1 (x := (0, a)) (q := 48) 1 rfl ?_
            have h15 := (e_Has.get hT (c := 257) (k := a) (lo := (-2147483648)) (hi := 2147483647) (kt_o rfl) (by decide))
            refine e_Ok.ald (z := w 257 a) rfl (el_o rfl) rfl (by omega) rfl (e_bq h15 (by decide) (by decide)) ?_
            refine e_Ok.run (t' := (51, [(3, (0, w 257 a)), (0, (1, 0)), (1, (0, a)), (2, (0, b))], [(1, 0)], w)) 2 rfl ?_
            refine e_Ok.getr (z := 250) rfl (el_o rfl) rfl rfl (e_Has.eq hT (kt_o rfl)) ⟨by decide, by decide⟩ ?_
            refine e_Ok.getr (z := 257) rfl (el_o rfl) rfl rfl (e_Has.eq hT (kt_o rfl)) ⟨by decide, by decide⟩ ?_
            refine e_Ok.ps2 (x := (0, b)) (y := (0, a)) (q := 59) 2 rfl ?_
            refine e_Ok.ast rfl (el_o rfl) rfl rfl (by omega) ?_
            generalize hw16 : e_up w 257 a b = w16
            have hT18 : e_Has kTy w16 := e_Has.upr hT hw16 (kt_o rfl) (by omega)
            refine e_Ok.ps1 (x := (0, w 257 a)) (q := 61) 1 rfl ?_
            refine e_Ok.rets rfl rfl ?_
            exact ⟨_, rfl, hT18, Or.inr ⟨by omega, (show e_fr kBm0 w w16 from e_fr.up (e_fr.refl w) hw16 (by first | exact rfl | (unfold kBm0; omega)))⟩⟩
          · replace h14 : (w 0 13 : Int) ≠ 0 := (show ¬ ((w 0 13 : Int) = 0) from h14)
            refine e_Ok.ps1 (x := (0, (-2))) (q := 39) 1 rfl ?_
            refine e_Ok.rets rfl rfl ?_
            exact ⟨_, rfl, hT, Or.inl rfl⟩
        · replace h13 : (1 : Int) = 0 := Classical.not_not.mp (show ¬ ((1 : Int) ≠ 0) from h13)
          exfalso; omega
      · refine e_Ok.nrm (q := 25) (st' := [(0, 0)]) rfl rfl ?_
        refine e_Ok.if1 rfl (fun h19 => ?_) (fun h19 => ?_)
        · replace h19 : (0 : Int) ≠ 0 := h19
          exfalso; omega
        · replace h19 : (0 : Int) = 0 := Classical.not_not.mp (show ¬ ((0 : Int) ≠ 0) from h19)
          refine e_Ok.ps1 (x := (0, (-1))) (q := 29) 1 rfl ?_
          refine e_Ok.rets rfl rfl ?_
          exact ⟨_, rfl, hT, Or.inl rfl⟩
  · refine e_Ok.nrm (q := 14) (st' := [(0, 0)]) rfl rfl ?_
    refine e_Ok.if1 rfl (fun h20 => ?_) (fun h20 => ?_)
    · replace h20 : (0 : Int) = 0 := h20
      refine e_Ok.ps1 (x := (0, (-1))) (q := 29) 1 rfl ?_
      refine e_Ok.rets rfl rfl ?_
      exact ⟨_, rfl, hT, Or.inl rfl⟩
    · replace h20 : (0 : Int) ≠ 0 := (show ¬ ((0 : Int) = 0) from h20)
      exfalso; omega
theorem c_207 {d : Nat} (hd : 24 ≤ d) {w : eW} (hT : e_Has kTy w) (hO : 0 ≤ w 0 13 ∧ w 0 13 ≤ 1) {a : Int} (g_a : (-2147483648) ≤ a ∧ a ≤ 2147483647) : e_Ok 20 elay kcode eI d 207 (0, [(0, (1, 0)), (1, (0, a))], [], w) (fun r w' => ∃ z : Int, r = [(0, z)] ∧ e_Has kTy w' ∧ (w' = w ∨ (w 0 13 = 0 ∧ e_fr kBi w w'))) := by
  obtain ⟨d, rfl⟩ : ∃ e, d = e + 1 := ⟨d - 1, by omega⟩
  have hw0 := e_Has.get hT (c := 0) (k := 11) (lo := 0) (hi := 4) (kt_o rfl) (by decide)
  have hb0 := e_Has.get hT (c := 19) (k := 0) (lo := 0) (hi := 4) (kt_o rfl) (by decide)
  have hz0 := e_Has.get hT (c := 250) (k := 1) (lo := 0) (hi := 8) (kt_o rfl) (by decide)
  refine e_Ok.ps3 (x := (0, 1000)) (y := (0, 0)) (z := (0, a)) (q := 5) 3 rfl ?_
  refine e_Ok.callS rfl (e_dq hd rfl) rfl rfl (c_242 (by omega) (by omega) (by omega)) (fun r1 w2 h3 => ?_)
  obtain ⟨z4, rfl, rfl, q5⟩ := h3
  obtain ⟨rfl, q5⟩ | ⟨rfl, q5⟩ := q5
  · refine e_Ok.nrm (q := 8) (st' := [(0, 1)]) rfl rfl ?_
    refine e_Ok.if1 rfl (fun h6 => ?_) (fun h6 => ?_)
    · replace h6 : (1 : Int) ≠ 0 := h6
      refine e_Ok.ps1 (x := (1, 0)) (q := 14) 1 rfl ?_
      refine e_Ok.getf (z := w 0 13) rfl (el_o rfl) rfl rfl rfl (by omega) ?_
      refine e_Ok.if1 rfl (fun h7 => ?_) (fun h7 => ?_)
      · replace h7 : (w 0 13 : Int) = 0 := h7
        refine e_Ok.ps1 (x := (1, 0)) (q := 24) 1 rfl ?_
        refine e_Ok.getr (z := 74) rfl (el_o rfl) rfl rfl (e_Has.eq hT (kt_o rfl)) ⟨by decide, by decide⟩ ?_
        have h8 := (e_Has.get hT (c := 74) (k := 2) (lo := 0) (hi := 8) (kt_o rfl) (by decide))
        refine e_Ok.getf (z := w 74 2) rfl (el_o rfl) rfl rfl rfl (e_bq h8 (by decide) (by decide)) ?_
        refine e_Ok.ps1 (x := (0, 8)) (q := 32) 1 rfl ?_
        refine e_Ok.if2 rfl (fun h9 => ?_) (fun h9 => ?_)
        · replace h9 : (w 74 2 : Int) < 8 := h9
          refine e_Ok.ps1 (x := (1, 0)) (q := 39) 1 rfl ?_
          refine e_Ok.getr (z := 74) rfl (el_o rfl) rfl rfl (e_Has.eq hT (kt_o rfl)) ⟨by decide, by decide⟩ ?_
          refine e_Ok.getr (z := 76) rfl (el_o rfl) rfl rfl (e_Has.eq hT (kt_o rfl)) ⟨by decide, by decide⟩ ?_
          refine e_Ok.ps1 (x := (1, 0)) (q := 46) 1 rfl ?_
          refine e_Ok.getr (z := 74) rfl (el_o rfl) rfl rfl (e_Has.eq hT (kt_o rfl)) ⟨by decide, by decide⟩ ?_
          refine e_Ok.getf (z := w 74 2) rfl (el_o rfl) rfl rfl rfl (by omega) ?_
          refine e_Ok.ps1 (x := (0, a)) (q := 53) 1 rfl ?_
          refine e_Ok.ast rfl (el_o rfl) rfl rfl (by omega) ?_
          generalize hw10 : e_up w 76 (w 74 2) a = w10
          have hT12 : e_Has kTy w10 := e_Has.upr hT hw10 (kt_o rfl) (by omega)
          refine e_Ok.ps1 (x := (1, 0)) (q := 55) 1 rfl ?_
          refine e_Ok.getr (z := 74) rfl (el_o rfl) rfl rfl (e_uq hw10 (Or.inl (by decide)) (e_Has.eq hT (kt_o rfl))) ⟨by decide, by decide⟩ ?_
          refine e_Ok.ps1 (x := (1, 74)) (q := 59) 1 rfl ?_
          refine e_Ok.getf (z := w 74 2) rfl (el_o rfl) rfl rfl (e_uq hw10 (Or.inl (by decide)) rfl) (by omega) ?_
          refine e_Ok.ps1 (x := (0, 1)) (q := 63) 1 rfl ?_
          refine e_Ok.add (z := w 74 2 + 1) rfl rfl (by omega) ?_
          refine e_Ok.putf rfl (el_o rfl) rfl rfl ?_
          generalize hw13 : e_up w10 74 2 (w 74 2 + 1) = w13
          have hT15 : e_Has kTy w13 := e_Has.upr hT12 hw13 (kt_o rfl) (by omega)
          refine e_Ok.ps1 (x := (1, 0)) (q := 68) 1 rfl ?_
          refine e_Ok.getr (z := 74) rfl (el_o rfl) rfl rfl (e_uq hw13 (Or.inl (by decide)) (e_uq hw10 (Or.inl (by decide)) (e_Has.eq hT (kt_o rfl)))) ⟨by decide, by decide⟩ ?_
          refine e_Ok.getf (z := w 74 2 + 1) rfl (el_o rfl) rfl rfl (e_ue hw13) (by omega) ?_
          refine e_Ok.ps1 (x := (0, 1)) (q := 75) 1 rfl ?_
          refine e_Ok.sub' (z := w 74 2) rfl (by omega) (by omega) ?_
          refine e_Ok.rets rfl rfl ?_
          exact ⟨_, rfl, hT15, Or.inr ⟨by omega, (show e_fr kBi w w13 from e_fr.up (show e_fr kBi w w10 from e_fr.up (e_fr.refl w) hw10 (by first | exact Or.inl rfl | (unfold kBi; omega))) hw13 (by first | exact Or.inr ⟨rfl, rfl⟩ | (unfold kBi; omega)))⟩⟩
        · replace h9 : (w 74 2 : Int) ≥ 8 := Int.not_lt.mp (show ¬ ((w 74 2 : Int) < 8) from h9)
          refine e_Ok.ps1 (x := (0, (-3))) (q := 37) 1 rfl ?_
          refine e_Ok.rets rfl rfl ?_
          exact ⟨_, rfl, hT, Or.inl rfl⟩
      · replace h7 : (w 0 13 : Int) ≠ 0 := (show ¬ ((w 0 13 : Int) = 0) from h7)
        refine e_Ok.ps1 (x := (0, (-2))) (q := 22) 1 rfl ?_
        refine e_Ok.rets rfl rfl ?_
        exact ⟨_, rfl, hT, Or.inl rfl⟩
    · replace h6 : (1 : Int) = 0 := Classical.not_not.mp (show ¬ ((1 : Int) ≠ 0) from h6)
      exfalso; omega
  · refine e_Ok.nrm (q := 8) (st' := [(0, 0)]) rfl rfl ?_
    refine e_Ok.if1 rfl (fun h16 => ?_) (fun h16 => ?_)
    · replace h16 : (0 : Int) ≠ 0 := h16
      exfalso; omega
    · replace h16 : (0 : Int) = 0 := Classical.not_not.mp (show ¬ ((0 : Int) ≠ 0) from h16)
      refine e_Ok.ps1 (x := (0, (-1))) (q := 12) 1 rfl ?_
      refine e_Ok.rets rfl rfl ?_
      exact ⟨_, rfl, hT, Or.inl rfl⟩
theorem c_208 {d : Nat} (hd : 24 ≤ d) {w : eW} (hT : e_Has kTy w) (hO : 0 ≤ w 0 13 ∧ w 0 13 ≤ 1) {a : Int} (g_a : (-2147483648) ≤ a ∧ a ≤ 2147483647) {b : Int} (g_b : 0 ≤ b ∧ b ≤ 1) : e_Ok 20 elay kcode eI d 208 (0, [(0, (1, 0)), (1, (0, a)), (2, (0, b))], [], w) (fun r w' => ∃ z : Int, r = [(0, z)] ∧ e_Has kTy w' ∧ (w' = w ∨ (w 0 13 = 0 ∧ e_fr kBp w w'))) := by
  obtain ⟨d, rfl⟩ : ∃ e, d = e + 1 := ⟨d - 1, by omega⟩
  have hw0 := e_Has.get hT (c := 0) (k := 11) (lo := 0) (hi := 4) (kt_o rfl) (by decide)
  have hb0 := e_Has.get hT (c := 19) (k := 0) (lo := 0) (hi := 4) (kt_o rfl) (by decide)
  have hz0 := e_Has.get hT (c := 250) (k := 1) (lo := 0) (hi := 8) (kt_o rfl) (by decide)
  refine e_Ok.ps3 (x := (0, 7)) (y := (0, 0)) (z := (0, a)) (q := 4) 3 rfl ?_
  refine e_Ok.callS rfl (e_dq hd rfl) rfl rfl (c_242 (by omega) (by omega) (by omega)) (fun r1 w2 h3 => ?_)
  obtain ⟨z4, rfl, rfl, q5⟩ := h3
  obtain ⟨rfl, q5⟩ | ⟨rfl, q5⟩ := q5
  · refine e_Ok.nrm (q := 7) (st' := [(0, 1)]) rfl rfl ?_
    refine e_Ok.if1 rfl (fun h6 => ?_) (fun h6 => ?_)
    · replace h6 : (1 : Int) ≠ 0 := h6
      refine e_Ok.ps1 (x := (1, 0)) (q := 13) 1 rfl ?_
      refine e_Ok.getf (z := w 0 13) rfl (el_o rfl) rfl rfl rfl (by omega) ?_
      refine e_Ok.if1 rfl (fun h7 => ?_) (fun h7 => ?_)
      · replace h7 : (w 0 13 : Int) = 0 := h7
        refine e_Ok.ps1 (x := (1, 0)) (q := 23) 1 rfl ?_
        refine e_Ok.getr (z := 74) rfl (el_o rfl) rfl rfl (e_Has.eq hT (kt_o rfl)) ⟨by decide, by decide⟩ ?_
        refine e_Ok.getr (z := 77) rfl (el_o rfl) rfl rfl (e_Has.eq hT (kt_o rfl)) ⟨by decide, by decide⟩ ?_
        refine e_Ok.ps2 (x := (0, b)) (y := (0, a)) (q := 31) 2 rfl ?_
        refine e_Ok.ast rfl (el_o rfl) rfl (e_nar_b (by omega)) (by omega) ?_
        generalize hw8 : e_up w 77 a b = w8
        have hT10 : e_Has kTy w8 := e_Has.upr hT hw8 (kt_o rfl) (by omega)
        refine e_Ok.ps1 (x := (0, 0)) (q := 33) 1 rfl ?_
        refine e_Ok.rets rfl rfl ?_
        exact ⟨_, rfl, hT10, Or.inr ⟨by omega, (show e_fr kBp w w8 from e_fr.up (e_fr.refl w) hw8 (by first | exact rfl | (unfold kBp; omega)))⟩⟩
      · replace h7 : (w 0 13 : Int) ≠ 0 := (show ¬ ((w 0 13 : Int) = 0) from h7)
        refine e_Ok.ps1 (x := (0, (-2))) (q := 21) 1 rfl ?_
        refine e_Ok.rets rfl rfl ?_
        exact ⟨_, rfl, hT, Or.inl rfl⟩
    · replace h6 : (1 : Int) = 0 := Classical.not_not.mp (show ¬ ((1 : Int) ≠ 0) from h6)
      exfalso; omega
  · refine e_Ok.nrm (q := 7) (st' := [(0, 0)]) rfl rfl ?_
    refine e_Ok.if1 rfl (fun h11 => ?_) (fun h11 => ?_)
    · replace h11 : (0 : Int) ≠ 0 := h11
      exfalso; omega
    · replace h11 : (0 : Int) = 0 := Classical.not_not.mp (show ¬ ((0 : Int) ≠ 0) from h11)
      refine e_Ok.ps1 (x := (0, (-1))) (q := 11) 1 rfl ?_
      refine e_Ok.rets rfl rfl ?_
      exact ⟨_, rfl, hT, Or.inl rfl⟩
end
end
-- part di
section
noncomputable section
/-! the class: solids, zones, belts -/
def kAs (c k : Int) : Prop := (c = 250 ∧ (k = 0 ∨ k = 1)) ∨ (251 ≤ c ∧ c ≤ 261)
def kAb (c k : Int) : Prop := (c = 19 ∧ k = 0) ∨ (20 ≤ c ∧ c ≤ 29) ∨ c = 35
def kSd (a : Int) (c k : Int) : Prop := c = 17 * a + 92
theorem c_243 {d : Nat} (hd : 21 ≤ d) {w : eW} {x : Int} (g_x : -2147483648 ≤ x ∧ x ≤ 2147483647) {y : Int} (g_y : -2147483648 ≤ y ∧ y ≤ 2147483647) : e_Ok 20 elay kcode eI d 243 (0, [(0, (0, x)), (1, (0, y))], [], w) (fun r w' => ∃ z : Int, r = [(0, z)] ∧ w = w' ∧ ((z = 1 ∧ (-16000 ≤ x ∧ x ≤ 16000) ∧ -16000 ≤ y ∧ y ≤ 16000) ∨ (z = 0 ∧ True))) := by
  obtain ⟨d, rfl⟩ : ∃ e, d = e + 1 := ⟨d - 1, by omega⟩
  refine e_Ok.ps3 (x := (0, 16000)) (y := (0, (-16000))) (z := (0, x)) (q := 7) 3 rfl ?_
  refine e_Ok.callS rfl (e_dq hd rfl) rfl rfl (c_242 (by omega) (by omega) (by omega)) (fun r1 w2 h3 => ?_)
  obtain ⟨z4, rfl, rfl, q5⟩ := h3
  obtain ⟨rfl, q5⟩ | ⟨rfl, q5⟩ := q5
  · refine e_Ok.nrm (q := 10) (st' := [(0, 1)]) rfl rfl ?_
    refine e_Ok.if1 rfl (fun h6 => ?_) (fun h6 => ?_)
    · replace h6 : (1 : Int) = 0 := h6
      exfalso; omega
    · replace h6 : (1 : Int) ≠ 0 := (show ¬ ((1 : Int) = 0) from h6)
      refine e_Ok.ps3 (x := (0, 16000)) (y := (0, (-16000))) (z := (0, y)) (q := 20) 3 rfl ?_
      refine e_Ok.callS rfl (e_dq hd rfl) rfl rfl (c_242 (by omega) (by omega) (by omega)) (fun r7 w8 h9 => ?_)
      obtain ⟨z10, rfl, rfl, q11⟩ := h9
      obtain ⟨rfl, q11⟩ | ⟨rfl, q11⟩ := q11
      · refine e_Ok.nrm (q := 23) (st' := [(0, 1)]) rfl rfl ?_
        refine e_Ok.if1 rfl (fun h12 => ?_) (fun h12 => ?_)
        · replace h12 : (1 : Int) = 0 := h12
          exfalso; omega
        · replace h12 : (1 : Int) ≠ 0 := (show ¬ ((1 : Int) = 0) from h12)
          refine e_Ok.ps1 (x := (0, 1)) (q := 31) 2 rfl ?_
          refine e_Ok.rets rfl rfl ?_
          exact ⟨_, rfl, rfl, Or.inl ⟨rfl, by omega⟩⟩
      · refine e_Ok.nrm (q := 23) (st' := [(0, 0)]) rfl rfl ?_
        refine e_Ok.if1 rfl (fun h13 => ?_) (fun h13 => ?_)
        · replace h13 : (0 : Int) = 0 := h13
          refine e_Ok.ps1 (x := (0, 0)) (q := 31) 1 rfl ?_
          refine e_Ok.rets rfl rfl ?_
          exact ⟨_, rfl, rfl, Or.inr ⟨rfl, trivial⟩⟩
        · replace h13 : (0 : Int) ≠ 0 := (show ¬ ((0 : Int) = 0) from h13)
          exfalso; omega
  · refine e_Ok.nrm (q := 10) (st' := [(0, 0)]) rfl rfl ?_
    refine e_Ok.if1 rfl (fun h14 => ?_) (fun h14 => ?_)
    · replace h14 : (0 : Int) = 0 := h14
      refine e_Ok.ps1 (x := (0, 0)) (q := 31) 1 rfl ?_
      refine e_Ok.rets rfl rfl ?_
      exact ⟨_, rfl, rfl, Or.inr ⟨rfl, trivial⟩⟩
    · replace h14 : (0 : Int) ≠ 0 := (show ¬ ((0 : Int) = 0) from h14)
      exfalso; omega
theorem c_244 {d : Nat} (hd : 22 ≤ d) {w : eW} {x : Int} (g_x : -2147483648 ≤ x ∧ x ≤ 2147483647) {y : Int} (g_y : -2147483648 ≤ y ∧ y ≤ 2147483647) {u : Int} (g_u : -2147483648 ≤ u ∧ u ≤ 2147483647) {v : Int} (g_v : -2147483648 ≤ v ∧ v ≤ 2147483647) : e_Ok 20 elay kcode eI d 244 (0, [(0, (0, x)), (1, (0, y)), (2, (0, u)), (3, (0, v))], [], w) (fun r w' => ∃ z : Int, r = [(0, z)] ∧ w = w' ∧ ((z = 1 ∧ ((-16000 ≤ x ∧ x ≤ 16000) ∧ -16000 ≤ y ∧ y ≤ 16000) ∧ (0 ≤ u ∧ u ≤ 16000 - x) ∧ 0 ≤ v ∧ v ≤ 16000 - y) ∨ (z = 0 ∧ True))) := by
  obtain ⟨d, rfl⟩ : ∃ e, d = e + 1 := ⟨d - 1, by omega⟩
  refine e_Ok.ps2 (x := (0, y)) (y := (0, x)) (q := 2) 2 rfl ?_
  refine e_Ok.callS rfl (e_dq hd rfl) rfl rfl (c_243 (e_dq hd rfl) (by omega) (by omega)) (fun r1 w2 h3 => ?_)
  obtain ⟨z4, rfl, rfl, q5⟩ := h3
  obtain ⟨rfl, q5⟩ | ⟨rfl, q5⟩ := q5
  · refine e_Ok.nrm (q := 5) (st' := [(0, 1)]) rfl rfl ?_
    refine e_Ok.if1 rfl (fun h6 => ?_) (fun h6 => ?_)
    · replace h6 : (1 : Int) = 0 := h6
      exfalso; omega
    · replace h6 : (1 : Int) ≠ 0 := (show ¬ ((1 : Int) = 0) from h6)
      refine e_Ok.ps4 (x := (0, x)) (y := (0, 16000)) (z := (0, 0)) (u := (0, u)) (q := 14) 4 rfl ?_
      refine e_Ok.sub' (z := -x + 16000) rfl (by omega) (by omega) ?_
      refine e_Ok.callS rfl (e_dq hd rfl) rfl rfl (c_242 (by omega) (by omega) (by omega)) (fun r7 w8 h9 => ?_)
      obtain ⟨z10, rfl, rfl, q11⟩ := h9
      obtain ⟨rfl, q11⟩ | ⟨rfl, q11⟩ := q11
      · refine e_Ok.nrm (q := 18) (st' := [(0, 1)]) rfl rfl ?_
        refine e_Ok.if1 rfl (fun h12 => ?_) (fun h12 => ?_)
        · replace h12 : (1 : Int) = 0 := h12
          exfalso; omega
        · replace h12 : (1 : Int) ≠ 0 := (show ¬ ((1 : Int) = 0) from h12)
          refine e_Ok.ps4 (x := (0, y)) (y := (0, 16000)) (z := (0, 0)) (u := (0, v)) (q := 27) 4 rfl ?_
          refine e_Ok.sub' (z := -y + 16000) rfl (by omega) (by omega) ?_
          refine e_Ok.callS rfl (e_dq hd rfl) rfl rfl (c_242 (by omega) (by omega) (by omega)) (fun r13 w14 h15 => ?_)
          obtain ⟨z16, rfl, rfl, q17⟩ := h15
          obtain ⟨rfl, q17⟩ | ⟨rfl, q17⟩ := q17
          · refine e_Ok.nrm (q := 31) (st' := [(0, 1)]) rfl rfl ?_
            refine e_Ok.if1 rfl (fun h18 => ?_) (fun h18 => ?_)
            · replace h18 : (1 : Int) = 0 := h18
              exfalso; omega
            · replace h18 : (1 : Int) ≠ 0 := (show ¬ ((1 : Int) = 0) from h18)
              refine e_Ok.ps1 (x := (0, 1)) (q := 39) 2 rfl ?_
              refine e_Ok.rets rfl rfl ?_
              exact ⟨_, rfl, rfl, Or.inl ⟨rfl, by omega⟩⟩
          · refine e_Ok.nrm (q := 31) (st' := [(0, 0)]) rfl rfl ?_
            refine e_Ok.if1 rfl (fun h19 => ?_) (fun h19 => ?_)
            · replace h19 : (0 : Int) = 0 := h19
              refine e_Ok.ps1 (x := (0, 0)) (q := 39) 1 rfl ?_
              refine e_Ok.rets rfl rfl ?_
              exact ⟨_, rfl, rfl, Or.inr ⟨rfl, trivial⟩⟩
            · replace h19 : (0 : Int) ≠ 0 := (show ¬ ((0 : Int) = 0) from h19)
              exfalso; omega
      · refine e_Ok.nrm (q := 18) (st' := [(0, 0)]) rfl rfl ?_
        refine e_Ok.if1 rfl (fun h20 => ?_) (fun h20 => ?_)
        · replace h20 : (0 : Int) = 0 := h20
          refine e_Ok.ps1 (x := (0, 0)) (q := 39) 1 rfl ?_
          refine e_Ok.rets rfl rfl ?_
          exact ⟨_, rfl, rfl, Or.inr ⟨rfl, trivial⟩⟩
        · replace h20 : (0 : Int) ≠ 0 := (show ¬ ((0 : Int) = 0) from h20)
          exfalso; omega
  · refine e_Ok.nrm (q := 5) (st' := [(0, 0)]) rfl rfl ?_
    refine e_Ok.if1 rfl (fun h21 => ?_) (fun h21 => ?_)
    · replace h21 : (0 : Int) = 0 := h21
      refine e_Ok.ps1 (x := (0, 0)) (q := 39) 1 rfl ?_
      refine e_Ok.rets rfl rfl ?_
      exact ⟨_, rfl, rfl, Or.inr ⟨rfl, trivial⟩⟩
    · replace h21 : (0 : Int) ≠ 0 := (show ¬ ((0 : Int) = 0) from h21)
      exfalso; omega
theorem c_167 {d : Nat} {w : eW} (hT : e_Has kTy w) {x y u v s : Int} (g_x : (-2147483648) ≤ x ∧ x ≤ 2147483647) (g_y : (-2147483648) ≤ y ∧ y ≤ 2147483647) (g_u : (-2147483648) ≤ u ∧ u ≤ 2147483647) (g_v : (-2147483648) ≤ v ∧ v ≤ 2147483647) (g_s : (-2147483648) ≤ s ∧ s ≤ 2147483647) : e_Ok 20 elay kcode eI d 167 (0, [(0, (1, 250)), (1, (0, x)), (2, (0, y)), (3, (0, u)), (4, (0, v)), (5, (0, s))], [], w) (fun r w' => ∃ z : Int, r = [(0, z)] ∧ e_fr kAs w w' ∧ e_Has kTy w' ∧ ((-2147483648) ≤ z ∧ z ≤ 2147483647)) := by
  refine e_Ok.ps1 (x := (1, 250)) (q := 1) 1 rfl ?_
  have h1 := (e_Has.get hT (c := 250) (k := 0) (lo := 0) (hi := 16) (kt_o rfl) (by decide))
  refine e_Ok.getf (z := w 250 0) rfl (el_o rfl) rfl rfl rfl (e_bq h1 (by decide) (by decide)) ?_
  refine e_Ok.ps1 (x := (0, 16)) (q := 6) 1 rfl ?_
  refine e_Ok.if2 rfl (fun h2 => ?_) (fun h2 => ?_)
  · replace h2 : (w 250 0 : Int) < 16 := h2
    refine e_Ok.ps1 (x := (1, 250)) (q := 13) 1 rfl ?_
    refine e_Ok.getr (z := 251) rfl (el_o rfl) rfl rfl (e_Has.eq hT (kt_o rfl)) ⟨by decide, by decide⟩ ?_
    refine e_Ok.ps1 (x := (1, 250)) (q := 17) 1 rfl ?_
    refine e_Ok.getf (z := w 250 0) rfl (el_o rfl) rfl rfl rfl (by omega) ?_
    refine e_Ok.ps1 (x := (0, x)) (q := 21) 1 rfl ?_
    refine e_Ok.ast rfl (el_o rfl) rfl rfl (by omega) ?_
    generalize hw3 : e_up w 251 (w 250 0) x = w3
    have hT5 : e_Has kTy w3 := e_Has.upr hT hw3 (kt_o rfl) (by omega)
    refine e_Ok.ps1 (x := (1, 250)) (q := 23) 1 rfl ?_
    refine e_Ok.getr (z := 252) rfl (el_o rfl) rfl rfl (e_uq hw3 (Or.inl (by decide)) (e_Has.eq hT (kt_o rfl))) ⟨by decide, by decide⟩ ?_
    refine e_Ok.ps1 (x := (1, 250)) (q := 27) 1 rfl ?_
    refine e_Ok.getf (z := w 250 0) rfl (el_o rfl) rfl rfl (e_uq hw3 (Or.inl (by decide)) rfl) (by omega) ?_
    refine e_Ok.ps1 (x := (0, y)) (q := 31) 1 rfl ?_
    refine e_Ok.ast rfl (el_o rfl) rfl rfl (by omega) ?_
    generalize hw6 : e_up w3 252 (w 250 0) y = w6
    have hT8 : e_Has kTy w6 := e_Has.upr hT5 hw6 (kt_o rfl) (by omega)
    refine e_Ok.ps1 (x := (1, 250)) (q := 33) 1 rfl ?_
    refine e_Ok.getr (z := 253) rfl (el_o rfl) rfl rfl (e_uq hw6 (Or.inl (by decide)) (e_uq hw3 (Or.inl (by decide)) (e_Has.eq hT (kt_o rfl)))) ⟨by decide, by decide⟩ ?_
    refine e_Ok.ps1 (x := (1, 250)) (q := 37) 1 rfl ?_
    refine e_Ok.getf (z := w 250 0) rfl (el_o rfl) rfl rfl (e_uq hw6 (Or.inl (by decide)) (e_uq hw3 (Or.inl (by decide)) rfl)) (by omega) ?_
    refine e_Ok.ps1 (x := (0, u)) (q := 41) 1 rfl ?_
    refine e_Ok.ast rfl (el_o rfl) rfl rfl (by omega) ?_
    generalize hw9 : e_up w6 253 (w 250 0) u = w9
    have hT11 : e_Has kTy w9 := e_Has.upr hT8 hw9 (kt_o rfl) (by omega)
    refine e_Ok.ps1 (x := (1, 250)) (q := 43) 1 rfl ?_
    refine e_Ok.getr (z := 254) rfl (el_o rfl) rfl rfl (e_uq hw9 (Or.inl (by decide)) (e_uq hw6 (Or.inl (by decide)) (e_uq hw3 (Or.inl (by decide)) (e_Has.eq hT (kt_o rfl))))) ⟨by decide, by decide⟩ ?_
    refine e_Ok.ps1 (x := (1, 250)) (q := 47) 1 rfl ?_
    refine e_Ok.getf (z := w 250 0) rfl (el_o rfl) rfl rfl (e_uq hw9 (Or.inl (by decide)) (e_uq hw6 (Or.inl (by decide)) (e_uq hw3 (Or.inl (by decide)) rfl))) (by omega) ?_
    refine e_Ok.ps1 (x := (0, v)) (q := 52) 1 rfl ?_
    refine e_Ok.ast rfl (el_o rfl) rfl rfl (by omega) ?_
    generalize hw12 : e_up w9 254 (w 250 0) v = w12
    have hT14 : e_Has kTy w12 := e_Has.upr hT11 hw12 (kt_o rfl) (by omega)
    refine e_Ok.ps1 (x := (1, 250)) (q := 54) 1 rfl ?_
    refine e_Ok.getr (z := 255) rfl (el_o rfl) rfl rfl (e_uq hw12 (Or.inl (by decide)) (e_uq hw9 (Or.inl (by decide)) (e_uq hw6 (Or.inl (by decide)) (e_uq hw3 (Or.inl (by decide)) (e_Has.eq hT (kt_o rfl)))))) ⟨by decide, by decide⟩ ?_
    refine e_Ok.ps1 (x := (1, 250)) (q := 58) 1 rfl ?_
    refine e_Ok.getf (z := w 250 0) rfl (el_o rfl) rfl rfl (e_uq hw12 (Or.inl (by decide)) (e_uq hw9 (Or.inl (by decide)) (e_uq hw6 (Or.inl (by decide)) (e_uq hw3 (Or.inl (by decide)) rfl)))) (by omega) ?_
    refine e_Ok.ps1 (x := (0, s)) (q := 63) 1 rfl ?_
    refine e_Ok.ast rfl (el_o rfl) rfl rfl (by omega) ?_
    generalize hw15 : e_up w12 255 (w 250 0) s = w15
    have hT17 : e_Has kTy w15 := e_Has.upr hT14 hw15 (kt_o rfl) (by omega)
    refine e_Ok.ps2 (x := (1, 250)) (y := (1, 250)) (q := 66) 2 rfl ?_
    refine e_Ok.getf (z := w 250 0) rfl (el_o rfl) rfl rfl (e_uq hw15 (Or.inl (by decide)) (e_uq hw12 (Or.inl (by decide)) (e_uq hw9 (Or.inl (by decide)) (e_uq hw6 (Or.inl (by decide)) (e_uq hw3 (Or.inl (by decide)) rfl))))) (by omega) ?_
    refine e_Ok.ps1 (x := (0, 1)) (q := 70) 1 rfl ?_
    refine e_Ok.add (z := w 250 0 + 1) rfl rfl (by omega) ?_
    refine e_Ok.putf rfl (el_o rfl) rfl rfl ?_
    generalize hw18 : e_up w15 250 0 (w 250 0 + 1) = w18
    have hT20 : e_Has kTy w18 := e_Has.upr hT17 hw18 (kt_o rfl) (by omega)
    refine e_Ok.ps1 (x := (1, 250)) (q := 75) 1 rfl ?_
    refine e_Ok.getf (z := w 250 0 + 1) rfl (el_o rfl) rfl rfl (e_ue hw18) (by omega) ?_
    refine e_Ok.ps1 (x := (0, 1)) (q := 79) 1 rfl ?_
    refine e_Ok.sub' (z := w 250 0) rfl (by omega) (by omega) ?_
    refine e_Ok.rets rfl rfl ?_
    exact ⟨_, rfl, (show e_fr kAs w w18 from e_fr.up (show e_fr kAs w w15 from e_fr.up (show e_fr kAs w w12 from e_fr.up (show e_fr kAs w w9 from e_fr.up (show e_fr kAs w w6 from e_fr.up (show e_fr kAs w w3 from e_fr.up (e_fr.refl w) hw3 (by first | exact Or.inr ⟨(by decide), (by decide)⟩ | (unfold kAs; omega))) hw6 (by first | exact Or.inr ⟨(by decide), (by decide)⟩ | (unfold kAs; omega))) hw9 (by first | exact Or.inr ⟨(by decide), (by decide)⟩ | (unfold kAs; omega))) hw12 (by first | exact Or.inr ⟨(by decide), (by decide)⟩ | (unfold kAs; omega))) hw15 (by first | exact Or.inr ⟨(by decide), (by decide)⟩ | (unfold kAs; omega))) hw18 (by first | exact Or.inl ⟨rfl, Or.inl rfl⟩ | (unfold kAs; omega))), hT20, ⟨by omega, by omega⟩⟩
  · replace h2 : (w 250 0 : Int) ≥ 16 := Int.not_lt.mp (show ¬ ((w 250 0 : Int) < 16) from h2)
    refine e_Ok.ps1 (x := (0, (-3))) (q := 11) 1 rfl ?_
    refine e_Ok.rets rfl rfl ?_
    exact ⟨_, rfl, (e_fr.refl w), hT, ⟨by omega, by omega⟩⟩
theorem c_168 {d : Nat} {w : eW} (hT : e_Has kTy w) {x y u v s : Int} (g_x : 0 ≤ x ∧ x ≤ 3) (g_y : (-2147483648) ≤ y ∧ y ≤ 2147483647) (g_u : (-2147483648) ≤ u ∧ u ≤ 2147483647) (g_v : (-2147483648) ≤ v ∧ v ≤ 2147483647) (g_s : (-2147483648) ≤ s ∧ s ≤ 2147483647) : e_Ok 20 elay kcode eI d 168 (0, [(0, (1, 250)), (1, (0, x)), (2, (0, y)), (3, (0, u)), (4, (0, v)), (5, (0, s))], [], w) (fun r w' => ∃ z : Int, r = [(0, z)] ∧ e_fr kAs w w' ∧ e_Has kTy w' ∧ ((-2147483648) ≤ z ∧ z ≤ 2147483647)) := by
  refine e_Ok.ps1 (x := (1, 250)) (q := 1) 1 rfl ?_
  have h1 := (e_Has.get hT (c := 250) (k := 1) (lo := 0) (hi := 8) (kt_o rfl) (by decide))
  refine e_Ok.getf (z := w 250 1) rfl (el_o rfl) rfl rfl rfl (e_bq h1 (by decide) (by decide)) ?_
  refine e_Ok.ps1 (x := (0, 8)) (q := 6) 1 rfl ?_
  refine e_Ok.if2 rfl (fun h2 => ?_) (fun h2 => ?_)
  · replace h2 : (w 250 1 : Int) < 8 := h2
    refine e_Ok.ps1 (x := (1, 250)) (q := 13) 1 rfl ?_
    refine e_Ok.getr (z := 256) rfl (el_o rfl) rfl rfl (e_Has.eq hT (kt_o rfl)) ⟨by decide, by decide⟩ ?_
    refine e_Ok.ps1 (x := (1, 250)) (q := 17) 1 rfl ?_
    refine e_Ok.getf (z := w 250 1) rfl (el_o rfl) rfl rfl rfl (by omega) ?_
    refine e_Ok.ps1 (x := (0, x)) (q := 21) 1 rfl ?_
    refine e_Ok.ast rfl (el_o rfl) rfl rfl (by omega) ?_
    generalize hw3 : e_up w 256 (w 250 1) x = w3
    have hT5 : e_Has kTy w3 := e_Has.upr hT hw3 (kt_o rfl) (by omega)
    refine e_Ok.ps1 (x := (1, 250)) (q := 23) 1 rfl ?_
    refine e_Ok.getr (z := 258) rfl (el_o rfl) rfl rfl (e_uq hw3 (Or.inl (by decide)) (e_Has.eq hT (kt_o rfl))) ⟨by decide, by decide⟩ ?_
    refine e_Ok.ps1 (x := (1, 250)) (q := 27) 1 rfl ?_
    refine e_Ok.getf (z := w 250 1) rfl (el_o rfl) rfl rfl (e_uq hw3 (Or.inl (by decide)) rfl) (by omega) ?_
    refine e_Ok.ps1 (x := (0, y)) (q := 31) 1 rfl ?_
    refine e_Ok.ast rfl (el_o rfl) rfl rfl (by omega) ?_
    generalize hw6 : e_up w3 258 (w 250 1) y = w6
    have hT8 : e_Has kTy w6 := e_Has.upr hT5 hw6 (kt_o rfl) (by omega)
    refine e_Ok.ps1 (x := (1, 250)) (q := 33) 1 rfl ?_
    refine e_Ok.getr (z := 259) rfl (el_o rfl) rfl rfl (e_uq hw6 (Or.inl (by decide)) (e_uq hw3 (Or.inl (by decide)) (e_Has.eq hT (kt_o rfl)))) ⟨by decide, by decide⟩ ?_
    refine e_Ok.ps1 (x := (1, 250)) (q := 37) 1 rfl ?_
    refine e_Ok.getf (z := w 250 1) rfl (el_o rfl) rfl rfl (e_uq hw6 (Or.inl (by decide)) (e_uq hw3 (Or.inl (by decide)) rfl)) (by omega) ?_
    refine e_Ok.ps1 (x := (0, u)) (q := 41) 1 rfl ?_
    refine e_Ok.ast rfl (el_o rfl) rfl rfl (by omega) ?_
    generalize hw9 : e_up w6 259 (w 250 1) u = w9
    have hT11 : e_Has kTy w9 := e_Has.upr hT8 hw9 (kt_o rfl) (by omega)
    refine e_Ok.ps1 (x := (1, 250)) (q := 43) 1 rfl ?_
    refine e_Ok.getr (z := 260) rfl (el_o rfl) rfl rfl (e_uq hw9 (Or.inl (by decide)) (e_uq hw6 (Or.inl (by decide)) (e_uq hw3 (Or.inl (by decide)) (e_Has.eq hT (kt_o rfl))))) ⟨by decide, by decide⟩ ?_
    refine e_Ok.ps1 (x := (1, 250)) (q := 47) 1 rfl ?_
    refine e_Ok.getf (z := w 250 1) rfl (el_o rfl) rfl rfl (e_uq hw9 (Or.inl (by decide)) (e_uq hw6 (Or.inl (by decide)) (e_uq hw3 (Or.inl (by decide)) rfl))) (by omega) ?_
    refine e_Ok.ps2 (x := (0, v)) (y := (0, y)) (q := 53) 2 rfl ?_
    refine e_Ok.any rfl (eF_add_any _ _) (fun z12 z12a z12b => ?_)
    refine e_Ok.ast rfl (el_o rfl) rfl rfl (by omega) ?_
    generalize hw13 : e_up w9 260 (w 250 1) z12 = w13
    have hT15 : e_Has kTy w13 := e_Has.upr hT11 hw13 (kt_o rfl) (by omega)
    refine e_Ok.ps1 (x := (1, 250)) (q := 56) 1 rfl ?_
    refine e_Ok.getr (z := 261) rfl (el_o rfl) rfl rfl (e_uq hw13 (Or.inl (by decide)) (e_uq hw9 (Or.inl (by decide)) (e_uq hw6 (Or.inl (by decide)) (e_uq hw3 (Or.inl (by decide)) (e_Has.eq hT (kt_o rfl)))))) ⟨by decide, by decide⟩ ?_
    refine e_Ok.ps1 (x := (1, 250)) (q := 60) 1 rfl ?_
    refine e_Ok.getf (z := w 250 1) rfl (el_o rfl) rfl rfl (e_uq hw13 (Or.inl (by decide)) (e_uq hw9 (Or.inl (by decide)) (e_uq hw6 (Or.inl (by decide)) (e_uq hw3 (Or.inl (by decide)) rfl)))) (by omega) ?_
    refine e_Ok.ps2 (x := (0, s)) (y := (0, u)) (q := 66) 2 rfl ?_
    refine e_Ok.any rfl (eF_add_any _ _) (fun z16 z16a z16b => ?_)
    refine e_Ok.ast rfl (el_o rfl) rfl rfl (by omega) ?_
    generalize hw17 : e_up w13 261 (w 250 1) z16 = w17
    have hT19 : e_Has kTy w17 := e_Has.upr hT15 hw17 (kt_o rfl) (by omega)
    refine e_Ok.ps1 (x := (1, 250)) (q := 69) 1 rfl ?_
    refine e_Ok.getr (z := 257) rfl (el_o rfl) rfl rfl (e_uq hw17 (Or.inl (by decide)) (e_uq hw13 (Or.inl (by decide)) (e_uq hw9 (Or.inl (by decide)) (e_uq hw6 (Or.inl (by decide)) (e_uq hw3 (Or.inl (by decide)) (e_Has.eq hT (kt_o rfl))))))) ⟨by decide, by decide⟩ ?_
    refine e_Ok.ps1 (x := (1, 250)) (q := 73) 1 rfl ?_
    refine e_Ok.getf (z := w 250 1) rfl (el_o rfl) rfl rfl (e_uq hw17 (Or.inl (by decide)) (e_uq hw13 (Or.inl (by decide)) (e_uq hw9 (Or.inl (by decide)) (e_uq hw6 (Or.inl (by decide)) (e_uq hw3 (Or.inl (by decide)) rfl))))) (by omega) ?_
    refine e_Ok.ps1 (x := (0, (-1))) (q := 77) 1 rfl ?_
    refine e_Ok.ast rfl (el_o rfl) rfl rfl (by omega) ?_
    generalize hw20 : e_up w17 257 (w 250 1) (-1) = w20
    have hT22 : e_Has kTy w20 := e_Has.upr hT19 hw20 (kt_o rfl) (by omega)
    refine e_Ok.ps2 (x := (1, 250)) (y := (1, 250)) (q := 80) 2 rfl ?_
    refine e_Ok.getf (z := w 250 1) rfl (el_o rfl) rfl rfl (e_uq hw20 (Or.inl (by decide)) (e_uq hw17 (Or.inl (by decide)) (e_uq hw13 (Or.inl (by decide)) (e_uq hw9 (Or.inl (by decide)) (e_uq hw6 (Or.inl (by decide)) (e_uq hw3 (Or.inl (by decide)) rfl)))))) (by omega) ?_
    refine e_Ok.ps1 (x := (0, 1)) (q := 84) 1 rfl ?_
    refine e_Ok.add (z := w 250 1 + 1) rfl rfl (by omega) ?_
    refine e_Ok.putf rfl (el_o rfl) rfl rfl ?_
    generalize hw23 : e_up w20 250 1 (w 250 1 + 1) = w23
    have hT25 : e_Has kTy w23 := e_Has.upr hT22 hw23 (kt_o rfl) (by omega)
    refine e_Ok.ps1 (x := (1, 250)) (q := 89) 1 rfl ?_
    refine e_Ok.getf (z := w 250 1 + 1) rfl (el_o rfl) rfl rfl (e_ue hw23) (by omega) ?_
    refine e_Ok.ps1 (x := (0, 1)) (q := 93) 1 rfl ?_
    refine e_Ok.sub' (z := w 250 1) rfl (by omega) (by omega) ?_
    refine e_Ok.rets rfl rfl ?_
    exact ⟨_, rfl, (show e_fr kAs w w23 from e_fr.up (show e_fr kAs w w20 from e_fr.up (show e_fr kAs w w17 from e_fr.up (show e_fr kAs w w13 from e_fr.up (show e_fr kAs w w9 from e_fr.up (show e_fr kAs w w6 from e_fr.up (show e_fr kAs w w3 from e_fr.up (e_fr.refl w) hw3 (by first | exact Or.inr ⟨(by decide), (by decide)⟩ | (unfold kAs; omega))) hw6 (by first | exact Or.inr ⟨(by decide), (by decide)⟩ | (unfold kAs; omega))) hw9 (by first | exact Or.inr ⟨(by decide), (by decide)⟩ | (unfold kAs; omega))) hw13 (by first | exact Or.inr ⟨(by decide), (by decide)⟩ | (unfold kAs; omega))) hw17 (by first | exact Or.inr ⟨(by decide), (by decide)⟩ | (unfold kAs; omega))) hw20 (by first | exact Or.inr ⟨(by decide), (by decide)⟩ | (unfold kAs; omega))) hw23 (by first | exact Or.inl ⟨rfl, Or.inr rfl⟩ | (unfold kAs; omega))), hT25, ⟨by omega, by omega⟩⟩
  · replace h2 : (w 250 1 : Int) ≥ 8 := Int.not_lt.mp (show ¬ ((w 250 1 : Int) < 8) from h2)
    refine e_Ok.ps1 (x := (0, (-3))) (q := 11) 1 rfl ?_
    refine e_Ok.rets rfl rfl ?_
    exact ⟨_, rfl, (e_fr.refl w), hT, ⟨by omega, by omega⟩⟩
theorem c_73 {d : Nat} {w : eW} {x : Int} (g_x : (-2147483648) ≤ x ∧ x ≤ 2147483647) : e_Ok 20 elay kcode eI d 73 (0, [(0, (0, x))], [], w) (fun r w' => ∃ z : Int, r = [(0, z)] ∧ w = w' ∧ ((-1) ≤ z ∧ z ≤ 1)) := by
  refine e_Ok.ps1 (x := (0, x)) (q := 1) 1 rfl ?_
  refine e_Ok.if1 rfl (fun h1 => ?_) (fun h1 => ?_)
  · replace h1 : (x : Int) ≠ 0 := h1
    refine e_Ok.ps2 (x := (0, 2)) (y := (0, x)) (q := 10) 2 rfl ?_
    refine e_Ok.if2 rfl (fun h2 => ?_) (fun h2 => ?_)
    · replace h2 : (x : Int) ≠ 2 := h2
      refine e_Ok.ps1 (x := (0, 0)) (q := 18) 1 rfl ?_
      refine e_Ok.rets rfl rfl ?_
      exact ⟨_, rfl, rfl, ⟨by omega, by omega⟩⟩
    · replace h2 : (x : Int) = 2 := Classical.not_not.mp (show ¬ ((x : Int) ≠ 2) from h2)
      refine e_Ok.ps1 (x := (0, (-1))) (q := 18) 2 rfl ?_
      refine e_Ok.rets rfl rfl ?_
      exact ⟨_, rfl, rfl, ⟨by omega, by omega⟩⟩
  · replace h1 : (x : Int) = 0 := Classical.not_not.mp (show ¬ ((x : Int) ≠ 0) from h1)
    refine e_Ok.ps1 (x := (0, 1)) (q := 18) 2 rfl ?_
    refine e_Ok.rets rfl rfl ?_
    exact ⟨_, rfl, rfl, ⟨by omega, by omega⟩⟩
theorem c_74 {d : Nat} {w : eW} {x : Int} (g_x : (-2147483648) ≤ x ∧ x ≤ 2147483647) : e_Ok 20 elay kcode eI d 74 (0, [(0, (0, x))], [], w) (fun r w' => ∃ z : Int, r = [(0, z)] ∧ w = w' ∧ ((-1) ≤ z ∧ z ≤ 1)) := by
  refine e_Ok.ps2 (x := (0, 1)) (y := (0, x)) (q := 2) 2 rfl ?_
  refine e_Ok.if2 rfl (fun h1 => ?_) (fun h1 => ?_)
  · replace h1 : (x : Int) ≠ 1 := h1
    refine e_Ok.ps2 (x := (0, 3)) (y := (0, x)) (q := 11) 2 rfl ?_
    refine e_Ok.if2 rfl (fun h2 => ?_) (fun h2 => ?_)
    · replace h2 : (x : Int) ≠ 3 := h2
      refine e_Ok.ps1 (x := (0, 0)) (q := 19) 1 rfl ?_
      refine e_Ok.rets rfl rfl ?_
      exact ⟨_, rfl, rfl, ⟨by omega, by omega⟩⟩
    · replace h2 : (x : Int) = 3 := Classical.not_not.mp (show ¬ ((x : Int) ≠ 3) from h2)
      refine e_Ok.ps1 (x := (0, (-1))) (q := 19) 2 rfl ?_
      refine e_Ok.rets rfl rfl ?_
      exact ⟨_, rfl, rfl, ⟨by omega, by omega⟩⟩
  · replace h1 : (x : Int) = 1 := Classical.not_not.mp (show ¬ ((x : Int) ≠ 1) from h1)
    refine e_Ok.ps1 (x := (0, 1)) (q := 19) 2 rfl ?_
    refine e_Ok.rets rfl rfl ?_
    exact ⟨_, rfl, rfl, ⟨by omega, by omega⟩⟩
theorem c_75 {d : Nat} (hd : 21 ≤ d) {w : eW} (hT : e_Has kTy w) {x y u v s : Int} (g_x : (-2147483648) ≤ x ∧ x ≤ 2147483647) (g_y : (-2147483648) ≤ y ∧ y ≤ 2147483647) (g_u : (-2147483648) ≤ u ∧ u ≤ 2147483647) (g_v : (-2147483648) ≤ v ∧ v ≤ 2147483647) (g_s : (-2147483648) ≤ s ∧ s ≤ 2147483647) (hb3 : w 19 0 ≤ 3) : e_Ok 20 elay kcode eI d 75 (0, [(0, (1, 19)), (1, (0, x)), (2, (0, y)), (3, (0, u)), (4, (0, v)), (5, (0, s))], [], w) (fun r w' => ∃ z : Int, r = [(0, z)] ∧ e_fr kAb w w' ∧ e_Has kTy w' ∧ (0 ≤ z ∧ z ≤ 4) ∧ (w' 19 0 = w 19 0 + 1 ∧ w' 35 (w 19 0) = 0 ∧ ∀ k, k ≠ w 19 0 → w' 35 k = w 35 k)) := by
  obtain ⟨d, rfl⟩ : ∃ e, d = e + 1 := ⟨d - 1, by omega⟩
  have hb0 := e_Has.get hT (c := 19) (k := 0) (lo := 0) (hi := 4) (kt_o rfl) (by decide)
  refine e_Ok.ps1 (x := (1, 19)) (q := 1) 1 rfl ?_
  refine e_Ok.getf (z := w 19 0) rfl (el_o rfl) rfl rfl rfl (by omega) ?_
  refine e_Ok.run (t' := (7, [(6, (0, w 19 0)), (0, (1, 19)), (1, (0, x)), (2, (0, y)), (3, (0, u)), (4, (0, v)), (5, (0, s))], [(1, 19)], w)) 2 rfl ?_
  refine e_Ok.getr (z := 25) rfl (el_o rfl) rfl rfl (e_Has.eq hT (kt_o rfl)) ⟨by decide, by decide⟩ ?_
  refine e_Ok.ps2 (x := (0, x)) (y := (0, w 19 0)) (q := 13) 2 rfl ?_
  refine e_Ok.ast rfl (el_o rfl) rfl rfl (by omega) ?_
  generalize hw1 : e_up w 25 (w 19 0) x = w1
  have hT3 : e_Has kTy w1 := e_Has.upr hT hw1 (kt_o rfl) (by omega)
  refine e_Ok.ps1 (x := (1, 19)) (q := 15) 1 rfl ?_
  refine e_Ok.getr (z := 26) rfl (el_o rfl) rfl rfl (e_uq hw1 (Or.inl (by decide)) (e_Has.eq hT (kt_o rfl))) ⟨by decide, by decide⟩ ?_
  refine e_Ok.ps2 (x := (0, y)) (y := (0, w 19 0)) (q := 21) 2 rfl ?_
  refine e_Ok.ast rfl (el_o rfl) rfl rfl (by omega) ?_
  generalize hw4 : e_up w1 26 (w 19 0) y = w4
  have hT6 : e_Has kTy w4 := e_Has.upr hT3 hw4 (kt_o rfl) (by omega)
  refine e_Ok.ps1 (x := (1, 19)) (q := 23) 1 rfl ?_
  refine e_Ok.getr (z := 27) rfl (el_o rfl) rfl rfl (e_uq hw4 (Or.inl (by decide)) (e_uq hw1 (Or.inl (by decide)) (e_Has.eq hT (kt_o rfl)))) ⟨by decide, by decide⟩ ?_
  refine e_Ok.ps2 (x := (0, u)) (y := (0, w 19 0)) (q := 29) 2 rfl ?_
  refine e_Ok.callS rfl (e_dq hd rfl) rfl rfl (c_73 (by omega)) (fun r7 w8 h9 => ?_)
  obtain ⟨z11, rfl, rfl, q10r⟩ := h9
  refine e_Ok.nrm (q := 32) (st' := [(0, z11), (0, w 19 0), (1, 27)]) rfl rfl ?_
  refine e_Ok.ast rfl (el_o rfl) rfl rfl (by omega) ?_
  generalize hw12 : e_up w4 27 (w 19 0) z11 = w12
  have hT14 : e_Has kTy w12 := e_Has.upr hT6 hw12 (kt_o rfl) (by omega)
  refine e_Ok.ps1 (x := (1, 19)) (q := 34) 1 rfl ?_
  refine e_Ok.getr (z := 28) rfl (el_o rfl) rfl rfl (e_uq hw12 (Or.inl (by decide)) (e_uq hw4 (Or.inl (by decide)) (e_uq hw1 (Or.inl (by decide)) (e_Has.eq hT (kt_o rfl))))) ⟨by decide, by decide⟩ ?_
  refine e_Ok.ps2 (x := (0, u)) (y := (0, w 19 0)) (q := 40) 2 rfl ?_
  refine e_Ok.callS rfl (e_dq hd rfl) rfl rfl (c_74 (by omega)) (fun r15 w16 h17 => ?_)
  obtain ⟨z19, rfl, rfl, q18r⟩ := h17
  refine e_Ok.nrm (q := 43) (st' := [(0, z19), (0, w 19 0), (1, 28)]) rfl rfl ?_
  refine e_Ok.ast rfl (el_o rfl) rfl rfl (by omega) ?_
  generalize hw20 : e_up w12 28 (w 19 0) z19 = w20
  have hT22 : e_Has kTy w20 := e_Has.upr hT14 hw20 (kt_o rfl) (by omega)
  refine e_Ok.ps1 (x := (1, 19)) (q := 45) 1 rfl ?_
  refine e_Ok.getr (z := 20) rfl (el_o rfl) rfl rfl (e_uq hw20 (Or.inl (by decide)) (e_uq hw12 (Or.inl (by decide)) (e_uq hw4 (Or.inl (by decide)) (e_uq hw1 (Or.inl (by decide)) (e_Has.eq hT (kt_o rfl)))))) ⟨by decide, by decide⟩ ?_
  refine e_Ok.ps2 (x := (0, v)) (y := (0, w 19 0)) (q := 52) 2 rfl ?_
  refine e_Ok.ast rfl (el_o rfl) rfl rfl (by omega) ?_
  generalize hw23 : e_up w20 20 (w 19 0) v = w23
  have hT25 : e_Has kTy w23 := e_Has.upr hT22 hw23 (kt_o rfl) (by omega)
  refine e_Ok.ps1 (x := (1, 19)) (q := 54) 1 rfl ?_
  refine e_Ok.getr (z := 29) rfl (el_o rfl) rfl rfl (e_uq hw23 (Or.inl (by decide)) (e_uq hw20 (Or.inl (by decide)) (e_uq hw12 (Or.inl (by decide)) (e_uq hw4 (Or.inl (by decide)) (e_uq hw1 (Or.inl (by decide)) (e_Has.eq hT (kt_o rfl))))))) ⟨by decide, by decide⟩ ?_
  refine e_Ok.ps2 (x := (0, s)) (y := (0, w 19 0)) (q := 61) 2 rfl ?_
  refine e_Ok.ast rfl (el_o rfl) rfl rfl (by omega) ?_
  generalize hw26 : e_up w23 29 (w 19 0) s = w26
  have hT28 : e_Has kTy w26 := e_Has.upr hT25 hw26 (kt_o rfl) (by omega)
  refine e_Ok.ps1 (x := (1, 19)) (q := 63) 1 rfl ?_
  refine e_Ok.getr (z := 21) rfl (el_o rfl) rfl rfl (e_uq hw26 (Or.inl (by decide)) (e_uq hw23 (Or.inl (by decide)) (e_uq hw20 (Or.inl (by decide)) (e_uq hw12 (Or.inl (by decide)) (e_uq hw4 (Or.inl (by decide)) (e_uq hw1 (Or.inl (by decide)) (e_Has.eq hT (kt_o rfl)))))))) ⟨by decide, by decide⟩ ?_
  refine e_Ok.ps2 (x := (0, 0)) (y := (0, w 19 0)) (q := 69) 2 rfl ?_
  refine e_Ok.ast rfl (el_o rfl) rfl rfl (by omega) ?_
  generalize hw29 : e_up w26 21 (w 19 0) 0 = w29
  have hT31 : e_Has kTy w29 := e_Has.upr hT28 hw29 (kt_o rfl) (by omega)
  refine e_Ok.ps1 (x := (1, 19)) (q := 71) 1 rfl ?_
  refine e_Ok.getr (z := 22) rfl (el_o rfl) rfl rfl (e_uq hw29 (Or.inl (by decide)) (e_uq hw26 (Or.inl (by decide)) (e_uq hw23 (Or.inl (by decide)) (e_uq hw20 (Or.inl (by decide)) (e_uq hw12 (Or.inl (by decide)) (e_uq hw4 (Or.inl (by decide)) (e_uq hw1 (Or.inl (by decide)) (e_Has.eq hT (kt_o rfl))))))))) ⟨by decide, by decide⟩ ?_
  refine e_Ok.ps2 (x := (0, (-1))) (y := (0, w 19 0)) (q := 77) 2 rfl ?_
  refine e_Ok.ast rfl (el_o rfl) rfl rfl (by omega) ?_
  generalize hw32 : e_up w29 22 (w 19 0) (-1) = w32
  have hT34 : e_Has kTy w32 := e_Has.upr hT31 hw32 (kt_o rfl) (by omega)
  refine e_Ok.ps1 (x := (1, 19)) (q := 79) 1 rfl ?_
  refine e_Ok.getr (z := 35) rfl (el_o rfl) rfl rfl (e_uq hw32 (Or.inl (by decide)) (e_uq hw29 (Or.inl (by decide)) (e_uq hw26 (Or.inl (by decide)) (e_uq hw23 (Or.inl (by decide)) (e_uq hw20 (Or.inl (by decide)) (e_uq hw12 (Or.inl (by decide)) (e_uq hw4 (Or.inl (by decide)) (e_uq hw1 (Or.inl (by decide)) (e_Has.eq hT (kt_o rfl)))))))))) ⟨by decide, by decide⟩ ?_
  refine e_Ok.ps2 (x := (0, 0)) (y := (0, w 19 0)) (q := 85) 2 rfl ?_
  refine e_Ok.ast rfl (el_o rfl) rfl rfl (by omega) ?_
  generalize hw35 : e_up w32 35 (w 19 0) 0 = w35
  have hT37 : e_Has kTy w35 := e_Has.ups hT34 hw35 (kt_o rfl)
  refine e_Ok.ps2 (x := (1, 19)) (y := (1, 19)) (q := 88) 2 rfl ?_
  refine e_Ok.getf (z := w 19 0) rfl (el_o rfl) rfl rfl (e_uq hw35 (Or.inl (by decide)) (e_uq hw32 (Or.inl (by decide)) (e_uq hw29 (Or.inl (by decide)) (e_uq hw26 (Or.inl (by decide)) (e_uq hw23 (Or.inl (by decide)) (e_uq hw20 (Or.inl (by decide)) (e_uq hw12 (Or.inl (by decide)) (e_uq hw4 (Or.inl (by decide)) (e_uq hw1 (Or.inl (by decide)) rfl))))))))) (by omega) ?_
  refine e_Ok.ps1 (x := (0, 1)) (q := 92) 1 rfl ?_
  refine e_Ok.add (z := w 19 0 + 1) rfl rfl (by omega) ?_
  refine e_Ok.putf rfl (el_o rfl) rfl rfl ?_
  generalize hw38 : e_up w35 19 0 (w 19 0 + 1) = w38
  have hT41 : e_Has kTy w38 := e_Has.upr hT37 hw38 (kt_o rfl) (by omega)
  refine e_Ok.ps1 (x := (0, w 19 0)) (q := 98) 1 rfl ?_
  refine e_Ok.rets rfl rfl ?_
  exact ⟨_, rfl, (show e_fr kAb w w38 from e_fr.up (show e_fr kAb w w35 from e_fr.up (show e_fr kAb w w32 from e_fr.up (show e_fr kAb w w29 from e_fr.up (show e_fr kAb w w26 from e_fr.up (show e_fr kAb w w23 from e_fr.up (show e_fr kAb w w20 from e_fr.up (show e_fr kAb w w12 from e_fr.up (show e_fr kAb w w4 from e_fr.up (show e_fr kAb w w1 from e_fr.up (e_fr.refl w) hw1 (by first | exact Or.inr (Or.inl ⟨(by decide), (by decide)⟩) | (unfold kAb; omega))) hw4 (by first | exact Or.inr (Or.inl ⟨(by decide), (by decide)⟩) | (unfold kAb; omega))) hw12 (by first | exact Or.inr (Or.inl ⟨(by decide), (by decide)⟩) | (unfold kAb; omega))) hw20 (by first | exact Or.inr (Or.inl ⟨(by decide), (by decide)⟩) | (unfold kAb; omega))) hw23 (by first | exact Or.inr (Or.inl ⟨(by decide), (by decide)⟩) | (unfold kAb; omega))) hw26 (by first | exact Or.inr (Or.inl ⟨(by decide), (by decide)⟩) | (unfold kAb; omega))) hw29 (by first | exact Or.inr (Or.inl ⟨(by decide), (by decide)⟩) | (unfold kAb; omega))) hw32 (by first | exact Or.inr (Or.inl ⟨(by decide), (by decide)⟩) | (unfold kAb; omega))) hw35 (by first | exact Or.inr (Or.inr rfl) | (unfold kAb; omega))) hw38 (by first | exact Or.inl ⟨rfl, rfl⟩ | (unfold kAb; omega))), hT41, ⟨by omega, by omega⟩, ⟨(e_ue hw38), (e_uq hw38 (Or.inl (by first | decide | omega)) (e_ue hw35)), fun k g => by rw [← hw38, e_up_ne _ _ (by omega), ← hw35, e_up_ne _ _ (by omega), ← hw32, e_up_ne _ _ (by omega), ← hw29, e_up_ne _ _ (by omega), ← hw26, e_up_ne _ _ (by omega), ← hw23, e_up_ne _ _ (by omega), ← hw20, e_up_ne _ _ (by omega), ← hw12, e_up_ne _ _ (by omega), ← hw4, e_up_ne _ _ (by omega), ← hw1, e_up_ne _ _ (by omega)]⟩⟩
theorem c_197 {d : Nat} (hd : 24 ≤ d) {w : eW} (hT : e_Has kTy w) (hO : 0 ≤ w 0 13 ∧ w 0 13 ≤ 1) {a : Int} (g_a : (-2147483648) ≤ a ∧ a ≤ 2147483647) {b : Int} (g_b : (-2147483648) ≤ b ∧ b ≤ 2147483647) {c : Int} (g_c : (-2147483648) ≤ c ∧ c ≤ 2147483647) : e_Ok 20 elay kcode eI d 197 (0, [(0, (1, 0)), (1, (0, a)), (2, (0, b)), (3, (0, c))], [], w) (fun r w' => ∃ z : Int, r = [(0, z)] ∧ e_Has kTy w' ∧ (w' = w ∨ (w 0 13 = 0 ∧ e_fr kAs w w'))) := by
  obtain ⟨d, rfl⟩ : ∃ e, d = e + 1 := ⟨d - 1, by omega⟩
  have hw0 := e_Has.get hT (c := 0) (k := 11) (lo := 0) (hi := 4) (kt_o rfl) (by decide)
  have hb0 := e_Has.get hT (c := 19) (k := 0) (lo := 0) (hi := 4) (kt_o rfl) (by decide)
  have hz0 := e_Has.get hT (c := 250) (k := 1) (lo := 0) (hi := 8) (kt_o rfl) (by decide)
  refine e_Ok.ps2 (x := (0, b)) (y := (0, a)) (q := 2) 2 rfl ?_
  refine e_Ok.callS rfl (e_dq hd rfl) rfl rfl (c_243 (e_dq hd rfl) (by omega) (by omega)) (fun r1 w2 h3 => ?_)
  obtain ⟨z4, rfl, rfl, q5⟩ := h3
  obtain ⟨rfl, q5⟩ | ⟨rfl, q5⟩ := q5
  · refine e_Ok.nrm (q := 5) (st' := [(0, 1)]) rfl rfl ?_
    refine e_Ok.if1 rfl (fun h6 => ?_) (fun h6 => ?_)
    · replace h6 : (1 : Int) = 0 := h6
      exfalso; omega
    · replace h6 : (1 : Int) ≠ 0 := (show ¬ ((1 : Int) = 0) from h6)
      refine e_Ok.ps3 (x := (0, 8000)) (y := (0, 0)) (z := (0, c)) (q := 13) 3 rfl ?_
      refine e_Ok.callS rfl (e_dq hd rfl) rfl rfl (c_242 (by omega) (by omega) (by omega)) (fun r7 w8 h9 => ?_)
      obtain ⟨z10, rfl, rfl, q11⟩ := h9
      obtain ⟨rfl, q11⟩ | ⟨rfl, q11⟩ := q11
      · refine e_Ok.nrm (q := 16) (st' := [(0, 1)]) rfl rfl ?_
        refine e_Ok.if1 rfl (fun h12 => ?_) (fun h12 => ?_)
        · replace h12 : (1 : Int) ≠ 0 := h12
          refine e_Ok.ps1 (x := (1, 0)) (q := 22) 1 rfl ?_
          refine e_Ok.getf (z := w 0 13) rfl (el_o rfl) rfl rfl rfl (by omega) ?_
          refine e_Ok.if1 rfl (fun h13 => ?_) (fun h13 => ?_)
          · replace h13 : (w 0 13 : Int) = 0 := h13
            refine e_Ok.ps1 (x := (1, 0)) (q := 32) 1 rfl ?_
            refine e_Ok.getr (z := 250) rfl (el_o rfl) rfl rfl (e_Has.eq hT (kt_o rfl)) ⟨by decide, by decide⟩ ?_
            refine e_Ok.run (t' := (40, [(0, (1, 0)), (1, (0, a)), (2, (0, b)), (3, (0, c))], [(0, c), (0, 0), (0, 0), (0, b), (0, a), (1, 250)], w)) 5 rfl ?_
            refine e_Ok.callV rfl (e_dq hd rfl) rfl rfl rfl rfl (c_167 hT (by omega) (by omega) (by omega) (by omega) (by omega)) (fun r14 w15 h16 => ?_)
            obtain ⟨z18, rfl, q17f, q17T, q17r⟩ := h16
            refine e_Ok.nrm (q := 43) (st' := [(0, z18)]) rfl rfl ?_
            refine e_Ok.rets rfl rfl ?_
            exact ⟨_, rfl, q17T, Or.inr ⟨by omega, (show e_fr kAs w w15 from e_fr.trans (e_fr.refl w) (e_fr.mono q17f (fun c k q => by exact q)))⟩⟩
          · replace h13 : (w 0 13 : Int) ≠ 0 := (show ¬ ((w 0 13 : Int) = 0) from h13)
            refine e_Ok.ps1 (x := (0, (-2))) (q := 30) 1 rfl ?_
            refine e_Ok.rets rfl rfl ?_
            exact ⟨_, rfl, hT, Or.inl rfl⟩
        · replace h12 : (1 : Int) = 0 := Classical.not_not.mp (show ¬ ((1 : Int) ≠ 0) from h12)
          exfalso; omega
      · refine e_Ok.nrm (q := 16) (st' := [(0, 0)]) rfl rfl ?_
        refine e_Ok.if1 rfl (fun h20 => ?_) (fun h20 => ?_)
        · replace h20 : (0 : Int) ≠ 0 := h20
          exfalso; omega
        · replace h20 : (0 : Int) = 0 := Classical.not_not.mp (show ¬ ((0 : Int) ≠ 0) from h20)
          refine e_Ok.ps1 (x := (0, (-1))) (q := 20) 1 rfl ?_
          refine e_Ok.rets rfl rfl ?_
          exact ⟨_, rfl, hT, Or.inl rfl⟩
  · refine e_Ok.nrm (q := 5) (st' := [(0, 0)]) rfl rfl ?_
    refine e_Ok.if1 rfl (fun h21 => ?_) (fun h21 => ?_)
    · replace h21 : (0 : Int) = 0 := h21
      refine e_Ok.ps1 (x := (0, (-1))) (q := 20) 1 rfl ?_
      refine e_Ok.rets rfl rfl ?_
      exact ⟨_, rfl, hT, Or.inl rfl⟩
    · replace h21 : (0 : Int) ≠ 0 := (show ¬ ((0 : Int) = 0) from h21)
      exfalso; omega
theorem c_198 {d : Nat} (hd : 24 ≤ d) {w : eW} (hT : e_Has kTy w) (hO : 0 ≤ w 0 13 ∧ w 0 13 ≤ 1) {a : Int} (g_a : (-2147483648) ≤ a ∧ a ≤ 2147483647) {b : Int} (g_b : (-2147483648) ≤ b ∧ b ≤ 2147483647) {c : Int} (g_c : (-2147483648) ≤ c ∧ c ≤ 2147483647) {e : Int} (g_e : (-2147483648) ≤ e ∧ e ≤ 2147483647) : e_Ok 20 elay kcode eI d 198 (0, [(0, (1, 0)), (1, (0, a)), (2, (0, b)), (3, (0, c)), (4, (0, e))], [], w) (fun r w' => ∃ z : Int, r = [(0, z)] ∧ e_Has kTy w' ∧ (w' = w ∨ (w 0 13 = 0 ∧ e_fr kAs w w'))) := by
  obtain ⟨d, rfl⟩ : ∃ e, d = e + 1 := ⟨d - 1, by omega⟩
  have hw0 := e_Has.get hT (c := 0) (k := 11) (lo := 0) (hi := 4) (kt_o rfl) (by decide)
  have hb0 := e_Has.get hT (c := 19) (k := 0) (lo := 0) (hi := 4) (kt_o rfl) (by decide)
  have hz0 := e_Has.get hT (c := 250) (k := 1) (lo := 0) (hi := 8) (kt_o rfl) (by decide)
  refine e_Ok.ps4 (x := (0, e)) (y := (0, c)) (z := (0, b)) (u := (0, a)) (q := 5) 4 rfl ?_
  refine e_Ok.callS rfl (e_dq hd rfl) rfl rfl (c_244 (e_dq hd rfl) (by omega) (by omega) (by omega) (by omega)) (fun r1 w2 h3 => ?_)
  obtain ⟨z4, rfl, rfl, q5⟩ := h3
  obtain ⟨rfl, q5⟩ | ⟨rfl, q5⟩ := q5
  · refine e_Ok.nrm (q := 8) (st' := [(0, 1)]) rfl rfl ?_
    refine e_Ok.if1 rfl (fun h6 => ?_) (fun h6 => ?_)
    · replace h6 : (1 : Int) ≠ 0 := h6
      refine e_Ok.ps1 (x := (1, 0)) (q := 14) 1 rfl ?_
      refine e_Ok.getf (z := w 0 13) rfl (el_o rfl) rfl rfl rfl (by omega) ?_
      refine e_Ok.if1 rfl (fun h7 => ?_) (fun h7 => ?_)
      · replace h7 : (w 0 13 : Int) = 0 := h7
        refine e_Ok.ps1 (x := (1, 0)) (q := 24) 1 rfl ?_
        refine e_Ok.getr (z := 250) rfl (el_o rfl) rfl rfl (e_Has.eq hT (kt_o rfl)) ⟨by decide, by decide⟩ ?_
        refine e_Ok.run (t' := (33, [(0, (1, 0)), (1, (0, a)), (2, (0, b)), (3, (0, c)), (4, (0, e))], [(0, (-1)), (0, e), (0, c), (0, b), (0, a), (1, 250)], w)) 5 rfl ?_
        refine e_Ok.callV rfl (e_dq hd rfl) rfl rfl rfl rfl (c_167 hT (by omega) (by omega) (by omega) (by omega) (by omega)) (fun r8 w9 h10 => ?_)
        obtain ⟨z12, rfl, q11f, q11T, q11r⟩ := h10
        refine e_Ok.nrm (q := 36) (st' := [(0, z12)]) rfl rfl ?_
        refine e_Ok.rets rfl rfl ?_
        exact ⟨_, rfl, q11T, Or.inr ⟨by omega, (show e_fr kAs w w9 from e_fr.trans (e_fr.refl w) (e_fr.mono q11f (fun c k q => by exact q)))⟩⟩
      · replace h7 : (w 0 13 : Int) ≠ 0 := (show ¬ ((w 0 13 : Int) = 0) from h7)
        refine e_Ok.ps1 (x := (0, (-2))) (q := 22) 1 rfl ?_
        refine e_Ok.rets rfl rfl ?_
        exact ⟨_, rfl, hT, Or.inl rfl⟩
    · replace h6 : (1 : Int) = 0 := Classical.not_not.mp (show ¬ ((1 : Int) ≠ 0) from h6)
      exfalso; omega
  · refine e_Ok.nrm (q := 8) (st' := [(0, 0)]) rfl rfl ?_
    refine e_Ok.if1 rfl (fun h14 => ?_) (fun h14 => ?_)
    · replace h14 : (0 : Int) ≠ 0 := h14
      exfalso; omega
    · replace h14 : (0 : Int) = 0 := Classical.not_not.mp (show ¬ ((0 : Int) ≠ 0) from h14)
      refine e_Ok.ps1 (x := (0, (-1))) (q := 12) 1 rfl ?_
      refine e_Ok.rets rfl rfl ?_
      exact ⟨_, rfl, hT, Or.inl rfl⟩
theorem c_205 {d : Nat} (hd : 24 ≤ d) {w : eW} (hT : e_Has kTy w) (hO : 0 ≤ w 0 13 ∧ w 0 13 ≤ 1) {a : Int} (g_a : (-2147483648) ≤ a ∧ a ≤ 2147483647) {b : Int} (g_b : (-2147483648) ≤ b ∧ b ≤ 2147483647) {c : Int} (g_c : (-2147483648) ≤ c ∧ c ≤ 2147483647) {e : Int} (g_e : (-2147483648) ≤ e ∧ e ≤ 2147483647) {g : Int} (g_g : (-2147483648) ≤ g ∧ g ≤ 2147483647) : e_Ok 20 elay kcode eI d 205 (0, [(0, (1, 0)), (1, (0, a)), (2, (0, b)), (3, (0, c)), (4, (0, e)), (5, (0, g))], [], w) (fun r w' => ∃ z : Int, r = [(0, z)] ∧ e_Has kTy w' ∧ (w' = w ∨ (w 0 13 = 0 ∧ e_fr kAs w w'))) := by
  obtain ⟨d, rfl⟩ : ∃ e, d = e + 1 := ⟨d - 1, by omega⟩
  have hw0 := e_Has.get hT (c := 0) (k := 11) (lo := 0) (hi := 4) (kt_o rfl) (by decide)
  have hb0 := e_Has.get hT (c := 19) (k := 0) (lo := 0) (hi := 4) (kt_o rfl) (by decide)
  have hz0 := e_Has.get hT (c := 250) (k := 1) (lo := 0) (hi := 8) (kt_o rfl) (by decide)
  refine e_Ok.ps2 (x := (0, a)) (y := (1, 0)) (q := 2) 2 rfl ?_
  refine e_Ok.callV rfl (e_dq hd rfl) rfl rfl rfl rfl (c_246 (e_dq hd rfl) hT (by omega)) (fun r1 w2 h3 => ?_)
  obtain ⟨z4, rfl, rfl, q5⟩ := h3
  obtain ⟨rfl, q5⟩ | ⟨rfl, q5⟩ := q5
  · refine e_Ok.nrm (q := 5) (st' := [(0, 1)]) rfl rfl ?_
    refine e_Ok.if1 rfl (fun h6 => ?_) (fun h6 => ?_)
    · replace h6 : (1 : Int) = 0 := h6
      exfalso; omega
    · replace h6 : (1 : Int) ≠ 0 := (show ¬ ((1 : Int) = 0) from h6)
      refine e_Ok.ps4 (x := (0, g)) (y := (0, e)) (z := (0, c)) (u := (0, b)) (q := 14) 4 rfl ?_
      refine e_Ok.callS rfl (e_dq hd rfl) rfl rfl (c_244 (e_dq hd rfl) (by omega) (by omega) (by omega) (by omega)) (fun r7 w8 h9 => ?_)
      obtain ⟨z10, rfl, rfl, q11⟩ := h9
      obtain ⟨rfl, q11⟩ | ⟨rfl, q11⟩ := q11
      · refine e_Ok.nrm (q := 17) (st' := [(0, 1)]) rfl rfl ?_
        refine e_Ok.if1 rfl (fun h12 => ?_) (fun h12 => ?_)
        · replace h12 : (1 : Int) ≠ 0 := h12
          refine e_Ok.ps1 (x := (1, 0)) (q := 23) 1 rfl ?_
          refine e_Ok.getf (z := w 0 13) rfl (el_o rfl) rfl rfl rfl (by omega) ?_
          refine e_Ok.if1 rfl (fun h13 => ?_) (fun h13 => ?_)
          · replace h13 : (w 0 13 : Int) = 0 := h13
            refine e_Ok.ps1 (x := (1, 0)) (q := 33) 1 rfl ?_
            refine e_Ok.getr (z := 250) rfl (el_o rfl) rfl rfl (e_Has.eq hT (kt_o rfl)) ⟨by decide, by decide⟩ ?_
            refine e_Ok.run (t' := (43, [(0, (1, 0)), (1, (0, a)), (2, (0, b)), (3, (0, c)), (4, (0, e)), (5, (0, g))], [(0, g), (0, e), (0, c), (0, b), (0, a), (1, 250)], w)) 5 rfl ?_
            refine e_Ok.callV rfl (e_dq hd rfl) rfl rfl rfl rfl (c_168 hT (by omega) (by omega) (by omega) (by omega) (by omega)) (fun r14 w15 h16 => ?_)
            obtain ⟨z18, rfl, q17f, q17T, q17r⟩ := h16
            refine e_Ok.nrm (q := 46) (st' := [(0, z18)]) rfl rfl ?_
            refine e_Ok.rets rfl rfl ?_
            exact ⟨_, rfl, q17T, Or.inr ⟨by omega, (show e_fr kAs w w15 from e_fr.trans (e_fr.refl w) (e_fr.mono q17f (fun c k q => by exact q)))⟩⟩
          · replace h13 : (w 0 13 : Int) ≠ 0 := (show ¬ ((w 0 13 : Int) = 0) from h13)
            refine e_Ok.ps1 (x := (0, (-2))) (q := 31) 1 rfl ?_
            refine e_Ok.rets rfl rfl ?_
            exact ⟨_, rfl, hT, Or.inl rfl⟩
        · replace h12 : (1 : Int) = 0 := Classical.not_not.mp (show ¬ ((1 : Int) ≠ 0) from h12)
          exfalso; omega
      · refine e_Ok.nrm (q := 17) (st' := [(0, 0)]) rfl rfl ?_
        refine e_Ok.if1 rfl (fun h20 => ?_) (fun h20 => ?_)
        · replace h20 : (0 : Int) ≠ 0 := h20
          exfalso; omega
        · replace h20 : (0 : Int) = 0 := Classical.not_not.mp (show ¬ ((0 : Int) ≠ 0) from h20)
          refine e_Ok.ps1 (x := (0, (-1))) (q := 21) 1 rfl ?_
          refine e_Ok.rets rfl rfl ?_
          exact ⟨_, rfl, hT, Or.inl rfl⟩
  · refine e_Ok.nrm (q := 5) (st' := [(0, 0)]) rfl rfl ?_
    refine e_Ok.if1 rfl (fun h21 => ?_) (fun h21 => ?_)
    · replace h21 : (0 : Int) = 0 := h21
      refine e_Ok.ps1 (x := (0, (-1))) (q := 21) 1 rfl ?_
      refine e_Ok.rets rfl rfl ?_
      exact ⟨_, rfl, hT, Or.inl rfl⟩
    · replace h21 : (0 : Int) ≠ 0 := (show ¬ ((0 : Int) = 0) from h21)
      exfalso; omega
theorem c_199 {d : Nat} (hd : 24 ≤ d) {w : eW} (hT : e_Has kTy w) (hO : 0 ≤ w 0 13 ∧ w 0 13 ≤ 1) {a : Int} (g_a : (-2147483648) ≤ a ∧ a ≤ 2147483647) {b : Int} (g_b : (-2147483648) ≤ b ∧ b ≤ 2147483647) {c : Int} (g_c : (-2147483648) ≤ c ∧ c ≤ 2147483647) : e_Ok 20 elay kcode eI d 199 (0, [(0, (1, 0)), (1, (0, a)), (2, (0, b)), (3, (0, c))], [], w) (fun r w' => ∃ z : Int, r = [(0, z)] ∧ e_Has kTy w' ∧ (w' = w ∨ (w 0 13 = 0 ∧ e_fr (kSd a) w w'))) := by
  obtain ⟨d, rfl⟩ : ∃ e, d = e + 1 := ⟨d - 1, by omega⟩
  have hw0 := e_Has.get hT (c := 0) (k := 11) (lo := 0) (hi := 4) (kt_o rfl) (by decide)
  have hb0 := e_Has.get hT (c := 19) (k := 0) (lo := 0) (hi := 4) (kt_o rfl) (by decide)
  have hz0 := e_Has.get hT (c := 250) (k := 1) (lo := 0) (hi := 8) (kt_o rfl) (by decide)
  have hs0 := e_Has.get hT (c := 250) (k := 0) (lo := 0) (hi := 16) (kt_o rfl) (by decide)
  refine e_Ok.ps2 (x := (0, a)) (y := (1, 0)) (q := 2) 2 rfl ?_
  refine e_Ok.callV rfl (e_dq hd rfl) rfl rfl rfl rfl (c_246 (e_dq hd rfl) hT (by omega)) (fun r1 w2 h3 => ?_)
  obtain ⟨z4, rfl, rfl, q5⟩ := h3
  obtain ⟨rfl, q5⟩ | ⟨rfl, q5⟩ := q5
  · refine e_Ok.nrm (q := 5) (st' := [(0, 1)]) rfl rfl ?_
    refine e_Ok.if1 rfl (fun h6 => ?_) (fun h6 => ?_)
    · replace h6 : (1 : Int) = 0 := h6
      exfalso; omega
    · replace h6 : (1 : Int) ≠ 0 := (show ¬ ((1 : Int) = 0) from h6)
      refine e_Ok.ps3 (x := (0, 6)) (y := (0, 0)) (z := (0, b)) (q := 12) 3 rfl ?_
      refine e_Ok.callS rfl (e_dq hd rfl) rfl rfl (c_242 (by omega) (by omega) (by omega)) (fun r7 w8 h9 => ?_)
      obtain ⟨z10, rfl, rfl, q11⟩ := h9
      obtain ⟨rfl, q11⟩ | ⟨rfl, q11⟩ := q11
      · refine e_Ok.nrm (q := 15) (st' := [(0, 1)]) rfl rfl ?_
        refine e_Ok.if1 rfl (fun h12 => ?_) (fun h12 => ?_)
        · replace h12 : (1 : Int) ≠ 0 := h12
          refine e_Ok.ps3 (x := (1, 0)) (y := (0, 0)) (z := (0, c)) (q := 23) 3 rfl ?_
          refine e_Ok.getr (z := 250) rfl (el_o rfl) rfl rfl (e_Has.eq hT (kt_o rfl)) ⟨by decide, by decide⟩ ?_
          have h13 := (e_Has.get hT (c := 250) (k := 0) (lo := 0) (hi := 16) (kt_o rfl) (by decide))
          refine e_Ok.getf (z := w 250 0) rfl (el_o rfl) rfl rfl rfl (e_bq h13 (by decide) (by decide)) ?_
          refine e_Ok.ps1 (x := (0, 1)) (q := 30) 1 rfl ?_
          refine e_Ok.sub' (z := w 250 0 - 1) rfl rfl (by omega) ?_
          refine e_Ok.callS rfl (e_dq hd rfl) rfl rfl (c_242 (by omega) (by omega) (by omega)) (fun r14 w15 h16 => ?_)
          obtain ⟨z17, rfl, rfl, q18⟩ := h16
          obtain ⟨rfl, q18⟩ | ⟨rfl, q18⟩ := q18
          · refine e_Ok.nrm (q := 34) (st' := [(0, 1)]) rfl rfl ?_
            refine e_Ok.if1 rfl (fun h19 => ?_) (fun h19 => ?_)
            · replace h19 : (1 : Int) ≠ 0 := h19
              refine e_Ok.ps1 (x := (1, 0)) (q := 40) 1 rfl ?_
              refine e_Ok.getf (z := w 0 13) rfl (el_o rfl) rfl rfl rfl (by omega) ?_
              refine e_Ok.if1 rfl (fun h20 => ?_) (fun h20 => ?_)
              · replace h20 : (w 0 13 : Int) = 0 := h20
                refine e_Ok.ps1 (x := (1, 0)) (q := 50) 1 rfl ?_
                refine e_Ok.getr (z := 9) rfl (el_o rfl) rfl rfl (e_Has.eq hT (kt_o rfl)) ⟨by decide, by decide⟩ ?_
                refine e_Ok.ps1 (x := (0, a)) (q := 54) 1 rfl ?_
                refine e_Ok.aald (z := 17 * a + 86) rfl (el_o rfl) rfl (by omega) (Eq.trans (e_Has.eq hT (k9 (by omega))) (by omega)) (by omega) ?_
                refine e_Ok.ps2 (x := (0, c)) (y := (0, b)) (q := 57) 2 rfl ?_
                refine e_Ok.callV rfl (e_dq hd rfl) rfl (lA0 (a := a) (by omega) (by omega)) rfl rfl (c_6 (a := a) hT (by omega) (by omega) (by omega)) (fun r21 w22 h23 => ?_)
                obtain ⟨z25, rfl, rfl, q24r⟩ := h23
                refine e_Ok.nrm (q := 60) (st' := [(0, z25)]) rfl rfl ?_
                refine e_Ok.if1 rfl (fun h26 => ?_) (fun h26 => ?_)
                · replace h26 : (z25 : Int) = 0 := h26
                  refine e_Ok.ps1 (x := (1, 0)) (q := 66) 1 rfl ?_
                  refine e_Ok.getr (z := 9) rfl (el_o rfl) rfl rfl (e_Has.eq hT (kt_o rfl)) ⟨by decide, by decide⟩ ?_
                  refine e_Ok.ps1 (x := (0, a)) (q := 70) 1 rfl ?_
                  refine e_Ok.aald (z := 17 * a + 86) rfl (el_o rfl) rfl (by omega) (Eq.trans (e_Has.eq hT (k9 (by omega))) (by omega)) (by omega) ?_
                  refine e_Ok.getr (z := 17 * a + 92) rfl (lA0 (a := a) (by omega) (by omega)) rfl rfl (Eq.trans (e_Has.eq hT (kA_5 (a := a) (by omega) (by omega))) (by omega)) (by omega) ?_
                  refine e_Ok.ps3 (x := (0, b)) (y := (1, 17 * a + 92)) (z := (0, b)) (q := 76) 2 rfl ?_
                  have h27 := (e_Has.get hT (c := 17 * a + 92) (k := b) (lo := (-2147483648)) (hi := 2147483647) (kA92 (a := a) _ (by omega) (by omega)) (by decide))
                  refine e_Ok.ald (z := w (17 * a + 92) b) rfl (lA6 (a := a) (by omega) (by omega)) rfl (by omega) rfl (e_bq h27 (by decide) (by decide)) ?_
                  refine e_Ok.ps2 (x := (0, c)) (y := (0, 1)) (q := 79) 2 rfl ?_
                  refine e_Ok.any rfl (eB_any _ _) (fun z28 z28a z28b => ?_)
                  refine e_Ok.any rfl (eB_any _ _) (fun z29 z29a z29b => ?_)
                  refine e_Ok.ast rfl (lA6 (a := a) (by omega) (by omega)) rfl rfl (by omega) ?_
                  generalize hw30 : e_up w (17 * a + 92) b z29 = w30
                  have hT32 : e_Has kTy w30 := e_Has.upr hT hw30 (kA92 (a := a) _ (by omega) (by omega)) (by omega)
                  refine e_Ok.ps1 (x := (0, 1)) (q := 83) 1 rfl ?_
                  refine e_Ok.rets rfl rfl ?_
                  exact ⟨_, rfl, hT32, Or.inr ⟨by omega, (show e_fr (kSd a) w w30 from e_fr.up (e_fr.refl w) hw30 (by first | exact (by omega) | (unfold kSd; omega)))⟩⟩
                · replace h26 : (z25 : Int) ≠ 0 := (show ¬ ((z25 : Int) = 0) from h26)
                  refine e_Ok.ps1 (x := (0, 0)) (q := 64) 1 rfl ?_
                  refine e_Ok.rets rfl rfl ?_
                  exact ⟨_, rfl, hT, Or.inl rfl⟩
              · replace h20 : (w 0 13 : Int) ≠ 0 := (show ¬ ((w 0 13 : Int) = 0) from h20)
                refine e_Ok.ps1 (x := (0, (-2))) (q := 48) 1 rfl ?_
                refine e_Ok.rets rfl rfl ?_
                exact ⟨_, rfl, hT, Or.inl rfl⟩
            · replace h19 : (1 : Int) = 0 := Classical.not_not.mp (show ¬ ((1 : Int) ≠ 0) from h19)
              exfalso; omega
          · refine e_Ok.nrm (q := 34) (st' := [(0, 0)]) rfl rfl ?_
            refine e_Ok.if1 rfl (fun h33 => ?_) (fun h33 => ?_)
            · replace h33 : (0 : Int) ≠ 0 := h33
              exfalso; omega
            · replace h33 : (0 : Int) = 0 := Classical.not_not.mp (show ¬ ((0 : Int) ≠ 0) from h33)
              refine e_Ok.ps1 (x := (0, (-1))) (q := 38) 1 rfl ?_
              refine e_Ok.rets rfl rfl ?_
              exact ⟨_, rfl, hT, Or.inl rfl⟩
        · replace h12 : (1 : Int) = 0 := Classical.not_not.mp (show ¬ ((1 : Int) ≠ 0) from h12)
          exfalso; omega
      · refine e_Ok.nrm (q := 15) (st' := [(0, 0)]) rfl rfl ?_
        refine e_Ok.if1 rfl (fun h34 => ?_) (fun h34 => ?_)
        · replace h34 : (0 : Int) ≠ 0 := h34
          exfalso; omega
        · replace h34 : (0 : Int) = 0 := Classical.not_not.mp (show ¬ ((0 : Int) ≠ 0) from h34)
          refine e_Ok.ps1 (x := (0, (-1))) (q := 19) 1 rfl ?_
          refine e_Ok.rets rfl rfl ?_
          exact ⟨_, rfl, hT, Or.inl rfl⟩
  · refine e_Ok.nrm (q := 5) (st' := [(0, 0)]) rfl rfl ?_
    refine e_Ok.if1 rfl (fun h35 => ?_) (fun h35 => ?_)
    · replace h35 : (0 : Int) = 0 := h35
      refine e_Ok.ps1 (x := (0, (-1))) (q := 19) 1 rfl ?_
      refine e_Ok.rets rfl rfl ?_
      exact ⟨_, rfl, hT, Or.inl rfl⟩
    · replace h35 : (0 : Int) ≠ 0 := (show ¬ ((0 : Int) = 0) from h35)
      exfalso; omega
theorem c_200 {d : Nat} (hd : 24 ≤ d) {w : eW} (hT : e_Has kTy w) (hO : 0 ≤ w 0 13 ∧ w 0 13 ≤ 1) {a : Int} (g_a : (-2147483648) ≤ a ∧ a ≤ 2147483647) {b : Int} (g_b : (-2147483648) ≤ b ∧ b ≤ 2147483647) {c : Int} (g_c : (-2147483648) ≤ c ∧ c ≤ 2147483647) {e : Int} (g_e : (-2147483648) ≤ e ∧ e ≤ 2147483647) {g : Int} (g_g : (-2147483648) ≤ g ∧ g ≤ 2147483647) : e_Ok 20 elay kcode eI d 200 (0, [(0, (1, 0)), (1, (0, a)), (2, (0, b)), (3, (0, c)), (4, (0, e)), (5, (0, g))], [], w) (fun r w' => ∃ z : Int, r = [(0, z)] ∧ e_Has kTy w' ∧ (w' = w ∨ (w 0 13 = 0 ∧ e_fr kAb w w' ∧ (w' 19 0 = w 19 0 + 1 ∧ w' 35 (w 19 0) = 0 ∧ w 19 0 ≤ 3 ∧ ∀ k, k ≠ w 19 0 → w' 35 k = w 35 k)))) := by
  obtain ⟨d, rfl⟩ : ∃ e, d = e + 1 := ⟨d - 1, by omega⟩
  have hw0 := e_Has.get hT (c := 0) (k := 11) (lo := 0) (hi := 4) (kt_o rfl) (by decide)
  have hb0 := e_Has.get hT (c := 19) (k := 0) (lo := 0) (hi := 4) (kt_o rfl) (by decide)
  have hz0 := e_Has.get hT (c := 250) (k := 1) (lo := 0) (hi := 8) (kt_o rfl) (by decide)
  refine e_Ok.ps2 (x := (0, b)) (y := (0, a)) (q := 2) 2 rfl ?_
  refine e_Ok.callS rfl (e_dq hd rfl) rfl rfl (c_243 (e_dq hd rfl) (by omega) (by omega)) (fun r1 w2 h3 => ?_)
  obtain ⟨z4, rfl, rfl, q5⟩ := h3
  obtain ⟨rfl, q5⟩ | ⟨rfl, q5⟩ := q5
  · refine e_Ok.nrm (q := 5) (st' := [(0, 1)]) rfl rfl ?_
    refine e_Ok.if1 rfl (fun h6 => ?_) (fun h6 => ?_)
    · replace h6 : (1 : Int) = 0 := h6
      exfalso; omega
    · replace h6 : (1 : Int) ≠ 0 := (show ¬ ((1 : Int) = 0) from h6)
      refine e_Ok.ps3 (x := (0, 3)) (y := (0, 0)) (z := (0, c)) (q := 11) 3 rfl ?_
      refine e_Ok.callS rfl (e_dq hd rfl) rfl rfl (c_242 (by omega) (by omega) (by omega)) (fun r7 w8 h9 => ?_)
      obtain ⟨z10, rfl, rfl, q11⟩ := h9
      obtain ⟨rfl, q11⟩ | ⟨rfl, q11⟩ := q11
      · refine e_Ok.nrm (q := 14) (st' := [(0, 1)]) rfl rfl ?_
        refine e_Ok.if1 rfl (fun h12 => ?_) (fun h12 => ?_)
        · replace h12 : (1 : Int) ≠ 0 := h12
          refine e_Ok.ps3 (x := (0, 16000)) (y := (0, 0)) (z := (0, e)) (q := 25) 3 rfl ?_
          refine e_Ok.callS rfl (e_dq hd rfl) rfl rfl (c_242 (by omega) (by omega) (by omega)) (fun r13 w14 h15 => ?_)
          obtain ⟨z16, rfl, rfl, q17⟩ := h15
          obtain ⟨rfl, q17⟩ | ⟨rfl, q17⟩ := q17
          · refine e_Ok.nrm (q := 28) (st' := [(0, 1)]) rfl rfl ?_
            refine e_Ok.if1 rfl (fun h18 => ?_) (fun h18 => ?_)
            · replace h18 : (1 : Int) = 0 := h18
              exfalso; omega
            · replace h18 : (1 : Int) ≠ 0 := (show ¬ ((1 : Int) = 0) from h18)
              refine e_Ok.ps3 (x := (0, 2000)) (y := (0, 0)) (z := (0, g)) (q := 37) 3 rfl ?_
              refine e_Ok.callS rfl (e_dq hd rfl) rfl rfl (c_242 (by omega) (by omega) (by omega)) (fun r19 w20 h21 => ?_)
              obtain ⟨z22, rfl, rfl, q23⟩ := h21
              obtain ⟨rfl, q23⟩ | ⟨rfl, q23⟩ := q23
              · refine e_Ok.nrm (q := 40) (st' := [(0, 1)]) rfl rfl ?_
                refine e_Ok.if1 rfl (fun h24 => ?_) (fun h24 => ?_)
                · replace h24 : (1 : Int) ≠ 0 := h24
                  refine e_Ok.ps3 (x := (0, c)) (y := (0, e)) (z := (0, a)) (q := 49) 3 rfl ?_
                  refine e_Ok.callS rfl (e_dq hd rfl) rfl rfl (c_73 (by omega)) (fun r25 w26 h27 => ?_)
                  obtain ⟨z29, rfl, rfl, q28r⟩ := h27
                  refine e_Ok.nrm (q := 52) (st' := [(0, z29), (0, e), (0, a)]) rfl rfl ?_
                  refine e_Ok.any rfl (eF_mul_any _ _) (fun z30 z30a z30b => ?_)
                  refine e_Ok.any rfl (eF_add_any _ _) (fun z31 z31a z31b => ?_)
                  refine e_Ok.ps3 (x := (0, c)) (y := (0, e)) (z := (0, b)) (q := 58) 3 rfl ?_
                  refine e_Ok.callS rfl (e_dq hd rfl) rfl rfl (c_74 (by omega)) (fun r32 w33 h34 => ?_)
                  obtain ⟨z36, rfl, rfl, q35r⟩ := h34
                  refine e_Ok.nrm (q := 61) (st' := [(0, z36), (0, e), (0, b), (0, z31)]) rfl rfl ?_
                  refine e_Ok.any rfl (eF_mul_any _ _) (fun z37 z37a z37b => ?_)
                  refine e_Ok.any rfl (eF_add_any _ _) (fun z38 z38a z38b => ?_)
                  refine e_Ok.callS rfl (e_dq hd rfl) rfl rfl (c_243 (e_dq hd rfl) (by omega) (by omega)) (fun r40 w41 h42 => ?_)
                  obtain ⟨z43, rfl, rfl, q44⟩ := h42
                  obtain ⟨rfl, q44⟩ | ⟨rfl, q44⟩ := q44
                  · refine e_Ok.nrm (q := 66) (st' := [(0, 1)]) rfl rfl ?_
                    refine e_Ok.if1 rfl (fun h45 => ?_) (fun h45 => ?_)
                    · replace h45 : (1 : Int) ≠ 0 := h45
                      refine e_Ok.ps1 (x := (1, 0)) (q := 72) 1 rfl ?_
                      refine e_Ok.getf (z := w 0 13) rfl (el_o rfl) rfl rfl rfl (by omega) ?_
                      refine e_Ok.if1 rfl (fun h46 => ?_) (fun h46 => ?_)
                      · replace h46 : (w 0 13 : Int) = 0 := h46
                        refine e_Ok.ps1 (x := (1, 0)) (q := 82) 1 rfl ?_
                        refine e_Ok.getr (z := 19) rfl (el_o rfl) rfl rfl (e_Has.eq hT (kt_o rfl)) ⟨by decide, by decide⟩ ?_
                        have h47 := (e_Has.get hT (c := 19) (k := 0) (lo := 0) (hi := 4) (kt_o rfl) (by decide))
                        refine e_Ok.getf (z := w 19 0) rfl (el_o rfl) rfl rfl rfl (e_bq h47 (by decide) (by decide)) ?_
                        refine e_Ok.ps1 (x := (0, 4)) (q := 89) 1 rfl ?_
                        refine e_Ok.if2 rfl (fun h48 => ?_) (fun h48 => ?_)
                        · replace h48 : (w 19 0 : Int) < 4 := h48
                          refine e_Ok.ps1 (x := (1, 0)) (q := 96) 1 rfl ?_
                          refine e_Ok.getr (z := 19) rfl (el_o rfl) rfl rfl (e_Has.eq hT (kt_o rfl)) ⟨by decide, by decide⟩ ?_
                          refine e_Ok.run (t' := (106, [(0, (1, 0)), (1, (0, a)), (2, (0, b)), (3, (0, c)), (4, (0, e)), (5, (0, g))], [(0, g), (0, e), (0, c), (0, b), (0, a), (1, 19)], w)) 5 rfl ?_
                          refine e_Ok.callV rfl (e_dq hd rfl) rfl rfl rfl rfl (c_75 (e_dq hd rfl) hT (by omega) (by omega) (by omega) (by omega) (by omega) (by omega)) (fun r49 w50 h51 => ?_)
                          obtain ⟨z53, rfl, q52f, q52T, q52r, q52x⟩ := h51
                          refine e_Ok.nrm (q := 109) (st' := [(0, z53)]) rfl rfl ?_
                          refine e_Ok.rets rfl rfl ?_
                          exact ⟨_, rfl, q52T, Or.inr ⟨by omega, (show e_fr kAb w w50 from e_fr.trans (e_fr.refl w) (e_fr.mono q52f (fun c k q => by exact q))), ⟨q52x.1, q52x.2.1, by omega, q52x.2.2⟩⟩⟩
                        · replace h48 : (w 19 0 : Int) ≥ 4 := Int.not_lt.mp (show ¬ ((w 19 0 : Int) < 4) from h48)
                          refine e_Ok.ps1 (x := (0, (-3))) (q := 94) 1 rfl ?_
                          refine e_Ok.rets rfl rfl ?_
                          exact ⟨_, rfl, hT, Or.inl rfl⟩
                      · replace h46 : (w 0 13 : Int) ≠ 0 := (show ¬ ((w 0 13 : Int) = 0) from h46)
                        refine e_Ok.ps1 (x := (0, (-2))) (q := 80) 1 rfl ?_
                        refine e_Ok.rets rfl rfl ?_
                        exact ⟨_, rfl, hT, Or.inl rfl⟩
                    · replace h45 : (1 : Int) = 0 := Classical.not_not.mp (show ¬ ((1 : Int) ≠ 0) from h45)
                      exfalso; omega
                  · refine e_Ok.nrm (q := 66) (st' := [(0, 0)]) rfl rfl ?_
                    refine e_Ok.if1 rfl (fun h55 => ?_) (fun h55 => ?_)
                    · replace h55 : (0 : Int) ≠ 0 := h55
                      exfalso; omega
                    · replace h55 : (0 : Int) = 0 := Classical.not_not.mp (show ¬ ((0 : Int) ≠ 0) from h55)
                      refine e_Ok.ps1 (x := (0, (-1))) (q := 70) 1 rfl ?_
                      refine e_Ok.rets rfl rfl ?_
                      exact ⟨_, rfl, hT, Or.inl rfl⟩
                · replace h24 : (1 : Int) = 0 := Classical.not_not.mp (show ¬ ((1 : Int) ≠ 0) from h24)
                  exfalso; omega
              · refine e_Ok.nrm (q := 40) (st' := [(0, 0)]) rfl rfl ?_
                refine e_Ok.if1 rfl (fun h56 => ?_) (fun h56 => ?_)
                · replace h56 : (0 : Int) ≠ 0 := h56
                  exfalso; omega
                · replace h56 : (0 : Int) = 0 := Classical.not_not.mp (show ¬ ((0 : Int) ≠ 0) from h56)
                  refine e_Ok.ps1 (x := (0, (-1))) (q := 44) 1 rfl ?_
                  refine e_Ok.rets rfl rfl ?_
                  exact ⟨_, rfl, hT, Or.inl rfl⟩
          · refine e_Ok.nrm (q := 28) (st' := [(0, 0)]) rfl rfl ?_
            refine e_Ok.if1 rfl (fun h57 => ?_) (fun h57 => ?_)
            · replace h57 : (0 : Int) = 0 := h57
              refine e_Ok.ps1 (x := (0, (-1))) (q := 44) 1 rfl ?_
              refine e_Ok.rets rfl rfl ?_
              exact ⟨_, rfl, hT, Or.inl rfl⟩
            · replace h57 : (0 : Int) ≠ 0 := (show ¬ ((0 : Int) = 0) from h57)
              exfalso; omega
        · replace h12 : (1 : Int) = 0 := Classical.not_not.mp (show ¬ ((1 : Int) ≠ 0) from h12)
          exfalso; omega
      · refine e_Ok.nrm (q := 14) (st' := [(0, 0)]) rfl rfl ?_
        refine e_Ok.if1 rfl (fun h58 => ?_) (fun h58 => ?_)
        · replace h58 : (0 : Int) ≠ 0 := h58
          exfalso; omega
        · replace h58 : (0 : Int) = 0 := Classical.not_not.mp (show ¬ ((0 : Int) ≠ 0) from h58)
          refine e_Ok.ps1 (x := (0, (-1))) (q := 18) 1 rfl ?_
          refine e_Ok.rets rfl rfl ?_
          exact ⟨_, rfl, hT, Or.inl rfl⟩
  · refine e_Ok.nrm (q := 5) (st' := [(0, 0)]) rfl rfl ?_
    refine e_Ok.if1 rfl (fun h59 => ?_) (fun h59 => ?_)
    · replace h59 : (0 : Int) = 0 := h59
      refine e_Ok.ps1 (x := (0, (-1))) (q := 18) 1 rfl ?_
      refine e_Ok.rets rfl rfl ?_
      exact ⟨_, rfl, hT, Or.inl rfl⟩
    · replace h59 : (0 : Int) ≠ 0 := (show ¬ ((0 : Int) = 0) from h59)
      exfalso; omega
end
end
-- part dj
section
noncomputable section
/-! the class: a joint is told -/
def kAj (a : Int) (c k : Int) : Prop := (c = 17 * a + 86 ∧ k = 8) ∨ (17 * a + 97 ≤ c ∧ c ≤ 17 * a + 102 ∧ 0 ≤ k ∧ k ≤ 6) ∨ ((c = 17 * a + 88 ∨ c = 17 * a + 89) ∧ 1 ≤ k)
theorem no_dj_0 {a : Int} (ha : 0 ≤ a ∧ a ≤ 3) : ¬ kPl a (17 * a + 86) 8 := by unfold kPl; omega
theorem c_2 {d : Nat} (hd : 24 ≤ d) {w : eW} (hT : e_Has kTy w) {a n kd lo hi ln : Int} (ga : 0 ≤ a ∧ a ≤ 3) (hn : w (17 * a + 86) 8 = n) (gn : 0 ≤ n ∧ n ≤ 5) (kx : aK w a) (g_kd : -2147483648 ≤ kd ∧ kd ≤ 2147483647) (g_lo : -2147483648 ≤ lo ∧ lo ≤ 2147483647) (g_hi : -2147483648 ≤ hi ∧ hi ≤ 2147483647) (g_ln : -2147483648 ≤ ln ∧ ln ≤ 2147483647) : e_Ok 20 elay kcode eI d 2 (0, [(0, (1, 17 * a + 86)), (1, (0, kd)), (2, (0, lo)), (3, (0, hi)), (4, (0, ln))], [], w) (fun r w' => ∃ z : Int, r = [(0, z)] ∧ e_fr (kAj a) w w' ∧ e_Has kTy w' ∧ z = n ∧ (w' (17 * a + n + 97) 0 = kd ∧ w' (17 * a + n + 97) 1 = lo ∧ w' (17 * a + n + 97) 2 = hi ∧ w' (17 * a + n + 97) 3 = ln ∧ w' (17 * a + n + 97) 4 = 0 ∧ w' (17 * a + n + 97) 5 = 100 ∧ w' (17 * a + n + 97) 6 = 10) ∧ w' (17 * a + 86) 8 = n + 1 ∧ (∀ j k, 0 ≤ j → j ≤ 5 → j ≠ n → w' (17 * a + j + 97) k = w (17 * a + j + 97) k) ∧ aK w' a ∧ aP w' a) := by
  obtain ⟨d, rfl⟩ : ∃ e, d = e + 1 := ⟨d - 1, by omega⟩
  refine e_Ok.ps1 (x := (1, 17 * a + 86)) (q := 1) 1 rfl ?_
  refine e_Ok.getr (z := 17 * a + 87) rfl (lA0 (a := a) rfl ga) rfl rfl (Eq.trans (e_Has.eq hT (kA_0 (a := a) rfl ga)) (by omega)) (by omega) ?_
  refine e_Ok.ps1 (x := (1, 17 * a + 86)) (q := 5) 1 rfl ?_
  refine e_Ok.getf (z := n) rfl (lA0 (a := a) rfl ga) rfl rfl hn (by omega) ?_
  refine e_Ok.aald (z := 17 * a + n + 97) rfl (lA1 (a := a) rfl ga) rfl (by omega) (Eq.trans (e_Has.eq hT (kA87 (a := a) rfl ga (by omega))) (by omega)) (by omega) ?_
  refine e_Ok.run (t' := (14, [(5, (1, 17 * a + n + 97)), (0, (1, 17 * a + 86)), (1, (0, kd)), (2, (0, lo)), (3, (0, hi)), (4, (0, ln))], [(0, kd), (1, 17 * a + n + 97)], w)) 3 rfl ?_
  refine e_Ok.putf rfl (lJ (a := a) (j := n) (by omega) (by omega) (by omega)) rfl rfl ?_
  generalize hw1 : e_up w (17 * a + n + 97) 0 kd = w1
  have f2 : e_fr (kAj a) w w1 := e_fr.up (e_fr.refl w) hw1 (by unfold kAj; omega)
  have hT3 : e_Has kTy w1 := e_Has.upr hT hw1 (kJ_0 (a := a) (j := n) (by omega) (by omega) (by omega)) (by omega)
  refine e_Ok.ps2 (x := (0, lo)) (y := (1, 17 * a + n + 97)) (q := 20) 2 rfl ?_
  refine e_Ok.putf rfl (lJ (a := a) (j := n) (by omega) (by omega) (by omega)) rfl rfl ?_
  generalize hw4 : e_up w1 (17 * a + n + 97) 1 lo = w4
  have f5 : e_fr (kAj a) w w4 := e_fr.up f2 hw4 (by unfold kAj; omega)
  have hT6 : e_Has kTy w4 := e_Has.upr hT3 hw4 (kJ_1 (a := a) (j := n) (by omega) (by omega) (by omega)) (by omega)
  refine e_Ok.ps2 (x := (0, hi)) (y := (1, 17 * a + n + 97)) (q := 26) 2 rfl ?_
  refine e_Ok.putf rfl (lJ (a := a) (j := n) (by omega) (by omega) (by omega)) rfl rfl ?_
  generalize hw7 : e_up w4 (17 * a + n + 97) 2 hi = w7
  have f8 : e_fr (kAj a) w w7 := e_fr.up f5 hw7 (by unfold kAj; omega)
  have hT9 : e_Has kTy w7 := e_Has.upr hT6 hw7 (kJ_2 (a := a) (j := n) (by omega) (by omega) (by omega)) (by omega)
  refine e_Ok.ps2 (x := (0, ln)) (y := (1, 17 * a + n + 97)) (q := 33) 2 rfl ?_
  refine e_Ok.putf rfl (lJ (a := a) (j := n) (by omega) (by omega) (by omega)) rfl rfl ?_
  generalize hw10 : e_up w7 (17 * a + n + 97) 3 ln = w10
  have f11 : e_fr (kAj a) w w10 := e_fr.up f8 hw10 (by unfold kAj; omega)
  have hT12 : e_Has kTy w10 := e_Has.upr hT9 hw10 (kJ_3 (a := a) (j := n) (by omega) (by omega) (by omega)) (by omega)
  refine e_Ok.ps2 (x := (0, 0)) (y := (1, 17 * a + n + 97)) (q := 39) 2 rfl ?_
  refine e_Ok.putf rfl (lJ (a := a) (j := n) (by omega) (by omega) (by omega)) rfl rfl ?_
  generalize hw13 : e_up w10 (17 * a + n + 97) 4 0 = w13
  have hT15 : e_Has kTy w13 := e_Has.upr hT12 hw13 (kJ_4 (a := a) (j := n) (by omega) (by omega) (by omega)) (by omega)
  refine e_Ok.ps2 (x := (0, 100)) (y := (1, 17 * a + n + 97)) (q := 46) 2 rfl ?_
  refine e_Ok.putf rfl (lJ (a := a) (j := n) (by omega) (by omega) (by omega)) rfl rfl ?_
  generalize hw16 : e_up w13 (17 * a + n + 97) 5 100 = w16
  have hT18 : e_Has kTy w16 := e_Has.upr hT15 hw16 (kJ_5 (a := a) (j := n) (by omega) (by omega) (by omega)) (by omega)
  refine e_Ok.ps2 (x := (0, 10)) (y := (1, 17 * a + n + 97)) (q := 53) 2 rfl ?_
  refine e_Ok.putf rfl (lJ (a := a) (j := n) (by omega) (by omega) (by omega)) rfl rfl ?_
  generalize hw19 : e_up w16 (17 * a + n + 97) 6 10 = w19
  have hT21 : e_Has kTy w19 := e_Has.upr hT18 hw19 (kJ_6 (a := a) (j := n) (by omega) (by omega) (by omega)) (by omega)
  refine e_Ok.ps2 (x := (1, 17 * a + 86)) (y := (1, 17 * a + 86)) (q := 58) 2 rfl ?_
  refine e_Ok.getf (z := n) rfl (lA0 (a := a) rfl ga) rfl rfl (e_uq hw19 (Or.inr (by decide)) (e_uq hw16 (Or.inr (by decide)) (e_uq hw13 (Or.inr (by decide)) (e_uq hw10 (Or.inr (by decide)) (e_uq hw7 (Or.inr (by decide)) (e_uq hw4 (Or.inr (by decide)) (e_uq hw1 (Or.inr (by decide)) hn))))))) (by omega) ?_
  refine e_Ok.ps1 (x := (0, 1)) (q := 62) 1 rfl ?_
  refine e_Ok.add (z := n + 1) rfl rfl (by omega) ?_
  refine e_Ok.putf rfl (lA0 (a := a) rfl ga) rfl rfl ?_
  generalize hw22 : e_up w19 (17 * a + 86) 8 (n + 1) = w22
  have hT24 : e_Has kTy w22 := e_Has.upr hT21 hw22 (kA_8 (a := a) rfl ga) (by omega)
  refine e_Ok.ps1 (x := (1, 17 * a + 86)) (q := 67) 1 rfl ?_
  have f0 : w22 (17 * a + n + 97) 0 = kd := (e_uq hw22 (Or.inr (by decide)) (e_uq hw19 (Or.inr (by decide)) (e_uq hw16 (Or.inr (by decide)) (e_uq hw13 (Or.inr (by decide)) (e_uq hw10 (Or.inr (by decide)) (e_uq hw7 (Or.inr (by decide)) (e_uq hw4 (Or.inr (by decide)) (e_ue hw1))))))))
  have f1 : w22 (17 * a + n + 97) 1 = lo := (e_uq hw22 (Or.inr (by decide)) (e_uq hw19 (Or.inr (by decide)) (e_uq hw16 (Or.inr (by decide)) (e_uq hw13 (Or.inr (by decide)) (e_uq hw10 (Or.inr (by decide)) (e_uq hw7 (Or.inr (by decide)) (e_ue hw4)))))))
  have f2 : w22 (17 * a + n + 97) 2 = hi := (e_uq hw22 (Or.inr (by decide)) (e_uq hw19 (Or.inr (by decide)) (e_uq hw16 (Or.inr (by decide)) (e_uq hw13 (Or.inr (by decide)) (e_uq hw10 (Or.inr (by decide)) (e_ue hw7))))))
  have f3 : w22 (17 * a + n + 97) 3 = ln := (e_uq hw22 (Or.inr (by decide)) (e_uq hw19 (Or.inr (by decide)) (e_uq hw16 (Or.inr (by decide)) (e_uq hw13 (Or.inr (by decide)) (e_ue hw10)))))
  have f4 : w22 (17 * a + n + 97) 4 = 0 := (e_uq hw22 (Or.inr (by decide)) (e_uq hw19 (Or.inr (by decide)) (e_uq hw16 (Or.inr (by decide)) (e_ue hw13))))
  have f5 : w22 (17 * a + n + 97) 5 = 100 := (e_uq hw22 (Or.inr (by decide)) (e_uq hw19 (Or.inr (by decide)) (e_ue hw16)))
  have f6 : w22 (17 * a + n + 97) 6 = 10 := (e_uq hw22 (Or.inr (by decide)) (e_ue hw19))
  have f8 : w22 (17 * a + 86) 8 = n + 1 := (e_ue hw22)
  have fo : ∀ j k, 0 ≤ j → j ≤ 5 → j ≠ n → w22 (17 * a + j + 97) k = w (17 * a + j + 97) k := fun j k g1 g2 g3 => by rw [← hw22, e_up_ne _ _ (by omega), ← hw19, e_up_ne _ _ (by omega), ← hw16, e_up_ne _ _ (by omega), ← hw13, e_up_ne _ _ (by omega), ← hw10, e_up_ne _ _ (by omega), ← hw7, e_up_ne _ _ (by omega), ← hw4, e_up_ne _ _ (by omega), ← hw1, e_up_ne _ _ (by omega)]
  refine e_Ok.callV rfl (e_dq hd rfl) rfl (lA0 (a := a) rfl ga) rfl rfl (c_10_p (e_dq hd rfl) (a := a) hT24 (by omega) (by rw [← hw22, e_up_ne _ _ (by omega), ← hw19, e_up_ne _ _ (by omega), ← hw16, e_up_ne _ _ (by omega), ← hw13, e_up_ne _ _ (by omega), ← hw10, e_up_ne _ _ (by omega), ← hw7, e_up_ne _ _ (by omega), ← hw4, e_up_ne _ _ (by omega), ← hw1, e_up_ne _ _ (by omega)]; exact kx.1 0 (by omega) (by omega)) (by rw [← hw22, e_up_ne _ _ (by omega), ← hw19, e_up_ne _ _ (by omega), ← hw16, e_up_ne _ _ (by omega), ← hw13, e_up_ne _ _ (by omega), ← hw10, e_up_ne _ _ (by omega), ← hw7, e_up_ne _ _ (by omega), ← hw4, e_up_ne _ _ (by omega), ← hw1, e_up_ne _ _ (by omega)]; exact kx.2 0 (by omega) (by omega))) (fun r25 w26 h27 => ?_)
  obtain ⟨rfl, q28f, q28T, q28x, q28p⟩ := h27
  refine e_Ok.nrm (q := 70) (st' := []) rfl rfl ?_
  refine e_Ok.ps1 (x := (1, 17 * a + 86)) (q := 71) 1 rfl ?_
  refine e_Ok.getf (z := n + 1) rfl (lA0 (a := a) rfl ga) rfl rfl ((q28f (17 * a + 86) 8 (by first | exact no_dj_0 (by omega) | (unfold kPl; omega))).trans (e_ue hw22)) (by omega) ?_
  refine e_Ok.ps1 (x := (0, 1)) (q := 75) 1 rfl ?_
  refine e_Ok.sub' (z := n) rfl (by omega) (by omega) ?_
  refine e_Ok.rets rfl rfl ?_
  exact ⟨_, rfl, (show e_fr (kAj a) w w26 from e_fr.trans (show e_fr (kAj a) w w22 from e_fr.up (show e_fr (kAj a) w w19 from e_fr.up (show e_fr (kAj a) w w16 from e_fr.up (show e_fr (kAj a) w w13 from e_fr.up f11 hw13 (by unfold kAj; omega)) hw16 (by unfold kAj; omega)) hw19 (by unfold kAj; omega)) hw22 (by first | exact Or.inl ⟨(by omega), rfl⟩ | (unfold kAj; omega))) (e_fr.mono q28f (fun c k q => by exact (by unfold kPl at q; unfold kAj; omega)))), q28T, by omega, ⟨(by rw [q28f _ _ (by unfold kPl; omega)]; exact f0), (by rw [q28f _ _ (by unfold kPl; omega)]; exact f1), (by rw [q28f _ _ (by unfold kPl; omega)]; exact f2), (by rw [q28f _ _ (by unfold kPl; omega)]; exact f3), (by rw [q28f _ _ (by unfold kPl; omega)]; exact f4), (by rw [q28f _ _ (by unfold kPl; omega)]; exact f5), (by rw [q28f _ _ (by unfold kPl; omega)]; exact f6)⟩, (by rw [q28f _ _ (by unfold kPl; omega)]; exact f8), (fun j k g1 g2 g3 => by rw [q28f _ _ (by unfold kPl; omega)]; exact fo j k g1 g2 g3), q28x, q28p⟩
end
end
