noncomputable section
/-- how far an arm reaches with its first joints, as the class has them -/
def jsK (w : eW) (a : Int) : Nat → Int
  | 0 => 0
  | n + 1 => jsK w a n + (w (17 * a + n + 97) 3 + (if w (17 * a + n + 97) 0 = 1 then w (17 * a + n + 97) 2 else 0))
theorem jsK_s {w : eW} {a y : Int} (hy : 0 ≤ y) : jsK w a (y + 1).toNat = jsK w a y.toNat + (w (17 * a + y + 97) 3 + (if w (17 * a + y + 97) 0 = 1 then w (17 * a + y + 97) 2 else 0)) := by
  obtain ⟨n, rfl⟩ := Int.eq_ofNat_of_zero_le hy
  rfl
/-- the told joints of an arm have numbers that may be told -/
def jBd (w : eW) (a : Int) : Prop := ∀ j, 0 ≤ j → j < w (17 * a + 86) 8 → (0 ≤ w (17 * a + j + 97) 3 ∧ w (17 * a + j + 97) 3 ≤ 8000) ∧ 0 ≤ w (17 * a + j + 97) 2 ∧ w (17 * a + j + 97) 2 ≤ 100000
theorem c_5_e {d : Nat} {w : eW} (hT : e_Has kTy w) {a : Int} (ga : 0 ≤ a ∧ a ≤ 3) (hB : jBd w a) : e_Ok 20 elay kcode eI d 5 (0, [(0, (1, 17 * a + 86))], [], w) (fun r w' => ∃ z : Int, r = [(0, z)] ∧ w = w' ∧ (0 ≤ z ∧ z ≤ 648000) ∧ z = jsK w a (w (17 * a + 86) 8).toNat) := by
  have hjn := kn_joints hT (a := a) (by omega)
  refine e_Ok.run (t' := (4, [(2, (0, 0)), (1, (0, 0)), (0, (1, 17 * a + 86))], [], w)) 4 rfl ?_
  have hL1 : ∀ (nn : Nat) (y1 : Int) (y2 : Int), (0 ≤ y1 ∧ y1 ≤ 108000 * y2) ∧ (0 ≤ y2 ∧ y2 ≤ 6 ∧ y2 ≤ w (17 * a + 86) 8) ∧ y1 = jsK w a y2.toNat → 7 - y2 < nn → e_Ok 20 elay kcode eI d 5 (4, [(0, (1, 17 * a + 86)), (1, (0, y1)), (2, (0, y2))], [], w) (fun r w' => ∃ z : Int, r = [(0, z)] ∧ w = w' ∧ (0 ≤ z ∧ z ≤ 648000) ∧ z = jsK w a (w (17 * a + 86) 8).toNat) := by
    intro nn
    induction nn with
    | zero => intro y1 y2 hj hm; obtain ⟨j3, j4, j5⟩ := hj; exfalso; omega
    | succ nn ih2 =>
      intro y1 y2 hj hm
      obtain ⟨j3, j4, j5⟩ := hj
      refine e_Ok.run (t' := (6, [(0, (1, 17 * a + 86)), (1, (0, y1)), (2, (0, y2))], [(1, 17 * a + 86), (0, y2)], w)) 2 rfl ?_
      have h6 := (e_Has.get hT (c := 17 * a + 86) (k := 8) (lo := 0) (hi := 6) (kA_8 (a := a) rfl ga) (by decide))
      refine e_Ok.getf (z := w (17 * a + 86) 8) rfl (lA0 (a := a) rfl ga) rfl rfl rfl (e_bq h6 (by decide) (by decide)) ?_
      refine e_Ok.if2 rfl (fun h7 => ?_) (fun h7 => ?_)
      · replace h7 : (y2 : Int) ≥ w (17 * a + 86) 8 := h7
        refine e_Ok.ps1 (x := (0, y1)) (q := 58) 1 rfl ?_
        refine e_Ok.rets rfl rfl ?_
        exact ⟨_, rfl, rfl, by omega, by rw [← (show y2 = w (17 * a + 86) 8 by omega)]; assumption⟩
      · replace h7 : (y2 : Int) < w (17 * a + 86) 8 := Int.not_le.mp (show ¬ ((y2 : Int) ≥ w (17 * a + 86) 8) from h7)
        have hb := hB y2 (by omega) (by omega)
        refine e_Ok.ps2 (x := (1, 17 * a + 86)) (y := (0, y1)) (q := 14) 2 rfl ?_
        refine e_Ok.getr (z := 17 * a + 87) rfl (lA0 (a := a) rfl ga) rfl rfl (Eq.trans (e_Has.eq hT (kA_0 (a := a) rfl ga)) (by omega)) (by omega) ?_
        refine e_Ok.ps1 (x := (0, y2)) (q := 18) 1 rfl ?_
        refine e_Ok.aald (z := 17 * a + y2 + 97) rfl (lA1 (a := a) rfl ga) rfl (by omega) (Eq.trans (e_Has.eq hT (kA87 (a := a) rfl ga (by omega))) (by omega)) (by omega) ?_
        refine e_Ok.getf (z := w (17 * a + y2 + 97) 3) rfl (lJ (a := a) (j := y2) (by omega) (by omega) (by omega)) rfl rfl rfl (by omega) ?_
        refine e_Ok.ps1 (x := (1, 17 * a + 86)) (q := 23) 1 rfl ?_
        refine e_Ok.getr (z := 17 * a + 87) rfl (lA0 (a := a) rfl ga) rfl rfl (Eq.trans (e_Has.eq hT (kA_0 (a := a) rfl ga)) (by omega)) (by omega) ?_
        refine e_Ok.ps1 (x := (0, y2)) (q := 27) 1 rfl ?_
        refine e_Ok.aald (z := 17 * a + y2 + 97) rfl (lA1 (a := a) rfl ga) rfl (by omega) (Eq.trans (e_Has.eq hT (kA87 (a := a) rfl ga (by omega))) (by omega)) (by omega) ?_
        have h8 := (e_Has.get hT (c := 17 * a + y2 + 97) (k := 0) (lo := (-2147483648)) (hi := 2147483647) (kJ_0 (a := a) (j := y2) (by omega) (by omega) (by omega)) (by decide))
        refine e_Ok.getf (z := w (17 * a + y2 + 97) 0) rfl (lJ (a := a) (j := y2) (by omega) (by omega) (by omega)) rfl rfl rfl (e_bq h8 (by decide) (by decide)) ?_
        refine e_Ok.ps1 (x := (0, 1)) (q := 32) 1 rfl ?_
        refine e_Ok.if2 rfl (fun h9 => ?_) (fun h9 => ?_)
        · replace h9 : (w (17 * a + y2 + 97) 0 : Int) ≠ 1 := h9
          refine e_Ok.ps1 (x := (0, 0)) (q := 48) 1 rfl ?_
          refine e_Ok.add (z := w (17 * a + y2 + 97) 3) rfl (by omega) (by omega) ?_
          refine e_Ok.add (z := y1 + w (17 * a + y2 + 97) 3) rfl rfl (by omega) ?_
          refine e_Ok.run (t' := (51, [(1, (0, y1 + w (17 * a + y2 + 97) 3)), (0, (1, 17 * a + 86)), (2, (0, y2))], [], w)) 1 rfl ?_
          refine e_Ok.inc (z := y2 + 1) rfl rfl (by first | with_reducible rfl | omega) (by omega) ?_
          show e_Ok 20 elay kcode eI d 5 (54, [(2, (0, y2 + 1)), (1, (0, y1 + w (17 * a + y2 + 97) 3)), (0, (1, 17 * a + 86))], [], w) _
          refine e_Ok.ps0 (q := 4) 1 rfl ?_
          refine e_Ok.sub kAlk (e_sub_of rfl ?_) (ih2 (y1 + w (17 * a + y2 + 97) 3) (y2 + 1) ⟨by omega, by omega, by rw [jsK_s (by omega)]; omega⟩ (by omega))
          exact ⟨rfl, rfl, rfl, trivial⟩
        · replace h9 : (w (17 * a + y2 + 97) 0 : Int) = 1 := Classical.not_not.mp (show ¬ ((w (17 * a + y2 + 97) 0 : Int) ≠ 1) from h9)
          refine e_Ok.ps1 (x := (1, 17 * a + 86)) (q := 36) 1 rfl ?_
          refine e_Ok.getr (z := 17 * a + 87) rfl (lA0 (a := a) rfl ga) rfl rfl (Eq.trans (e_Has.eq hT (kA_0 (a := a) rfl ga)) (by omega)) (by omega) ?_
          refine e_Ok.ps1 (x := (0, y2)) (q := 40) 1 rfl ?_
          refine e_Ok.aald (z := 17 * a + y2 + 97) rfl (lA1 (a := a) rfl ga) rfl (by omega) (Eq.trans (e_Has.eq hT (kA87 (a := a) rfl ga (by omega))) (by omega)) (by omega) ?_
          refine e_Ok.getf (z := w (17 * a + y2 + 97) 2) rfl (lJ (a := a) (j := y2) (by omega) (by omega) (by omega)) rfl rfl rfl (by omega) ?_
          refine e_Ok.ps0 (q := 48) 1 rfl ?_
          refine e_Ok.add (z := w (17 * a + y2 + 97) 3 + w (17 * a + y2 + 97) 2) rfl rfl (by omega) ?_
          refine e_Ok.add (z := y1 + w (17 * a + y2 + 97) 3 + w (17 * a + y2 + 97) 2) rfl (by omega) (by omega) ?_
          refine e_Ok.run (t' := (51, [(1, (0, y1 + w (17 * a + y2 + 97) 3 + w (17 * a + y2 + 97) 2)), (0, (1, 17 * a + 86)), (2, (0, y2))], [], w)) 1 rfl ?_
          refine e_Ok.inc (z := y2 + 1) rfl rfl (by first | with_reducible rfl | omega) (by omega) ?_
          show e_Ok 20 elay kcode eI d 5 (54, [(2, (0, y2 + 1)), (1, (0, y1 + w (17 * a + y2 + 97) 3 + w (17 * a + y2 + 97) 2)), (0, (1, 17 * a + 86))], [], w) _
          refine e_Ok.ps0 (q := 4) 1 rfl ?_
          refine e_Ok.sub kAlk (e_sub_of rfl ?_) (ih2 (y1 + w (17 * a + y2 + 97) 3 + w (17 * a + y2 + 97) 2) (y2 + 1) ⟨by omega, by omega, by rw [jsK_s (by omega)]; omega⟩ (by omega))
          exact ⟨rfl, rfl, rfl, trivial⟩
  refine e_Ok.sub kAlk (e_sub_of rfl ?_) (hL1 (7 + 1 : Int).toNat 0 0 ⟨by omega, by omega, rfl⟩ (by omega))
  exact ⟨rfl, rfl, rfl, trivial⟩
set_option maxHeartbeats 4000000 in
theorem c_194_e {d : Nat} (hd : 28 ≤ d) {w : eW} (hT : e_Has kTy w) (hO : 0 ≤ w 0 13 ∧ w 0 13 ≤ 1) (ka : ∀ a, 0 ≤ a → a ≤ 3 → aK w a) (hB : ∀ a, 0 ≤ a → a < w 0 11 → jBd w a) {a : Int} (g_a : (-2147483648) ≤ a ∧ a ≤ 2147483647) {kd : Int} (g_kd : (-2147483648) ≤ kd ∧ kd ≤ 2147483647) {lo : Int} (g_lo : (-2147483648) ≤ lo ∧ lo ≤ 2147483647) {hi : Int} (g_hi : (-2147483648) ≤ hi ∧ hi ≤ 2147483647) {ln : Int} (g_ln : (-2147483648) ≤ ln ∧ ln ≤ 2147483647) : e_Ok 20 elay kcode eI d 194 (0, [(0, (1, 0)), (1, (0, a)), (2, (0, kd)), (3, (0, lo)), (4, (0, hi)), (5, (0, ln))], [], w) (fun r w' => ∃ z : Int, r = [(0, z)] ∧ ((w = w' ∧ ((¬ ((0 ≤ a ∧ a < w 0 11) ∧ (0 ≤ kd ∧ kd ≤ 1) ∧ ((kd = 0 ∧ (-100000 ≤ lo ∧ lo ≤ 0) ∧ (0 ≤ hi ∧ hi ≤ 100000)) ∨ (kd = 1 ∧ (-8000 ≤ lo ∧ lo ≤ 0) ∧ (0 ≤ hi ∧ hi ≤ 8000))) ∧ (0 ≤ ln ∧ ln ≤ 8000) ∧ ¬ (kd = 1 ∧ ln + lo < 0) ∧ ln + (if kd = 1 then hi else 0) + jsK w a (w (17 * a + 86) 8).toNat ≤ 8000) ∧ z = -1) ∨ (((0 ≤ a ∧ a < w 0 11) ∧ (0 ≤ kd ∧ kd ≤ 1) ∧ ((kd = 0 ∧ (-100000 ≤ lo ∧ lo ≤ 0) ∧ (0 ≤ hi ∧ hi ≤ 100000)) ∨ (kd = 1 ∧ (-8000 ≤ lo ∧ lo ≤ 0) ∧ (0 ≤ hi ∧ hi ≤ 8000))) ∧ (0 ≤ ln ∧ ln ≤ 8000) ∧ ¬ (kd = 1 ∧ ln + lo < 0) ∧ ln + (if kd = 1 then hi else 0) + jsK w a (w (17 * a + 86) 8).toNat ≤ 8000) ∧ ((w 0 13 ≠ 0 ∧ z = -2) ∨ (w 0 13 = 0 ∧ w (17 * a + 86) 8 = 6 ∧ z = -3))))) ∨ ((((0 ≤ a ∧ a < w 0 11) ∧ (0 ≤ kd ∧ kd ≤ 1) ∧ ((kd = 0 ∧ (-100000 ≤ lo ∧ lo ≤ 0) ∧ (0 ≤ hi ∧ hi ≤ 100000)) ∨ (kd = 1 ∧ (-8000 ≤ lo ∧ lo ≤ 0) ∧ (0 ≤ hi ∧ hi ≤ 8000))) ∧ (0 ≤ ln ∧ ln ≤ 8000) ∧ ¬ (kd = 1 ∧ ln + lo < 0) ∧ ln + (if kd = 1 then hi else 0) + jsK w a (w (17 * a + 86) 8).toNat ≤ 8000) ∧ w 0 13 = 0 ∧ w (17 * a + 86) 8 ≤ 5) ∧ z = w (17 * a + 86) 8 ∧ e_fr (kAj a) w w' ∧ (w' (17 * a + w (17 * a + 86) 8 + 97) 0 = kd ∧ w' (17 * a + w (17 * a + 86) 8 + 97) 1 = lo ∧ w' (17 * a + w (17 * a + 86) 8 + 97) 2 = hi ∧ w' (17 * a + w (17 * a + 86) 8 + 97) 3 = ln ∧ w' (17 * a + w (17 * a + 86) 8 + 97) 4 = 0 ∧ w' (17 * a + w (17 * a + 86) 8 + 97) 5 = 100 ∧ w' (17 * a + w (17 * a + 86) 8 + 97) 6 = 10) ∧ w' (17 * a + 86) 8 = w (17 * a + 86) 8 + 1 ∧ (∀ j k, 0 ≤ j → j ≤ 5 → j ≠ w (17 * a + 86) 8 → w' (17 * a + j + 97) k = w (17 * a + j + 97) k)))) := by
  obtain ⟨d, rfl⟩ : ∃ e, d = e + 1 := ⟨d - 1, by omega⟩
  have hw0 := e_Has.get hT (c := 0) (k := 11) (lo := 0) (hi := 4) (kt_o rfl) (by decide)
  refine e_Ok.ps2 (x := (0, a)) (y := (1, 0)) (q := 2) 2 rfl ?_
  refine e_Ok.callV rfl (e_dq hd rfl) rfl rfl rfl rfl (c_246 (e_dq hd rfl) hT (by omega)) (fun r1 w2 h3 => ?_)
  obtain ⟨z4, rfl, rfl, q5⟩ := h3
  obtain ⟨rfl, q5⟩ | ⟨rfl, q5⟩ := q5
  · refine e_Ok.nrm (q := 5) (st' := [(0, 1)]) rfl rfl ?_
    refine e_Ok.if1 rfl (fun h6 => ?_) (fun h6 => ?_)
    · replace h6 : (1 : Int) = 0 := h6
      exfalso; omega
    · replace h6 : (1 : Int) ≠ 0 := (show ¬ ((1 : Int) = 0) from h6)
      refine e_Ok.ps3 (x := (0, 1)) (y := (0, 0)) (z := (0, kd)) (q := 11) 3 rfl ?_
      refine e_Ok.callS rfl (e_dq hd rfl) rfl rfl (c_242 (by omega) (by omega) (by omega)) (fun r7 w8 h9 => ?_)
      obtain ⟨z10, rfl, rfl, q11⟩ := h9
      obtain ⟨rfl, q11⟩ | ⟨rfl, q11⟩ := q11
      · refine e_Ok.nrm (q := 14) (st' := [(0, 1)]) rfl rfl ?_
        refine e_Ok.if1 rfl (fun h12 => ?_) (fun h12 => ?_)
        · replace h12 : (1 : Int) ≠ 0 := h12
          refine e_Ok.ps1 (x := (0, kd)) (q := 20) 1 rfl ?_
          refine e_Ok.if1 rfl (fun h13 => ?_) (fun h13 => ?_)
          · replace h13 : (kd : Int) ≠ 0 := h13
            refine e_Ok.run (t' := (36, [(6, (0, 8000)), (0, (1, 0)), (1, (0, a)), (2, (0, kd)), (3, (0, lo)), (4, (0, hi)), (5, (0, ln))], [(0, 8000), (0, lo)], w)) 4 rfl ?_
            refine e_Ok.neg (z := (-8000)) rfl (by omega) (by omega) ?_
            refine e_Ok.ps1 (x := (0, 0)) (q := 38) 1 rfl ?_
            refine e_Ok.callS rfl (e_dq hd rfl) rfl rfl (c_242 (by omega) (by omega) (by omega)) (fun r14 w15 h16 => ?_)
            obtain ⟨z17, rfl, rfl, q18⟩ := h16
            obtain ⟨rfl, q18⟩ | ⟨rfl, q18⟩ := q18
            · refine e_Ok.nrm (q := 41) (st' := [(0, 1)]) rfl rfl ?_
              refine e_Ok.if1 rfl (fun h19 => ?_) (fun h19 => ?_)
              · replace h19 : (1 : Int) = 0 := h19
                exfalso; omega
              · replace h19 : (1 : Int) ≠ 0 := (show ¬ ((1 : Int) = 0) from h19)
                refine e_Ok.ps3 (x := (0, 8000)) (y := (0, 0)) (z := (0, hi)) (q := 49) 3 rfl ?_
                refine e_Ok.callS rfl (e_dq hd rfl) rfl rfl (c_242 (by omega) (by omega) (by omega)) (fun r20 w21 h22 => ?_)
                obtain ⟨z23, rfl, rfl, q24⟩ := h22
                obtain ⟨rfl, q24⟩ | ⟨rfl, q24⟩ := q24
                · refine e_Ok.nrm (q := 52) (st' := [(0, 1)]) rfl rfl ?_
                  refine e_Ok.if1 rfl (fun h25 => ?_) (fun h25 => ?_)
                  · replace h25 : (1 : Int) ≠ 0 := h25
                    refine e_Ok.ps3 (x := (0, 8000)) (y := (0, 0)) (z := (0, ln)) (q := 63) 3 rfl ?_
                    refine e_Ok.callS rfl (e_dq hd rfl) rfl rfl (c_242 (by omega) (by omega) (by omega)) (fun r26 w27 h28 => ?_)
                    obtain ⟨z29, rfl, rfl, q30⟩ := h28
                    obtain ⟨rfl, q30⟩ | ⟨rfl, q30⟩ := q30
                    · refine e_Ok.nrm (q := 66) (st' := [(0, 1)]) rfl rfl ?_
                      refine e_Ok.if1 rfl (fun h31 => ?_) (fun h31 => ?_)
                      · replace h31 : (1 : Int) ≠ 0 := h31
                        refine e_Ok.ps2 (x := (0, 1)) (y := (0, kd)) (q := 73) 2 rfl ?_
                        refine e_Ok.if2 rfl (fun h32 => ?_) (fun h32 => ?_)
                        · replace h32 : (kd : Int) ≠ 1 := h32
                          exfalso; omega
                        · replace h32 : (kd : Int) = 1 := Classical.not_not.mp (show ¬ ((kd : Int) ≠ 1) from h32)
                          refine e_Ok.ps2 (x := (0, lo)) (y := (0, ln)) (q := 79) 2 rfl ?_
                          refine e_Ok.add (z := ln + lo) rfl rfl (by omega) ?_
                          refine e_Ok.if1 rfl (fun h33 => ?_) (fun h33 => ?_)
                          · replace h33 : (ln + lo : Int) ≥ 0 := h33
                            refine e_Ok.ps2 (x := (0, 1)) (y := (0, kd)) (q := 87) 2 rfl ?_
                            refine e_Ok.if2 rfl (fun h34 => ?_) (fun h34 => ?_)
                            · replace h34 : (kd : Int) ≠ 1 := h34
                              exfalso; omega
                            · replace h34 : (kd : Int) = 1 := Classical.not_not.mp (show ¬ ((kd : Int) ≠ 1) from h34)
                              refine e_Ok.ps2 (x := (0, hi)) (y := (0, ln)) (q := 94) 2 rfl ?_
                              refine e_Ok.add (z := ln + hi) rfl rfl (by omega) ?_
                              refine e_Ok.run (t' := (103, [(7, (0, ln + hi)), (6, (0, 8000)), (0, (1, 0)), (1, (0, a)), (2, (0, kd)), (3, (0, lo)), (4, (0, hi)), (5, (0, ln))], [(1, 0)], w)) 3 rfl ?_
                              refine e_Ok.getr (z := 9) rfl (el_o rfl) rfl rfl (Eq.trans (e_Has.eq hT (kt_o rfl)) (by omega)) ⟨by decide, by decide⟩ ?_
                              refine e_Ok.ps1 (x := (0, a)) (q := 107) 1 rfl ?_
                              refine e_Ok.aald (z := 17 * a + 86) rfl (el_o rfl) rfl (by omega) (Eq.trans (e_Has.eq hT (k9 (by omega))) (by omega)) (by omega) ?_
                              refine e_Ok.callV rfl (e_dq hd rfl) rfl (lA0 (a := a) (by omega) (by omega)) rfl rfl (c_5_e (a := a) hT (by omega) (hB a (by omega) (by omega))) (fun r35 w36 h37 => ?_)
                              obtain ⟨z38, rfl, rfl, lz, le⟩ := h37
                              refine e_Ok.nrm (q := 111) (st' := [(0, z38)]) rfl rfl ?_
                              refine e_Ok.ps1 (x := (0, ln + hi)) (q := 113) 1 rfl ?_
                              refine e_Ok.add (z := z38 + ln + hi) rfl (by omega) (by omega) ?_
                              refine e_Ok.ps1 (x := (0, 8000)) (q := 117) 1 rfl ?_
                              refine e_Ok.if2 rfl (fun h40 => ?_) (fun h40 => ?_)
                              · replace h40 : (z38 + ln + hi : Int) ≤ 8000 := h40
                                refine e_Ok.ps1 (x := (1, 0)) (q := 123) 1 rfl ?_
                                refine e_Ok.getf (z := w 0 13) rfl (el_o rfl) rfl rfl rfl (by omega) ?_
                                refine e_Ok.if1 rfl (fun h41 => ?_) (fun h41 => ?_)
                                · replace h41 : (w 0 13 : Int) = 0 := h41
                                  refine e_Ok.ps1 (x := (1, 0)) (q := 133) 1 rfl ?_
                                  refine e_Ok.getr (z := 9) rfl (el_o rfl) rfl rfl (Eq.trans (e_Has.eq hT (kt_o rfl)) (by omega)) ⟨by decide, by decide⟩ ?_
                                  refine e_Ok.ps1 (x := (0, a)) (q := 137) 1 rfl ?_
                                  refine e_Ok.aald (z := 17 * a + 86) rfl (el_o rfl) rfl (by omega) (Eq.trans (e_Has.eq hT (k9 (by omega))) (by omega)) (by omega) ?_
                                  have h42 := (e_Has.get hT (c := 17 * a + 86) (k := 8) (lo := 0) (hi := 6) (kA_8 (a := a) (by omega) (by omega)) (by decide))
                                  refine e_Ok.getf (z := w (17 * a + 86) 8) rfl (lA0 (a := a) (by omega) (by omega)) rfl rfl rfl (e_bq h42 (by decide) (by decide)) ?_
                                  refine e_Ok.ps1 (x := (0, 6)) (q := 143) 1 rfl ?_
                                  refine e_Ok.if2 rfl (fun h43 => ?_) (fun h43 => ?_)
                                  · replace h43 : (w (17 * a + 86) 8 : Int) < 6 := h43
                                    refine e_Ok.ps1 (x := (1, 0)) (q := 150) 1 rfl ?_
                                    refine e_Ok.getr (z := 9) rfl (el_o rfl) rfl rfl (Eq.trans (e_Has.eq hT (kt_o rfl)) (by omega)) ⟨by decide, by decide⟩ ?_
                                    refine e_Ok.ps1 (x := (0, a)) (q := 154) 1 rfl ?_
                                    refine e_Ok.aald (z := 17 * a + 86) rfl (el_o rfl) rfl (by omega) (Eq.trans (e_Has.eq hT (k9 (by omega))) (by omega)) (by omega) ?_
                                    refine e_Ok.ps4 (x := (0, ln)) (y := (0, hi)) (z := (0, lo)) (u := (0, kd)) (q := 161) 4 rfl ?_
                                    have hjn := kn_joints hT (a := a) (by omega)
                                    refine e_Ok.callV rfl (e_dq hd rfl) rfl (lA0 (a := a) (by omega) (by omega)) rfl rfl (c_2 (e_dq hd rfl) (a := a) (n := w (17 * a + 86) 8) hT (by omega) rfl (by omega) (ka a (by omega) (by omega)) (by omega) (by omega) (by omega) (by omega)) (fun r44 w45 h46 => ?_)
                                    obtain ⟨z47, rfl, jf, jT, jz, jn, j8, jo, jk, -⟩ := h46
                                    have f48 : e_fr (kAj a) w w45 := e_fr.trans (e_fr.refl w) (e_fr.mono jf (fun c k q => by exact q))
                                    refine e_Ok.nrm (q := 164) (st' := [(0, z47)]) rfl rfl ?_
                                    refine e_Ok.rets rfl rfl ?_
                                    exact ⟨_, rfl, Or.inr ⟨by omega, by omega, jf, jn, j8, jo⟩⟩
                                  · replace h43 : (w (17 * a + 86) 8 : Int) ≥ 6 := Int.not_lt.mp (show ¬ ((w (17 * a + 86) 8 : Int) < 6) from h43)
                                    refine e_Ok.ps1 (x := (0, (-3))) (q := 148) 1 rfl ?_
                                    refine e_Ok.rets rfl rfl ?_
                                    exact ⟨_, rfl, Or.inl ⟨rfl, by omega⟩⟩
                                · replace h41 : (w 0 13 : Int) ≠ 0 := (show ¬ ((w 0 13 : Int) = 0) from h41)
                                  refine e_Ok.ps1 (x := (0, (-2))) (q := 131) 1 rfl ?_
                                  refine e_Ok.rets rfl rfl ?_
                                  exact ⟨_, rfl, Or.inl ⟨rfl, by omega⟩⟩
                              · replace h40 : (z38 + ln + hi : Int) > 8000 := Int.not_le.mp (show ¬ ((z38 + ln + hi : Int) ≤ 8000) from h40)
                                refine e_Ok.ps1 (x := (0, (-1))) (q := 121) 1 rfl ?_
                                refine e_Ok.rets rfl rfl ?_
                                exact ⟨_, rfl, Or.inl ⟨rfl, by omega⟩⟩
                          · replace h33 : (ln + lo : Int) < 0 := Int.not_le.mp (show ¬ ((ln + lo : Int) ≥ 0) from h33)
                            refine e_Ok.ps1 (x := (0, (-1))) (q := 84) 1 rfl ?_
                            refine e_Ok.rets rfl rfl ?_
                            exact ⟨_, rfl, Or.inl ⟨rfl, by omega⟩⟩
                      · replace h31 : (1 : Int) = 0 := Classical.not_not.mp (show ¬ ((1 : Int) ≠ 0) from h31)
                        exfalso; omega
                    · refine e_Ok.nrm (q := 66) (st' := [(0, 0)]) rfl rfl ?_
                      refine e_Ok.if1 rfl (fun h49 => ?_) (fun h49 => ?_)
                      · replace h49 : (0 : Int) ≠ 0 := h49
                        exfalso; omega
                      · replace h49 : (0 : Int) = 0 := Classical.not_not.mp (show ¬ ((0 : Int) ≠ 0) from h49)
                        refine e_Ok.ps1 (x := (0, (-1))) (q := 70) 1 rfl ?_
                        refine e_Ok.rets rfl rfl ?_
                        exact ⟨_, rfl, Or.inl ⟨rfl, by omega⟩⟩
                  · replace h25 : (1 : Int) = 0 := Classical.not_not.mp (show ¬ ((1 : Int) ≠ 0) from h25)
                    exfalso; omega
                · refine e_Ok.nrm (q := 52) (st' := [(0, 0)]) rfl rfl ?_
                  refine e_Ok.if1 rfl (fun h50 => ?_) (fun h50 => ?_)
                  · replace h50 : (0 : Int) ≠ 0 := h50
                    exfalso; omega
                  · replace h50 : (0 : Int) = 0 := Classical.not_not.mp (show ¬ ((0 : Int) ≠ 0) from h50)
                    refine e_Ok.ps1 (x := (0, (-1))) (q := 56) 1 rfl ?_
                    refine e_Ok.rets rfl rfl ?_
                    exact ⟨_, rfl, Or.inl ⟨rfl, by omega⟩⟩
            · refine e_Ok.nrm (q := 41) (st' := [(0, 0)]) rfl rfl ?_
              refine e_Ok.if1 rfl (fun h51 => ?_) (fun h51 => ?_)
              · replace h51 : (0 : Int) = 0 := h51
                refine e_Ok.ps1 (x := (0, (-1))) (q := 56) 1 rfl ?_
                refine e_Ok.rets rfl rfl ?_
                exact ⟨_, rfl, Or.inl ⟨rfl, by omega⟩⟩
              · replace h51 : (0 : Int) ≠ 0 := (show ¬ ((0 : Int) = 0) from h51)
                exfalso; omega
          · replace h13 : (kd : Int) = 0 := Classical.not_not.mp (show ¬ ((kd : Int) ≠ 0) from h13)
            refine e_Ok.run (t' := (36, [(6, (0, 100000)), (0, (1, 0)), (1, (0, a)), (2, (0, kd)), (3, (0, lo)), (4, (0, hi)), (5, (0, ln))], [(0, 100000), (0, lo)], w)) 5 rfl ?_
            refine e_Ok.neg (z := (-100000)) rfl (by omega) (by omega) ?_
            refine e_Ok.ps1 (x := (0, 0)) (q := 38) 1 rfl ?_
            refine e_Ok.callS rfl (e_dq hd rfl) rfl rfl (c_242 (by omega) (by omega) (by omega)) (fun r52 w53 h54 => ?_)
            obtain ⟨z55, rfl, rfl, q56⟩ := h54
            obtain ⟨rfl, q56⟩ | ⟨rfl, q56⟩ := q56
            · refine e_Ok.nrm (q := 41) (st' := [(0, 1)]) rfl rfl ?_
              refine e_Ok.if1 rfl (fun h57 => ?_) (fun h57 => ?_)
              · replace h57 : (1 : Int) = 0 := h57
                exfalso; omega
              · replace h57 : (1 : Int) ≠ 0 := (show ¬ ((1 : Int) = 0) from h57)
                refine e_Ok.ps3 (x := (0, 100000)) (y := (0, 0)) (z := (0, hi)) (q := 49) 3 rfl ?_
                refine e_Ok.callS rfl (e_dq hd rfl) rfl rfl (c_242 (by omega) (by omega) (by omega)) (fun r58 w59 h60 => ?_)
                obtain ⟨z61, rfl, rfl, q62⟩ := h60
                obtain ⟨rfl, q62⟩ | ⟨rfl, q62⟩ := q62
                · refine e_Ok.nrm (q := 52) (st' := [(0, 1)]) rfl rfl ?_
                  refine e_Ok.if1 rfl (fun h63 => ?_) (fun h63 => ?_)
                  · replace h63 : (1 : Int) ≠ 0 := h63
                    refine e_Ok.ps3 (x := (0, 8000)) (y := (0, 0)) (z := (0, ln)) (q := 63) 3 rfl ?_
                    refine e_Ok.callS rfl (e_dq hd rfl) rfl rfl (c_242 (by omega) (by omega) (by omega)) (fun r64 w65 h66 => ?_)
                    obtain ⟨z67, rfl, rfl, q68⟩ := h66
                    obtain ⟨rfl, q68⟩ | ⟨rfl, q68⟩ := q68
                    · refine e_Ok.nrm (q := 66) (st' := [(0, 1)]) rfl rfl ?_
                      refine e_Ok.if1 rfl (fun h69 => ?_) (fun h69 => ?_)
                      · replace h69 : (1 : Int) ≠ 0 := h69
                        refine e_Ok.ps2 (x := (0, 1)) (y := (0, kd)) (q := 73) 2 rfl ?_
                        refine e_Ok.if2 rfl (fun h70 => ?_) (fun h70 => ?_)
                        · replace h70 : (kd : Int) ≠ 1 := h70
                          refine e_Ok.ps2 (x := (0, 1)) (y := (0, kd)) (q := 87) 2 rfl ?_
                          refine e_Ok.if2 rfl (fun h71 => ?_) (fun h71 => ?_)
                          · replace h71 : (kd : Int) ≠ 1 := h71
                            refine e_Ok.run (t' := (103, [(7, (0, ln)), (6, (0, 100000)), (0, (1, 0)), (1, (0, a)), (2, (0, kd)), (3, (0, lo)), (4, (0, hi)), (5, (0, ln))], [(1, 0)], w)) 3 rfl ?_
                            refine e_Ok.getr (z := 9) rfl (el_o rfl) rfl rfl (Eq.trans (e_Has.eq hT (kt_o rfl)) (by omega)) ⟨by decide, by decide⟩ ?_
                            refine e_Ok.ps1 (x := (0, a)) (q := 107) 1 rfl ?_
                            refine e_Ok.aald (z := 17 * a + 86) rfl (el_o rfl) rfl (by omega) (Eq.trans (e_Has.eq hT (k9 (by omega))) (by omega)) (by omega) ?_
                            refine e_Ok.callV rfl (e_dq hd rfl) rfl (lA0 (a := a) (by omega) (by omega)) rfl rfl (c_5_e (a := a) hT (by omega) (hB a (by omega) (by omega))) (fun r72 w73 h74 => ?_)
                            obtain ⟨z75, rfl, rfl, lz, le⟩ := h74
                            refine e_Ok.nrm (q := 111) (st' := [(0, z75)]) rfl rfl ?_
                            refine e_Ok.ps1 (x := (0, ln)) (q := 113) 1 rfl ?_
                            refine e_Ok.add (z := z75 + ln) rfl rfl (by omega) ?_
                            refine e_Ok.ps1 (x := (0, 8000)) (q := 117) 1 rfl ?_
                            refine e_Ok.if2 rfl (fun h76 => ?_) (fun h76 => ?_)
                            · replace h76 : (z75 + ln : Int) ≤ 8000 := h76
                              refine e_Ok.ps1 (x := (1, 0)) (q := 123) 1 rfl ?_
                              refine e_Ok.getf (z := w 0 13) rfl (el_o rfl) rfl rfl rfl (by omega) ?_
                              refine e_Ok.if1 rfl (fun h77 => ?_) (fun h77 => ?_)
                              · replace h77 : (w 0 13 : Int) = 0 := h77
                                refine e_Ok.ps1 (x := (1, 0)) (q := 133) 1 rfl ?_
                                refine e_Ok.getr (z := 9) rfl (el_o rfl) rfl rfl (Eq.trans (e_Has.eq hT (kt_o rfl)) (by omega)) ⟨by decide, by decide⟩ ?_
                                refine e_Ok.ps1 (x := (0, a)) (q := 137) 1 rfl ?_
                                refine e_Ok.aald (z := 17 * a + 86) rfl (el_o rfl) rfl (by omega) (Eq.trans (e_Has.eq hT (k9 (by omega))) (by omega)) (by omega) ?_
                                have h78 := (e_Has.get hT (c := 17 * a + 86) (k := 8) (lo := 0) (hi := 6) (kA_8 (a := a) (by omega) (by omega)) (by decide))
                                refine e_Ok.getf (z := w (17 * a + 86) 8) rfl (lA0 (a := a) (by omega) (by omega)) rfl rfl rfl (e_bq h78 (by decide) (by decide)) ?_
                                refine e_Ok.ps1 (x := (0, 6)) (q := 143) 1 rfl ?_
                                refine e_Ok.if2 rfl (fun h79 => ?_) (fun h79 => ?_)
                                · replace h79 : (w (17 * a + 86) 8 : Int) < 6 := h79
                                  refine e_Ok.ps1 (x := (1, 0)) (q := 150) 1 rfl ?_
                                  refine e_Ok.getr (z := 9) rfl (el_o rfl) rfl rfl (Eq.trans (e_Has.eq hT (kt_o rfl)) (by omega)) ⟨by decide, by decide⟩ ?_
                                  refine e_Ok.ps1 (x := (0, a)) (q := 154) 1 rfl ?_
                                  refine e_Ok.aald (z := 17 * a + 86) rfl (el_o rfl) rfl (by omega) (Eq.trans (e_Has.eq hT (k9 (by omega))) (by omega)) (by omega) ?_
                                  refine e_Ok.ps4 (x := (0, ln)) (y := (0, hi)) (z := (0, lo)) (u := (0, kd)) (q := 161) 4 rfl ?_
                                  have hjn := kn_joints hT (a := a) (by omega)
                                  refine e_Ok.callV rfl (e_dq hd rfl) rfl (lA0 (a := a) (by omega) (by omega)) rfl rfl (c_2 (e_dq hd rfl) (a := a) (n := w (17 * a + 86) 8) hT (by omega) rfl (by omega) (ka a (by omega) (by omega)) (by omega) (by omega) (by omega) (by omega)) (fun r80 w81 h82 => ?_)
                                  obtain ⟨z83, rfl, jf, jT, jz, jn, j8, jo, jk, -⟩ := h82
                                  have f84 : e_fr (kAj a) w w81 := e_fr.trans (e_fr.refl w) (e_fr.mono jf (fun c k q => by exact q))
                                  refine e_Ok.nrm (q := 164) (st' := [(0, z83)]) rfl rfl ?_
                                  refine e_Ok.rets rfl rfl ?_
                                  exact ⟨_, rfl, Or.inr ⟨by omega, by omega, jf, jn, j8, jo⟩⟩
                                · replace h79 : (w (17 * a + 86) 8 : Int) ≥ 6 := Int.not_lt.mp (show ¬ ((w (17 * a + 86) 8 : Int) < 6) from h79)
                                  refine e_Ok.ps1 (x := (0, (-3))) (q := 148) 1 rfl ?_
                                  refine e_Ok.rets rfl rfl ?_
                                  exact ⟨_, rfl, Or.inl ⟨rfl, by omega⟩⟩
                              · replace h77 : (w 0 13 : Int) ≠ 0 := (show ¬ ((w 0 13 : Int) = 0) from h77)
                                refine e_Ok.ps1 (x := (0, (-2))) (q := 131) 1 rfl ?_
                                refine e_Ok.rets rfl rfl ?_
                                exact ⟨_, rfl, Or.inl ⟨rfl, by omega⟩⟩
                            · replace h76 : (z75 + ln : Int) > 8000 := Int.not_le.mp (show ¬ ((z75 + ln : Int) ≤ 8000) from h76)
                              refine e_Ok.ps1 (x := (0, (-1))) (q := 121) 1 rfl ?_
                              refine e_Ok.rets rfl rfl ?_
                              exact ⟨_, rfl, Or.inl ⟨rfl, by omega⟩⟩
                          · replace h71 : (kd : Int) = 1 := Classical.not_not.mp (show ¬ ((kd : Int) ≠ 1) from h71)
                            exfalso; omega
                        · replace h70 : (kd : Int) = 1 := Classical.not_not.mp (show ¬ ((kd : Int) ≠ 1) from h70)
                          exfalso; omega
                      · replace h69 : (1 : Int) = 0 := Classical.not_not.mp (show ¬ ((1 : Int) ≠ 0) from h69)
                        exfalso; omega
                    · refine e_Ok.nrm (q := 66) (st' := [(0, 0)]) rfl rfl ?_
                      refine e_Ok.if1 rfl (fun h85 => ?_) (fun h85 => ?_)
                      · replace h85 : (0 : Int) ≠ 0 := h85
                        exfalso; omega
                      · replace h85 : (0 : Int) = 0 := Classical.not_not.mp (show ¬ ((0 : Int) ≠ 0) from h85)
                        refine e_Ok.ps1 (x := (0, (-1))) (q := 70) 1 rfl ?_
                        refine e_Ok.rets rfl rfl ?_
                        exact ⟨_, rfl, Or.inl ⟨rfl, by omega⟩⟩
                  · replace h63 : (1 : Int) = 0 := Classical.not_not.mp (show ¬ ((1 : Int) ≠ 0) from h63)
                    exfalso; omega
                · refine e_Ok.nrm (q := 52) (st' := [(0, 0)]) rfl rfl ?_
                  refine e_Ok.if1 rfl (fun h86 => ?_) (fun h86 => ?_)
                  · replace h86 : (0 : Int) ≠ 0 := h86
                    exfalso; omega
                  · replace h86 : (0 : Int) = 0 := Classical.not_not.mp (show ¬ ((0 : Int) ≠ 0) from h86)
                    refine e_Ok.ps1 (x := (0, (-1))) (q := 56) 1 rfl ?_
                    refine e_Ok.rets rfl rfl ?_
                    exact ⟨_, rfl, Or.inl ⟨rfl, by omega⟩⟩
            · refine e_Ok.nrm (q := 41) (st' := [(0, 0)]) rfl rfl ?_
              refine e_Ok.if1 rfl (fun h87 => ?_) (fun h87 => ?_)
              · replace h87 : (0 : Int) = 0 := h87
                refine e_Ok.ps1 (x := (0, (-1))) (q := 56) 1 rfl ?_
                refine e_Ok.rets rfl rfl ?_
                exact ⟨_, rfl, Or.inl ⟨rfl, by omega⟩⟩
              · replace h87 : (0 : Int) ≠ 0 := (show ¬ ((0 : Int) = 0) from h87)
                exfalso; omega
        · replace h12 : (1 : Int) = 0 := Classical.not_not.mp (show ¬ ((1 : Int) ≠ 0) from h12)
          exfalso; omega
      · refine e_Ok.nrm (q := 14) (st' := [(0, 0)]) rfl rfl ?_
        refine e_Ok.if1 rfl (fun h88 => ?_) (fun h88 => ?_)
        · replace h88 : (0 : Int) ≠ 0 := h88
          exfalso; omega
        · replace h88 : (0 : Int) = 0 := Classical.not_not.mp (show ¬ ((0 : Int) ≠ 0) from h88)
          refine e_Ok.ps1 (x := (0, (-1))) (q := 18) 1 rfl ?_
          refine e_Ok.rets rfl rfl ?_
          exact ⟨_, rfl, Or.inl ⟨rfl, by omega⟩⟩
  · refine e_Ok.nrm (q := 5) (st' := [(0, 0)]) rfl rfl ?_
    refine e_Ok.if1 rfl (fun h89 => ?_) (fun h89 => ?_)
    · replace h89 : (0 : Int) = 0 := h89
      refine e_Ok.ps1 (x := (0, (-1))) (q := 18) 1 rfl ?_
      refine e_Ok.rets rfl rfl ?_
      exact ⟨_, rfl, Or.inl ⟨rfl, by omega⟩⟩
    · replace h89 : (0 : Int) ≠ 0 := (show ¬ ((0 : Int) = 0) from h89)
      exfalso; omega
end
