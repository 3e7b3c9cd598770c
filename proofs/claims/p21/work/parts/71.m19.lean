noncomputable section
theorem c_437 {d : Nat} (hd : 23 ≤ d) {w : eW} (hT : e_Has mTy w) (hH : e_Has hTy w) : e_Ok 20 elay ecode eI d 437 (0, [(0, (1, 275))], [], w) (fun r w' => ∃ z : Int, r = [(0, z)] ∧ w = w') := by
  refine e_Ok.run (t' := (1, [(0, (1, 275))], [(1, 275)], w)) 1 rfl ?_
  refine e_Ok.getr (z := 276) rfl (el_o rfl) rfl rfl (e_Has.eq hT rfl) (by omega) ?_
  refine e_Ok.run (t' := (5, [(0, (1, 275))], [(0, 0), (1, 276)], w)) 1 rfl ?_
  have h1 := (e_Has.get hT (c := 276) (k := 0) (lo := 0) (hi := 6000) rfl (by decide))
  refine e_Ok.ald (z := w 276 0) rfl (el_o rfl) rfl (by omega) rfl (by omega) ?_
  refine e_Ok.rets rfl rfl ?_
  exact ⟨_, rfl, rfl⟩
theorem c_448 {d : Nat} (hd : 23 ≤ d) {w : eW} (hT : e_Has mTy w) (hH : e_Has hTy w) : e_Ok 20 elay ecode eI d 448 (0, [(0, (1, 275))], [], w) (fun r w' => ∃ z : Int, r = [(0, z)] ∧ w = w') := by
  refine e_Ok.run (t' := (1, [(0, (1, 275))], [(1, 275)], w)) 1 rfl ?_
  refine e_Ok.getr (z := 276) rfl (el_o rfl) rfl rfl (e_Has.eq hT rfl) (by omega) ?_
  refine e_Ok.run (t' := (5, [(0, (1, 275))], [(0, 5), (1, 276)], w)) 1 rfl ?_
  have h1 := (e_Has.get hT (c := 276) (k := 5) (lo := 0) (hi := 2147483647) rfl (by decide))
  refine e_Ok.ald (z := w 276 5) rfl (el_o rfl) rfl (by omega) rfl (by omega) ?_
  refine e_Ok.rets rfl rfl ?_
  exact ⟨_, rfl, rfl⟩
theorem c_445 {d : Nat} (hd : 23 ≤ d) {w : eW} (hT : e_Has mTy w) (hH : e_Has hTy w) {p1 : Int} (g1 : (-2147483648) ≤ p1 ∧ p1 ≤ 2147483647) : e_Ok 20 elay ecode eI d 445 (0, [(0, (1, 275)), (1, (0, p1))], [], w) (fun r w' => ∃ z : Int, r = [(0, z)] ∧ w = w') := by
  obtain ⟨d, rfl⟩ : ∃ e, d = e + 1 := ⟨d - 1, by omega⟩
  refine e_Ok.run (t' := (6, [(0, (1, 275)), (1, (0, p1))], [(4, 7), (4, 0), (4, p1)], w)) 4 rfl ?_
  refine e_Ok.callS rfl (by omega) rfl rfl (c_266) (fun r1 w2 h3 => ?_)
  obtain ⟨z4, rfl, rfl, q5⟩ := h3
  obtain ⟨rfl, q5⟩ | ⟨rfl, q5⟩ := q5
  · show e_Ok 20 elay ecode eI (d + 1) 445 (9, [(0, (1, 275)), (1, (0, p1))], [(0, 1)], w) _
    refine e_Ok.if1 rfl (fun h6 => ?_) (fun h6 => ?_)
    · replace h6 : (1 : Int) = 0 := h6
      exfalso; omega
    · replace h6 : (1 : Int) ≠ 0 := by have q : ¬ ((1 : Int) = 0) := h6; omega
      refine e_Ok.run (t' := (13, [(0, (1, 275)), (1, (0, p1))], [(1, 275)], w)) 1 rfl ?_
      refine e_Ok.getr (z := 276) rfl (el_o rfl) rfl rfl (e_Has.eq hT rfl) (by omega) ?_
      refine e_Ok.run (t' := (20, [(0, (1, 275)), (1, (0, p1))], [(0, p1), (0, 20868), (1, 276)], w)) 2 rfl ?_
      refine e_Ok.add (z := p1 + 20868) rfl (by omega) (by omega) ?_
      have h7 := (e_Has.get hT (c := 276) (k := p1 + 20868) (lo := (-1)) (hi := 15) (nR_LOCK (l := p1) (by omega)) (by decide))
      refine e_Ok.ald (z := w 276 (p1 + 20868)) rfl (el_o rfl) rfl (by omega) rfl (by omega) ?_
      refine e_Ok.run (t' := (26, [(0, (1, 275)), (1, (0, p1))], [(0, w 276 (p1 + 20868))], w)) 1 rfl ?_
      refine e_Ok.rets rfl rfl ?_
      exact ⟨_, rfl, rfl⟩
  · show e_Ok 20 elay ecode eI (d + 1) 445 (9, [(0, (1, 275)), (1, (0, p1))], [(0, 0)], w) _
    refine e_Ok.if1 rfl (fun h8 => ?_) (fun h8 => ?_)
    · replace h8 : (0 : Int) = 0 := h8
      refine e_Ok.run (t' := (26, [(0, (1, 275)), (1, (0, p1))], [(0, (-1))], w)) 1 rfl ?_
      refine e_Ok.rets rfl rfl ?_
      exact ⟨_, rfl, rfl⟩
    · replace h8 : (0 : Int) ≠ 0 := by have q : ¬ ((0 : Int) = 0) := h8; omega
      exfalso; omega
theorem c_439 {d : Nat} (hd : 23 ≤ d) {w : eW} (hT : e_Has mTy w) (hH : e_Has hTy w) {p1 p2 : Int} (g1 : (-2147483648) ≤ p1 ∧ p1 ≤ 2147483647) (g2 : (-2147483648) ≤ p2 ∧ p2 ≤ 2147483647) : e_Ok 20 elay ecode eI d 439 (0, [(0, (1, 275)), (1, (0, p1)), (2, (0, p2))], [], w) (fun r w' => ∃ z : Int, r = [(0, z)] ∧ w = w') := by
  obtain ⟨d, rfl⟩ : ∃ e, d = e + 1 := ⟨d - 1, by omega⟩
  refine e_Ok.run (t' := (3, [(0, (1, 275)), (1, (0, p1)), (2, (0, p2))], [(0, p2), (0, p1), (1, 275)], w)) 3 rfl ?_
  refine e_Ok.callV rfl (by omega) rfl rfl rfl rfl (c_271 (by omega) hT) (fun r1 w2 h3 => ?_)
  obtain ⟨z4, rfl, rfl, q5⟩ := h3
  have h6 := e_Has.get hT (c := 275) (k := 10) (lo := 0) (hi := 4) rfl (by decide)
  have h7 := e_Has.get hT (c := 286) (k := p1) (lo := 0) (hi := 6) rfl (by decide)
  obtain ⟨rfl, q5⟩ | ⟨rfl, q5⟩ := q5
  · show e_Ok 20 elay ecode eI (d + 1) 439 (6, [(0, (1, 275)), (1, (0, p1)), (2, (0, p2))], [(0, 1)], w) _
    refine e_Ok.if1 rfl (fun h8 => ?_) (fun h8 => ?_)
    · replace h8 : (1 : Int) = 0 := h8
      exfalso; omega
    · replace h8 : (1 : Int) ≠ 0 := by have q : ¬ ((1 : Int) = 0) := h8; omega
      refine e_Ok.run (t' := (10, [(0, (1, 275)), (1, (0, p1)), (2, (0, p2))], [(1, 275)], w)) 1 rfl ?_
      refine e_Ok.getr (z := 276) rfl (el_o rfl) rfl rfl (e_Has.eq hT rfl) (by omega) ?_
      refine e_Ok.run (t' := (14, [(0, (1, 275)), (1, (0, p1)), (2, (0, p2))], [(0, p1), (1, 276)], w)) 1 rfl ?_
      refine e_Ok.callS rfl (by omega) rfl rfl (c_268 (by omega)) (fun r9 w10 h11 => ?_)
      obtain ⟨rfl, rfl⟩ := h11
      show e_Ok 20 elay ecode eI (d + 1) 439 (17, [(0, (1, 275)), (1, (0, p1)), (2, (0, p2))], [(0, 36 * p1 + 16), (1, 276)], w) _
      refine e_Ok.run (t' := (19, [(0, (1, 275)), (1, (0, p1)), (2, (0, p2))], [(0, 16), (0, 36 * p1 + 16), (1, 276)], w)) 1 rfl ?_
      refine e_Ok.add (z := 36 * p1 + 32) rfl (by omega) (by omega) ?_
      refine e_Ok.run (t' := (21, [(0, (1, 275)), (1, (0, p1)), (2, (0, p2))], [(0, p2), (0, 36 * p1 + 32), (1, 276)], w)) 1 rfl ?_
      refine e_Ok.add (z := 36 * p1 + p2 + 32) rfl (by omega) (by omega) ?_
      have h12 := (e_Has.get hT (c := 276) (k := 36 * p1 + p2 + 32) (lo := (-100000)) (hi := 100000) (nR_VALUE (a := p1) (j := p2) (by omega) (by omega)) (by decide))
      refine e_Ok.ald (z := w 276 (36 * p1 + p2 + 32)) rfl (el_o rfl) rfl (by omega) rfl (by omega) ?_
      refine e_Ok.run (t' := (27, [(0, (1, 275)), (1, (0, p1)), (2, (0, p2))], [(0, w 276 (36 * p1 + p2 + 32))], w)) 1 rfl ?_
      refine e_Ok.rets rfl rfl ?_
      exact ⟨_, rfl, rfl⟩
  · show e_Ok 20 elay ecode eI (d + 1) 439 (6, [(0, (1, 275)), (1, (0, p1)), (2, (0, p2))], [(0, 0)], w) _
    refine e_Ok.if1 rfl (fun h13 => ?_) (fun h13 => ?_)
    · replace h13 : (0 : Int) = 0 := h13
      refine e_Ok.run (t' := (27, [(0, (1, 275)), (1, (0, p1)), (2, (0, p2))], [(0, (-1))], w)) 1 rfl ?_
      refine e_Ok.rets rfl rfl ?_
      exact ⟨_, rfl, rfl⟩
    · replace h13 : (0 : Int) ≠ 0 := by have q : ¬ ((0 : Int) = 0) := h13; omega
      exfalso; omega
theorem c_443 {d : Nat} (hd : 23 ≤ d) {w : eW} (hT : e_Has mTy w) (hH : e_Has hTy w) {p1 p2 : Int} (g1 : (-2147483648) ≤ p1 ∧ p1 ≤ 2147483647) (g2 : (-2147483648) ≤ p2 ∧ p2 ≤ 2147483647) : e_Ok 20 elay ecode eI d 443 (0, [(0, (1, 275)), (1, (0, p1)), (2, (0, p2))], [], w) (fun r w' => ∃ z : Int, r = [(0, z)] ∧ w = w') := by
  obtain ⟨d, rfl⟩ : ∃ e, d = e + 1 := ⟨d - 1, by omega⟩
  refine e_Ok.run (t' := (2, [(0, (1, 275)), (1, (0, p1)), (2, (0, p2))], [(0, p1), (1, 275)], w)) 2 rfl ?_
  refine e_Ok.callV rfl (by omega) rfl rfl rfl rfl (c_270 (by omega) hT) (fun r1 w2 h3 => ?_)
  have h4 := e_Has.get hT (c := 275) (k := 10) (lo := 0) (hi := 4) rfl (by decide)
  obtain ⟨z5, rfl, rfl, q6⟩ := h3
  obtain ⟨rfl, q6⟩ | ⟨rfl, q6⟩ := q6
  · show e_Ok 20 elay ecode eI (d + 1) 443 (5, [(0, (1, 275)), (1, (0, p1)), (2, (0, p2))], [(0, 1)], w) _
    refine e_Ok.if1 rfl (fun h7 => ?_) (fun h7 => ?_)
    · replace h7 : (1 : Int) = 0 := h7
      exfalso; omega
    · replace h7 : (1 : Int) ≠ 0 := by have q : ¬ ((1 : Int) = 0) := h7; omega
      refine e_Ok.run (t' := (12, [(0, (1, 275)), (1, (0, p1)), (2, (0, p2))], [(1, 275), (4, 0), (4, p2)], w)) 4 rfl ?_
      refine e_Ok.getr (z := 339) rfl (el_o rfl) rfl rfl (e_Has.eq hT rfl) (by omega) ?_
      refine e_Ok.run (t' := (16, [(0, (1, 275)), (1, (0, p1)), (2, (0, p2))], [(0, p1), (1, 339), (4, 0), (4, p2)], w)) 1 rfl ?_
      have h8 := (e_Has.get hT (c := 339) (k := p1) (lo := 0) (hi := 32) rfl (by decide))
      refine e_Ok.ald (z := w 339 p1) rfl (el_o rfl) rfl (by omega) rfl (by omega) ?_
      refine e_Ok.run (t' := (18, [(0, (1, 275)), (1, (0, p1)), (2, (0, p2))], [(0, 1), (0, w 339 p1), (4, 0), (4, p2)], w)) 1 rfl ?_
      refine e_Ok.sub' (z := w 339 p1 - 1) rfl (by omega) (by omega) ?_
      refine e_Ok.run (t' := (20, [(0, (1, 275)), (1, (0, p1)), (2, (0, p2))], [(4, w 339 p1 - 1), (4, 0), (4, p2)], w)) 1 rfl ?_
      refine e_Ok.callS rfl (by omega) rfl rfl (c_266) (fun r9 w10 h11 => ?_)
      obtain ⟨z12, rfl, rfl, q13⟩ := h11
      obtain ⟨rfl, q13⟩ | ⟨rfl, q13⟩ := q13
      · show e_Ok 20 elay ecode eI (d + 1) 443 (23, [(0, (1, 275)), (1, (0, p1)), (2, (0, p2))], [(0, 1)], w) _
        refine e_Ok.if1 rfl (fun h14 => ?_) (fun h14 => ?_)
        · replace h14 : (1 : Int) = 0 := h14
          exfalso; omega
        · replace h14 : (1 : Int) ≠ 0 := by have q : ¬ ((1 : Int) = 0) := h14; omega
          refine e_Ok.run (t' := (27, [(0, (1, 275)), (1, (0, p1)), (2, (0, p2))], [(1, 275)], w)) 1 rfl ?_
          refine e_Ok.getr (z := 276) rfl (el_o rfl) rfl rfl (e_Has.eq hT rfl) (by omega) ?_
          refine e_Ok.run (t' := (36, [(0, (1, 275)), (1, (0, p1)), (2, (0, p2))], [(0, p1), (0, 32), (0, 20932), (1, 276)], w)) 3 rfl ?_
          refine e_Ok.mul (z := 32 * p1) rfl (by omega) (by omega) ?_
          refine e_Ok.add (z := 32 * p1 + 20932) rfl (by omega) (by omega) ?_
          refine e_Ok.run (t' := (39, [(0, (1, 275)), (1, (0, p1)), (2, (0, p2))], [(0, p2), (0, 32 * p1 + 20932), (1, 276)], w)) 1 rfl ?_
          refine e_Ok.add (z := 32 * p1 + p2 + 20932) rfl (by omega) (by omega) ?_
          have h15 := (e_Has.get hT (c := 276) (k := 32 * p1 + p2 + 20932) (lo := (-2147483648)) (hi := 2147483647) (nR_mid (by omega)) (by decide))
          refine e_Ok.ald (z := w 276 (32 * p1 + p2 + 20932)) rfl (el_o rfl) rfl (by omega) rfl (by omega) ?_
          refine e_Ok.run (t' := (45, [(0, (1, 275)), (1, (0, p1)), (2, (0, p2))], [(0, w 276 (32 * p1 + p2 + 20932))], w)) 1 rfl ?_
          refine e_Ok.rets rfl rfl ?_
          exact ⟨_, rfl, rfl⟩
      · show e_Ok 20 elay ecode eI (d + 1) 443 (23, [(0, (1, 275)), (1, (0, p1)), (2, (0, p2))], [(0, 0)], w) _
        refine e_Ok.if1 rfl (fun h16 => ?_) (fun h16 => ?_)
        · replace h16 : (0 : Int) = 0 := h16
          refine e_Ok.run (t' := (45, [(0, (1, 275)), (1, (0, p1)), (2, (0, p2))], [(0, (-1))], w)) 1 rfl ?_
          refine e_Ok.rets rfl rfl ?_
          exact ⟨_, rfl, rfl⟩
        · replace h16 : (0 : Int) ≠ 0 := by have q : ¬ ((0 : Int) = 0) := h16; omega
          exfalso; omega
  · show e_Ok 20 elay ecode eI (d + 1) 443 (5, [(0, (1, 275)), (1, (0, p1)), (2, (0, p2))], [(0, 0)], w) _
    refine e_Ok.if1 rfl (fun h17 => ?_) (fun h17 => ?_)
    · replace h17 : (0 : Int) = 0 := h17
      refine e_Ok.run (t' := (45, [(0, (1, 275)), (1, (0, p1)), (2, (0, p2))], [(0, (-1))], w)) 1 rfl ?_
      refine e_Ok.rets rfl rfl ?_
      exact ⟨_, rfl, rfl⟩
    · replace h17 : (0 : Int) ≠ 0 := by have q : ¬ ((0 : Int) = 0) := h17; omega
      exfalso; omega
theorem c_438 {d : Nat} (hd : 23 ≤ d) {w : eW} (hT : e_Has mTy w) (hH : e_Has hTy w) {p1 p2 : Int} (g1 : (-2147483648) ≤ p1 ∧ p1 ≤ 2147483647) (g2 : (-2147483648) ≤ p2 ∧ p2 ≤ 2147483647) : e_Ok 20 elay ecode eI d 438 (0, [(0, (1, 275)), (1, (0, p1)), (2, (0, p2))], [], w) (fun r w' => ∃ z : Int, r = [(0, z)] ∧ w = w') := by
  obtain ⟨d, rfl⟩ : ∃ e, d = e + 1 := ⟨d - 1, by omega⟩
  refine e_Ok.run (t' := (2, [(0, (1, 275)), (1, (0, p1)), (2, (0, p2))], [(0, p1), (1, 275)], w)) 2 rfl ?_
  refine e_Ok.callV rfl (by omega) rfl rfl rfl rfl (c_270 (by omega) hT) (fun r1 w2 h3 => ?_)
  have h4 := e_Has.get hT (c := 275) (k := 10) (lo := 0) (hi := 4) rfl (by decide)
  obtain ⟨z5, rfl, rfl, q6⟩ := h3
  obtain ⟨rfl, q6⟩ | ⟨rfl, q6⟩ := q6
  · show e_Ok 20 elay ecode eI (d + 1) 438 (5, [(0, (1, 275)), (1, (0, p1)), (2, (0, p2))], [(0, 1)], w) _
    refine e_Ok.if1 rfl (fun h7 => ?_) (fun h7 => ?_)
    · replace h7 : (1 : Int) = 0 := h7
      exfalso; omega
    · replace h7 : (1 : Int) ≠ 0 := by have q : ¬ ((1 : Int) = 0) := h7; omega
      refine e_Ok.run (t' := (14, [(0, (1, 275)), (1, (0, p1)), (2, (0, p2))], [(4, 7), (4, 0), (4, p2)], w)) 4 rfl ?_
      refine e_Ok.callS rfl (by omega) rfl rfl (c_266) (fun r8 w9 h10 => ?_)
      obtain ⟨z11, rfl, rfl, q12⟩ := h10
      obtain ⟨rfl, q12⟩ | ⟨rfl, q12⟩ := q12
      · show e_Ok 20 elay ecode eI (d + 1) 438 (17, [(0, (1, 275)), (1, (0, p1)), (2, (0, p2))], [(0, 1)], w) _
        refine e_Ok.if1 rfl (fun h13 => ?_) (fun h13 => ?_)
        · replace h13 : (1 : Int) ≠ 0 := h13
          refine e_Ok.run (t' := (23, [(0, (1, 275)), (1, (0, p1)), (2, (0, p2))], [(0, p1)], w)) 1 rfl ?_
          refine e_Ok.callS rfl (by omega) rfl rfl (c_268 (by omega)) (fun r14 w15 h16 => ?_)
          obtain ⟨rfl, rfl⟩ := h16
          show e_Ok 20 elay ecode eI (d + 1) 438 (26, [(0, (1, 275)), (1, (0, p1)), (2, (0, p2))], [(0, 36 * p1 + 16)], w) _
          refine e_Ok.run (t' := (28, [(3, (0, 36 * p1 + 16)), (0, (1, 275)), (1, (0, p1)), (2, (0, p2))], [(0, p2)], w)) 2 rfl ?_
          have hs18 : ∀ x : Int, 0 ≤ x ∧ x ≤ 7 → (x = 0) ∨ (x = 1) ∨ (x = 2) ∨ (x = 3) ∨ (x = 4) ∨ (x = 5) ∨ (x = 6) ∨ (x = 7) := fun x h => by omega
          obtain h17 | h17 | h17 | h17 | h17 | h17 | h17 | h17 := hs18 (p2) (by omega)
          · refine e_Ok.sw (tg := 72) rfl (by rw [h17]; rfl) ?_
            refine e_Ok.run (t' := (73, [(3, (0, 36 * p1 + 16)), (0, (1, 275)), (1, (0, p1)), (2, (0, p2))], [(1, 275)], w)) 1 rfl ?_
            refine e_Ok.getr (z := 276) rfl (el_o rfl) rfl rfl (e_Has.eq hT rfl) (by omega) ?_
            refine e_Ok.run (t' := (78, [(3, (0, 36 * p1 + 16)), (0, (1, 275)), (1, (0, p1)), (2, (0, p2))], [(0, 0), (0, 36 * p1 + 16), (1, 276)], w)) 2 rfl ?_
            refine e_Ok.add (z := 36 * p1 + 16) rfl (by omega) (by omega) ?_
            have h19 := (e_Has.get hT (c := 276) (k := 36 * p1 + 16) (lo := 0) (hi := 2) (nR_STATE (a := p1) (by omega)) (by decide))
            refine e_Ok.ald (z := w 276 (36 * p1 + 16)) rfl (el_o rfl) rfl (by omega) rfl (by omega) ?_
            refine e_Ok.rets rfl rfl ?_
            exact ⟨_, rfl, rfl⟩
          · refine e_Ok.sw (tg := 81) rfl (by rw [h17]; rfl) ?_
            refine e_Ok.run (t' := (82, [(3, (0, 36 * p1 + 16)), (0, (1, 275)), (1, (0, p1)), (2, (0, p2))], [(1, 275)], w)) 1 rfl ?_
            refine e_Ok.getr (z := 286) rfl (el_o rfl) rfl rfl (e_Has.eq hT rfl) (by omega) ?_
            refine e_Ok.run (t' := (86, [(3, (0, 36 * p1 + 16)), (0, (1, 275)), (1, (0, p1)), (2, (0, p2))], [(0, p1), (1, 286)], w)) 1 rfl ?_
            have h20 := (e_Has.get hT (c := 286) (k := p1) (lo := 0) (hi := 6) rfl (by decide))
            refine e_Ok.ald (z := w 286 p1) rfl (el_o rfl) rfl (by omega) rfl (by omega) ?_
            refine e_Ok.rets rfl rfl ?_
            exact ⟨_, rfl, rfl⟩
          · refine e_Ok.sw (tg := 88) rfl (by rw [h17]; rfl) ?_
            refine e_Ok.run (t' := (89, [(3, (0, 36 * p1 + 16)), (0, (1, 275)), (1, (0, p1)), (2, (0, p2))], [(1, 275)], w)) 1 rfl ?_
            refine e_Ok.getr (z := 276) rfl (el_o rfl) rfl rfl (e_Has.eq hT rfl) (by omega) ?_
            refine e_Ok.run (t' := (94, [(3, (0, 36 * p1 + 16)), (0, (1, 275)), (1, (0, p1)), (2, (0, p2))], [(0, 1), (0, 36 * p1 + 16), (1, 276)], w)) 2 rfl ?_
            refine e_Ok.add (z := 36 * p1 + 17) rfl (by omega) (by omega) ?_
            have h21 := (e_Has.get hT (c := 276) (k := 36 * p1 + 17) (lo := (-1)) (hi := 31) (nR_HOLDS (a := p1) (by omega)) (by decide))
            refine e_Ok.ald (z := w 276 (36 * p1 + 17)) rfl (el_o rfl) rfl (by omega) rfl (by omega) ?_
            refine e_Ok.rets rfl rfl ?_
            exact ⟨_, rfl, rfl⟩
          · refine e_Ok.sw (tg := 97) rfl (by rw [h17]; rfl) ?_
            refine e_Ok.run (t' := (98, [(3, (0, 36 * p1 + 16)), (0, (1, 275)), (1, (0, p1)), (2, (0, p2))], [(1, 275)], w)) 1 rfl ?_
            refine e_Ok.getr (z := 276) rfl (el_o rfl) rfl rfl (e_Has.eq hT rfl) (by omega) ?_
            refine e_Ok.run (t' := (103, [(3, (0, 36 * p1 + 16)), (0, (1, 275)), (1, (0, p1)), (2, (0, p2))], [(0, 2), (0, 36 * p1 + 16), (1, 276)], w)) 2 rfl ?_
            refine e_Ok.add (z := 36 * p1 + 18) rfl (by omega) (by omega) ?_
            have h22 := (e_Has.get hT (c := 276) (k := 36 * p1 + 18) (lo := (-1)) (hi := 15) (nR_STUCK (a := p1) (by omega)) (by decide))
            refine e_Ok.ald (z := w 276 (36 * p1 + 18)) rfl (el_o rfl) rfl (by omega) rfl (by omega) ?_
            refine e_Ok.rets rfl rfl ?_
            exact ⟨_, rfl, rfl⟩
          · refine e_Ok.sw (tg := 106) rfl (by rw [h17]; rfl) ?_
            refine e_Ok.run (t' := (107, [(3, (0, 36 * p1 + 16)), (0, (1, 275)), (1, (0, p1)), (2, (0, p2))], [(1, 275)], w)) 1 rfl ?_
            refine e_Ok.getr (z := 338) rfl (el_o rfl) rfl rfl (e_Has.eq hT rfl) (by omega) ?_
            refine e_Ok.run (t' := (111, [(3, (0, 36 * p1 + 16)), (0, (1, 275)), (1, (0, p1)), (2, (0, p2))], [(0, p1), (1, 338)], w)) 1 rfl ?_
            have h23 := (e_Has.get hT (c := 338) (k := p1) (lo := 0) (hi := 32) rfl (by decide))
            refine e_Ok.ald (z := w 338 p1) rfl (el_o rfl) rfl (by omega) rfl (by omega) ?_
            refine e_Ok.rets rfl rfl ?_
            exact ⟨_, rfl, rfl⟩
          · refine e_Ok.sw (tg := 113) rfl (by rw [h17]; rfl) ?_
            refine e_Ok.run (t' := (114, [(3, (0, 36 * p1 + 16)), (0, (1, 275)), (1, (0, p1)), (2, (0, p2))], [(1, 275)], w)) 1 rfl ?_
            refine e_Ok.getr (z := 276) rfl (el_o rfl) rfl rfl (e_Has.eq hT rfl) (by omega) ?_
            refine e_Ok.run (t' := (119, [(3, (0, 36 * p1 + 16)), (0, (1, 275)), (1, (0, p1)), (2, (0, p2))], [(0, 3), (0, 36 * p1 + 16), (1, 276)], w)) 2 rfl ?_
            refine e_Ok.add (z := 36 * p1 + 19) rfl (by omega) (by omega) ?_
            have h24 := (e_Has.get hT (c := 276) (k := 36 * p1 + 19) (lo := (-1)) (hi := 999) (nR_WAY_SIZE (a := p1) (by omega)) (by decide))
            refine e_Ok.ald (z := w 276 (36 * p1 + 19)) rfl (el_o rfl) rfl (by omega) rfl (by omega) ?_
            refine e_Ok.rets rfl rfl ?_
            exact ⟨_, rfl, rfl⟩
          · refine e_Ok.sw (tg := 122) rfl (by rw [h17]; rfl) ?_
            refine e_Ok.run (t' := (123, [(3, (0, 36 * p1 + 16)), (0, (1, 275)), (1, (0, p1)), (2, (0, p2))], [(1, 275)], w)) 1 rfl ?_
            refine e_Ok.getr (z := 276) rfl (el_o rfl) rfl rfl (e_Has.eq hT rfl) (by omega) ?_
            refine e_Ok.run (t' := (128, [(3, (0, 36 * p1 + 16)), (0, (1, 275)), (1, (0, p1)), (2, (0, p2))], [(0, 4), (0, 36 * p1 + 16), (1, 276)], w)) 2 rfl ?_
            refine e_Ok.add (z := 36 * p1 + 20) rfl (by omega) (by omega) ?_
            have h25 := (e_Has.get hT (c := 276) (k := 36 * p1 + 20) (lo := 0) (hi := 1) (nR_FRESH (a := p1) (by omega)) (by decide))
            refine e_Ok.ald (z := w 276 (36 * p1 + 20)) rfl (el_o rfl) rfl (by omega) rfl (by omega) ?_
            refine e_Ok.rets rfl rfl ?_
            exact ⟨_, rfl, rfl⟩
          · refine e_Ok.sw (tg := 131) rfl (by rw [h17]; rfl) ?_
            refine e_Ok.run (t' := (132, [(3, (0, 36 * p1 + 16)), (0, (1, 275)), (1, (0, p1)), (2, (0, p2))], [(1, 275)], w)) 1 rfl ?_
            refine e_Ok.getr (z := 276) rfl (el_o rfl) rfl rfl (e_Has.eq hT rfl) (by omega) ?_
            refine e_Ok.run (t' := (138, [(3, (0, 36 * p1 + 16)), (0, (1, 275)), (1, (0, p1)), (2, (0, p2))], [(0, 6), (0, 36 * p1 + 16), (1, 276)], w)) 2 rfl ?_
            refine e_Ok.add (z := 36 * p1 + 22) rfl (by omega) (by omega) ?_
            have h26 := (e_Has.get hT (c := 276) (k := 36 * p1 + 22) (lo := 0) (hi := 1) (nR_TRAVELS (a := p1) (by omega)) (by decide))
            refine e_Ok.ald (z := w 276 (36 * p1 + 22)) rfl (el_o rfl) rfl (by omega) rfl (by omega) ?_
            refine e_Ok.rets rfl rfl ?_
            exact ⟨_, rfl, rfl⟩
        · replace h13 : (1 : Int) = 0 := by have q : ¬ ((1 : Int) ≠ 0) := h13; omega
          exfalso; omega
      · show e_Ok 20 elay ecode eI (d + 1) 438 (17, [(0, (1, 275)), (1, (0, p1)), (2, (0, p2))], [(0, 0)], w) _
        refine e_Ok.if1 rfl (fun h27 => ?_) (fun h27 => ?_)
        · replace h27 : (0 : Int) ≠ 0 := h27
          exfalso; omega
        · replace h27 : (0 : Int) = 0 := by have q : ¬ ((0 : Int) ≠ 0) := h27; omega
          refine e_Ok.run (t' := (21, [(0, (1, 275)), (1, (0, p1)), (2, (0, p2))], [(0, (-1))], w)) 1 rfl ?_
          refine e_Ok.rets rfl rfl ?_
          exact ⟨_, rfl, rfl⟩
  · show e_Ok 20 elay ecode eI (d + 1) 438 (5, [(0, (1, 275)), (1, (0, p1)), (2, (0, p2))], [(0, 0)], w) _
    refine e_Ok.if1 rfl (fun h28 => ?_) (fun h28 => ?_)
    · replace h28 : (0 : Int) = 0 := h28
      refine e_Ok.run (t' := (21, [(0, (1, 275)), (1, (0, p1)), (2, (0, p2))], [(0, (-1))], w)) 1 rfl ?_
      refine e_Ok.rets rfl rfl ?_
      exact ⟨_, rfl, rfl⟩
    · replace h28 : (0 : Int) ≠ 0 := by have q : ¬ ((0 : Int) = 0) := h28; omega
      exfalso; omega
theorem c_441 {d : Nat} (hd : 23 ≤ d) {w : eW} (hT : e_Has mTy w) (hH : e_Has hTy w) {p1 p2 : Int} (g1 : (-2147483648) ≤ p1 ∧ p1 ≤ 2147483647) (g2 : (-2147483648) ≤ p2 ∧ p2 ≤ 2147483647) : e_Ok 20 elay ecode eI d 441 (0, [(0, (1, 275)), (1, (0, p1)), (2, (0, p2))], [], w) (fun r w' => ∃ z : Int, r = [(0, z)] ∧ w = w') := by
  obtain ⟨d, rfl⟩ : ∃ e, d = e + 1 := ⟨d - 1, by omega⟩
  refine e_Ok.run (t' := (2, [(0, (1, 275)), (1, (0, p1)), (2, (0, p2))], [(0, p1), (1, 275)], w)) 2 rfl ?_
  refine e_Ok.callV rfl (by omega) rfl rfl rfl rfl (c_270 (by omega) hT) (fun r1 w2 h3 => ?_)
  have h4 := e_Has.get hT (c := 275) (k := 10) (lo := 0) (hi := 4) rfl (by decide)
  obtain ⟨z5, rfl, rfl, q6⟩ := h3
  obtain ⟨rfl, q6⟩ | ⟨rfl, q6⟩ := q6
  · show e_Ok 20 elay ecode eI (d + 1) 441 (5, [(0, (1, 275)), (1, (0, p1)), (2, (0, p2))], [(0, 1)], w) _
    refine e_Ok.if1 rfl (fun h7 => ?_) (fun h7 => ?_)
    · replace h7 : (1 : Int) = 0 := h7
      exfalso; omega
    · replace h7 : (1 : Int) ≠ 0 := by have q : ¬ ((1 : Int) = 0) := h7; omega
      refine e_Ok.run (t' := (12, [(0, (1, 275)), (1, (0, p1)), (2, (0, p2))], [(1, 275), (4, 0), (4, p2)], w)) 4 rfl ?_
      refine e_Ok.getr (z := 276) rfl (el_o rfl) rfl rfl (e_Has.eq hT rfl) (by omega) ?_
      refine e_Ok.run (t' := (16, [(0, (1, 275)), (1, (0, p1)), (2, (0, p2))], [(0, p1), (1, 276), (4, 0), (4, p2)], w)) 1 rfl ?_
      refine e_Ok.callS rfl (by omega) rfl rfl (c_268 (by omega)) (fun r8 w9 h10 => ?_)
      obtain ⟨rfl, rfl⟩ := h10
      show e_Ok 20 elay ecode eI (d + 1) 441 (19, [(0, (1, 275)), (1, (0, p1)), (2, (0, p2))], [(0, 36 * p1 + 16), (1, 276), (4, 0), (4, p2)], w) _
      refine e_Ok.run (t' := (20, [(0, (1, 275)), (1, (0, p1)), (2, (0, p2))], [(0, 3), (0, 36 * p1 + 16), (1, 276), (4, 0), (4, p2)], w)) 1 rfl ?_
      refine e_Ok.add (z := 36 * p1 + 19) rfl (by omega) (by omega) ?_
      have h11 := (e_Has.get hT (c := 276) (k := 36 * p1 + 19) (lo := (-1)) (hi := 999) (nR_WAY_SIZE (a := p1) (by omega)) (by decide))
      refine e_Ok.ald (z := w 276 (36 * p1 + 19)) rfl (el_o rfl) rfl (by omega) rfl (by omega) ?_
      refine e_Ok.run (t' := (23, [(0, (1, 275)), (1, (0, p1)), (2, (0, p2))], [(0, 1), (0, w 276 (36 * p1 + 19)), (4, 0), (4, p2)], w)) 1 rfl ?_
      refine e_Ok.sub' (z := w 276 (36 * p1 + 19) - 1) rfl (by omega) (by omega) ?_
      refine e_Ok.run (t' := (25, [(0, (1, 275)), (1, (0, p1)), (2, (0, p2))], [(4, w 276 (36 * p1 + 19) - 1), (4, 0), (4, p2)], w)) 1 rfl ?_
      refine e_Ok.callS rfl (by omega) rfl rfl (c_266) (fun r12 w13 h14 => ?_)
      obtain ⟨z15, rfl, rfl, q16⟩ := h14
      obtain ⟨rfl, q16⟩ | ⟨rfl, q16⟩ := q16
      · show e_Ok 20 elay ecode eI (d + 1) 441 (28, [(0, (1, 275)), (1, (0, p1)), (2, (0, p2))], [(0, 1)], w) _
        refine e_Ok.if1 rfl (fun h17 => ?_) (fun h17 => ?_)
        · replace h17 : (1 : Int) = 0 := h17
          exfalso; omega
        · replace h17 : (1 : Int) ≠ 0 := by have q : ¬ ((1 : Int) = 0) := h17; omega
          refine e_Ok.run (t' := (32, [(0, (1, 275)), (1, (0, p1)), (2, (0, p2))], [(1, 275)], w)) 1 rfl ?_
          refine e_Ok.getr (z := 276) rfl (el_o rfl) rfl rfl (e_Has.eq hT rfl) (by omega) ?_
          refine e_Ok.run (t' := (42, [(0, (1, 275)), (1, (0, p1)), (2, (0, p2))], [(0, p1), (0, 1000), (0, 21060), (1, 276)], w)) 3 rfl ?_
          refine e_Ok.mul (z := 1000 * p1) rfl (by omega) (by omega) ?_
          refine e_Ok.add (z := 1000 * p1 + 21060) rfl (by omega) (by omega) ?_
          refine e_Ok.run (t' := (45, [(0, (1, 275)), (1, (0, p1)), (2, (0, p2))], [(0, p2), (0, 1000 * p1 + 21060), (1, 276)], w)) 1 rfl ?_
          refine e_Ok.add (z := 1000 * p1 + p2 + 21060) rfl (by omega) (by omega) ?_
          have h18 := (e_Has.get hT (c := 276) (k := 1000 * p1 + p2 + 21060) (lo := 0) (hi := 11) (nR_WAY (by omega)) (by decide))
          refine e_Ok.ald (z := w 276 (1000 * p1 + p2 + 21060)) rfl (el_o rfl) rfl (by omega) rfl (by omega) ?_
          refine e_Ok.run (t' := (51, [(0, (1, 275)), (1, (0, p1)), (2, (0, p2))], [(0, w 276 (1000 * p1 + p2 + 21060))], w)) 1 rfl ?_
          refine e_Ok.rets rfl rfl ?_
          exact ⟨_, rfl, rfl⟩
      · show e_Ok 20 elay ecode eI (d + 1) 441 (28, [(0, (1, 275)), (1, (0, p1)), (2, (0, p2))], [(0, 0)], w) _
        refine e_Ok.if1 rfl (fun h19 => ?_) (fun h19 => ?_)
        · replace h19 : (0 : Int) = 0 := h19
          refine e_Ok.run (t' := (51, [(0, (1, 275)), (1, (0, p1)), (2, (0, p2))], [(0, (-1))], w)) 1 rfl ?_
          refine e_Ok.rets rfl rfl ?_
          exact ⟨_, rfl, rfl⟩
        · replace h19 : (0 : Int) ≠ 0 := by have q : ¬ ((0 : Int) = 0) := h19; omega
          exfalso; omega
  · show e_Ok 20 elay ecode eI (d + 1) 441 (5, [(0, (1, 275)), (1, (0, p1)), (2, (0, p2))], [(0, 0)], w) _
    refine e_Ok.if1 rfl (fun h20 => ?_) (fun h20 => ?_)
    · replace h20 : (0 : Int) = 0 := h20
      refine e_Ok.run (t' := (51, [(0, (1, 275)), (1, (0, p1)), (2, (0, p2))], [(0, (-1))], w)) 1 rfl ?_
      refine e_Ok.rets rfl rfl ?_
      exact ⟨_, rfl, rfl⟩
    · replace h20 : (0 : Int) ≠ 0 := by have q : ¬ ((0 : Int) = 0) := h20; omega
      exfalso; omega
theorem c_449 {d : Nat} (hd : 23 ≤ d) {w : eW} (hT : e_Has mTy w) (hH : e_Has hTy w) {p1 p2 : Int} (g1 : (-2147483648) ≤ p1 ∧ p1 ≤ 2147483647) (g2 : (-2147483648) ≤ p2 ∧ p2 ≤ 2147483647) : e_Ok 20 elay ecode eI d 449 (0, [(0, (1, 275)), (1, (0, p1)), (2, (0, p2))], [], w) (fun r w' => ∃ z : Int, r = [(0, z)] ∧ w = w') := by
  obtain ⟨d, rfl⟩ : ∃ e, d = e + 1 := ⟨d - 1, by omega⟩
  refine e_Ok.run (t' := (4, [(0, (1, 275)), (1, (0, p1)), (2, (0, p2))], [(1, 275), (4, 0), (4, p1)], w)) 4 rfl ?_
  refine e_Ok.getr (z := 276) rfl (el_o rfl) rfl rfl (e_Has.eq hT rfl) (by omega) ?_
  refine e_Ok.run (t' := (8, [(0, (1, 275)), (1, (0, p1)), (2, (0, p2))], [(0, 5), (1, 276), (4, 0), (4, p1)], w)) 1 rfl ?_
  have h1 := (e_Has.get hT (c := 276) (k := 5) (lo := 0) (hi := 2147483647) rfl (by decide))
  refine e_Ok.ald (z := w 276 5) rfl (el_o rfl) rfl (by omega) rfl (by omega) ?_
  refine e_Ok.run (t' := (12, [(0, (1, 275)), (1, (0, p1)), (2, (0, p2))], [(0, 2000), (0, w 276 5), (4, 0), (4, p1)], w)) 1 rfl ?_
  refine e_Ok.if2 rfl (fun h2 => ?_) (fun h2 => ?_)
  · replace h2 : (w 276 5 : Int) ≥ 2000 := h2
    refine e_Ok.run (t' := (28, [(0, (1, 275)), (1, (0, p1)), (2, (0, p2))], [(0, 1), (0, 2000), (4, 0), (4, p1)], w)) 2 rfl ?_
    refine e_Ok.sub' (z := 1999) rfl (by omega) (by omega) ?_
    refine e_Ok.run (t' := (30, [(0, (1, 275)), (1, (0, p1)), (2, (0, p2))], [(4, 1999), (4, 0), (4, p1)], w)) 1 rfl ?_
    refine e_Ok.callS rfl (by omega) rfl rfl (c_266) (fun r3 w4 h5 => ?_)
    obtain ⟨z6, rfl, rfl, q7⟩ := h5
    obtain ⟨rfl, q7⟩ | ⟨rfl, q7⟩ := q7
    · show e_Ok 20 elay ecode eI (d + 1) 449 (33, [(0, (1, 275)), (1, (0, p1)), (2, (0, p2))], [(0, 1)], w) _
      refine e_Ok.if1 rfl (fun h8 => ?_) (fun h8 => ?_)
      · replace h8 : (1 : Int) = 0 := h8
        exfalso; omega
      · replace h8 : (1 : Int) ≠ 0 := by have q : ¬ ((1 : Int) = 0) := h8; omega
        refine e_Ok.run (t' := (42, [(0, (1, 275)), (1, (0, p1)), (2, (0, p2))], [(4, 3), (4, 0), (4, p2)], w)) 4 rfl ?_
        refine e_Ok.callS rfl (by omega) rfl rfl (c_266) (fun r9 w10 h11 => ?_)
        obtain ⟨z12, rfl, rfl, q13⟩ := h11
        obtain ⟨rfl, q13⟩ | ⟨rfl, q13⟩ := q13
        · show e_Ok 20 elay ecode eI (d + 1) 449 (45, [(0, (1, 275)), (1, (0, p1)), (2, (0, p2))], [(0, 1)], w) _
          refine e_Ok.if1 rfl (fun h14 => ?_) (fun h14 => ?_)
          · replace h14 : (1 : Int) = 0 := h14
            exfalso; omega
          · replace h14 : (1 : Int) ≠ 0 := by have q : ¬ ((1 : Int) = 0) := h14; omega
            refine e_Ok.run (t' := (49, [(0, (1, 275)), (1, (0, p1)), (2, (0, p2))], [(1, 275)], w)) 1 rfl ?_
            refine e_Ok.getr (z := 276) rfl (el_o rfl) rfl rfl (e_Has.eq hT rfl) (by omega) ?_
            refine e_Ok.run (t' := (57, [(0, (1, 275)), (1, (0, p1)), (2, (0, p2))], [(0, p1), (0, 4), (0, 25060), (1, 276)], w)) 3 rfl ?_
            refine e_Ok.mul (z := 4 * p1) rfl (by omega) (by omega) ?_
            refine e_Ok.add (z := 4 * p1 + 25060) rfl (by omega) (by omega) ?_
            refine e_Ok.run (t' := (60, [(0, (1, 275)), (1, (0, p1)), (2, (0, p2))], [(0, p2), (0, 4 * p1 + 25060), (1, 276)], w)) 1 rfl ?_
            refine e_Ok.add (z := 4 * p1 + p2 + 25060) rfl (by omega) (by omega) ?_
            have h15 := (e_Has.get hT (c := 276) (k := 4 * p1 + p2 + 25060) (lo := (-2147483648)) (hi := 2147483647) (nR_EV (by omega)) (by decide))
            refine e_Ok.ald (z := w 276 (4 * p1 + p2 + 25060)) rfl (el_o rfl) rfl (by omega) rfl (by omega) ?_
            refine e_Ok.run (t' := (66, [(0, (1, 275)), (1, (0, p1)), (2, (0, p2))], [(0, w 276 (4 * p1 + p2 + 25060))], w)) 1 rfl ?_
            refine e_Ok.rets rfl rfl ?_
            exact ⟨_, rfl, rfl⟩
        · show e_Ok 20 elay ecode eI (d + 1) 449 (45, [(0, (1, 275)), (1, (0, p1)), (2, (0, p2))], [(0, 0)], w) _
          refine e_Ok.if1 rfl (fun h16 => ?_) (fun h16 => ?_)
          · replace h16 : (0 : Int) = 0 := h16
            refine e_Ok.run (t' := (66, [(0, (1, 275)), (1, (0, p1)), (2, (0, p2))], [(0, (-1))], w)) 1 rfl ?_
            refine e_Ok.rets rfl rfl ?_
            exact ⟨_, rfl, rfl⟩
          · replace h16 : (0 : Int) ≠ 0 := by have q : ¬ ((0 : Int) = 0) := h16; omega
            exfalso; omega
    · show e_Ok 20 elay ecode eI (d + 1) 449 (33, [(0, (1, 275)), (1, (0, p1)), (2, (0, p2))], [(0, 0)], w) _
      refine e_Ok.if1 rfl (fun h17 => ?_) (fun h17 => ?_)
      · replace h17 : (0 : Int) = 0 := h17
        refine e_Ok.run (t' := (66, [(0, (1, 275)), (1, (0, p1)), (2, (0, p2))], [(0, (-1))], w)) 1 rfl ?_
        refine e_Ok.rets rfl rfl ?_
        exact ⟨_, rfl, rfl⟩
      · replace h17 : (0 : Int) ≠ 0 := by have q : ¬ ((0 : Int) = 0) := h17; omega
        exfalso; omega
  · replace h2 : (w 276 5 : Int) < 2000 := by have q : ¬ ((w 276 5 : Int) ≥ 2000) := h2; omega
    refine e_Ok.run (t' := (16, [(0, (1, 275)), (1, (0, p1)), (2, (0, p2))], [(1, 275), (4, 0), (4, p1)], w)) 1 rfl ?_
    refine e_Ok.getr (z := 276) rfl (el_o rfl) rfl rfl (e_Has.eq hT rfl) (by omega) ?_
    refine e_Ok.run (t' := (20, [(0, (1, 275)), (1, (0, p1)), (2, (0, p2))], [(0, 5), (1, 276), (4, 0), (4, p1)], w)) 1 rfl ?_
    refine e_Ok.ald (z := w 276 5) rfl (el_o rfl) rfl (by omega) rfl (by omega) ?_
    refine e_Ok.run (t' := (28, [(0, (1, 275)), (1, (0, p1)), (2, (0, p2))], [(0, 1), (0, w 276 5), (4, 0), (4, p1)], w)) 2 rfl ?_
    refine e_Ok.sub' (z := w 276 5 - 1) rfl (by omega) (by omega) ?_
    refine e_Ok.run (t' := (30, [(0, (1, 275)), (1, (0, p1)), (2, (0, p2))], [(4, w 276 5 - 1), (4, 0), (4, p1)], w)) 1 rfl ?_
    refine e_Ok.callS rfl (by omega) rfl rfl (c_266) (fun r18 w19 h20 => ?_)
    obtain ⟨z21, rfl, rfl, q22⟩ := h20
    obtain ⟨rfl, q22⟩ | ⟨rfl, q22⟩ := q22
    · show e_Ok 20 elay ecode eI (d + 1) 449 (33, [(0, (1, 275)), (1, (0, p1)), (2, (0, p2))], [(0, 1)], w) _
      refine e_Ok.if1 rfl (fun h23 => ?_) (fun h23 => ?_)
      · replace h23 : (1 : Int) = 0 := h23
        exfalso; omega
      · replace h23 : (1 : Int) ≠ 0 := by have q : ¬ ((1 : Int) = 0) := h23; omega
        refine e_Ok.run (t' := (42, [(0, (1, 275)), (1, (0, p1)), (2, (0, p2))], [(4, 3), (4, 0), (4, p2)], w)) 4 rfl ?_
        refine e_Ok.callS rfl (by omega) rfl rfl (c_266) (fun r24 w25 h26 => ?_)
        obtain ⟨z27, rfl, rfl, q28⟩ := h26
        obtain ⟨rfl, q28⟩ | ⟨rfl, q28⟩ := q28
        · show e_Ok 20 elay ecode eI (d + 1) 449 (45, [(0, (1, 275)), (1, (0, p1)), (2, (0, p2))], [(0, 1)], w) _
          refine e_Ok.if1 rfl (fun h29 => ?_) (fun h29 => ?_)
          · replace h29 : (1 : Int) = 0 := h29
            exfalso; omega
          · replace h29 : (1 : Int) ≠ 0 := by have q : ¬ ((1 : Int) = 0) := h29; omega
            refine e_Ok.run (t' := (49, [(0, (1, 275)), (1, (0, p1)), (2, (0, p2))], [(1, 275)], w)) 1 rfl ?_
            refine e_Ok.getr (z := 276) rfl (el_o rfl) rfl rfl (e_Has.eq hT rfl) (by omega) ?_
            refine e_Ok.run (t' := (57, [(0, (1, 275)), (1, (0, p1)), (2, (0, p2))], [(0, p1), (0, 4), (0, 25060), (1, 276)], w)) 3 rfl ?_
            refine e_Ok.mul (z := 4 * p1) rfl (by omega) (by omega) ?_
            refine e_Ok.add (z := 4 * p1 + 25060) rfl (by omega) (by omega) ?_
            refine e_Ok.run (t' := (60, [(0, (1, 275)), (1, (0, p1)), (2, (0, p2))], [(0, p2), (0, 4 * p1 + 25060), (1, 276)], w)) 1 rfl ?_
            refine e_Ok.add (z := 4 * p1 + p2 + 25060) rfl (by omega) (by omega) ?_
            have h30 := (e_Has.get hT (c := 276) (k := 4 * p1 + p2 + 25060) (lo := (-2147483648)) (hi := 2147483647) (nR_EV (by omega)) (by decide))
            refine e_Ok.ald (z := w 276 (4 * p1 + p2 + 25060)) rfl (el_o rfl) rfl (by omega) rfl (by omega) ?_
            refine e_Ok.run (t' := (66, [(0, (1, 275)), (1, (0, p1)), (2, (0, p2))], [(0, w 276 (4 * p1 + p2 + 25060))], w)) 1 rfl ?_
            refine e_Ok.rets rfl rfl ?_
            exact ⟨_, rfl, rfl⟩
        · show e_Ok 20 elay ecode eI (d + 1) 449 (45, [(0, (1, 275)), (1, (0, p1)), (2, (0, p2))], [(0, 0)], w) _
          refine e_Ok.if1 rfl (fun h31 => ?_) (fun h31 => ?_)
          · replace h31 : (0 : Int) = 0 := h31
            refine e_Ok.run (t' := (66, [(0, (1, 275)), (1, (0, p1)), (2, (0, p2))], [(0, (-1))], w)) 1 rfl ?_
            refine e_Ok.rets rfl rfl ?_
            exact ⟨_, rfl, rfl⟩
          · replace h31 : (0 : Int) ≠ 0 := by have q : ¬ ((0 : Int) = 0) := h31; omega
            exfalso; omega
    · show e_Ok 20 elay ecode eI (d + 1) 449 (33, [(0, (1, 275)), (1, (0, p1)), (2, (0, p2))], [(0, 0)], w) _
      refine e_Ok.if1 rfl (fun h32 => ?_) (fun h32 => ?_)
      · replace h32 : (0 : Int) = 0 := h32
        refine e_Ok.run (t' := (66, [(0, (1, 275)), (1, (0, p1)), (2, (0, p2))], [(0, (-1))], w)) 1 rfl ?_
        refine e_Ok.rets rfl rfl ?_
        exact ⟨_, rfl, rfl⟩
      · replace h32 : (0 : Int) ≠ 0 := by have q : ¬ ((0 : Int) = 0) := h32; omega
        exfalso; omega
theorem c_451 {d : Nat} (hd : 23 ≤ d) {w : eW} (hT : e_Has mTy w) (hH : e_Has hTy w) {p1 : Int} (g1 : (-2147483648) ≤ p1 ∧ p1 ≤ 2147483647) : e_Ok 20 elay ecode eI d 451 (0, [(0, (1, 275)), (1, (0, p1))], [], w) (fun r w' => ∃ z : Int, r = [(0, z)] ∧ w = w') := by
  obtain ⟨d, rfl⟩ : ∃ e, d = e + 1 := ⟨d - 1, by omega⟩
  refine e_Ok.run (t' := (6, [(0, (1, 275)), (1, (0, p1))], [(4, 3), (4, 0), (4, p1)], w)) 4 rfl ?_
  refine e_Ok.callS rfl (by omega) rfl rfl (c_266) (fun r1 w2 h3 => ?_)
  obtain ⟨z4, rfl, rfl, q5⟩ := h3
  obtain ⟨rfl, q5⟩ | ⟨rfl, q5⟩ := q5
  · show e_Ok 20 elay ecode eI (d + 1) 451 (9, [(0, (1, 275)), (1, (0, p1))], [(0, 1)], w) _
    refine e_Ok.if1 rfl (fun h6 => ?_) (fun h6 => ?_)
    · replace h6 : (1 : Int) = 0 := h6
      exfalso; omega
    · replace h6 : (1 : Int) ≠ 0 := by have q : ¬ ((1 : Int) = 0) := h6; omega
      refine e_Ok.run (t' := (13, [(0, (1, 275)), (1, (0, p1))], [(1, 275)], w)) 1 rfl ?_
      refine e_Ok.getr (z := 280) rfl (el_o rfl) rfl rfl (e_Has.eq hT rfl) (by omega) ?_
      refine e_Ok.run (t' := (17, [(0, (1, 275)), (1, (0, p1))], [(0, p1), (1, 280)], w)) 1 rfl ?_
      have h7 := (e_Has.get hH (c := 280) (k := p1) (lo := (-2147483648)) (hi := 2147483647) rfl (by decide))
      refine e_Ok.ald (z := w 280 p1) rfl (el_o rfl) rfl (by omega) rfl (by omega) ?_
      refine e_Ok.run (t' := (22, [(0, (1, 275)), (1, (0, p1))], [(0, w 280 p1)], w)) 1 rfl ?_
      refine e_Ok.rets rfl rfl ?_
      exact ⟨_, rfl, rfl⟩
  · show e_Ok 20 elay ecode eI (d + 1) 451 (9, [(0, (1, 275)), (1, (0, p1))], [(0, 0)], w) _
    refine e_Ok.if1 rfl (fun h8 => ?_) (fun h8 => ?_)
    · replace h8 : (0 : Int) = 0 := h8
      refine e_Ok.run (t' := (22, [(0, (1, 275)), (1, (0, p1))], [(0, (-1))], w)) 1 rfl ?_
      refine e_Ok.rets rfl rfl ?_
      exact ⟨_, rfl, rfl⟩
    · replace h8 : (0 : Int) ≠ 0 := by have q : ¬ ((0 : Int) = 0) := h8; omega
      exfalso; omega
theorem c_444 {d : Nat} (hd : 23 ≤ d) {w : eW} (hT : e_Has mTy w) (hH : e_Has hTy w) {p1 p2 : Int} (g1 : (-2147483648) ≤ p1 ∧ p1 ≤ 2147483647) (g2 : (-2147483648) ≤ p2 ∧ p2 ≤ 2147483647) (hA : mAc w) : e_Ok 20 elay ecode eI d 444 (0, [(0, (1, 275)), (1, (0, p1)), (2, (0, p2))], [], w) (fun r w' => ∃ z : Int, r = [(0, z)] ∧ e_fr mQ w w') := by
  obtain ⟨d, rfl⟩ : ∃ e, d = e + 1 := ⟨d - 1, by omega⟩
  refine e_Ok.run (t' := (2, [(0, (1, 275)), (1, (0, p1)), (2, (0, p2))], [(0, p1), (1, 275)], w)) 2 rfl ?_
  refine e_Ok.callV rfl (by omega) rfl rfl rfl rfl (c_424 (by omega)) (fun r1 w2 h3 => ?_)
  obtain ⟨z4, rfl, rfl, q5⟩ := h3
  obtain ⟨rfl, q5⟩ | ⟨rfl, q5⟩ := q5
  · show e_Ok 20 elay ecode eI (d + 1) 444 (5, [(0, (1, 275)), (1, (0, p1)), (2, (0, p2))], [(0, 1)], w) _
    refine e_Ok.if1 rfl (fun h6 => ?_) (fun h6 => ?_)
    · replace h6 : (1 : Int) = 0 := h6
      exfalso; omega
    · replace h6 : (1 : Int) ≠ 0 := by have q : ¬ ((1 : Int) = 0) := h6; omega
      refine e_Ok.run (t' := (14, [(0, (1, 275)), (1, (0, p1)), (2, (0, p2))], [(4, 2), (4, 0), (4, p2)], w)) 4 rfl ?_
      refine e_Ok.callS rfl (by omega) rfl rfl (c_266) (fun r7 w8 h9 => ?_)
      obtain ⟨z10, rfl, rfl, q11⟩ := h9
      obtain ⟨rfl, q11⟩ | ⟨rfl, q11⟩ := q11
      · show e_Ok 20 elay ecode eI (d + 1) 444 (17, [(0, (1, 275)), (1, (0, p1)), (2, (0, p2))], [(0, 1)], w) _
        refine e_Ok.if1 rfl (fun h12 => ?_) (fun h12 => ?_)
        · replace h12 : (1 : Int) ≠ 0 := h12
          refine e_Ok.run (t' := (23, [(0, (1, 275)), (1, (0, p1)), (2, (0, p2))], [(0, p2)], w)) 1 rfl ?_
          refine e_Ok.if1 rfl (fun h13 => ?_) (fun h13 => ?_)
          · replace h13 : (p2 : Int) ≠ 0 := h13
            refine e_Ok.run (t' := (36, [(0, (1, 275)), (1, (0, p1)), (2, (0, p2))], [(0, 1), (0, p2)], w)) 2 rfl ?_
            refine e_Ok.if2 rfl (fun h14 => ?_) (fun h14 => ?_)
            · replace h14 : (p2 : Int) ≠ 1 := h14
              refine e_Ok.run (t' := (53, [(0, (1, 275)), (1, (0, p1)), (2, (0, p2))], [(1, 275)], w)) 1 rfl ?_
              refine e_Ok.getr (z := 276) rfl (el_o rfl) rfl rfl (e_Has.eq hT rfl) (by omega) ?_
              refine e_Ok.run (t' := (60, [(0, (1, 275)), (1, (0, p1)), (2, (0, p2))], [(0, p1), (0, 352), (1, 276)], w)) 2 rfl ?_
              refine e_Ok.add (z := p1 + 352) rfl (by omega) (by omega) ?_
              have h15 := (e_Has.get hT (c := 276) (k := p1 + 352) (lo := (-2147483648)) (hi := 2147483647) (nR_RISES (p := p1) (by omega)) (by decide))
              refine e_Ok.ald (z := w 276 (p1 + 352)) rfl (el_o rfl) rfl (by omega) rfl (by omega) ?_
              refine e_Ok.rets rfl rfl ?_
              exact ⟨_, rfl, (e_fr.refl w)⟩
            · replace h14 : (p2 : Int) = 1 := by have q : ¬ ((p2 : Int) ≠ 1) := h14; omega
              refine e_Ok.run (t' := (40, [(0, (1, 275)), (1, (0, p1)), (2, (0, p2))], [(1, 275)], w)) 1 rfl ?_
              refine e_Ok.getr (z := 276) rfl (el_o rfl) rfl rfl (e_Has.eq hT rfl) (by omega) ?_
              refine e_Ok.run (t' := (47, [(0, (1, 275)), (1, (0, p1)), (2, (0, p2))], [(0, p1), (0, 160), (1, 276)], w)) 2 rfl ?_
              refine e_Ok.add (z := p1 + 160) rfl (by omega) (by omega) ?_
              have h16 := (e_Has.get hT (c := 276) (k := p1 + 160) (lo := (-2147483648)) (hi := 2147483647) (nR_OWN (p := p1) (by omega)) (by decide))
              refine e_Ok.ald (z := w 276 (p1 + 160)) rfl (el_o rfl) rfl (by omega) rfl (by omega) ?_
              refine e_Ok.run (t' := (62, [(0, (1, 275)), (1, (0, p1)), (2, (0, p2))], [(0, w 276 (p1 + 160))], w)) 1 rfl ?_
              refine e_Ok.rets rfl rfl ?_
              exact ⟨_, rfl, (e_fr.refl w)⟩
          · replace h13 : (p2 : Int) = 0 := by have q : ¬ ((p2 : Int) ≠ 0) := h13; omega
            refine e_Ok.run (t' := (28, [(0, (1, 275)), (1, (0, p1)), (2, (0, p2))], [(0, p1), (1, 275)], w)) 2 rfl ?_
            refine e_Ok.callV rfl (by omega) rfl rfl rfl rfl (c_320 hT hA (by omega)) (fun r17 w18 h19 => ?_)
            obtain ⟨z20, rfl, q21, q21a, q21b⟩ := h19
            have f22 : e_fr mQ w w18 := e_fr.trans (e_fr.refl w) (e_fr.mono q21 (fun c k q => by exact q))
            show e_Ok 20 elay ecode eI (d + 1) 444 (31, [(0, (1, 275)), (1, (0, p1)), (2, (0, p2))], [(0, z20)], w18) _
            refine e_Ok.run (t' := (62, [(0, (1, 275)), (1, (0, p1)), (2, (0, p2))], [(0, z20)], w18)) 1 rfl ?_
            refine e_Ok.rets rfl rfl ?_
            exact ⟨_, rfl, f22⟩
        · replace h12 : (1 : Int) = 0 := by have q : ¬ ((1 : Int) ≠ 0) := h12; omega
          exfalso; omega
      · show e_Ok 20 elay ecode eI (d + 1) 444 (17, [(0, (1, 275)), (1, (0, p1)), (2, (0, p2))], [(0, 0)], w) _
        refine e_Ok.if1 rfl (fun h23 => ?_) (fun h23 => ?_)
        · replace h23 : (0 : Int) ≠ 0 := h23
          exfalso; omega
        · replace h23 : (0 : Int) = 0 := by have q : ¬ ((0 : Int) ≠ 0) := h23; omega
          refine e_Ok.run (t' := (21, [(0, (1, 275)), (1, (0, p1)), (2, (0, p2))], [(0, (-1))], w)) 1 rfl ?_
          refine e_Ok.rets rfl rfl ?_
          exact ⟨_, rfl, (e_fr.refl w)⟩
  · show e_Ok 20 elay ecode eI (d + 1) 444 (5, [(0, (1, 275)), (1, (0, p1)), (2, (0, p2))], [(0, 0)], w) _
    refine e_Ok.if1 rfl (fun h24 => ?_) (fun h24 => ?_)
    · replace h24 : (0 : Int) = 0 := h24
      refine e_Ok.run (t' := (21, [(0, (1, 275)), (1, (0, p1)), (2, (0, p2))], [(0, (-1))], w)) 1 rfl ?_
      refine e_Ok.rets rfl rfl ?_
      exact ⟨_, rfl, (e_fr.refl w)⟩
    · replace h24 : (0 : Int) ≠ 0 := by have q : ¬ ((0 : Int) = 0) := h24; omega
      exfalso; omega
end
