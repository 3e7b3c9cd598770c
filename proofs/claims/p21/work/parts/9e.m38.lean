noncomputable section
theorem st_ti {c k : Int} (q : mSt c k) : mTi c k := by unfold mSt at q; unfold mTi; omega
theorem nw_ti {a c k : Int} (q : mNw a c k) : mTi c k := by unfold mNw at q; unfold mTi; omega
theorem c_271_x {d : Nat} (hd : 22 ≤ d) {w : eW} (hT : e_Has mTy w) {a j : Int} : e_Ok 20 elay ecode eI d 271 (0, [(0, (1, 275)), (1, (0, a)), (2, (0, j))], [], w) (fun r w' => ∃ z : Int, r = [(0, z)] ∧ w = w' ∧ ((z = 1 ∧ (0 ≤ a ∧ a < w 275 10) ∧ 0 ≤ j ∧ j < w 286 a) ∨ (z = 0 ∧ ¬ ((0 ≤ a ∧ a < w 275 10) ∧ 0 ≤ j ∧ j < w 286 a)))) := by
  obtain ⟨d, rfl⟩ : ∃ e, d = e + 1 := ⟨d - 1, by omega⟩
  refine e_Ok.run (t' := (2, [(0, (1, 275)), (1, (0, a)), (2, (0, j))], [(0, a), (1, 275)], w)) 2 rfl ?_
  refine e_Ok.callV rfl (by omega) rfl rfl rfl rfl (c_270 (by omega) hT) (fun r1 w2 h3 => ?_)
  have h4 := e_Has.get hT (c := 275) (k := 10) (lo := 0) (hi := 4) rfl (by decide)
  obtain ⟨z5, rfl, rfl, q6⟩ := h3
  obtain ⟨rfl, q6⟩ | ⟨rfl, q6⟩ := q6
  · show e_Ok 20 elay ecode eI (d + 1) 271 (5, [(0, (1, 275)), (1, (0, a)), (2, (0, j))], [(0, 1)], w) _
    refine e_Ok.if1 rfl (fun h7 => ?_) (fun h7 => ?_)
    · replace h7 : (1 : Int) = 0 := h7
      exfalso; omega
    · replace h7 : (1 : Int) ≠ 0 := by have q : ¬ ((1 : Int) = 0) := h7; omega
      refine e_Ok.run (t' := (12, [(0, (1, 275)), (1, (0, a)), (2, (0, j))], [(1, 275), (4, 0), (4, j)], w)) 4 rfl ?_
      refine e_Ok.getr (z := 286) rfl (el_o rfl) rfl rfl (e_Has.eq hT rfl) (by omega) ?_
      refine e_Ok.run (t' := (16, [(0, (1, 275)), (1, (0, a)), (2, (0, j))], [(0, a), (1, 286), (4, 0), (4, j)], w)) 1 rfl ?_
      have h8 := (e_Has.get hT (c := 286) (k := a) (lo := 0) (hi := 6) rfl (by decide))
      refine e_Ok.ald (z := w 286 a) rfl (el_o rfl) rfl (by omega) rfl (by omega) ?_
      refine e_Ok.run (t' := (18, [(0, (1, 275)), (1, (0, a)), (2, (0, j))], [(0, 1), (0, w 286 a), (4, 0), (4, j)], w)) 1 rfl ?_
      refine e_Ok.sub' (z := w 286 a - 1) rfl (by omega) (by omega) ?_
      refine e_Ok.run (t' := (20, [(0, (1, 275)), (1, (0, a)), (2, (0, j))], [(4, w 286 a - 1), (4, 0), (4, j)], w)) 1 rfl ?_
      refine e_Ok.callS rfl (by omega) rfl rfl (c_266) (fun r9 w10 h11 => ?_)
      obtain ⟨z12, rfl, rfl, q13⟩ := h11
      obtain ⟨rfl, q13⟩ | ⟨rfl, q13⟩ := q13
      · show e_Ok 20 elay ecode eI (d + 1) 271 (23, [(0, (1, 275)), (1, (0, a)), (2, (0, j))], [(0, 1)], w) _
        refine e_Ok.if1 rfl (fun h14 => ?_) (fun h14 => ?_)
        · replace h14 : (1 : Int) = 0 := h14
          exfalso; omega
        · replace h14 : (1 : Int) ≠ 0 := by have q : ¬ ((1 : Int) = 0) := h14; omega
          refine e_Ok.run (t' := (31, [(0, (1, 275)), (1, (0, a)), (2, (0, j))], [(0, 1)], w)) 2 rfl ?_
          refine e_Ok.rets rfl rfl ?_
          exact ⟨_, rfl, rfl, Or.inl ⟨rfl, by omega, by omega⟩⟩
      · show e_Ok 20 elay ecode eI (d + 1) 271 (23, [(0, (1, 275)), (1, (0, a)), (2, (0, j))], [(0, 0)], w) _
        refine e_Ok.if1 rfl (fun h15 => ?_) (fun h15 => ?_)
        · replace h15 : (0 : Int) = 0 := h15
          refine e_Ok.run (t' := (31, [(0, (1, 275)), (1, (0, a)), (2, (0, j))], [(0, 0)], w)) 1 rfl ?_
          refine e_Ok.rets rfl rfl ?_
          exact ⟨_, rfl, rfl, Or.inr ⟨rfl, by omega⟩⟩
        · replace h15 : (0 : Int) ≠ 0 := by have q : ¬ ((0 : Int) = 0) := h15; omega
          exfalso; omega
  · show e_Ok 20 elay ecode eI (d + 1) 271 (5, [(0, (1, 275)), (1, (0, a)), (2, (0, j))], [(0, 0)], w) _
    refine e_Ok.if1 rfl (fun h16 => ?_) (fun h16 => ?_)
    · replace h16 : (0 : Int) = 0 := h16
      refine e_Ok.run (t' := (31, [(0, (1, 275)), (1, (0, a)), (2, (0, j))], [(0, 0)], w)) 1 rfl ?_
      refine e_Ok.rets rfl rfl ?_
      exact ⟨_, rfl, rfl, Or.inr ⟨rfl, by omega⟩⟩
    · replace h16 : (0 : Int) ≠ 0 := by have q : ¬ ((0 : Int) = 0) := h16; omega
      exfalso; omega
theorem no_9e_0 : ¬ mTi 275 5 := by unfold mTi; omega
theorem no_9e_1 : ¬ mTi 275 6 := by unfold mTi; omega
theorem no_9e_2 {k : Int} : ¬ mTi 356 k := by unfold mTi; omega
theorem no_9e_3 : ¬ mSt 276 0 := by unfold mSt; omega
theorem no_9e_4 : ¬ mSt 276 5 := by unfold mSt; omega
set_option maxHeartbeats 4000000 in
theorem c_433 {d : Nat} (hd : 27 ≤ d) {w : eW} {G : Int → Gh} (hI : mInv w G) (hB : bkE w) (hE : w 276 5 ≤ 7000000) {p1 p2 p3 : Int} (g1 : -2147483648 ≤ p1 ∧ p1 ≤ 2147483647) (g2 : -2147483648 ≤ p2 ∧ p2 ≤ 2147483647) (g3 : -2147483648 ≤ p3 ∧ p3 ≤ 2147483647) : e_Ok 20 elay ecode eI d 433 (0, [(0, (1, 275)), (1, (0, p1)), (2, (0, p2)), (3, (0, p3))], [], w) (fun r w' => ∃ z : Int, r = [(0, z)] ∧ ((w = w' ∧ ¬ (((0 ≤ p1 ∧ p1 < w 275 10 ∧ 0 ≤ p2 ∧ p2 < w 286 p1) ∧ (w 288 (6 * p1 + p2) ≤ p3 ∧ p3 ≤ w 289 (6 * p1 + p2)) ∧ w 275 3 = 1 ∧ w 276 1 ≠ 1) ∧ ¬ mBk w)) ∨ (((0 ≤ p1 ∧ p1 < w 275 10 ∧ 0 ≤ p2 ∧ p2 < w 286 p1) ∧ (w 288 (6 * p1 + p2) ≤ p3 ∧ p3 ≤ w 289 (6 * p1 + p2)) ∧ w 275 3 = 1 ∧ w 276 1 ≠ 1) ∧ ¬ mBk w ∧ opS w w' G 8 p1 p2 p3 (fun k => if w 276 (36 * p1 + p2 + 32) = p3 then e_up w 276 (36 * p1 + p2 + 32) p3 276 k else nowF 390 [(0, (1, 275)), (1, (0, p1))] (e_up w 276 (36 * p1 + p2 + 32) p3) k) ∧ evG w w'))) := by
  obtain ⟨d, rfl⟩ : ∃ e, d = e + 1 := ⟨d - 1, by omega⟩
  have hpw := e_Has.get hI.1 (c := 276) (k := 1) (lo := 0) (hi := 1) rfl (by decide)
  have har := e_Has.get hI.1 (c := 275) (k := 10) (lo := 0) (hi := 4) rfl (by decide)
  refine e_Ok.run (t' := (3, [(0, (1, 275)), (1, (0, p1)), (2, (0, p2)), (3, (0, p3))], [(0, p2), (0, p1), (1, 275)], w)) 3 rfl ?_
  refine e_Ok.callV rfl (by omega) rfl rfl rfl rfl (c_271_x (by omega) hI.1) (fun r1 w2 h3 => ?_)
  obtain ⟨z4, rfl, rfl, q5⟩ := h3
  have h6 := e_Has.get hI.1 (c := 275) (k := 10) (lo := 0) (hi := 4) rfl (by decide)
  have h7 := e_Has.get hI.1 (c := 286) (k := p1) (lo := 0) (hi := 6) rfl (by decide)
  obtain ⟨rfl, q5⟩ | ⟨rfl, q5⟩ := q5
  · show e_Ok 20 elay ecode eI (d + 1) 433 (6, [(0, (1, 275)), (1, (0, p1)), (2, (0, p2)), (3, (0, p3))], [(0, 1)], w) _
    refine e_Ok.if1 rfl (fun h8 => ?_) (fun h8 => ?_)
    · replace h8 : (1 : Int) = 0 := h8
      exfalso; omega
    · replace h8 : (1 : Int) ≠ 0 := by have q : ¬ ((1 : Int) = 0) := h8; omega
      refine e_Ok.run (t' := (12, [(0, (1, 275)), (1, (0, p1)), (2, (0, p2)), (3, (0, p3))], [(1, 275), (4, p3)], w)) 3 rfl ?_
      refine e_Ok.getr (z := 288) rfl (el_o rfl) rfl rfl (e_Has.eq hI.1 rfl) (by omega) ?_
      refine e_Ok.run (t' := (18, [(0, (1, 275)), (1, (0, p1)), (2, (0, p2)), (3, (0, p3))], [(0, p1), (0, 6), (1, 288), (4, p3)], w)) 2 rfl ?_
      refine e_Ok.mul (z := 6 * p1) rfl (by omega) (by omega) ?_
      refine e_Ok.run (t' := (20, [(0, (1, 275)), (1, (0, p1)), (2, (0, p2)), (3, (0, p3))], [(0, p2), (0, 6 * p1), (1, 288), (4, p3)], w)) 1 rfl ?_
      refine e_Ok.add (z := 6 * p1 + p2) rfl (by omega) (by omega) ?_
      have h9 := (e_Has.get hI.1 (c := 288) (k := 6 * p1 + p2) (lo := (-100000)) (hi := 0) rfl (by decide))
      refine e_Ok.ald (z := w 288 (6 * p1 + p2)) rfl (el_o rfl) rfl (by omega) rfl (by omega) ?_
      refine e_Ok.run (t' := (24, [(0, (1, 275)), (1, (0, p1)), (2, (0, p2)), (3, (0, p3))], [(1, 275), (4, w 288 (6 * p1 + p2)), (4, p3)], w)) 2 rfl ?_
      refine e_Ok.getr (z := 289) rfl (el_o rfl) rfl rfl (e_Has.eq hI.1 rfl) (by omega) ?_
      refine e_Ok.run (t' := (30, [(0, (1, 275)), (1, (0, p1)), (2, (0, p2)), (3, (0, p3))], [(0, p1), (0, 6), (1, 289), (4, w 288 (6 * p1 + p2)), (4, p3)], w)) 2 rfl ?_
      refine e_Ok.mul (z := 6 * p1) rfl (by omega) (by omega) ?_
      refine e_Ok.run (t' := (32, [(0, (1, 275)), (1, (0, p1)), (2, (0, p2)), (3, (0, p3))], [(0, p2), (0, 6 * p1), (1, 289), (4, w 288 (6 * p1 + p2)), (4, p3)], w)) 1 rfl ?_
      refine e_Ok.add (z := 6 * p1 + p2) rfl (by omega) (by omega) ?_
      have h10 := (e_Has.get hI.1 (c := 289) (k := 6 * p1 + p2) (lo := 0) (hi := 100000) rfl (by decide))
      refine e_Ok.ald (z := w 289 (6 * p1 + p2)) rfl (el_o rfl) rfl (by omega) rfl (by omega) ?_
      refine e_Ok.run (t' := (35, [(0, (1, 275)), (1, (0, p1)), (2, (0, p2)), (3, (0, p3))], [(4, w 289 (6 * p1 + p2)), (4, w 288 (6 * p1 + p2)), (4, p3)], w)) 1 rfl ?_
      refine e_Ok.callS rfl (by omega) rfl rfl (c_266) (fun r11 w12 h13 => ?_)
      obtain ⟨z14, rfl, rfl, q15⟩ := h13
      obtain ⟨rfl, q15⟩ | ⟨rfl, q15⟩ := q15
      · show e_Ok 20 elay ecode eI (d + 1) 433 (38, [(0, (1, 275)), (1, (0, p1)), (2, (0, p2)), (3, (0, p3))], [(0, 1)], w) _
        refine e_Ok.if1 rfl (fun h16 => ?_) (fun h16 => ?_)
        · replace h16 : (1 : Int) ≠ 0 := h16
          refine e_Ok.run (t' := (44, [(0, (1, 275)), (1, (0, p1)), (2, (0, p2)), (3, (0, p3))], [(1, 275)], w)) 1 rfl ?_
          have h17 := (e_Has.get hI.1 (c := 275) (k := 3) (lo := 0) (hi := 1) rfl (by decide))
          refine e_Ok.getf (z := w 275 3) rfl (el_o rfl) rfl rfl rfl (by omega) ?_
          refine e_Ok.if1 rfl (fun h18 => ?_) (fun h18 => ?_)
          · replace h18 : (w 275 3 : Int) = 0 := h18
            refine e_Ok.run (t' := (62, [(0, (1, 275)), (1, (0, p1)), (2, (0, p2)), (3, (0, p3))], [(0, (-2))], w)) 1 rfl ?_
            refine e_Ok.rets rfl rfl ?_
            exact ⟨_, rfl, Or.inl ⟨rfl, fun hc => by first | exact hc.2 (by assumption) | (have h1 := hc.1; omega)⟩⟩
          · replace h18 : (w 275 3 : Int) ≠ 0 := by have q : ¬ ((w 275 3 : Int) = 0) := h18; omega
            refine e_Ok.run (t' := (51, [(0, (1, 275)), (1, (0, p1)), (2, (0, p2)), (3, (0, p3))], [(1, 275)], w)) 1 rfl ?_
            refine e_Ok.getr (z := 276) rfl (el_o rfl) rfl rfl (e_Has.eq hI.1 rfl) (by omega) ?_
            refine e_Ok.run (t' := (55, [(0, (1, 275)), (1, (0, p1)), (2, (0, p2)), (3, (0, p3))], [(0, 1), (1, 276)], w)) 1 rfl ?_
            have h19 := (e_Has.get hI.1 (c := 276) (k := 1) (lo := 0) (hi := 1) rfl (by decide))
            refine e_Ok.ald (z := w 276 1) rfl (el_o rfl) rfl (by omega) rfl (by omega) ?_
            refine e_Ok.run (t' := (57, [(0, (1, 275)), (1, (0, p1)), (2, (0, p2)), (3, (0, p3))], [(0, 1), (0, w 276 1)], w)) 1 rfl ?_
            refine e_Ok.if2 rfl (fun h20 => ?_) (fun h20 => ?_)
            · replace h20 : (w 276 1 : Int) ≠ 1 := h20
              have hcond : ((0 ≤ p1 ∧ p1 < w 275 10 ∧ 0 ≤ p2 ∧ p2 < w 286 p1) ∧ (w 288 (6 * p1 + p2) ≤ p3 ∧ p3 ≤ w 289 (6 * p1 + p2)) ∧ w 275 3 = 1 ∧ w 276 1 ≠ 1) := ⟨by omega, by omega, by omega, by omega⟩
              refine e_Ok.run (t' := (64, [(0, (1, 275)), (1, (0, p1)), (2, (0, p2)), (3, (0, p3))], [(1, 275)], w)) 1 rfl ?_
              refine e_Ok.callV rfl (by omega) rfl rfl rfl rfl (c_422_x hI.1 hB) (fun r21 w22 h23 => ?_)
              obtain ⟨z24, rfl, rfl, q25⟩ := h23
              obtain ⟨rfl, q25⟩ | ⟨rfl, q25⟩ := q25
              · show e_Ok 20 elay ecode eI (d + 1) 433 (67, [(0, (1, 275)), (1, (0, p1)), (2, (0, p2)), (3, (0, p3))], [(0, 1)], w) _
                refine e_Ok.if1 rfl (fun h26 => ?_) (fun h26 => ?_)
                · replace h26 : (1 : Int) = 0 := h26
                  exfalso; omega
                · replace h26 : (1 : Int) ≠ 0 := by have q : ¬ ((1 : Int) = 0) := h26; omega
                  refine e_Ok.run (t' := (72, [(0, (1, 275)), (1, (0, p1)), (2, (0, p2)), (3, (0, p3))], [(0, (-3))], w)) 1 rfl ?_
                  refine e_Ok.rets rfl rfl ?_
                  exact ⟨_, rfl, Or.inl ⟨rfl, fun hc => by first | exact hc.2 (by assumption) | (have h1 := hc.1; omega)⟩⟩
              · show e_Ok 20 elay ecode eI (d + 1) 433 (67, [(0, (1, 275)), (1, (0, p1)), (2, (0, p2)), (3, (0, p3))], [(0, 0)], w) _
                refine e_Ok.if1 rfl (fun h27 => ?_) (fun h27 => ?_)
                · replace h27 : (0 : Int) = 0 := h27
                  refine e_Ok.run (t' := (74, [(0, (1, 275)), (1, (0, p1)), (2, (0, p2)), (3, (0, p3))], [(1, 275)], w)) 1 rfl ?_
                  refine e_Ok.getr (z := 276) rfl (el_o rfl) rfl rfl (e_Has.eq hI.1 rfl) (by omega) ?_
                  refine e_Ok.run (t' := (78, [(0, (1, 275)), (1, (0, p1)), (2, (0, p2)), (3, (0, p3))], [(0, p1), (1, 276)], w)) 1 rfl ?_
                  refine e_Ok.callS rfl (by omega) rfl rfl (c_268 (by omega)) (fun r28 w29 h30 => ?_)
                  obtain ⟨rfl, rfl⟩ := h30
                  show e_Ok 20 elay ecode eI (d + 1) 433 (81, [(0, (1, 275)), (1, (0, p1)), (2, (0, p2)), (3, (0, p3))], [(0, 36 * p1 + 16), (1, 276)], w) _
                  refine e_Ok.run (t' := (83, [(0, (1, 275)), (1, (0, p1)), (2, (0, p2)), (3, (0, p3))], [(0, 16), (0, 36 * p1 + 16), (1, 276)], w)) 1 rfl ?_
                  refine e_Ok.add (z := 36 * p1 + 32) rfl (by omega) (by omega) ?_
                  refine e_Ok.run (t' := (85, [(0, (1, 275)), (1, (0, p1)), (2, (0, p2)), (3, (0, p3))], [(0, p2), (0, 36 * p1 + 32), (1, 276)], w)) 1 rfl ?_
                  refine e_Ok.add (z := 36 * p1 + p2 + 32) rfl (by omega) (by omega) ?_
                  have h31 := (e_Has.get hI.1 (c := 276) (k := 36 * p1 + p2 + 32) (lo := (-100000)) (hi := 100000) (nR_VALUE (a := p1) (j := p2) (by omega) (by omega)) (by decide))
                  refine e_Ok.ald (z := w 276 (36 * p1 + p2 + 32)) rfl (el_o rfl) rfl (by omega) rfl (by omega) ?_
                  refine e_Ok.run (t' := (89, [(4, (0, w 276 (36 * p1 + p2 + 32))), (0, (1, 275)), (1, (0, p1)), (2, (0, p2)), (3, (0, p3))], [], w)) 1 rfl ?_
                  have hb288 := e_Has.get hI.1 (c := 288) (k := 6 * p1 + p2) (lo := -100000) (hi := 0) rfl (by decide)
                  have hb289 := e_Has.get hI.1 (c := 289) (k := 6 * p1 + p2) (lo := 0) (hi := 100000) rfl (by decide)
                  refine e_Ok.run (t' := (90, [(4, (0, w 276 (36 * p1 + p2 + 32))), (0, (1, 275)), (1, (0, p1)), (2, (0, p2)), (3, (0, p3))], [(1, 275)], w)) 1 rfl ?_
                  refine e_Ok.getr (z := 276) rfl (el_o rfl) rfl rfl (e_Has.eq hI.1 rfl) (by omega) ?_
                  refine e_Ok.run (t' := (94, [(4, (0, w 276 (36 * p1 + p2 + 32))), (0, (1, 275)), (1, (0, p1)), (2, (0, p2)), (3, (0, p3))], [(0, p1), (1, 276)], w)) 1 rfl ?_
                  refine e_Ok.callS rfl (by omega) rfl rfl (c_268 (by omega)) (fun r32 w33 h34 => ?_)
                  obtain ⟨rfl, rfl⟩ := h34
                  show e_Ok 20 elay ecode eI (d + 1) 433 (97, [(4, (0, w 276 (36 * p1 + p2 + 32))), (0, (1, 275)), (1, (0, p1)), (2, (0, p2)), (3, (0, p3))], [(0, 36 * p1 + 16), (1, 276)], w) _
                  refine e_Ok.run (t' := (99, [(4, (0, w 276 (36 * p1 + p2 + 32))), (0, (1, 275)), (1, (0, p1)), (2, (0, p2)), (3, (0, p3))], [(0, 16), (0, 36 * p1 + 16), (1, 276)], w)) 1 rfl ?_
                  refine e_Ok.add (z := 36 * p1 + 32) rfl (by omega) (by omega) ?_
                  refine e_Ok.run (t' := (101, [(4, (0, w 276 (36 * p1 + p2 + 32))), (0, (1, 275)), (1, (0, p1)), (2, (0, p2)), (3, (0, p3))], [(0, p2), (0, 36 * p1 + 32), (1, 276)], w)) 1 rfl ?_
                  refine e_Ok.add (z := 36 * p1 + p2 + 32) rfl (by omega) (by omega) ?_
                  refine e_Ok.run (t' := (103, [(4, (0, w 276 (36 * p1 + p2 + 32))), (0, (1, 275)), (1, (0, p1)), (2, (0, p2)), (3, (0, p3))], [(0, p3), (0, 36 * p1 + p2 + 32), (1, 276)], w)) 1 rfl ?_
                  refine e_Ok.ast rfl (el_o rfl) rfl rfl (by omega) ?_
                  generalize hw35 : e_up w 276 (36 * p1 + p2 + 32) p3 = w35
                  have f36 : e_fr mTi w w35 := e_fr.up (e_fr.refl w) hw35 (by unfold mTi; omega)
                  have hT37 : e_Has mTy w35 := e_Has.upr hI.1 hw35 (nR_VALUE (a := p1) (j := p2) (by omega) (by omega)) (by omega)
                  refine e_Ok.run (t' := (107, [(4, (0, w 276 (36 * p1 + p2 + 32))), (0, (1, 275)), (1, (0, p1)), (2, (0, p2)), (3, (0, p3))], [(0, p3), (0, w 276 (36 * p1 + p2 + 32))], w35)) 2 rfl ?_
                  refine e_Ok.if2 rfl (fun h38 => ?_) (fun h38 => ?_)
                  · replace h38 : (w 276 (36 * p1 + p2 + 32) : Int) = p3 := h38
                    have hI40 : mInv w35 G := mInv.hand hI (by omega) (by omega) (by omega) hcond.2.1 (by omega) hw35 (e_fr.refl w35) hT37 (Or.inr ⟨fun b g1 g2 => rfl, by omega⟩) (fun b g1 g2 => Or.inr rfl)
                    refine e_Ok.run (t' := (121, [(4, (0, w 276 (36 * p1 + p2 + 32))), (0, (1, 275)), (1, (0, p1)), (2, (0, p2)), (3, (0, p3))], [(0, p3), (0, p2), (0, p1), (0, 8), (1, 275)], w35)) 5 rfl ?_
                    refine e_Ok.callV rfl (by omega) rfl rfl rfl rfl (c_423_u (by omega) hT37 (bkE.fr hB (f36 275 5 no_9e_0) (f36 275 6 no_9e_1) (fun k => f36 356 k no_9e_2)).1 (fun e => by have e5 : w35 275 5 = w 275 5 := f36 275 5 no_9e_0; have e6 : w35 275 6 = w 275 6 := f36 275 6 no_9e_1; have h1 := hB.1; have h2 := (show ¬ mBk w by assumption); unfold mBk at h2; omega) (by decide) (fun e => by omega)) (fun r41 w42 h43 => ?_)
                    obtain ⟨rfl, q44⟩ := h43
                    show e_Ok 20 elay ecode eI (d + 1) 433 (124, [(4, (0, w 276 (36 * p1 + p2 + 32))), (0, (1, 275)), (1, (0, p1)), (2, (0, p2)), (3, (0, p3))], [], w42) _
                    refine e_Ok.run (t' := (126, [(4, (0, w 276 (36 * p1 + p2 + 32))), (0, (1, 275)), (1, (0, p1)), (2, (0, p2)), (3, (0, p3))], [(0, w 276 (36 * p1 + p2 + 32))], w42)) 1 rfl ?_
                    refine e_Ok.rets rfl rfl ?_
                    have ek0 : w35 276 0 = w 276 0 := (by rw [← hw35]; exact (e_up_ne _ _ (Or.inr (by omega))).trans rfl)
                    have ek5 : w35 276 5 = w 276 5 := (by rw [← hw35]; exact (e_up_ne _ _ (Or.inr (by omega))).trans rfl)
                    exact ⟨_, rfl, Or.inr ⟨hcond, by assumption, opS.ev (wm := w35) (opS.of f36 hI40 (fun k => by show w35 276 k = if w 276 (36 * p1 + p2 + 32) = p3 then w35 276 k else _; rw [if_pos (by omega)]) q44) (fun k => by show w35 276 k = if w 276 (36 * p1 + p2 + 32) = p3 then w35 276 k else _; rw [if_pos (by omega)]) (by unfold evG; omega)⟩⟩
                  · replace h38 : (w 276 (36 * p1 + p2 + 32) : Int) ≠ p3 := by have q : ¬ ((w 276 (36 * p1 + p2 + 32) : Int) = p3) := h38; omega
                    refine e_Ok.run (t' := (112, [(4, (0, w 276 (36 * p1 + p2 + 32))), (0, (1, 275)), (1, (0, p1)), (2, (0, p2)), (3, (0, p3))], [(0, p1), (1, 275)], w35)) 2 rfl ?_
                    refine e_Ok.callV rfl (by omega) rfl rfl rfl rfl (d_390 (by omega) hT37) (fun r45 w46 h47 => ?_)
                    obtain ⟨⟨rfl, q48, q48T, q48a, q48b⟩, q48x⟩ := h47
                    have f49 : e_fr mTi w w46 := e_fr.trans f36 (e_fr.mono q48 (fun c k q => by exact st_ti q))
                    have q48o := q48 276 0 no_9e_3
                    have q48p := q48 276 5 no_9e_4
                    show e_Ok 20 elay ecode eI (d + 1) 433 (115, [(4, (0, w 276 (36 * p1 + p2 + 32))), (0, (1, 275)), (1, (0, p1)), (2, (0, p2)), (3, (0, p3))], [], w46) _
                    have hI50 : mInv w46 G := mInv.hand hI (by omega) (by omega) (by omega) hcond.2.1 (by omega) hw35 q48 q48T (Or.inl (fun b g1 g2 => q48a b g1 (by have e : w35 275 10 = w 275 10 := (by rw [← hw35]; exact (e_up_ne _ _ (Or.inl (by omega))).trans rfl); omega))) q48b
                    refine e_Ok.run (t' := (121, [(4, (0, w 276 (36 * p1 + p2 + 32))), (0, (1, 275)), (1, (0, p1)), (2, (0, p2)), (3, (0, p3))], [(0, p3), (0, p2), (0, p1), (0, 8), (1, 275)], w46)) 5 rfl ?_
                    refine e_Ok.callV rfl (by omega) rfl rfl rfl rfl (c_423_u (by omega) q48T (bkE.fr hB (f49 275 5 no_9e_0) (f49 275 6 no_9e_1) (fun k => f49 356 k no_9e_2)).1 (fun e => by have e5 : w46 275 5 = w 275 5 := f49 275 5 no_9e_0; have e6 : w46 275 6 = w 275 6 := f49 275 6 no_9e_1; have h1 := hB.1; have h2 := (show ¬ mBk w by assumption); unfold mBk at h2; omega) (by decide) (fun e => by omega)) (fun r51 w52 h53 => ?_)
                    obtain ⟨rfl, q54⟩ := h53
                    show e_Ok 20 elay ecode eI (d + 1) 433 (124, [(4, (0, w 276 (36 * p1 + p2 + 32))), (0, (1, 275)), (1, (0, p1)), (2, (0, p2)), (3, (0, p3))], [], w52) _
                    refine e_Ok.run (t' := (126, [(4, (0, w 276 (36 * p1 + p2 + 32))), (0, (1, 275)), (1, (0, p1)), (2, (0, p2)), (3, (0, p3))], [(0, w 276 (36 * p1 + p2 + 32))], w52)) 1 rfl ?_
                    refine e_Ok.rets rfl rfl ?_
                    have ek0 : w46 276 0 = w 276 0 := ((q48 276 0 no_9e_3).trans (by rw [← hw35]; exact (e_up_ne _ _ (Or.inr (by omega))).trans rfl))
                    have ek5 : w46 276 5 = w 276 5 := ((q48 276 5 no_9e_4).trans (by rw [← hw35]; exact (e_up_ne _ _ (Or.inr (by omega))).trans rfl))
                    exact ⟨_, rfl, Or.inr ⟨hcond, by assumption, opS.ev (wm := w46) (opS.of f49 hI50 (fun k => by show w46 276 k = if w 276 (36 * p1 + p2 + 32) = p3 then w35 276 k else _; rw [if_neg (by omega)]; exact q48x k) q54) (fun k => by show w46 276 k = if w 276 (36 * p1 + p2 + 32) = p3 then w35 276 k else _; rw [if_neg (by omega)]; exact q48x k) (by unfold evG; omega)⟩⟩
                · replace h27 : (0 : Int) ≠ 0 := by have q : ¬ ((0 : Int) = 0) := h27; omega
                  exfalso; omega
            · replace h20 : (w 276 1 : Int) = 1 := by have q : ¬ ((w 276 1 : Int) ≠ 1) := h20; omega
              refine e_Ok.run (t' := (62, [(0, (1, 275)), (1, (0, p1)), (2, (0, p2)), (3, (0, p3))], [(0, (-2))], w)) 1 rfl ?_
              refine e_Ok.rets rfl rfl ?_
              exact ⟨_, rfl, Or.inl ⟨rfl, fun hc => by first | exact hc.2 (by assumption) | (have h1 := hc.1; omega)⟩⟩
        · replace h16 : (1 : Int) = 0 := by have q : ¬ ((1 : Int) ≠ 0) := h16; omega
          exfalso; omega
      · show e_Ok 20 elay ecode eI (d + 1) 433 (38, [(0, (1, 275)), (1, (0, p1)), (2, (0, p2)), (3, (0, p3))], [(0, 0)], w) _
        refine e_Ok.if1 rfl (fun h55 => ?_) (fun h55 => ?_)
        · replace h55 : (0 : Int) ≠ 0 := h55
          exfalso; omega
        · replace h55 : (0 : Int) = 0 := by have q : ¬ ((0 : Int) ≠ 0) := h55; omega
          refine e_Ok.run (t' := (42, [(0, (1, 275)), (1, (0, p1)), (2, (0, p2)), (3, (0, p3))], [(0, (-1))], w)) 1 rfl ?_
          refine e_Ok.rets rfl rfl ?_
          exact ⟨_, rfl, Or.inl ⟨rfl, fun hc => by first | exact hc.2 (by assumption) | (have h1 := hc.1; omega)⟩⟩
  · show e_Ok 20 elay ecode eI (d + 1) 433 (6, [(0, (1, 275)), (1, (0, p1)), (2, (0, p2)), (3, (0, p3))], [(0, 0)], w) _
    refine e_Ok.if1 rfl (fun h56 => ?_) (fun h56 => ?_)
    · replace h56 : (0 : Int) = 0 := h56
      refine e_Ok.run (t' := (42, [(0, (1, 275)), (1, (0, p1)), (2, (0, p2)), (3, (0, p3))], [(0, (-1))], w)) 1 rfl ?_
      refine e_Ok.rets rfl rfl ?_
      exact ⟨_, rfl, Or.inl ⟨rfl, fun hc => by first | exact hc.2 (by assumption) | (have h1 := hc.1; omega)⟩⟩
    · replace h56 : (0 : Int) ≠ 0 := by have q : ¬ ((0 : Int) = 0) := h56; omega
      exfalso; omega
theorem no_9e_5 {a : Int} (ha : 0 ≤ a ∧ a ≤ 3) : ¬ mNw a 276 0 := by unfold mNw; omega
theorem no_9e_6 {a : Int} (ha : 0 ≤ a ∧ a ≤ 3) : ¬ mNw a 276 5 := by unfold mNw; omega
set_option maxHeartbeats 4000000 in
theorem c_419 {d : Nat} (hd : 27 ≤ d) {w : eW} {G : Int → Gh} (hI : mInv w G) (hB : bkE w) (hE : w 276 5 ≤ 7000000) {p1 : Int} (g1 : -2147483648 ≤ p1 ∧ p1 ≤ 2147483647) : e_Ok 20 elay ecode eI d 419 (0, [(0, (1, 275)), (1, (0, p1))], [], w) (fun r w' => ∃ z : Int, r = [(0, z)] ∧ ((w = w' ∧ ¬ (((0 ≤ p1 ∧ p1 < w 275 10) ∧ w 275 3 = 1 ∧ 0 ≤ w 276 (36 * p1 + 19) ∧ w 276 (36 * p1 + 20) ≠ 0 ∧ w 276 (36 * p1 + 16) = 0 ∧ w 276 (36 * p1 + 18) < 0 ∧ w 276 1 ≠ 0) ∧ ¬ mBk w)) ∨ (((0 ≤ p1 ∧ p1 < w 275 10) ∧ w 275 3 = 1 ∧ 0 ≤ w 276 (36 * p1 + 19) ∧ w 276 (36 * p1 + 20) ≠ 0 ∧ w 276 (36 * p1 + 16) = 0 ∧ w 276 (36 * p1 + 18) < 0 ∧ w 276 1 ≠ 0) ∧ ¬ mBk w ∧ opS w w' G 11 p1 0 0 (fun k => if 0 < w 276 (36 * p1 + 19) then nowF 391 [(0, (1, 275)), (1, (0, p1))] (e_up (e_up w 276 (36 * p1 + 22) 1) 276 (36 * p1 + 23) 0) k else w 276 k) ∧ evG w w'))) := by
  obtain ⟨d, rfl⟩ : ∃ e, d = e + 1 := ⟨d - 1, by omega⟩
  have hpw := e_Has.get hI.1 (c := 276) (k := 1) (lo := 0) (hi := 1) rfl (by decide)
  have har := e_Has.get hI.1 (c := 275) (k := 10) (lo := 0) (hi := 4) rfl (by decide)
  refine e_Ok.run (t' := (2, [(0, (1, 275)), (1, (0, p1))], [(0, p1), (1, 275)], w)) 2 rfl ?_
  refine e_Ok.callV rfl (by omega) rfl rfl rfl rfl (c_270 (by omega) hI.1) (fun r1 w2 h3 => ?_)
  have h4 := e_Has.get hI.1 (c := 275) (k := 10) (lo := 0) (hi := 4) rfl (by decide)
  obtain ⟨z5, rfl, rfl, q6⟩ := h3
  obtain ⟨rfl, q6⟩ | ⟨rfl, q6⟩ := q6
  · show e_Ok 20 elay ecode eI (d + 1) 419 (5, [(0, (1, 275)), (1, (0, p1))], [(0, 1)], w) _
    refine e_Ok.if1 rfl (fun h7 => ?_) (fun h7 => ?_)
    · replace h7 : (1 : Int) ≠ 0 := h7
      refine e_Ok.run (t' := (11, [(0, (1, 275)), (1, (0, p1))], [(0, p1)], w)) 1 rfl ?_
      refine e_Ok.callS rfl (by omega) rfl rfl (c_268 (by omega)) (fun r8 w9 h10 => ?_)
      obtain ⟨rfl, rfl⟩ := h10
      show e_Ok 20 elay ecode eI (d + 1) 419 (14, [(0, (1, 275)), (1, (0, p1))], [(0, 36 * p1 + 16)], w) _
      refine e_Ok.run (t' := (16, [(2, (0, 36 * p1 + 16)), (0, (1, 275)), (1, (0, p1))], [(1, 275)], w)) 2 rfl ?_
      have h11 := (e_Has.get hI.1 (c := 275) (k := 3) (lo := 0) (hi := 1) rfl (by decide))
      refine e_Ok.getf (z := w 275 3) rfl (el_o rfl) rfl rfl rfl (by omega) ?_
      refine e_Ok.if1 rfl (fun h12 => ?_) (fun h12 => ?_)
      · replace h12 : (w 275 3 : Int) = 0 := h12
        refine e_Ok.run (t' := (77, [(2, (0, 36 * p1 + 16)), (0, (1, 275)), (1, (0, p1))], [(0, (-2))], w)) 1 rfl ?_
        refine e_Ok.rets rfl rfl ?_
        exact ⟨_, rfl, Or.inl ⟨rfl, fun hc => by first | exact hc.2 (by assumption) | (have h1 := hc.1; omega)⟩⟩
      · replace h12 : (w 275 3 : Int) ≠ 0 := by have q : ¬ ((w 275 3 : Int) = 0) := h12; omega
        refine e_Ok.run (t' := (23, [(2, (0, 36 * p1 + 16)), (0, (1, 275)), (1, (0, p1))], [(1, 275)], w)) 1 rfl ?_
        refine e_Ok.getr (z := 276) rfl (el_o rfl) rfl rfl (e_Has.eq hI.1 rfl) (by omega) ?_
        refine e_Ok.run (t' := (28, [(2, (0, 36 * p1 + 16)), (0, (1, 275)), (1, (0, p1))], [(0, 3), (0, 36 * p1 + 16), (1, 276)], w)) 2 rfl ?_
        refine e_Ok.add (z := 36 * p1 + 19) rfl (by omega) (by omega) ?_
        have h13 := (e_Has.get hI.1 (c := 276) (k := 36 * p1 + 19) (lo := (-1)) (hi := 999) (nR_WAY_SIZE (a := p1) (by omega)) (by decide))
        refine e_Ok.ald (z := w 276 (36 * p1 + 19)) rfl (el_o rfl) rfl (by omega) rfl (by omega) ?_
        refine e_Ok.if1 rfl (fun h14 => ?_) (fun h14 => ?_)
        · replace h14 : (w 276 (36 * p1 + 19) : Int) < 0 := h14
          refine e_Ok.run (t' := (77, [(2, (0, 36 * p1 + 16)), (0, (1, 275)), (1, (0, p1))], [(0, (-2))], w)) 1 rfl ?_
          refine e_Ok.rets rfl rfl ?_
          exact ⟨_, rfl, Or.inl ⟨rfl, fun hc => by first | exact hc.2 (by assumption) | (have h1 := hc.1; omega)⟩⟩
        · replace h14 : (w 276 (36 * p1 + 19) : Int) ≥ 0 := by have q : ¬ ((w 276 (36 * p1 + 19) : Int) < 0) := h14; omega
          refine e_Ok.run (t' := (34, [(2, (0, 36 * p1 + 16)), (0, (1, 275)), (1, (0, p1))], [(1, 275)], w)) 1 rfl ?_
          refine e_Ok.getr (z := 276) rfl (el_o rfl) rfl rfl (e_Has.eq hI.1 rfl) (by omega) ?_
          refine e_Ok.run (t' := (39, [(2, (0, 36 * p1 + 16)), (0, (1, 275)), (1, (0, p1))], [(0, 4), (0, 36 * p1 + 16), (1, 276)], w)) 2 rfl ?_
          refine e_Ok.add (z := 36 * p1 + 20) rfl (by omega) (by omega) ?_
          have h15 := (e_Has.get hI.1 (c := 276) (k := 36 * p1 + 20) (lo := 0) (hi := 1) (nR_FRESH (a := p1) (by omega)) (by decide))
          refine e_Ok.ald (z := w 276 (36 * p1 + 20)) rfl (el_o rfl) rfl (by omega) rfl (by omega) ?_
          refine e_Ok.if1 rfl (fun h16 => ?_) (fun h16 => ?_)
          · replace h16 : (w 276 (36 * p1 + 20) : Int) = 0 := h16
            refine e_Ok.run (t' := (77, [(2, (0, 36 * p1 + 16)), (0, (1, 275)), (1, (0, p1))], [(0, (-2))], w)) 1 rfl ?_
            refine e_Ok.rets rfl rfl ?_
            exact ⟨_, rfl, Or.inl ⟨rfl, fun hc => by first | exact hc.2 (by assumption) | (have h1 := hc.1; omega)⟩⟩
          · replace h16 : (w 276 (36 * p1 + 20) : Int) ≠ 0 := by have q : ¬ ((w 276 (36 * p1 + 20) : Int) = 0) := h16; omega
            refine e_Ok.run (t' := (45, [(2, (0, 36 * p1 + 16)), (0, (1, 275)), (1, (0, p1))], [(1, 275)], w)) 1 rfl ?_
            refine e_Ok.getr (z := 276) rfl (el_o rfl) rfl rfl (e_Has.eq hI.1 rfl) (by omega) ?_
            refine e_Ok.run (t' := (50, [(2, (0, 36 * p1 + 16)), (0, (1, 275)), (1, (0, p1))], [(0, 0), (0, 36 * p1 + 16), (1, 276)], w)) 2 rfl ?_
            refine e_Ok.add (z := 36 * p1 + 16) rfl (by omega) (by omega) ?_
            have h17 := (e_Has.get hI.1 (c := 276) (k := 36 * p1 + 16) (lo := 0) (hi := 2) (nR_STATE (a := p1) (by omega)) (by decide))
            refine e_Ok.ald (z := w 276 (36 * p1 + 16)) rfl (el_o rfl) rfl (by omega) rfl (by omega) ?_
            refine e_Ok.if1 rfl (fun h18 => ?_) (fun h18 => ?_)
            · replace h18 : (w 276 (36 * p1 + 16) : Int) ≠ 0 := h18
              refine e_Ok.run (t' := (77, [(2, (0, 36 * p1 + 16)), (0, (1, 275)), (1, (0, p1))], [(0, (-2))], w)) 1 rfl ?_
              refine e_Ok.rets rfl rfl ?_
              exact ⟨_, rfl, Or.inl ⟨rfl, fun hc => by first | exact hc.2 (by assumption) | (have h1 := hc.1; omega)⟩⟩
            · replace h18 : (w 276 (36 * p1 + 16) : Int) = 0 := by have q : ¬ ((w 276 (36 * p1 + 16) : Int) ≠ 0) := h18; omega
              refine e_Ok.run (t' := (56, [(2, (0, 36 * p1 + 16)), (0, (1, 275)), (1, (0, p1))], [(1, 275)], w)) 1 rfl ?_
              refine e_Ok.getr (z := 276) rfl (el_o rfl) rfl rfl (e_Has.eq hI.1 rfl) (by omega) ?_
              refine e_Ok.run (t' := (61, [(2, (0, 36 * p1 + 16)), (0, (1, 275)), (1, (0, p1))], [(0, 2), (0, 36 * p1 + 16), (1, 276)], w)) 2 rfl ?_
              refine e_Ok.add (z := 36 * p1 + 18) rfl (by omega) (by omega) ?_
              have h19 := (e_Has.get hI.1 (c := 276) (k := 36 * p1 + 18) (lo := (-1)) (hi := 15) (nR_STUCK (a := p1) (by omega)) (by decide))
              refine e_Ok.ald (z := w 276 (36 * p1 + 18)) rfl (el_o rfl) rfl (by omega) rfl (by omega) ?_
              refine e_Ok.if1 rfl (fun h20 => ?_) (fun h20 => ?_)
              · replace h20 : (w 276 (36 * p1 + 18) : Int) ≥ 0 := h20
                refine e_Ok.run (t' := (77, [(2, (0, 36 * p1 + 16)), (0, (1, 275)), (1, (0, p1))], [(0, (-2))], w)) 1 rfl ?_
                refine e_Ok.rets rfl rfl ?_
                exact ⟨_, rfl, Or.inl ⟨rfl, fun hc => by first | exact hc.2 (by assumption) | (have h1 := hc.1; omega)⟩⟩
              · replace h20 : (w 276 (36 * p1 + 18) : Int) < 0 := by have q : ¬ ((w 276 (36 * p1 + 18) : Int) ≥ 0) := h20; omega
                refine e_Ok.run (t' := (67, [(2, (0, 36 * p1 + 16)), (0, (1, 275)), (1, (0, p1))], [(1, 275)], w)) 1 rfl ?_
                refine e_Ok.getr (z := 276) rfl (el_o rfl) rfl rfl (e_Has.eq hI.1 rfl) (by omega) ?_
                refine e_Ok.run (t' := (71, [(2, (0, 36 * p1 + 16)), (0, (1, 275)), (1, (0, p1))], [(0, 1), (1, 276)], w)) 1 rfl ?_
                have h21 := (e_Has.get hI.1 (c := 276) (k := 1) (lo := 0) (hi := 1) rfl (by decide))
                refine e_Ok.ald (z := w 276 1) rfl (el_o rfl) rfl (by omega) rfl (by omega) ?_
                refine e_Ok.if1 rfl (fun h22 => ?_) (fun h22 => ?_)
                · replace h22 : (w 276 1 : Int) ≠ 0 := h22
                  have hcond : ((0 ≤ p1 ∧ p1 < w 275 10) ∧ w 275 3 = 1 ∧ 0 ≤ w 276 (36 * p1 + 19) ∧ w 276 (36 * p1 + 20) ≠ 0 ∧ w 276 (36 * p1 + 16) = 0 ∧ w 276 (36 * p1 + 18) < 0 ∧ w 276 1 ≠ 0) := ⟨by omega, by omega, by omega, by omega, by omega, by omega, by omega⟩
                  refine e_Ok.run (t' := (79, [(2, (0, 36 * p1 + 16)), (0, (1, 275)), (1, (0, p1))], [(1, 275)], w)) 1 rfl ?_
                  refine e_Ok.callV rfl (by omega) rfl rfl rfl rfl (c_422_x hI.1 hB) (fun r23 w24 h25 => ?_)
                  obtain ⟨z26, rfl, rfl, q27⟩ := h25
                  obtain ⟨rfl, q27⟩ | ⟨rfl, q27⟩ := q27
                  · show e_Ok 20 elay ecode eI (d + 1) 419 (82, [(2, (0, 36 * p1 + 16)), (0, (1, 275)), (1, (0, p1))], [(0, 1)], w) _
                    refine e_Ok.if1 rfl (fun h28 => ?_) (fun h28 => ?_)
                    · replace h28 : (1 : Int) = 0 := h28
                      exfalso; omega
                    · replace h28 : (1 : Int) ≠ 0 := by have q : ¬ ((1 : Int) = 0) := h28; omega
                      refine e_Ok.run (t' := (87, [(2, (0, 36 * p1 + 16)), (0, (1, 275)), (1, (0, p1))], [(0, (-3))], w)) 1 rfl ?_
                      refine e_Ok.rets rfl rfl ?_
                      exact ⟨_, rfl, Or.inl ⟨rfl, fun hc => by first | exact hc.2 (by assumption) | (have h1 := hc.1; omega)⟩⟩
                  · show e_Ok 20 elay ecode eI (d + 1) 419 (82, [(2, (0, 36 * p1 + 16)), (0, (1, 275)), (1, (0, p1))], [(0, 0)], w) _
                    refine e_Ok.if1 rfl (fun h29 => ?_) (fun h29 => ?_)
                    · replace h29 : (0 : Int) = 0 := h29
                      refine e_Ok.run (t' := (93, [(4, (0, 0)), (3, (0, 0)), (2, (0, 36 * p1 + 16)), (0, (1, 275)), (1, (0, p1))], [], w)) 4 rfl ?_
                      have hL30 : ∀ (nn : Nat) (y3 : Int) (y4 : Int), (0 ≤ y4 ∧ y4 ≤ w 276 (36 * p1 + 19)) ∧ (0 ≤ y3 ∧ y3 ≤ y4 ∧ (1 ≤ y4 → 1 ≤ y3)) → 1000 - y4 < nn → e_Ok 20 elay ecode eI (d + 1) 419 (93, [(0, (1, 275)), (1, (0, p1)), (2, (0, 36 * p1 + 16)), (3, (0, y3)), (4, (0, y4))], [], w) (fun r w' => ∃ z : Int, r = [(0, z)] ∧ ((w = w' ∧ ¬ (((0 ≤ p1 ∧ p1 < w 275 10) ∧ w 275 3 = 1 ∧ 0 ≤ w 276 (36 * p1 + 19) ∧ w 276 (36 * p1 + 20) ≠ 0 ∧ w 276 (36 * p1 + 16) = 0 ∧ w 276 (36 * p1 + 18) < 0 ∧ w 276 1 ≠ 0) ∧ ¬ mBk w)) ∨ (((0 ≤ p1 ∧ p1 < w 275 10) ∧ w 275 3 = 1 ∧ 0 ≤ w 276 (36 * p1 + 19) ∧ w 276 (36 * p1 + 20) ≠ 0 ∧ w 276 (36 * p1 + 16) = 0 ∧ w 276 (36 * p1 + 18) < 0 ∧ w 276 1 ≠ 0) ∧ ¬ mBk w ∧ opS w w' G 11 p1 0 0 (fun k => if 0 < w 276 (36 * p1 + 19) then nowF 391 [(0, (1, 275)), (1, (0, p1))] (e_up (e_up w 276 (36 * p1 + 22) 1) 276 (36 * p1 + 23) 0) k else w 276 k) ∧ evG w w'))) := by
                        intro nn
                        induction nn with
                        | zero => intro y3 y4 hj hm; obtain ⟨j32, j33⟩ := hj; exfalso; omega
                        | succ nn ih31 =>
                          intro y3 y4 hj hm
                          obtain ⟨j32, j33⟩ := hj
                          refine e_Ok.run (t' := (96, [(0, (1, 275)), (1, (0, p1)), (2, (0, 36 * p1 + 16)), (3, (0, y3)), (4, (0, y4))], [(1, 275), (0, y4)], w)) 2 rfl ?_
                          refine e_Ok.getr (z := 276) rfl (el_o rfl) rfl rfl (e_Has.eq hI.1 rfl) (by omega) ?_
                          refine e_Ok.run (t' := (101, [(0, (1, 275)), (1, (0, p1)), (2, (0, 36 * p1 + 16)), (3, (0, y3)), (4, (0, y4))], [(0, 3), (0, 36 * p1 + 16), (1, 276), (0, y4)], w)) 2 rfl ?_
                          refine e_Ok.add (z := 36 * p1 + 19) rfl (by omega) (by omega) ?_
                          refine e_Ok.ald (z := w 276 (36 * p1 + 19)) rfl (el_o rfl) rfl (by omega) rfl (by omega) ?_
                          refine e_Ok.if2 rfl (fun h34 => ?_) (fun h34 => ?_)
                          · replace h34 : (y4 : Int) ≥ w 276 (36 * p1 + 19) := h34
                            refine e_Ok.run (t' := (165, [(0, (1, 275)), (1, (0, p1)), (2, (0, 36 * p1 + 16)), (3, (0, y3)), (4, (0, y4))], [(0, y3)], w)) 1 rfl ?_
                            refine e_Ok.if1 rfl (fun h35 => ?_) (fun h35 => ?_)
                            · replace h35 : (y3 : Int) ≤ 0 := h35
                              refine e_Ok.run (t' := (199, [(0, (1, 275)), (1, (0, p1)), (2, (0, 36 * p1 + 16)), (3, (0, y3)), (4, (0, y4))], [(0, 0), (0, 0), (0, p1), (0, 11), (1, 275)], w)) 5 rfl ?_
                              refine e_Ok.callV rfl (by omega) rfl rfl rfl rfl (c_423_u (by omega) hI.1 hB (fun e => by have e5 : w 275 5 = w 275 5 := rfl; have e6 : w 275 6 = w 275 6 := rfl; have h1 := hB.1; have h2 := (show ¬ mBk w by assumption); unfold mBk at h2; omega) (by decide) (fun e => by omega)) (fun r36 w37 h38 => ?_)
                              obtain ⟨rfl, q40⟩ := h38
                              show e_Ok 20 elay ecode eI (d + 1) 419 (202, [(0, (1, 275)), (1, (0, p1)), (2, (0, 36 * p1 + 16)), (3, (0, y3)), (4, (0, y4))], [], w37) _
                              refine e_Ok.run (t' := (203, [(0, (1, 275)), (1, (0, p1)), (2, (0, 36 * p1 + 16)), (3, (0, y3)), (4, (0, y4))], [(0, y3)], w37)) 1 rfl ?_
                              refine e_Ok.rets rfl rfl ?_
                              exact ⟨_, rfl, Or.inr ⟨hcond, by assumption, opS.ev (wm := w) (opS.of (e_fr.refl w) hI (fun k => by show w 276 k = if 0 < w 276 (36 * p1 + 19) then _ else w 276 k; rw [if_neg (by omega)]) q40) (fun k => by show w 276 k = if 0 < w 276 (36 * p1 + 19) then _ else w 276 k; rw [if_neg (by omega)]) (by unfold evG; omega)⟩⟩
                            · replace h35 : (y3 : Int) > 0 := by have q : ¬ ((y3 : Int) ≤ 0) := h35; omega
                              refine e_Ok.run (t' := (169, [(0, (1, 275)), (1, (0, p1)), (2, (0, 36 * p1 + 16)), (3, (0, y3)), (4, (0, y4))], [(1, 275)], w)) 1 rfl ?_
                              refine e_Ok.getr (z := 276) rfl (el_o rfl) rfl rfl (e_Has.eq hI.1 rfl) (by omega) ?_
                              refine e_Ok.run (t' := (175, [(0, (1, 275)), (1, (0, p1)), (2, (0, 36 * p1 + 16)), (3, (0, y3)), (4, (0, y4))], [(0, 6), (0, 36 * p1 + 16), (1, 276)], w)) 2 rfl ?_
                              refine e_Ok.add (z := 36 * p1 + 22) rfl (by omega) (by omega) ?_
                              refine e_Ok.run (t' := (177, [(0, (1, 275)), (1, (0, p1)), (2, (0, 36 * p1 + 16)), (3, (0, y3)), (4, (0, y4))], [(0, 1), (0, 36 * p1 + 22), (1, 276)], w)) 1 rfl ?_
                              refine e_Ok.ast rfl (el_o rfl) rfl rfl (by omega) ?_
                              generalize hw41 : e_up w 276 (36 * p1 + 22) 1 = w41
                              have f42 : e_fr mTi w w41 := e_fr.up (e_fr.refl w) hw41 (by unfold mTi; omega)
                              have hT43 : e_Has mTy w41 := e_Has.upr hI.1 hw41 (nR_TRAVELS (a := p1) (by omega)) (by omega)
                              refine e_Ok.run (t' := (179, [(0, (1, 275)), (1, (0, p1)), (2, (0, 36 * p1 + 16)), (3, (0, y3)), (4, (0, y4))], [(1, 275)], w41)) 1 rfl ?_
                              refine e_Ok.getr (z := 276) rfl (el_o rfl) rfl rfl (by rw [← hw41]; exact (e_up_ne _ _ (Or.inl (by omega))).trans (e_Has.eq hI.1 rfl)) (by omega) ?_
                              refine e_Ok.run (t' := (185, [(0, (1, 275)), (1, (0, p1)), (2, (0, 36 * p1 + 16)), (3, (0, y3)), (4, (0, y4))], [(0, 7), (0, 36 * p1 + 16), (1, 276)], w41)) 2 rfl ?_
                              refine e_Ok.add (z := 36 * p1 + 23) rfl (by omega) (by omega) ?_
                              refine e_Ok.run (t' := (187, [(0, (1, 275)), (1, (0, p1)), (2, (0, 36 * p1 + 16)), (3, (0, y3)), (4, (0, y4))], [(0, 0), (0, 36 * p1 + 23), (1, 276)], w41)) 1 rfl ?_
                              refine e_Ok.ast rfl (el_o rfl) rfl rfl (by omega) ?_
                              generalize hw44 : e_up w41 276 (36 * p1 + 23) 0 = w44
                              have f45 : e_fr mTi w w44 := e_fr.up f42 hw44 (by unfold mTi; omega)
                              have hT46 : e_Has mTy w44 := e_Has.upr hT43 hw44 (nR_TRAVEL_AT (a := p1) (by omega)) (by omega)
                              refine e_Ok.run (t' := (190, [(0, (1, 275)), (1, (0, p1)), (2, (0, 36 * p1 + 16)), (3, (0, y3)), (4, (0, y4))], [(0, p1), (1, 275)], w44)) 2 rfl ?_
                              have hX : ∀ c k, ¬ (c = 276 ∧ (k = 36 * p1 + 22 ∨ k = 36 * p1 + 23)) → w44 c k = w c k := fun c k q => by rw [← hw44, ← hw41]; exact (e_up_ne _ _ (by omega)).trans (e_up_ne _ _ (by omega))
                              have hmt : mMo w44 p1 := mMo.take hI.2.2.2.2.2.1 (e_Has.mo hI.1) (by omega) (by omega) (fun c k q q2 => hX c k q2) (by rw [← hw44]; exact e_up_eq _ _ _ _)
                              refine e_Ok.callV rfl (by omega) rfl rfl rfl rfl (d_391 (by omega) hT46 (mCf.fr hI.2.2.1 (fun c k q => hX c k (by omega))) (by omega) hmt (Eq.trans (hX 276 _ (by omega)) (by omega)) (Eq.trans (hX 276 1 (by omega)) (by omega))) (fun r47 w48 h49 => ?_)
                              obtain ⟨⟨rfl, q50, q50T, q50m⟩, q50x⟩ := h49
                              have f51 : e_fr mTi w w48 := e_fr.trans f45 (e_fr.mono q50 (fun c k q => by exact nw_ti q))
                              have q50F : e_fr (mNw p1) w w48 := fun c k h => (q50 c k h).trans (hX c k (fun h1 => h (by unfold mNw; omega)))
                              have hI52 : mInv w48 G := mInv.way hI (by omega) q50F q50T q50m
                              have q50o := q50F 276 0 (by first | exact no_9e_5 (by omega) | (unfold mNw; omega))
                              have q50p := q50F 276 5 (by first | exact no_9e_6 (by omega) | (unfold mNw; omega))
                              show e_Ok 20 elay ecode eI (d + 1) 419 (193, [(0, (1, 275)), (1, (0, p1)), (2, (0, 36 * p1 + 16)), (3, (0, y3)), (4, (0, y4))], [], w48) _
                              refine e_Ok.run (t' := (199, [(0, (1, 275)), (1, (0, p1)), (2, (0, 36 * p1 + 16)), (3, (0, y3)), (4, (0, y4))], [(0, 0), (0, 0), (0, p1), (0, 11), (1, 275)], w48)) 5 rfl ?_
                              refine e_Ok.callV rfl (by omega) rfl rfl rfl rfl (c_423_u (by omega) q50T (bkE.fr hB (f51 275 5 no_9e_0) (f51 275 6 no_9e_1) (fun k => f51 356 k no_9e_2)).1 (fun e => by have e5 : w48 275 5 = w 275 5 := f51 275 5 no_9e_0; have e6 : w48 275 6 = w 275 6 := f51 275 6 no_9e_1; have h1 := hB.1; have h2 := (show ¬ mBk w by assumption); unfold mBk at h2; omega) (by decide) (fun e => by omega)) (fun r53 w54 h55 => ?_)
                              obtain ⟨rfl, q56⟩ := h55
                              show e_Ok 20 elay ecode eI (d + 1) 419 (202, [(0, (1, 275)), (1, (0, p1)), (2, (0, 36 * p1 + 16)), (3, (0, y3)), (4, (0, y4))], [], w54) _
                              refine e_Ok.run (t' := (203, [(0, (1, 275)), (1, (0, p1)), (2, (0, 36 * p1 + 16)), (3, (0, y3)), (4, (0, y4))], [(0, y3)], w54)) 1 rfl ?_
                              refine e_Ok.rets rfl rfl ?_
                              have ek0 : w48 276 0 = w 276 0 := ((q50 276 0 (by first | exact no_9e_5 (by omega) | (unfold mNw; omega))).trans (by rw [← hw44]; exact (e_up_ne _ _ (Or.inr (by omega))).trans (by rw [← hw41]; exact (e_up_ne _ _ (Or.inr (by omega))).trans rfl)))
                              have ek5 : w48 276 5 = w 276 5 := ((q50 276 5 (by first | exact no_9e_6 (by omega) | (unfold mNw; omega))).trans (by rw [← hw44]; exact (e_up_ne _ _ (Or.inr (by omega))).trans (by rw [← hw41]; exact (e_up_ne _ _ (Or.inr (by omega))).trans rfl)))
                              exact ⟨_, rfl, Or.inr ⟨hcond, by assumption, opS.ev (wm := w48) (opS.of f51 hI52 (fun k => by show w48 276 k = if 0 < w 276 (36 * p1 + 19) then _ else w 276 k; rw [if_pos (by omega)]; exact q50x k) q56) (fun k => by show w48 276 k = if 0 < w 276 (36 * p1 + 19) then _ else w 276 k; rw [if_pos (by omega)]; exact q50x k) (by unfold evG; omega)⟩⟩
                          · replace h34 : (y4 : Int) < w 276 (36 * p1 + 19) := by have q : ¬ ((y4 : Int) ≥ w 276 (36 * p1 + 19)) := h34; omega
                            refine e_Ok.run (t' := (109, [(0, (1, 275)), (1, (0, p1)), (2, (0, 36 * p1 + 16)), (3, (0, y3)), (4, (0, y4))], [(0, y4), (0, y3)], w)) 2 rfl ?_
                            refine e_Ok.if1 rfl (fun h57 => ?_) (fun h57 => ?_)
                            · replace h57 : (y4 : Int) = 0 := h57
                              refine e_Ok.run (t' := (156, [(0, (1, 275)), (1, (0, p1)), (2, (0, 36 * p1 + 16)), (3, (0, y3)), (4, (0, y4))], [(0, 1), (0, y3)], w)) 2 rfl ?_
                              refine e_Ok.add (z := y3 + 1) rfl (by omega) (by omega) ?_
                              refine e_Ok.run (t' := (158, [(3, (0, y3 + 1)), (0, (1, 275)), (1, (0, p1)), (2, (0, 36 * p1 + 16)), (4, (0, y4))], [], w)) 1 rfl ?_
                              refine e_Ok.inc (z := y4 + 1) rfl rfl (by omega) (by omega) ?_
                              show e_Ok 20 elay ecode eI (d + 1) 419 (161, [(4, (0, y4 + 1)), (3, (0, y3 + 1)), (0, (1, 275)), (1, (0, p1)), (2, (0, 36 * p1 + 16))], [], w) _
                              refine e_Ok.run (t' := (93, [(4, (0, y4 + 1)), (3, (0, y3 + 1)), (0, (1, 275)), (1, (0, p1)), (2, (0, 36 * p1 + 16))], [], w)) 1 rfl ?_
                              refine e_Ok.sub eAlk (e_sub_of rfl ?_) (ih31 (y3 + 1) (y4 + 1) ⟨by omega, by omega⟩ (by omega))
                              exact ⟨rfl, rfl, rfl, rfl, rfl, trivial⟩
                            · replace h57 : (y4 : Int) ≠ 0 := by have q : ¬ ((y4 : Int) = 0) := h57; omega
                              refine e_Ok.run (t' := (113, [(0, (1, 275)), (1, (0, p1)), (2, (0, 36 * p1 + 16)), (3, (0, y3)), (4, (0, y4))], [(1, 275), (0, y3)], w)) 1 rfl ?_
                              refine e_Ok.getr (z := 276) rfl (el_o rfl) rfl rfl (e_Has.eq hI.1 rfl) (by omega) ?_
                              refine e_Ok.run (t' := (123, [(0, (1, 275)), (1, (0, p1)), (2, (0, 36 * p1 + 16)), (3, (0, y3)), (4, (0, y4))], [(0, p1), (0, 1000), (0, 21060), (1, 276), (0, y3)], w)) 3 rfl ?_
                              refine e_Ok.mul (z := 1000 * p1) rfl (by omega) (by omega) ?_
                              refine e_Ok.add (z := 1000 * p1 + 21060) rfl (by omega) (by omega) ?_
                              refine e_Ok.run (t' := (127, [(0, (1, 275)), (1, (0, p1)), (2, (0, 36 * p1 + 16)), (3, (0, y3)), (4, (0, y4))], [(0, y4), (0, 1000 * p1 + 21060), (1, 276), (0, y3)], w)) 1 rfl ?_
                              refine e_Ok.add (z := 1000 * p1 + y4 + 21060) rfl (by omega) (by omega) ?_
                              have h58 := (e_Has.get hI.1 (c := 276) (k := 1000 * p1 + y4 + 21060) (lo := 0) (hi := 11) (nR_WAY (by omega)) (by decide))
                              refine e_Ok.ald (z := w 276 (1000 * p1 + y4 + 21060)) rfl (el_o rfl) rfl (by omega) rfl (by omega) ?_
                              refine e_Ok.run (t' := (130, [(0, (1, 275)), (1, (0, p1)), (2, (0, 36 * p1 + 16)), (3, (0, y3)), (4, (0, y4))], [(1, 275), (0, w 276 (1000 * p1 + y4 + 21060)), (0, y3)], w)) 1 rfl ?_
                              refine e_Ok.getr (z := 276) rfl (el_o rfl) rfl rfl (e_Has.eq hI.1 rfl) (by omega) ?_
                              refine e_Ok.run (t' := (140, [(0, (1, 275)), (1, (0, p1)), (2, (0, 36 * p1 + 16)), (3, (0, y3)), (4, (0, y4))], [(0, p1), (0, 1000), (0, 21060), (1, 276), (0, w 276 (1000 * p1 + y4 + 21060)), (0, y3)], w)) 3 rfl ?_
                              refine e_Ok.mul (z := 1000 * p1) rfl (by omega) (by omega) ?_
                              refine e_Ok.add (z := 1000 * p1 + 21060) rfl (by omega) (by omega) ?_
                              refine e_Ok.run (t' := (144, [(0, (1, 275)), (1, (0, p1)), (2, (0, 36 * p1 + 16)), (3, (0, y3)), (4, (0, y4))], [(0, y4), (0, 1000 * p1 + 21060), (1, 276), (0, w 276 (1000 * p1 + y4 + 21060)), (0, y3)], w)) 1 rfl ?_
                              refine e_Ok.add (z := 1000 * p1 + y4 + 21060) rfl (by omega) (by omega) ?_
                              refine e_Ok.run (t' := (146, [(0, (1, 275)), (1, (0, p1)), (2, (0, 36 * p1 + 16)), (3, (0, y3)), (4, (0, y4))], [(0, 1), (0, 1000 * p1 + y4 + 21060), (1, 276), (0, w 276 (1000 * p1 + y4 + 21060)), (0, y3)], w)) 1 rfl ?_
                              refine e_Ok.sub' (z := 1000 * p1 + y4 + 21059) rfl (by omega) (by omega) ?_
                              have h59 := (e_Has.get hI.1 (c := 276) (k := 1000 * p1 + y4 + 21059) (lo := 0) (hi := 11) (nR_WAY (by omega)) (by decide))
                              refine e_Ok.ald (z := w 276 (1000 * p1 + y4 + 21059)) rfl (el_o rfl) rfl (by omega) rfl (by omega) ?_
                              refine e_Ok.if2 rfl (fun h60 => ?_) (fun h60 => ?_)
                              · replace h60 : (w 276 (1000 * p1 + y4 + 21060) : Int) = w 276 (1000 * p1 + y4 + 21059) := h60
                                refine e_Ok.run (t' := (156, [(0, (1, 275)), (1, (0, p1)), (2, (0, 36 * p1 + 16)), (3, (0, y3)), (4, (0, y4))], [(0, 0), (0, y3)], w)) 1 rfl ?_
                                refine e_Ok.add (z := y3) rfl (by omega) (by omega) ?_
                                refine e_Ok.run (t' := (158, [(3, (0, y3)), (0, (1, 275)), (1, (0, p1)), (2, (0, 36 * p1 + 16)), (4, (0, y4))], [], w)) 1 rfl ?_
                                refine e_Ok.inc (z := y4 + 1) rfl rfl (by omega) (by omega) ?_
                                show e_Ok 20 elay ecode eI (d + 1) 419 (161, [(4, (0, y4 + 1)), (3, (0, y3)), (0, (1, 275)), (1, (0, p1)), (2, (0, 36 * p1 + 16))], [], w) _
                                refine e_Ok.run (t' := (93, [(4, (0, y4 + 1)), (3, (0, y3)), (0, (1, 275)), (1, (0, p1)), (2, (0, 36 * p1 + 16))], [], w)) 1 rfl ?_
                                refine e_Ok.sub eAlk (e_sub_of rfl ?_) (ih31 y3 (y4 + 1) ⟨by omega, by omega⟩ (by omega))
                                exact ⟨rfl, rfl, rfl, rfl, rfl, trivial⟩
                              · replace h60 : (w 276 (1000 * p1 + y4 + 21060) : Int) ≠ w 276 (1000 * p1 + y4 + 21059) := by have q : ¬ ((w 276 (1000 * p1 + y4 + 21060) : Int) = w 276 (1000 * p1 + y4 + 21059)) := h60; omega
                                refine e_Ok.run (t' := (156, [(0, (1, 275)), (1, (0, p1)), (2, (0, 36 * p1 + 16)), (3, (0, y3)), (4, (0, y4))], [(0, 1), (0, y3)], w)) 2 rfl ?_
                                refine e_Ok.add (z := y3 + 1) rfl (by omega) (by omega) ?_
                                refine e_Ok.run (t' := (158, [(3, (0, y3 + 1)), (0, (1, 275)), (1, (0, p1)), (2, (0, 36 * p1 + 16)), (4, (0, y4))], [], w)) 1 rfl ?_
                                refine e_Ok.inc (z := y4 + 1) rfl rfl (by omega) (by omega) ?_
                                show e_Ok 20 elay ecode eI (d + 1) 419 (161, [(4, (0, y4 + 1)), (3, (0, y3 + 1)), (0, (1, 275)), (1, (0, p1)), (2, (0, 36 * p1 + 16))], [], w) _
                                refine e_Ok.run (t' := (93, [(4, (0, y4 + 1)), (3, (0, y3 + 1)), (0, (1, 275)), (1, (0, p1)), (2, (0, 36 * p1 + 16))], [], w)) 1 rfl ?_
                                refine e_Ok.sub eAlk (e_sub_of rfl ?_) (ih31 (y3 + 1) (y4 + 1) ⟨by omega, by omega⟩ (by omega))
                                exact ⟨rfl, rfl, rfl, rfl, rfl, trivial⟩
                      refine e_Ok.sub eAlk (e_sub_of rfl ?_) (hL30 (1000 + 1 : Int).toNat 0 0 ⟨by omega, by omega⟩ (by omega))
                      exact ⟨rfl, rfl, rfl, rfl, rfl, trivial⟩
                    · replace h29 : (0 : Int) ≠ 0 := by have q : ¬ ((0 : Int) = 0) := h29; omega
                      exfalso; omega
                · replace h22 : (w 276 1 : Int) = 0 := by have q : ¬ ((w 276 1 : Int) ≠ 0) := h22; omega
                  refine e_Ok.run (t' := (77, [(2, (0, 36 * p1 + 16)), (0, (1, 275)), (1, (0, p1))], [(0, (-2))], w)) 1 rfl ?_
                  refine e_Ok.rets rfl rfl ?_
                  exact ⟨_, rfl, Or.inl ⟨rfl, fun hc => by first | exact hc.2 (by assumption) | (have h1 := hc.1; omega)⟩⟩
    · replace h7 : (1 : Int) = 0 := by have q : ¬ ((1 : Int) ≠ 0) := h7; omega
      exfalso; omega
  · show e_Ok 20 elay ecode eI (d + 1) 419 (5, [(0, (1, 275)), (1, (0, p1))], [(0, 0)], w) _
    refine e_Ok.if1 rfl (fun h61 => ?_) (fun h61 => ?_)
    · replace h61 : (0 : Int) ≠ 0 := h61
      exfalso; omega
    · replace h61 : (0 : Int) = 0 := by have q : ¬ ((0 : Int) ≠ 0) := h61; omega
      refine e_Ok.run (t' := (9, [(0, (1, 275)), (1, (0, p1))], [(0, (-1))], w)) 1 rfl ?_
      refine e_Ok.rets rfl rfl ?_
      exact ⟨_, rfl, Or.inl ⟨rfl, fun hc => by first | exact hc.2 (by assumption) | (have h1 := hc.1; omega)⟩⟩
end
