noncomputable section
/-! the class: tasks begin; parts are gripped and dropped -/
theorem lh_kLg {c k : Int} (g : kLg c k) : kLh c k := Or.inr g
theorem c_36 {d : Nat} {w : eW} (hT : e_Has kTy w) : e_Ok 20 elay kcode eI d 36 (0, [(0, (1, 8))], [], w) (fun r w' => ∃ z : Int, r = [(0, z)] ∧ w = w' ∧ ((-1) ≤ z ∧ z ≤ 15) ∧ (0 ≤ z → w (6 * z + 154) 1 = 0 ∨ w (6 * z + 154) 1 = 6)) := by
  refine e_Ok.run (t' := (2, [(1, (0, 0)), (0, (1, 8))], [], w)) 2 rfl ?_
  have hL1 : ∀ (nn : Nat) (y1 : Int), 0 ≤ y1 ∧ y1 ≤ 16 → 16 - y1 < nn → e_Ok 20 elay kcode eI d 36 (2, [(0, (1, 8)), (1, (0, y1))], [], w) (fun r w' => ∃ z : Int, r = [(0, z)] ∧ w = w' ∧ ((-1) ≤ z ∧ z ≤ 15) ∧ (0 ≤ z → w (6 * z + 154) 1 = 0 ∨ w (6 * z + 154) 1 = 6)) := by
    intro nn
    induction nn with
    | zero => intro y1 hj hm; obtain j3 := hj; exfalso; omega
    | succ nn ih2 =>
      intro y1 hj hm
      obtain j3 := hj
      refine e_Ok.run (t' := (5, [(0, (1, 8)), (1, (0, y1))], [(0, 16), (0, y1)], w)) 2 rfl ?_
      refine e_Ok.if2 rfl (fun h4 => ?_) (fun h4 => ?_)
      · replace h4 : (y1 : Int) ≥ 16 := h4
        refine e_Ok.run (t' := (43, [(0, (1, 8)), (1, (0, y1))], [(0, (-1))], w)) 1 rfl ?_
        refine e_Ok.rets rfl rfl ?_
        exact ⟨_, rfl, rfl, ⟨by omega, by omega⟩, by omega⟩
      · replace h4 : (y1 : Int) < 16 := by have q : ¬ ((y1 : Int) ≥ 16) := h4; omega
        refine e_Ok.run (t' := (9, [(0, (1, 8)), (1, (0, y1))], [(1, 8)], w)) 1 rfl ?_
        refine e_Ok.getr (z := 82) rfl (el_o rfl) rfl rfl (Eq.trans (e_Has.eq hT rfl) (by omega)) (by omega) ?_
        refine e_Ok.run (t' := (13, [(0, (1, 8)), (1, (0, y1))], [(0, y1), (1, 82)], w)) 1 rfl ?_
        refine e_Ok.aald (z := 6 * y1 + 154) rfl (el_o rfl) rfl (by omega) (Eq.trans (e_Has.eq hT (k82 (by omega))) (by omega)) (by omega) ?_
        have h5 := (e_Has.get hT (c := 6 * y1 + 154) (k := 1) (lo := 0) (hi := 7) (kT_1 (t := y1) (by omega) (by omega)) (by decide))
        refine e_Ok.getf (z := w (6 * y1 + 154) 1) rfl (lT0 (t := y1) (by omega) (by omega)) rfl rfl rfl (by omega) ?_
        refine e_Ok.if1 rfl (fun h6 => ?_) (fun h6 => ?_)
        · replace h6 : (w (6 * y1 + 154) 1 : Int) = 0 := h6
          refine e_Ok.run (t' := (35, [(0, (1, 8)), (1, (0, y1))], [(0, y1)], w)) 1 rfl ?_
          refine e_Ok.rets rfl rfl ?_
          exact ⟨_, rfl, rfl, ⟨by omega, by omega⟩, by omega⟩
        · replace h6 : (w (6 * y1 + 154) 1 : Int) ≠ 0 := by have q : ¬ ((w (6 * y1 + 154) 1 : Int) = 0) := h6; omega
          refine e_Ok.run (t' := (21, [(0, (1, 8)), (1, (0, y1))], [(1, 8)], w)) 1 rfl ?_
          refine e_Ok.getr (z := 82) rfl (el_o rfl) rfl rfl (Eq.trans (e_Has.eq hT rfl) (by omega)) (by omega) ?_
          refine e_Ok.run (t' := (25, [(0, (1, 8)), (1, (0, y1))], [(0, y1), (1, 82)], w)) 1 rfl ?_
          refine e_Ok.aald (z := 6 * y1 + 154) rfl (el_o rfl) rfl (by omega) (Eq.trans (e_Has.eq hT (k82 (by omega))) (by omega)) (by omega) ?_
          refine e_Ok.getf (z := w (6 * y1 + 154) 1) rfl (lT0 (t := y1) (by omega) (by omega)) rfl rfl rfl (by omega) ?_
          refine e_Ok.run (t' := (31, [(0, (1, 8)), (1, (0, y1))], [(0, 6), (0, w (6 * y1 + 154) 1)], w)) 1 rfl ?_
          refine e_Ok.if2 rfl (fun h7 => ?_) (fun h7 => ?_)
          · replace h7 : (w (6 * y1 + 154) 1 : Int) ≠ 6 := h7
            refine e_Ok.inc (z := y1 + 1) rfl rfl (by omega) (by omega) ?_
            show e_Ok 20 elay kcode eI d 36 (39, [(1, (0, y1 + 1)), (0, (1, 8))], [], w) _
            refine e_Ok.run (t' := (2, [(1, (0, y1 + 1)), (0, (1, 8))], [], w)) 1 rfl ?_
            refine e_Ok.sub kAlk (e_sub_of rfl ?_) (ih2 (y1 + 1) (by omega) (by omega))
            exact ⟨rfl, rfl, trivial⟩
          · replace h7 : (w (6 * y1 + 154) 1 : Int) = 6 := by have q : ¬ ((w (6 * y1 + 154) 1 : Int) ≠ 6) := h7; omega
            refine e_Ok.run (t' := (35, [(0, (1, 8)), (1, (0, y1))], [(0, y1)], w)) 1 rfl ?_
            refine e_Ok.rets rfl rfl ?_
            exact ⟨_, rfl, rfl, ⟨by omega, by omega⟩, by omega⟩
  refine e_Ok.sub kAlk (e_sub_of rfl ?_) (hL1 (16 + 1 : Int).toNat 0 (by omega) (by omega))
  exact ⟨rfl, rfl, trivial⟩
theorem c_37 {d : Nat} (hd : 23 ≤ d) {w : eW} (hT : e_Has kTy w) {a n : Int} (ga : 0 ≤ a ∧ a ≤ 3) {OP OD CL : Int → Int → Int} {h t0 : Int} (q : kI w OP OD CL h t0) (h0 : 0 ≤ h) (hn : 0 ≤ n ∧ n < w (w (17 * a + 86) 7) 1) : e_Ok 20 elay kcode eI d 37 (0, [(0, (1, 8)), (1, (0, a)), (2, (0, n))], [], w) (fun r w' => ∃ z : Int, r = [(0, z)] ∧ e_Has kTy w' ∧ kI w' OP OD CL h t0 ∧ (-1 ≤ z ∧ z ≤ 15) ∧ ((z = -1 ∧ w' = w) ∨ (0 ≤ z ∧ (w (6 * z + 154) 1 = 0 ∨ w (6 * z + 154) 1 = 6) ∧ e_fr (kBg z) w w'))) := by
  obtain ⟨d, rfl⟩ : ∃ e, d = e + 1 := ⟨d - 1, by omega⟩
  have hco := q.co (a := a) (by omega) (by omega)
  have hcd := hco.1.1
  have hr := e_Has.get hT (c := w (17 * a + 86) 7) (k := 1) (lo := 0) (hi := 32) (kD_1 hcd) (by decide)
  have hen := hco.2.2.1 n (by omega) (by omega)
  clear hco
  generalize hcv : w (17 * a + 86) 7 = cd at *
  have hcd0 := hcd
  unfold isCd at hcd0
  refine e_Ok.run (t' := (1, [(0, (1, 8)), (1, (0, a)), (2, (0, n))], [(1, 8)], w)) 1 rfl ?_
  refine e_Ok.callV rfl (by omega) rfl rfl rfl rfl (c_36 hT) (fun r1 w2 h3 => ?_)
  obtain ⟨z5, rfl, rfl, q4r, q4x⟩ := h3
  show e_Ok 20 elay kcode eI (d + 1) 37 (4, [(0, (1, 8)), (1, (0, a)), (2, (0, n))], [(0, z5)], w) _
  refine e_Ok.run (t' := (6, [(3, (0, z5)), (0, (1, 8)), (1, (0, a)), (2, (0, n))], [(0, z5)], w)) 2 rfl ?_
  refine e_Ok.if1 rfl (fun h6 => ?_) (fun h6 => ?_)
  · replace h6 : (z5 : Int) < 0 := h6
    refine e_Ok.run (t' := (41, [(3, (0, z5)), (0, (1, 8)), (1, (0, a)), (2, (0, n))], [(0, z5)], w)) 1 rfl ?_
    refine e_Ok.rets rfl rfl ?_
    exact ⟨_, rfl, hT, q, by omega, Or.inl ⟨by omega, rfl⟩⟩
  · replace h6 : (z5 : Int) ≥ 0 := by have q : ¬ ((z5 : Int) < 0) := h6; omega
    refine e_Ok.run (t' := (10, [(3, (0, z5)), (0, (1, 8)), (1, (0, a)), (2, (0, n))], [(1, 8)], w)) 1 rfl ?_
    refine e_Ok.getr (z := 82) rfl (el_o rfl) rfl rfl (Eq.trans (e_Has.eq hT rfl) (by omega)) (by omega) ?_
    refine e_Ok.run (t' := (14, [(3, (0, z5)), (0, (1, 8)), (1, (0, a)), (2, (0, n))], [(0, z5), (1, 82)], w)) 1 rfl ?_
    refine e_Ok.aald (z := 6 * z5 + 154) rfl (el_o rfl) rfl (by omega) (Eq.trans (e_Has.eq hT (k82 (by omega))) (by omega)) (by omega) ?_
    refine e_Ok.run (t' := (17, [(3, (0, z5)), (0, (1, 8)), (1, (0, a)), (2, (0, n))], [(1, 8), (0, a), (1, 6 * z5 + 154)], w)) 2 rfl ?_
    refine e_Ok.getr (z := 9) rfl (el_o rfl) rfl rfl (Eq.trans (e_Has.eq hT rfl) (by omega)) (by omega) ?_
    refine e_Ok.run (t' := (21, [(3, (0, z5)), (0, (1, 8)), (1, (0, a)), (2, (0, n))], [(0, a), (1, 9), (0, a), (1, 6 * z5 + 154)], w)) 1 rfl ?_
    refine e_Ok.aald (z := 17 * a + 86) rfl (el_o rfl) rfl (by omega) (Eq.trans (e_Has.eq hT (k9 (by omega))) (by omega)) (by omega) ?_
    refine e_Ok.getr (z := cd) rfl (lA0 (a := a) (by omega) (by omega)) rfl rfl hcv (by omega) ?_
    refine e_Ok.getr (z := cd + 1) rfl (lD0 hcd) rfl rfl (Eq.trans (e_Has.eq hT (kD_3 hcd)) (by omega)) (by omega) ?_
    refine e_Ok.run (t' := (29, [(3, (0, z5)), (0, (1, 8)), (1, (0, a)), (2, (0, n))], [(0, n), (1, cd + 1), (0, a), (1, 6 * z5 + 154)], w)) 1 rfl ?_
    have h7 := (e_Has.get hT (c := cd + 1) (k := n) (lo := (-2147483648)) (hi := 2147483647) (kD1 (d := cd) _ (by omega) hcd) (by decide))
    refine e_Ok.ald (z := w (cd + 1) n) rfl (lD1 (d := cd) (by omega) hcd) rfl (by omega) rfl (by omega) ?_
    refine e_Ok.run (t' := (31, [(3, (0, z5)), (0, (1, 8)), (1, (0, a)), (2, (0, n))], [(1, 8), (0, w (cd + 1) n), (0, a), (1, 6 * z5 + 154)], w)) 1 rfl ?_
    refine e_Ok.getr (z := 74) rfl (el_o rfl) rfl rfl (Eq.trans (e_Has.eq hT rfl) (by omega)) (by omega) ?_
    have h8 := (e_Has.get hT (c := 74) (k := 0) (lo := 0) (hi := 6000) rfl (by decide))
    refine e_Ok.getf (z := w 74 0) rfl (el_o rfl) rfl rfl rfl (by omega) ?_
    refine e_Ok.callV rfl (by omega) rfl (lT0 (t := z5) (by omega) (by omega)) rfl rfl (c_180 (by omega) (t := z5) (op := OP a) hT (by omega) (by omega) (by omega) (by omega)) (fun r9 w10 h11 => ?_)
    obtain ⟨rfl, q12f, q12T, q12s, q12v, q12f4, q12f3⟩ := h11
    show e_Ok 20 elay kcode eI (d + 1) 37 (40, [(3, (0, z5)), (0, (1, 8)), (1, (0, a)), (2, (0, n))], [], w10) _
    refine e_Ok.run (t' := (41, [(3, (0, z5)), (0, (1, 8)), (1, (0, a)), (2, (0, n))], [(0, z5)], w10)) 1 rfl ?_
    refine e_Ok.rets rfl rfl ?_
    exact ⟨_, rfl, q12T, kI.beg q q12T (by omega) h0 (by omega) q12f q12v.2.1 q12v.1 q12v.2.2.2.2 q12s (by rw [q12f3]; exact hen), by omega, Or.inr ⟨by omega, by omega, q12f⟩⟩
theorem c_68 {d : Nat} (hd : 23 ≤ d) {w : eW} (hT : e_Has kTy w) {a : Int} (g_a : 0 ≤ a ∧ a ≤ 3) {OP OD CL : Int → Int → Int} {h t0 : Int} (q : kI w OP OD CL h t0) (hk : sK w) (he : w 74 1 < 2147483647) : e_Ok 20 elay kcode eI d 68 (0, [(0, (1, 8)), (1, (0, a))], [], w) (fun r w' => r = [] ∧ e_fr (kGd a) w w' ∧ e_Has kTy w' ∧ (kI w' OP OD CL h t0 ∧ sK w' ∧ w 74 1 ≤ w' 74 1 ∧ w' 74 1 ≤ w 74 1 + 1)) := by
  obtain ⟨d, rfl⟩ : ∃ e, d = e + 1 := ⟨d - 1, by omega⟩
  have h74 := e_Has.get hT (c := 74) (k := 1) (lo := 0) (hi := 2147483647) rfl (by decide)
  have hB0 := e_Has.get hT (c := 19) (k := 0) (lo := 0) (hi := 4) rfl (by decide)
  have hM0 := e_Has.get hT (c := 19) (k := 1) (lo := 0) (hi := 32) rfl (by decide)
  have hjn := kn_joints hT (a := a) (by omega)
  refine e_Ok.run (t' := (1, [(0, (1, 8)), (1, (0, a))], [(1, 8)], w)) 1 rfl ?_
  refine e_Ok.getr (z := 9) rfl (el_o rfl) rfl rfl (Eq.trans (e_Has.eq hT rfl) (by omega)) (by omega) ?_
  refine e_Ok.run (t' := (5, [(0, (1, 8)), (1, (0, a))], [(0, a), (1, 9)], w)) 1 rfl ?_
  refine e_Ok.aald (z := 17 * a + 86) rfl (el_o rfl) rfl (by omega) (Eq.trans (e_Has.eq hT (k9 (by omega))) (by omega)) (by omega) ?_
  refine e_Ok.run (t' := (10, [(3, (0, (-1))), (2, (1, 17 * a + 86)), (0, (1, 8)), (1, (0, a))], [(1, 17 * a + 86)], w)) 4 rfl ?_
  have h1 := (e_Has.get hT (c := 17 * a + 86) (k := 14) (lo := (-1)) (hi := 31) (kA_14 (a := a) (by omega) (by omega)) (by decide))
  refine e_Ok.getf (z := w (17 * a + 86) 14) rfl (lA0 (a := a) (by omega) (by omega)) rfl rfl rfl (by omega) ?_
  refine e_Ok.if1 rfl (fun h2 => ?_) (fun h2 => ?_)
  · replace h2 : (w (17 * a + 86) 14 : Int) ≥ 0 := h2
    refine e_Ok.run (t' := (47, [(3, (0, (-1))), (2, (1, 17 * a + 86)), (0, (1, 8)), (1, (0, a))], [(0, (-1))], w)) 1 rfl ?_
    refine e_Ok.if1 rfl (fun h3 => ?_) (fun h3 => ?_)
    · replace h3 : ((-1) : Int) ≥ 0 := h3
      exfalso; omega
    · replace h3 : ((-1) : Int) < 0 := by have q : ¬ (((-1) : Int) ≥ 0) := h3; omega
      refine e_Ok.run (t' := (53, [(3, (0, (-1))), (2, (1, 17 * a + 86)), (0, (1, 8)), (1, (0, a))], [(0, 7), (1, 8)], w)) 2 rfl ?_
      refine e_Ok.callV rfl (by omega) rfl rfl rfl rfl (c_46 hT (by omega) hk) (fun r4 w5 h6 => ?_)
      obtain ⟨rfl, q7f, q7T, q7x⟩ := h6
      have f8 : e_fr (kGd a) w w5 := e_fr.trans (e_fr.refl w) (e_fr.mono q7f (fun c k q => by unfold kDs at q; unfold kGd; omega))
      have Q9 := kI.hm q q7T (e_fr.mono q7f (fun c k g => hm_kDs g))
      show e_Ok 20 elay kcode eI (d + 1) 68 (56, [(3, (0, (-1))), (2, (1, 17 * a + 86)), (0, (1, 8)), (1, (0, a))], [], w5) _
      refine e_Ok.rets rfl rfl ?_
      exact ⟨rfl, f8, q7T, ⟨Q9, q7x, by rw [q7f _ _ (by unfold kDs; omega)]; omega⟩⟩
  · replace h2 : (w (17 * a + 86) 14 : Int) < 0 := by have q : ¬ ((w (17 * a + 86) 14 : Int) ≥ 0) := h2; omega
    refine e_Ok.run (t' := (17, [(3, (0, (-1))), (2, (1, 17 * a + 86)), (0, (1, 8)), (1, (0, a))], [(1, 8)], w)) 1 rfl ?_
    refine e_Ok.getr (z := 19) rfl (el_o rfl) rfl rfl (Eq.trans (e_Has.eq hT rfl) (by omega)) (by omega) ?_
    refine e_Ok.run (t' := (21, [(3, (0, (-1))), (2, (1, 17 * a + 86)), (0, (1, 8)), (1, (0, a))], [(1, 17 * a + 86), (1, 19)], w)) 1 rfl ?_
    refine e_Ok.getr (z := 17 * a + 88) rfl (lA0 (a := a) (by omega) (by omega)) rfl rfl (Eq.trans (e_Has.eq hT (kA_1 (a := a) (by omega) (by omega))) (by omega)) (by omega) ?_
    refine e_Ok.run (t' := (25, [(3, (0, (-1))), (2, (1, 17 * a + 86)), (0, (1, 8)), (1, (0, a))], [(1, 17 * a + 86), (1, 17 * a + 88), (1, 19)], w)) 1 rfl ?_
    have h10 := (e_Has.get hT (c := 17 * a + 86) (k := 8) (lo := 0) (hi := 6) (kA_8 (a := a) (by omega) (by omega)) (by decide))
    refine e_Ok.getf (z := w (17 * a + 86) 8) rfl (lA0 (a := a) (by omega) (by omega)) rfl rfl rfl (by omega) ?_
    have h11 := ((q.arm (a := a) (by omega) (by omega)).1.1 (w (17 * a + 86) 8) (by omega) (by omega))
    refine e_Ok.ald (z := w (17 * a + 88) (w (17 * a + 86) 8)) rfl (lA2 (a := a) (by omega) (by omega)) rfl (by omega) rfl (by omega) ?_
    refine e_Ok.run (t' := (30, [(3, (0, (-1))), (2, (1, 17 * a + 86)), (0, (1, 8)), (1, (0, a))], [(1, 17 * a + 86), (0, w (17 * a + 88) (w (17 * a + 86) 8)), (1, 19)], w)) 1 rfl ?_
    refine e_Ok.getr (z := 17 * a + 89) rfl (lA0 (a := a) (by omega) (by omega)) rfl rfl (Eq.trans (e_Has.eq hT (kA_2 (a := a) (by omega) (by omega))) (by omega)) (by omega) ?_
    refine e_Ok.run (t' := (34, [(3, (0, (-1))), (2, (1, 17 * a + 86)), (0, (1, 8)), (1, (0, a))], [(1, 17 * a + 86), (1, 17 * a + 89), (0, w (17 * a + 88) (w (17 * a + 86) 8)), (1, 19)], w)) 1 rfl ?_
    refine e_Ok.getf (z := w (17 * a + 86) 8) rfl (lA0 (a := a) (by omega) (by omega)) rfl rfl rfl (by omega) ?_
    have h12 := ((q.arm (a := a) (by omega) (by omega)).1.2 (w (17 * a + 86) 8) (by omega) (by omega))
    refine e_Ok.ald (z := w (17 * a + 89) (w (17 * a + 86) 8)) rfl (lA3 (a := a) (by omega) (by omega)) rfl (by omega) rfl (by omega) ?_
    refine e_Ok.run (t' := (39, [(3, (0, (-1))), (2, (1, 17 * a + 86)), (0, (1, 8)), (1, (0, a))], [(1, 17 * a + 86), (0, w (17 * a + 89) (w (17 * a + 86) 8)), (0, w (17 * a + 88) (w (17 * a + 86) 8)), (1, 19)], w)) 1 rfl ?_
    have h13 := (e_Has.get hT (c := 17 * a + 86) (k := 10) (lo := (-2147483648)) (hi := 2147483647) (kA_10 (a := a) (by omega) (by omega)) (by decide))
    refine e_Ok.getf (z := w (17 * a + 86) 10) rfl (lA0 (a := a) (by omega) (by omega)) rfl rfl rfl (by omega) ?_
    refine e_Ok.callV rfl (by omega) rfl rfl rfl rfl (c_83 (by omega) hT (by omega) (by omega) (by omega) q.fk) (fun r14 w15 h16 => ?_)
    obtain ⟨z18, rfl, rfl, q17r, q17x⟩ := h16
    show e_Ok 20 elay kcode eI (d + 1) 68 (45, [(3, (0, (-1))), (2, (1, 17 * a + 86)), (0, (1, 8)), (1, (0, a))], [(0, z18)], w) _
    refine e_Ok.run (t' := (47, [(3, (0, z18)), (2, (1, 17 * a + 86)), (0, (1, 8)), (1, (0, a))], [(0, z18)], w)) 2 rfl ?_
    refine e_Ok.if1 rfl (fun h19 => ?_) (fun h19 => ?_)
    · replace h19 : (z18 : Int) ≥ 0 := h19
      refine e_Ok.run (t' := (58, [(3, (0, z18)), (2, (1, 17 * a + 86)), (0, (1, 8)), (1, (0, a))], [(1, 8)], w)) 1 rfl ?_
      refine e_Ok.getr (z := 19) rfl (el_o rfl) rfl rfl (Eq.trans (e_Has.eq hT rfl) (by omega)) (by omega) ?_
      refine e_Ok.run (t' := (63, [(3, (0, z18)), (2, (1, 17 * a + 86)), (0, (1, 8)), (1, (0, a))], [(0, z18), (0, a), (1, 19)], w)) 2 rfl ?_
      refine e_Ok.callV rfl (by omega) rfl rfl rfl rfl (c_84 hT (by omega) (by omega) q.fk (by omega) (by omega)) (fun r20 w21 h22 => ?_)
      obtain ⟨rfl, q23f, q23T, q23x⟩ := h22
      have f24 : e_fr (kGd a) w w21 := e_fr.trans (e_fr.refl w) (e_fr.mono q23f (fun c k q => by unfold kFl at q; unfold kGd; omega))
      show e_Ok 20 elay kcode eI (d + 1) 68 (66, [(3, (0, z18)), (2, (1, 17 * a + 86)), (0, (1, 8)), (1, (0, a))], [], w21) _
      refine e_Ok.run (t' := (68, [(3, (0, z18)), (2, (1, 17 * a + 86)), (0, (1, 8)), (1, (0, a))], [(0, z18), (1, 17 * a + 86)], w21)) 2 rfl ?_
      refine e_Ok.putf rfl (lA0 (a := a) (by omega) (by omega)) rfl rfl ?_
      generalize hw25 : e_up w21 (17 * a + 86) 14 z18 = w25
      have f26 : e_fr (kGd a) w w25 := e_fr.up f24 hw25 (by unfold kGd; omega)
      have hT27 : e_Has kTy w25 := e_Has.upr q23T hw25 (kA_14 (a := a) (by omega) (by omega)) (by omega)
      refine e_Ok.run (t' := (73, [(3, (0, z18)), (2, (1, 17 * a + 86)), (0, (1, 8)), (1, (0, a))], [(1, 8), (1, 17 * a + 86)], w25)) 2 rfl ?_
      refine e_Ok.getr (z := 19) rfl (el_o rfl) rfl rfl (by rw [← hw25]; exact (e_up_ne _ _ (Or.inr (by omega))).trans ((q23f 8 2 (by unfold kFl; omega)).trans (Eq.trans (e_Has.eq hT rfl) (by omega)))) (by omega) ?_
      refine e_Ok.getr (z := 38) rfl (el_o rfl) rfl rfl (by rw [← hw25]; exact (e_up_ne _ _ (Or.inr (by omega))).trans ((q23f 19 16 (by unfold kFl; omega)).trans (Eq.trans (e_Has.eq hT rfl) (by omega)))) (by omega) ?_
      refine e_Ok.run (t' := (80, [(3, (0, z18)), (2, (1, 17 * a + 86)), (0, (1, 8)), (1, (0, a))], [(0, z18), (1, 38), (1, 17 * a + 86)], w25)) 1 rfl ?_
      have h28 := (e_Has.get hT (c := 38) (k := z18) (lo := (-2147483648)) (hi := 2147483647) rfl (by decide))
      refine e_Ok.ald (z := w 38 z18) rfl (el_o rfl) rfl (by omega) (by rw [← hw25]; exact (e_up_ne _ _ (Or.inl (by omega))).trans ((q23f 38 z18 (by unfold kFl; omega)).trans rfl)) (by omega) ?_
      refine e_Ok.putf rfl (lA0 (a := a) (by omega) (by omega)) rfl rfl ?_
      generalize hw29 : e_up w25 (17 * a + 86) 15 (w 38 z18) = w29
      have f30 : e_fr (kGd a) w w29 := e_fr.up f26 hw29 (by unfold kGd; omega)
      have hT31 : e_Has kTy w29 := e_Has.upr hT27 hw29 (kA_15 (a := a) (by omega) (by omega)) (by omega)
      refine e_Ok.run (t' := (85, [(3, (0, z18)), (2, (1, 17 * a + 86)), (0, (1, 8)), (1, (0, a))], [(1, 8)], w29)) 1 rfl ?_
      refine e_Ok.getr (z := 74) rfl (el_o rfl) rfl rfl (by rw [← hw29]; exact (e_up_ne _ _ (Or.inr (by omega))).trans (by rw [← hw25]; exact (e_up_ne _ _ (Or.inr (by omega))).trans ((q23f 8 3 (by unfold kFl; omega)).trans (Eq.trans (e_Has.eq hT rfl) (by omega))))) (by omega) ?_
      refine e_Ok.run (t' := (92, [(3, (0, z18)), (2, (1, 17 * a + 86)), (0, (1, 8)), (1, (0, a))], [(0, z18), (0, a), (0, 6), (1, 74)], w29)) 3 rfl ?_
      refine e_Ok.callV rfl (by omega) rfl rfl rfl rfl (c_27 hT31 (by omega) (by omega) (by omega) (by rw [← hw29, e_up_ne _ _ (by omega), ← hw25, e_up_ne _ _ (by omega), q23f _ _ (by unfold kFl; omega)]; omega)) (fun r32 w33 h34 => ?_)
      obtain ⟨rfl, q35f, q35T, q35x⟩ := h34
      have f36 : e_fr (kGd a) w w33 := e_fr.trans f30 (e_fr.mono q35f (fun c k q => by unfold kLg at q; unfold kGd; omega))
      show e_Ok 20 elay kcode eI (d + 1) 68 (95, [(3, (0, z18)), (2, (1, 17 * a + 86)), (0, (1, 8)), (1, (0, a))], [], w33) _
      refine e_Ok.run (t' := (97, [(3, (0, z18)), (2, (1, 17 * a + 86)), (0, (1, 8)), (1, (0, a))], [(0, (-1)), (1, 8)], w33)) 2 rfl ?_
      refine e_Ok.callV rfl (by omega) rfl rfl rfl rfl (c_39 q35T (by omega)) (fun r37 w38 h40 => ?_)
      obtain ⟨rfl, q41f, q41T, q41x⟩ := h40
      have f42 : e_fr (kGd a) w w38 := e_fr.trans f36 (e_fr.mono q41f (fun c k q => by unfold kMv at q; unfold kGd; omega))
      show e_Ok 20 elay kcode eI (d + 1) 68 (100, [(3, (0, z18)), (2, (1, 17 * a + 86)), (0, (1, 8)), (1, (0, a))], [], w38) _
      refine e_Ok.rets rfl rfl ?_
      have ew : ∀ c k, ¬ (c = 17 * a + 86 ∧ (k = 14 ∨ k = 15)) → w29 c k = w21 c k := fun c k g => by rw [← hw29, e_up_ne _ _ (by omega), ← hw25, e_up_ne _ _ (by omega)]
      have ew0 : ∀ c k, ¬ (c = 17 * a + 86 ∧ (k = 14 ∨ k = 15)) → ¬ kFl c k → w29 c k = w c k := fun c k g1 g2 => (ew c k g1).trans (q23f c k g2)
      have eh : w29 (17 * a + 86) 14 = z18 := (by rw [← hw29]; exact (e_up_ne _ _ (Or.inr (by omega))).trans (by rw [← hw25]; exact e_up_eq _ _ _ _))
      have hF : fK w29 := fK.fr (S := fun c k => c = 17 * a + 86 ∧ (k = 14 ∨ k = 15)) (fun c k g => ew c k g) (fun c k g1 g2 => by omega) (fun k => by omega) (by omega) (by rw [q23f _ _ (by unfold kFl; omega)]; omega) q23x.1
      have hH := aH.grip (a := a) (p := z18) (by omega) (by omega) (by omega) (ew0 _ _ (by omega) (by unfold kFl; omega)) ((ew _ _ (by omega)).trans q23x.2.1) (fun i g => (ew _ _ (by omega)).trans (q23x.2.2 i g)) eh (fun b g1 g2 g3 => ew0 _ _ (by omega) (by unfold kFl; omega)) (fun b g1 g2 => (q.arm g1 g2).2.2.2.2.1)
      have Q1 : kI w29 OP OD CL h t0 := kI.fl q hT31 (a := a) (by omega) (fun c k g => ew0 c k (fun g2 => g (by unfold kFh; omega)) (fun g2 => g (by unfold kFl at g2; unfold kFh; omega))) hF hH
      have Q2 := kI.lg Q1 q35T (e_fr.mono q35f (fun c k g => lh_kLg g)) (q35x.2 Q1.lgk)
      have Q3 := kI.stale Q2 q41T q41f q41x
      have e74 : w38 74 1 = w 74 1 + 1 := by rw [q41f _ _ (by unfold kMv; omega), q35x.1, ew0 _ _ (by omega) (by unfold kFl; omega)]
      exact ⟨rfl, f42, q41T, ⟨Q3, (sK.fr q41f (by unfold kMv; omega) (fun k => by unfold kMv; omega) (sK.fr q35f (by unfold kLg; omega) (fun k => by unfold kLg; omega) (sK.eq (fun c k g => ew0 c k (by omega) (by unfold kFl; omega)) hk))), by omega⟩⟩
    · replace h19 : (z18 : Int) < 0 := by have q : ¬ ((z18 : Int) ≥ 0) := h19; omega
      refine e_Ok.run (t' := (53, [(3, (0, z18)), (2, (1, 17 * a + 86)), (0, (1, 8)), (1, (0, a))], [(0, 7), (1, 8)], w)) 2 rfl ?_
      refine e_Ok.callV rfl (by omega) rfl rfl rfl rfl (c_46 hT (by omega) hk) (fun r43 w44 h45 => ?_)
      obtain ⟨rfl, q46f, q46T, q46x⟩ := h45
      have f47 : e_fr (kGd a) w w44 := e_fr.trans (e_fr.refl w) (e_fr.mono q46f (fun c k q => by unfold kDs at q; unfold kGd; omega))
      have Q48 := kI.hm q q46T (e_fr.mono q46f (fun c k g => hm_kDs g))
      show e_Ok 20 elay kcode eI (d + 1) 68 (56, [(3, (0, z18)), (2, (1, 17 * a + 86)), (0, (1, 8)), (1, (0, a))], [], w44) _
      refine e_Ok.rets rfl rfl ?_
      exact ⟨rfl, f47, q46T, ⟨Q48, q46x, by rw [q46f _ _ (by unfold kDs; omega)]; omega⟩⟩
theorem c_69 {d : Nat} (hd : 23 ≤ d) {w : eW} (hT : e_Has kTy w) {a : Int} (g_a : 0 ≤ a ∧ a ≤ 3) {OP OD CL : Int → Int → Int} {h t0 : Int} (q : kI w OP OD CL h t0) (hk : sK w) (he : w 74 1 < 2147483647) : e_Ok 20 elay kcode eI d 69 (0, [(0, (1, 8)), (1, (0, a))], [], w) (fun r w' => r = [] ∧ e_fr (kGd a) w w' ∧ e_Has kTy w' ∧ (kI w' OP OD CL h t0 ∧ sK w' ∧ w 74 1 ≤ w' 74 1 ∧ w' 74 1 ≤ w 74 1 + 1)) := by
  obtain ⟨d, rfl⟩ : ∃ e, d = e + 1 := ⟨d - 1, by omega⟩
  have h74 := e_Has.get hT (c := 74) (k := 1) (lo := 0) (hi := 2147483647) rfl (by decide)
  have hB0 := e_Has.get hT (c := 19) (k := 0) (lo := 0) (hi := 4) rfl (by decide)
  have hM0 := e_Has.get hT (c := 19) (k := 1) (lo := 0) (hi := 32) rfl (by decide)
  have hjn := kn_joints hT (a := a) (by omega)
  refine e_Ok.run (t' := (1, [(0, (1, 8)), (1, (0, a))], [(1, 8)], w)) 1 rfl ?_
  refine e_Ok.getr (z := 9) rfl (el_o rfl) rfl rfl (Eq.trans (e_Has.eq hT rfl) (by omega)) (by omega) ?_
  refine e_Ok.run (t' := (5, [(0, (1, 8)), (1, (0, a))], [(0, a), (1, 9)], w)) 1 rfl ?_
  refine e_Ok.aald (z := 17 * a + 86) rfl (el_o rfl) rfl (by omega) (Eq.trans (e_Has.eq hT (k9 (by omega))) (by omega)) (by omega) ?_
  refine e_Ok.run (t' := (8, [(2, (1, 17 * a + 86)), (0, (1, 8)), (1, (0, a))], [(1, 17 * a + 86)], w)) 2 rfl ?_
  have h1 := (e_Has.get hT (c := 17 * a + 86) (k := 14) (lo := (-1)) (hi := 31) (kA_14 (a := a) (by omega) (by omega)) (by decide))
  refine e_Ok.getf (z := w (17 * a + 86) 14) rfl (lA0 (a := a) (by omega) (by omega)) rfl rfl rfl (by omega) ?_
  refine e_Ok.run (t' := (13, [(3, (0, w (17 * a + 86) 14)), (2, (1, 17 * a + 86)), (0, (1, 8)), (1, (0, a))], [(0, w (17 * a + 86) 14)], w)) 2 rfl ?_
  refine e_Ok.if1 rfl (fun h2 => ?_) (fun h2 => ?_)
  · replace h2 : (w (17 * a + 86) 14 : Int) ≥ 0 := h2
    have hh := (q.arm (a := a) (by omega) (by omega)).2.2.2.2.1 (by omega)
    have hn : ∀ b i, 0 ≤ b → b < w 19 0 → 0 ≤ i → i < w 35 b → w (b + 31) i ≠ w (17 * a + 86) 14 := fun b i g1 g2 g3 g4 e => by have := (q.fk.ord (b := b) (i := i) ⟨g1, g2⟩ ⟨g3, g4⟩).2; rw [e] at this; omega
    refine e_Ok.run (t' := (24, [(3, (0, w (17 * a + 86) 14)), (2, (1, 17 * a + 86)), (0, (1, 8)), (1, (0, a))], [(1, 8)], w)) 1 rfl ?_
    refine e_Ok.getr (z := 19) rfl (el_o rfl) rfl rfl (Eq.trans (e_Has.eq hT rfl) (by omega)) (by omega) ?_
    refine e_Ok.run (t' := (29, [(3, (0, w (17 * a + 86) 14)), (2, (1, 17 * a + 86)), (0, (1, 8)), (1, (0, a))], [(1, 17 * a + 86), (0, w (17 * a + 86) 14), (1, 19)], w)) 2 rfl ?_
    refine e_Ok.getr (z := 17 * a + 88) rfl (lA0 (a := a) (by omega) (by omega)) rfl rfl (Eq.trans (e_Has.eq hT (kA_1 (a := a) (by omega) (by omega))) (by omega)) (by omega) ?_
    refine e_Ok.run (t' := (33, [(3, (0, w (17 * a + 86) 14)), (2, (1, 17 * a + 86)), (0, (1, 8)), (1, (0, a))], [(1, 17 * a + 86), (1, 17 * a + 88), (0, w (17 * a + 86) 14), (1, 19)], w)) 1 rfl ?_
    have h3 := (e_Has.get hT (c := 17 * a + 86) (k := 8) (lo := 0) (hi := 6) (kA_8 (a := a) (by omega) (by omega)) (by decide))
    refine e_Ok.getf (z := w (17 * a + 86) 8) rfl (lA0 (a := a) (by omega) (by omega)) rfl rfl rfl (by omega) ?_
    have h4 := ((q.arm (a := a) (by omega) (by omega)).1.1 (w (17 * a + 86) 8) (by omega) (by omega))
    refine e_Ok.ald (z := w (17 * a + 88) (w (17 * a + 86) 8)) rfl (lA2 (a := a) (by omega) (by omega)) rfl (by omega) rfl (by omega) ?_
    refine e_Ok.run (t' := (38, [(3, (0, w (17 * a + 86) 14)), (2, (1, 17 * a + 86)), (0, (1, 8)), (1, (0, a))], [(1, 17 * a + 86), (0, w (17 * a + 88) (w (17 * a + 86) 8)), (0, w (17 * a + 86) 14), (1, 19)], w)) 1 rfl ?_
    refine e_Ok.getr (z := 17 * a + 89) rfl (lA0 (a := a) (by omega) (by omega)) rfl rfl (Eq.trans (e_Has.eq hT (kA_2 (a := a) (by omega) (by omega))) (by omega)) (by omega) ?_
    refine e_Ok.run (t' := (42, [(3, (0, w (17 * a + 86) 14)), (2, (1, 17 * a + 86)), (0, (1, 8)), (1, (0, a))], [(1, 17 * a + 86), (1, 17 * a + 89), (0, w (17 * a + 88) (w (17 * a + 86) 8)), (0, w (17 * a + 86) 14), (1, 19)], w)) 1 rfl ?_
    refine e_Ok.getf (z := w (17 * a + 86) 8) rfl (lA0 (a := a) (by omega) (by omega)) rfl rfl rfl (by omega) ?_
    have h5 := ((q.arm (a := a) (by omega) (by omega)).1.2 (w (17 * a + 86) 8) (by omega) (by omega))
    refine e_Ok.ald (z := w (17 * a + 89) (w (17 * a + 86) 8)) rfl (lA3 (a := a) (by omega) (by omega)) rfl (by omega) rfl (by omega) ?_
    refine e_Ok.callV rfl (by omega) rfl rfl rfl rfl (c_85 (by omega) hT (by omega) (by omega) (by omega) q.fk (by omega) hn) (fun r6 w7 h8 => ?_)
    obtain ⟨rfl, q9f, q9T, q9x⟩ := h8
    have f10 : e_fr (kGd a) w w7 := e_fr.trans (e_fr.refl w) (e_fr.mono q9f (fun c k q => by unfold kFl at q; unfold kGd; omega))
    show e_Ok 20 elay kcode eI (d + 1) 69 (49, [(3, (0, w (17 * a + 86) 14)), (2, (1, 17 * a + 86)), (0, (1, 8)), (1, (0, a))], [], w7) _
    refine e_Ok.run (t' := (51, [(3, (0, w (17 * a + 86) 14)), (2, (1, 17 * a + 86)), (0, (1, 8)), (1, (0, a))], [(0, (-1)), (1, 17 * a + 86)], w7)) 2 rfl ?_
    refine e_Ok.putf rfl (lA0 (a := a) (by omega) (by omega)) rfl rfl ?_
    generalize hw11 : e_up w7 (17 * a + 86) 14 (-1) = w11
    have f12 : e_fr (kGd a) w w11 := e_fr.up f10 hw11 (by unfold kGd; omega)
    have hT13 : e_Has kTy w11 := e_Has.upr q9T hw11 (kA_14 (a := a) (by omega) (by omega)) (by omega)
    refine e_Ok.run (t' := (55, [(3, (0, w (17 * a + 86) 14)), (2, (1, 17 * a + 86)), (0, (1, 8)), (1, (0, a))], [(1, 8)], w11)) 1 rfl ?_
    refine e_Ok.getr (z := 74) rfl (el_o rfl) rfl rfl (by rw [← hw11]; exact (e_up_ne _ _ (Or.inr (by omega))).trans ((q9f 8 3 (by unfold kFl; omega)).trans (Eq.trans (e_Has.eq hT rfl) (by omega)))) (by omega) ?_
    refine e_Ok.run (t' := (62, [(3, (0, w (17 * a + 86) 14)), (2, (1, 17 * a + 86)), (0, (1, 8)), (1, (0, a))], [(0, w (17 * a + 86) 14), (0, a), (0, 7), (1, 74)], w11)) 3 rfl ?_
    refine e_Ok.callV rfl (by omega) rfl rfl rfl rfl (c_27 hT13 (by omega) (by omega) (by omega) (by rw [← hw11, e_up_ne _ _ (by omega), q9f _ _ (by unfold kFl; omega)]; omega)) (fun r14 w15 h16 => ?_)
    obtain ⟨rfl, q17f, q17T, q17x⟩ := h16
    have f18 : e_fr (kGd a) w w15 := e_fr.trans f12 (e_fr.mono q17f (fun c k q => by unfold kLg at q; unfold kGd; omega))
    show e_Ok 20 elay kcode eI (d + 1) 69 (65, [(3, (0, w (17 * a + 86) 14)), (2, (1, 17 * a + 86)), (0, (1, 8)), (1, (0, a))], [], w15) _
    refine e_Ok.run (t' := (67, [(3, (0, w (17 * a + 86) 14)), (2, (1, 17 * a + 86)), (0, (1, 8)), (1, (0, a))], [(0, (-1)), (1, 8)], w15)) 2 rfl ?_
    refine e_Ok.callV rfl (by omega) rfl rfl rfl rfl (c_39 q17T (by omega)) (fun r19 w20 h21 => ?_)
    obtain ⟨rfl, q22f, q22T, q22x⟩ := h21
    have f23 : e_fr (kGd a) w w20 := e_fr.trans f18 (e_fr.mono q22f (fun c k q => by unfold kMv at q; unfold kGd; omega))
    show e_Ok 20 elay kcode eI (d + 1) 69 (70, [(3, (0, w (17 * a + 86) 14)), (2, (1, 17 * a + 86)), (0, (1, 8)), (1, (0, a))], [], w20) _
    refine e_Ok.rets rfl rfl ?_
    have ew : ∀ c k, ¬ (c = 17 * a + 86 ∧ (k = 14 ∨ k = 15)) → w11 c k = w7 c k := fun c k g => by rw [← hw11, e_up_ne _ _ (by omega)]
    have ew0 : ∀ c k, ¬ (c = 17 * a + 86 ∧ (k = 14 ∨ k = 15)) → ¬ kFl c k → w11 c k = w c k := fun c k g1 g2 => (ew c k g1).trans (q9f c k g2)
    have eh : w11 (17 * a + 86) 14 = (-1) := (by rw [← hw11]; exact e_up_eq _ _ _ _)
    have hF : fK w11 := fK.fr (S := fun c k => c = 17 * a + 86 ∧ (k = 14 ∨ k = 15)) (fun c k g => ew c k g) (fun c k g1 g2 => by omega) (fun k => by omega) (by omega) (by rw [q9f _ _ (by unfold kFl; omega)]; omega) q9x.1
    have hH := aH.drop (a := a) (by omega) rfl (by omega) (ew0 _ _ (by omega) (by unfold kFl; omega)) (fun i g => (ew _ _ (by omega)).trans (q9x.2 i g)) eh (fun b g1 g2 g3 => ew0 _ _ (by omega) (by unfold kFl; omega)) (fun b g1 g2 => (q.arm g1 g2).2.2.2.2.1)
    have Q1 : kI w11 OP OD CL h t0 := kI.fl q hT13 (a := a) (by omega) (fun c k g => ew0 c k (fun g2 => g (by unfold kFh; omega)) (fun g2 => g (by unfold kFl at g2; unfold kFh; omega))) hF hH
    have Q2 := kI.lg Q1 q17T (e_fr.mono q17f (fun c k g => lh_kLg g)) (q17x.2 Q1.lgk)
    have Q3 := kI.stale Q2 q22T q22f q22x
    have e74 : w20 74 1 = w 74 1 + 1 := by rw [q22f _ _ (by unfold kMv; omega), q17x.1, ew0 _ _ (by omega) (by unfold kFl; omega)]
    exact ⟨rfl, f23, q22T, ⟨Q3, (sK.fr q22f (by unfold kMv; omega) (fun k => by unfold kMv; omega) (sK.fr q17f (by unfold kLg; omega) (fun k => by unfold kLg; omega) (sK.eq (fun c k g => ew0 c k (by omega) (by unfold kFl; omega)) hk))), by omega⟩⟩
  · replace h2 : (w (17 * a + 86) 14 : Int) < 0 := by have q : ¬ ((w (17 * a + 86) 14 : Int) ≥ 0) := h2; omega
    refine e_Ok.run (t' := (19, [(3, (0, w (17 * a + 86) 14)), (2, (1, 17 * a + 86)), (0, (1, 8)), (1, (0, a))], [(0, 7), (1, 8)], w)) 2 rfl ?_
    refine e_Ok.callV rfl (by omega) rfl rfl rfl rfl (c_46 hT (by omega) hk) (fun r24 w25 h26 => ?_)
    obtain ⟨rfl, q27f, q27T, q27x⟩ := h26
    have f28 : e_fr (kGd a) w w25 := e_fr.trans (e_fr.refl w) (e_fr.mono q27f (fun c k q => by unfold kDs at q; unfold kGd; omega))
    have Q29 := kI.hm q q27T (e_fr.mono q27f (fun c k g => hm_kDs g))
    show e_Ok 20 elay kcode eI (d + 1) 69 (22, [(3, (0, w (17 * a + 86) 14)), (2, (1, 17 * a + 86)), (0, (1, 8)), (1, (0, a))], [], w25) _
    refine e_Ok.rets rfl rfl ?_
    exact ⟨rfl, f28, q27T, ⟨Q29, q27x, by rw [q27f _ _ (by unfold kDs; omega)]; omega⟩⟩
end
