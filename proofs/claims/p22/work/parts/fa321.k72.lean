noncomputable section
/-! the class: findRoutines, exactly -/
theorem l_23 {n d : Nat} {w : eW} {cd : Int} (hR : kRw cd w) {x : Int} (hx : 0 ≤ x ∧ x < w cd 0) : e_Pn 20 elay kcode eI n d 23 (0, [(0, (1, cd)), (1, (0, x))], [], w) (fun r w' => ∃ z : Int, r = [(0, z)] ∧ w = w' ∧ z = w (cd + 2) x % 64) := by
  have hn := hR.1.n
  refine e_Pn.run (t' := (1, [(0, (1, cd)), (1, (0, x))], [(0, x)], w)) kAlk 1 rfl ?_
  refine e_Pn.if1 kAlk rfl (fun h1 => ?_) (fun h1 => ?_)
  · replace h1 : (x : Int) < 0 := h1
    show e_Pn 20 elay kcode eI n d 23 (24, [(0, (1, cd)), (1, (0, x))], [], w) _
    refine e_Pn.run (t' := (26, [(0, (1, cd)), (1, (0, x))], [(0, 43)], w)) kAlk 1 rfl ?_
    refine e_Pn.ret1 rfl ?_
    first | exact ⟨_, rfl, rfl, by omega⟩ | (exfalso; omega)
  · replace h1 : (x : Int) ≥ 0 := by have q : ¬ ((x : Int) < 0) := h1; omega
    show e_Pn 20 elay kcode eI n d 23 (4, [(0, (1, cd)), (1, (0, x))], [], w) _
    refine e_Pn.run (t' := (6, [(0, (1, cd)), (1, (0, x))], [(1, cd), (0, x)], w)) kAlk 2 rfl ?_
    refine e_Pn.getf (z := w cd 0) kAlk rfl rfl rfl (fun b2 => ?_)
    refine e_Pn.if2 kAlk rfl (fun h3 => ?_) (fun h3 => ?_)
    · replace h3 : (x : Int) ≥ w cd 0 := h3
      show e_Pn 20 elay kcode eI n d 23 (24, [(0, (1, cd)), (1, (0, x))], [], w) _
      refine e_Pn.run (t' := (26, [(0, (1, cd)), (1, (0, x))], [(0, 43)], w)) kAlk 1 rfl ?_
      refine e_Pn.ret1 rfl ?_
      first | exact ⟨_, rfl, rfl, by omega⟩ | (exfalso; omega)
    · replace h3 : (x : Int) < w cd 0 := by have q : ¬ ((x : Int) ≥ w cd 0) := h3; omega
      show e_Pn 20 elay kcode eI n d 23 (12, [(0, (1, cd)), (1, (0, x))], [], w) _
      refine e_Pn.run (t' := (13, [(0, (1, cd)), (1, (0, x))], [(1, cd)], w)) kAlk 1 rfl ?_
      refine e_Pn.getr (z := cd + 2) kAlk rfl rfl hR.2.2.2.2.2.2 (by omega) ?_
      refine e_Pn.run (t' := (17, [(0, (1, cd)), (1, (0, x))], [(0, x), (1, cd + 2)], w)) kAlk 1 rfl ?_
      refine e_Pn.ald (z := w (cd + 2) x) kAlk rfl rfl (fun b4 b5 => ?_)
      refine e_Pn.run (t' := (20, [(0, (1, cd)), (1, (0, x))], [(0, 63), (0, w (cd + 2) x)], w)) kAlk 1 rfl ?_
      refine e_Pn.andm kAlk 63 6 rfl (by decide) (fun z6 hz6 => ?_)
      replace hz6 : z6 = (w (cd + 2) x) % 64 := hz6
      refine e_Pn.run (t' := (26, [(0, (1, cd)), (1, (0, x))], [(0, z6)], w)) kAlk 1 rfl ?_
      refine e_Pn.ret1 rfl ?_
      first | exact ⟨_, rfl, rfl, by omega⟩ | (exfalso; omega)
theorem l_24 {n d : Nat} {w : eW} {cd : Int} (hR : kRw cd w) {x : Int} (hx : 0 ≤ x ∧ x < w cd 0) : e_Pn 20 elay kcode eI n d 24 (0, [(0, (1, cd)), (1, (0, x))], [], w) (fun r w' => ∃ z : Int, r = [(0, z)] ∧ w = w' ∧ z = w (cd + 2) x / 64) := by
  have hn := hR.1.n
  refine e_Pn.run (t' := (1, [(0, (1, cd)), (1, (0, x))], [(0, x)], w)) kAlk 1 rfl ?_
  refine e_Pn.if1 kAlk rfl (fun h1 => ?_) (fun h1 => ?_)
  · replace h1 : (x : Int) < 0 := h1
    show e_Pn 20 elay kcode eI n d 24 (24, [(0, (1, cd)), (1, (0, x))], [], w) _
    refine e_Pn.run (t' := (25, [(0, (1, cd)), (1, (0, x))], [(0, 0)], w)) kAlk 1 rfl ?_
    refine e_Pn.ret1 rfl ?_
    first | exact ⟨_, rfl, rfl, by omega⟩ | (exfalso; omega)
  · replace h1 : (x : Int) ≥ 0 := by have q : ¬ ((x : Int) < 0) := h1; omega
    show e_Pn 20 elay kcode eI n d 24 (4, [(0, (1, cd)), (1, (0, x))], [], w) _
    refine e_Pn.run (t' := (6, [(0, (1, cd)), (1, (0, x))], [(1, cd), (0, x)], w)) kAlk 2 rfl ?_
    refine e_Pn.getf (z := w cd 0) kAlk rfl rfl rfl (fun b2 => ?_)
    refine e_Pn.if2 kAlk rfl (fun h3 => ?_) (fun h3 => ?_)
    · replace h3 : (x : Int) ≥ w cd 0 := h3
      show e_Pn 20 elay kcode eI n d 24 (24, [(0, (1, cd)), (1, (0, x))], [], w) _
      refine e_Pn.run (t' := (25, [(0, (1, cd)), (1, (0, x))], [(0, 0)], w)) kAlk 1 rfl ?_
      refine e_Pn.ret1 rfl ?_
      first | exact ⟨_, rfl, rfl, by omega⟩ | (exfalso; omega)
    · replace h3 : (x : Int) < w cd 0 := by have q : ¬ ((x : Int) ≥ w cd 0) := h3; omega
      show e_Pn 20 elay kcode eI n d 24 (12, [(0, (1, cd)), (1, (0, x))], [], w) _
      refine e_Pn.run (t' := (13, [(0, (1, cd)), (1, (0, x))], [(1, cd)], w)) kAlk 1 rfl ?_
      refine e_Pn.getr (z := cd + 2) kAlk rfl rfl hR.2.2.2.2.2.2 (by omega) ?_
      refine e_Pn.run (t' := (17, [(0, (1, cd)), (1, (0, x))], [(0, x), (1, cd + 2)], w)) kAlk 1 rfl ?_
      refine e_Pn.ald (z := w (cd + 2) x) kAlk rfl rfl (fun b4 b5 => ?_)
      refine e_Pn.run (t' := (20, [(0, (1, cd)), (1, (0, x))], [(0, 6), (0, w (cd + 2) x)], w)) kAlk 1 rfl ?_
      refine e_Pn.shr6 kAlk rfl (by omega) (fun z6 hz6 => ?_)
      replace hz6 : z6 = (w (cd + 2) x) / 64 := hz6
      refine e_Pn.run (t' := (25, [(0, (1, cd)), (1, (0, x))], [(0, z6)], w)) kAlk 1 rfl ?_
      refine e_Pn.ret1 rfl ?_
      first | exact ⟨_, rfl, rfl, by omega⟩ | (exfalso; omega)
theorem kLr_fr {cd : Int} {w w' : eW} (hc : isCd cd) (f : e_fr (kFr cd) w w') (h : e_Has kLr w) : e_Has kLr w' := by
  have n := hc.m
  refine h.fr (fun c k q => ?_) f
  unfold kFr at q
  unfold kLr
  by_cases e : c = 1
  · rw [if_pos e, if_neg (by omega), if_neg (by omega), if_neg (by omega), if_neg (by omega), if_neg (by omega)]
  · rw [if_neg e, if_neg (by omega)]
theorem kRw.fq {cd : Int} {w w' : eW} (h : kRw cd w) (f : e_fr (kFr cd) w w') : kRw cd w' := by
  have n := h.1.m
  exact kRw.fr2 f (fun k q => by unfold kFr at q; omega) (fun k q => by unfold kFr at q; omega) h
set_option maxHeartbeats 4000000 in
theorem l_138 {n d : Nat} {w : eW} {cd : Int} (hR : kRw cd w) (hT : e_Has kLt w) (hH : e_Has kLr w) {N : Int} (hN : w 1 0 = N) (hl : 0 ≤ w cd 0 ∧ w cd 0 ≤ 4000) (hP : nmOk (w 5) N (w 7) (w 1 14)) (hr : 0 ≤ w 1 14 ∧ w 1 14 ≤ 500) (hW : ∀ i, 0 ≤ i → i < w cd 0 → isCl3 (w (cd + 2) i % 64) → 0 ≤ w (cd + 2) i / 64 ∧ w (cd + 2) i / 64 ≤ 4000) : e_Pn 20 elay kcode eI n d 138 (0, [(0, (1, 1))], [], w) (fun r w' => r = [] ∧ e_fr (kFr cd) w w' ∧ minB 32 (w 1 14) (w' cd 1) ∧ senJ w cd N (w cd 0) (w' 1 9) (w' 1 10)) := by
  have hn := hR.1.n
  have hm := hR.1.m
  refine e_Pn.run (t' := (1, [(0, (1, 1))], [(1, 1)], w)) kAlk 1 rfl ?_
  refine e_Pn.getr (z := cd) kAlk rfl rfl hR.2.1 (by omega) ?_
  refine e_Pn.run (t' := (5, [(0, (1, 1))], [(1, 1), (1, cd)], w)) kAlk 1 rfl ?_
  refine e_Pn.getf (z := w 1 14) kAlk rfl rfl rfl (fun b1 => ?_)
  refine e_Pn.run (t' := (10, [(0, (1, 1))], [(0, 32), (0, w 1 14), (1, cd)], w)) kAlk 1 rfl ?_
  refine e_Pn.mmin kAlk rfl (fun z2 hz2 => ?_)
  replace hz2 : (32 < w 1 14 ∧ z2 = 32) ∨ ((w 1 14) ≤ 32 ∧ z2 = w 1 14) := hz2
  refine e_Pn.putf kAlk rfl rfl ?_
  generalize hw3 : e_up w cd 1 z2 = w3
  refine e_Pn.run (t' := (18, [(1, (0, 0)), (0, (1, 1))], [], w3)) kAlk 2 rfl ?_
  have hL4 : ∀ nn6 : Nat, nn6 ≤ n → ∀ (tl7 : eL) (y1 : Int) (w9 : eW), (0 ≤ y1 ∧ y1 ≤ w cd 0) ∧ (e_fr (kFr cd) w w9) ∧ (∀ k, y1 ≤ k → w9 (cd + 2) k = w (cd + 2) k) ∧ (w9 cd 1 = z2) ∧ (senJ w cd N y1 (w9 1 9) (w9 1 10)) → e_Pn 20 elay kcode eI nn6 d 138 (18, (0, (1, 1)) :: (1, (0, y1)) :: tl7, [], w9) (fun r w' => r = [] ∧ e_fr (kFr cd) w w' ∧ minB 32 (w 1 14) (w' cd 1) ∧ senJ w cd N (w cd 0) (w' 1 9) (w' 1 10)) := by
    intro nn6
    induction nn6 with
    | zero => intro _ tl7 y1 w9 _; exact e_Pn.zero
    | succ nn6 ih5 =>
      intro hnnn6 tl7 y1 w9 hj
      obtain ⟨j8, jf, jr, j1, js⟩ := hj
      have jk := kRw.fq hR jf
      have ef5 : w9 5 = w 5 := funext (fun i => jf 5 i (by unfold kFr; omega))
      have ef7 : w9 7 = w 7 := funext (fun i => jf 7 i (by unfold kFr; omega))
      have ef14 : w9 1 14 = w 1 14 := jf 1 14 (by unfold kFr; omega)
      have ef0 : w9 cd 0 = w cd 0 := jf cd 0 (by unfold kFr; omega)
      refine e_Pn.runS (t' := (20, (0, (1, 1)) :: (1, (0, y1)) :: tl7, [(1, 1), (0, y1)], w9)) kAlk 1 rfl ?_
      refine e_Pn.getr (z := cd) kAlk rfl rfl jk.2.1 (by omega) ?_
      refine e_Pn.getf (z := w cd 0) kAlk rfl rfl (jf cd 0 (by unfold kFr; omega)) (fun b13 => ?_)
      refine e_Pn.if2 kAlk rfl (fun h14 => ?_) (fun h14 => ?_)
      · replace h14 : (y1 : Int) ≥ w cd 0 := h14
        show e_Pn 20 elay kcode eI nn6 d 138 (112, (0, (1, 1)) :: (1, (0, y1)) :: tl7, [], w9) _
        refine e_Pn.ret0 rfl ?_
        exact ⟨rfl, jf, (by unfold minB; rw [j1]; omega), (by rw [show w cd 0 = y1 by omega]; exact js)⟩
      · replace h14 : (y1 : Int) < w cd 0 := by have q : ¬ ((y1 : Int) ≥ w cd 0) := h14; omega
        show e_Pn 20 elay kcode eI nn6 d 138 (29, (0, (1, 1)) :: (1, (0, y1)) :: tl7, [], w9) _
        refine e_Pn.run (t' := (30, (0, (1, 1)) :: (1, (0, y1)) :: tl7, [(1, 1)], w9)) kAlk 1 rfl ?_
        refine e_Pn.getr (z := cd) kAlk rfl rfl jk.2.1 (by omega) ?_
        refine e_Pn.run (t' := (34, (0, (1, 1)) :: (1, (0, y1)) :: tl7, [(0, y1), (1, cd)], w9)) kAlk 1 rfl ?_
        refine e_Pn.callA rfl (fun nq dq => l_23 jk (by omega)) (fun r15 w16 h17 => ?_)
        obtain ⟨z18, rfl, rfl, z18q⟩ := h17
        rw [jr y1 (Int.le_refl _)] at z18q
        subst z18q
        show e_Pn 20 elay kcode eI nn6 d 138 (37, (0, (1, 1)) :: (1, (0, y1)) :: tl7, [(0, w (cd + 2) y1 % 64)], w9) _
        refine e_Pn.run (t' := (41, (2, (0, w (cd + 2) y1 % 64)) :: (0, (1, 1)) :: (1, (0, y1)) :: List.filter (e_flt 0 2) tl7, [(0, 33), (0, w (cd + 2) y1 % 64)], w9)) kAlk 3 rfl ?_
        refine e_Pn.if2 kAlk rfl (fun h19 => ?_) (fun h19 => ?_)
        · replace h19 : (w (cd + 2) y1 % 64 : Int) = 33 := h19
          show e_Pn 20 elay kcode eI nn6 d 138 (59, (2, (0, w (cd + 2) y1 % 64)) :: (0, (1, 1)) :: (1, (0, y1)) :: List.filter (e_flt 0 2) tl7, [], w9) _
          have jd := hW y1 (by omega) (by omega) (by unfold isCl3; omega)
          refine e_Pn.run (t' := (61, (2, (0, w (cd + 2) y1 % 64)) :: (0, (1, 1)) :: (1, (0, y1)) :: List.filter (e_flt 0 2) tl7, [(1, 1), (1, 1)], w9)) kAlk 2 rfl ?_
          refine e_Pn.getr (z := cd) kAlk rfl rfl jk.2.1 (by omega) ?_
          refine e_Pn.run (t' := (65, (2, (0, w (cd + 2) y1 % 64)) :: (0, (1, 1)) :: (1, (0, y1)) :: List.filter (e_flt 0 2) tl7, [(0, y1), (1, cd), (1, 1)], w9)) kAlk 1 rfl ?_
          refine e_Pn.callA rfl (fun nq dq => l_24 jk (by omega)) (fun r20 w21 h22 => ?_)
          obtain ⟨z23, rfl, rfl, z23q⟩ := h22
          rw [jr y1 (Int.le_refl _)] at z23q
          subst z23q
          show e_Pn 20 elay kcode eI nn6 d 138 (68, (2, (0, w (cd + 2) y1 % 64)) :: (0, (1, 1)) :: (1, (0, y1)) :: List.filter (e_flt 0 2) tl7, [(0, w (cd + 2) y1 / 64), (1, 1)], w9) _
          refine e_Pn.callA rfl (fun nq dq => l_136 jk (hT.fr (fun c k q => by unfold kFr at q; unfold kLt; rw [if_neg (by omega)]) jf) (kLr_fr hR.1 jf hH) ((jf 1 0 (by unfold kFr; omega)).trans hN) (by omega) (by rw [ef5, ef7, ef14]; exact hP) (by omega)) (fun r24 w25 h26 => ?_)
          obtain ⟨z27, rfl, rfl, z27q⟩ := h26
          have z27r : z27 = -1 ∨ (0 ≤ z27 ∧ z27 < w9 1 14) := by rcases z27q with ⟨g, -⟩ | ⟨g1, g2, -⟩ <;> omega
          rw [ef5, ef7, ef14] at z27q
          replace z27q := (show Hid _ from z27q)
          show e_Pn 20 elay kcode eI nn6 d 138 (71, (2, (0, w (cd + 2) y1 % 64)) :: (0, (1, 1)) :: (1, (0, y1)) :: List.filter (e_flt 0 2) tl7, [(0, z27)], w9) _
          refine e_Pn.run (t' := (73, (3, (0, z27)) :: (2, (0, w (cd + 2) y1 % 64)) :: (0, (1, 1)) :: (1, (0, y1)) :: List.filter (e_flt 0 3) (List.filter (e_flt 0 2) tl7), [(0, z27)], w9)) kAlk 2 rfl ?_
          refine e_Pn.if1 kAlk rfl (fun h28 => ?_) (fun h28 => ?_)
          · replace h28 : (z27 : Int) ≥ 0 := h28
            show e_Pn 20 elay kcode eI nn6 d 138 (92, (3, (0, z27)) :: (2, (0, w (cd + 2) y1 % 64)) :: (0, (1, 1)) :: (1, (0, y1)) :: List.filter (e_flt 0 3) (List.filter (e_flt 0 2) tl7), [], w9) _
            refine e_Pn.run (t' := (93, (3, (0, z27)) :: (2, (0, w (cd + 2) y1 % 64)) :: (0, (1, 1)) :: (1, (0, y1)) :: List.filter (e_flt 0 3) (List.filter (e_flt 0 2) tl7), [(1, 1)], w9)) kAlk 1 rfl ?_
            refine e_Pn.getr (z := cd) kAlk rfl rfl jk.2.1 (by omega) ?_
            refine e_Pn.run (t' := (100, (3, (0, z27)) :: (2, (0, w (cd + 2) y1 % 64)) :: (0, (1, 1)) :: (1, (0, y1)) :: List.filter (e_flt 0 3) (List.filter (e_flt 0 2) tl7), [(0, 31), (0, z27), (0, y1), (1, cd)], w9)) kAlk 3 rfl ?_
            refine e_Pn.mmin kAlk rfl (fun z29 hz29 => ?_)
            replace hz29 : (31 < z27 ∧ z29 = 31) ∨ (z27 ≤ 31 ∧ z29 = z27) := hz29
            refine e_Pn.callA rfl (fun nq dq => l_22 jk (by omega)) (fun r30 w31 h32 => ?_)
            obtain ⟨rfl, w31f, w31q⟩ := h32
            show e_Pn 20 elay kcode eI nn6 d 138 (106, (3, (0, z27)) :: (2, (0, w (cd + 2) y1 % 64)) :: (0, (1, 1)) :: (1, (0, y1)) :: List.filter (e_flt 0 3) (List.filter (e_flt 0 2) tl7), [], w31) _
            refine e_Pn.inc (z := y1 + 1) kAlk rfl rfl (by omega) (by omega) ?_
            show e_Pn 20 elay kcode eI nn6 d 138 (109, (1, (0, y1 + 1)) :: (3, (0, z27)) :: (2, (0, w (cd + 2) y1 % 64)) :: (0, (1, 1)) :: List.filter (e_flt 0 1) (List.filter (e_flt 0 3) (List.filter (e_flt 0 2) tl7)), [], w31) _
            refine e_Pn.run (t' := (18, (1, (0, y1 + 1)) :: (3, (0, z27)) :: (2, (0, w (cd + 2) y1 % 64)) :: (0, (1, 1)) :: List.filter (e_flt 0 1) (List.filter (e_flt 0 3) (List.filter (e_flt 0 2) tl7)), [], w31)) kAlk 1 rfl ?_
            exact e_Pn.ord kAlk [0, 1] rfl rfl ((ih5 (by omega) _ (y1 + 1) w31 ⟨(by omega), (e_fr.trans jf (w31f.mono (fun c k q => by unfold kPa at q; unfold kFr; omega))), (fun k g => by rcases w31q with ⟨-, -, -, q⟩ | ⟨-, q⟩; (rw [q k (by omega)]; exact jr k (by omega)); (rw [q]; exact jr k (by omega))), ((w31f cd 1 (by unfold kPa; omega)).trans j1), (by rw [(w31f 1 9 (by unfold kPa; omega)), (w31f 1 10 (by unfold kPa; omega))]; exact senJ.skip js (fun q => by rcases (z27q : fndQ _ _ _ _ _ _) with ⟨g, -⟩ | ⟨g1, g2, g3, -⟩; omega; exact q.2 _ g1 g2 g3))⟩))
          · replace h28 : (z27 : Int) < 0 := by have q : ¬ ((z27 : Int) ≥ 0) := h28; omega
            show e_Pn 20 elay kcode eI nn6 d 138 (76, (3, (0, z27)) :: (2, (0, w (cd + 2) y1 % 64)) :: (0, (1, 1)) :: (1, (0, y1)) :: List.filter (e_flt 0 3) (List.filter (e_flt 0 2) tl7), [], w9) _
            refine e_Pn.run (t' := (79, (3, (0, z27)) :: (2, (0, w (cd + 2) y1 % 64)) :: (0, (1, 1)) :: (1, (0, y1)) :: List.filter (e_flt 0 3) (List.filter (e_flt 0 2) tl7), [(1, 1), (0, 5), (1, 1)], w9)) kAlk 3 rfl ?_
            refine e_Pn.getr (z := cd) kAlk rfl rfl jk.2.1 (by omega) ?_
            refine e_Pn.run (t' := (83, (3, (0, z27)) :: (2, (0, w (cd + 2) y1 % 64)) :: (0, (1, 1)) :: (1, (0, y1)) :: List.filter (e_flt 0 3) (List.filter (e_flt 0 2) tl7), [(0, y1), (1, cd), (0, 5), (1, 1)], w9)) kAlk 1 rfl ?_
            refine e_Pn.callA rfl (fun nq dq => l_24 jk (by omega)) (fun r33 w34 h35 => ?_)
            obtain ⟨z36, rfl, rfl, z36q⟩ := h35
            rw [jr y1 (Int.le_refl _)] at z36q
            subst z36q
            show e_Pn 20 elay kcode eI nn6 d 138 (86, (3, (0, z27)) :: (2, (0, w (cd + 2) y1 % 64)) :: (0, (1, 1)) :: (1, (0, y1)) :: List.filter (e_flt 0 3) (List.filter (e_flt 0 2) tl7), [(0, w (cd + 2) y1 / 64), (0, 5), (1, 1)], w9) _
            refine e_Pn.callA rfl (fun nq dq => l_133) (fun r37 w38 h39 => ?_)
            obtain ⟨rfl, w38q⟩ := h39
            show e_Pn 20 elay kcode eI nn6 d 138 (89, (3, (0, z27)) :: (2, (0, w (cd + 2) y1 % 64)) :: (0, (1, 1)) :: (1, (0, y1)) :: List.filter (e_flt 0 3) (List.filter (e_flt 0 2) tl7), [], w38) _
            refine e_Pn.run (t' := (106, (3, (0, z27)) :: (2, (0, w (cd + 2) y1 % 64)) :: (0, (1, 1)) :: (1, (0, y1)) :: List.filter (e_flt 0 3) (List.filter (e_flt 0 2) tl7), [], w38)) kAlk 1 rfl ?_
            refine e_Pn.inc (z := y1 + 1) kAlk rfl rfl (by omega) (by omega) ?_
            show e_Pn 20 elay kcode eI nn6 d 138 (109, (1, (0, y1 + 1)) :: (3, (0, z27)) :: (2, (0, w (cd + 2) y1 % 64)) :: (0, (1, 1)) :: List.filter (e_flt 0 1) (List.filter (e_flt 0 3) (List.filter (e_flt 0 2) tl7)), [], w38) _
            refine e_Pn.run (t' := (18, (1, (0, y1 + 1)) :: (3, (0, z27)) :: (2, (0, w (cd + 2) y1 % 64)) :: (0, (1, 1)) :: List.filter (e_flt 0 1) (List.filter (e_flt 0 3) (List.filter (e_flt 0 2) tl7)), [], w38)) kAlk 1 rfl ?_
            exact e_Pn.ord kAlk [0, 1] rfl rfl ((ih5 (by omega) _ (y1 + 1) w38 ⟨(by omega), (e_fr.trans jf ((cplQ.fr w38q).mono (fun c k q => by unfold kRc at q; unfold kFr; omega))), (fun k g => ((cplQ.fr w38q) (cd + 2) k (by unfold kRc; omega)).trans (jr k (by omega))), (((cplQ.fr w38q) cd 1 (by unfold kRc; omega)).trans j1), (senJ.miss js (by omega) (by omega) (by unfold isCl3; omega) (by rcases (z27q : fndQ _ _ _ _ _ _) with ⟨-, g⟩ | ⟨g, -⟩; (intro j j0 j1; exact g j j0 j1); (exfalso; omega)) w38q)⟩))
        · replace h19 : (w (cd + 2) y1 % 64 : Int) ≠ 33 := by have q : ¬ ((w (cd + 2) y1 % 64 : Int) = 33) := h19; omega
          show e_Pn 20 elay kcode eI nn6 d 138 (44, (2, (0, w (cd + 2) y1 % 64)) :: (0, (1, 1)) :: (1, (0, y1)) :: List.filter (e_flt 0 2) tl7, [], w9) _
          refine e_Pn.run (t' := (47, (2, (0, w (cd + 2) y1 % 64)) :: (0, (1, 1)) :: (1, (0, y1)) :: List.filter (e_flt 0 2) tl7, [(0, 34), (0, w (cd + 2) y1 % 64)], w9)) kAlk 2 rfl ?_
          refine e_Pn.if2 kAlk rfl (fun h40 => ?_) (fun h40 => ?_)
          · replace h40 : (w (cd + 2) y1 % 64 : Int) = 34 := h40
            show e_Pn 20 elay kcode eI nn6 d 138 (59, (2, (0, w (cd + 2) y1 % 64)) :: (0, (1, 1)) :: (1, (0, y1)) :: List.filter (e_flt 0 2) tl7, [], w9) _
            have jd := hW y1 (by omega) (by omega) (by unfold isCl3; omega)
            refine e_Pn.run (t' := (61, (2, (0, w (cd + 2) y1 % 64)) :: (0, (1, 1)) :: (1, (0, y1)) :: List.filter (e_flt 0 2) tl7, [(1, 1), (1, 1)], w9)) kAlk 2 rfl ?_
            refine e_Pn.getr (z := cd) kAlk rfl rfl jk.2.1 (by omega) ?_
            refine e_Pn.run (t' := (65, (2, (0, w (cd + 2) y1 % 64)) :: (0, (1, 1)) :: (1, (0, y1)) :: List.filter (e_flt 0 2) tl7, [(0, y1), (1, cd), (1, 1)], w9)) kAlk 1 rfl ?_
            refine e_Pn.callA rfl (fun nq dq => l_24 jk (by omega)) (fun r41 w42 h43 => ?_)
            obtain ⟨z44, rfl, rfl, z44q⟩ := h43
            rw [jr y1 (Int.le_refl _)] at z44q
            subst z44q
            show e_Pn 20 elay kcode eI nn6 d 138 (68, (2, (0, w (cd + 2) y1 % 64)) :: (0, (1, 1)) :: (1, (0, y1)) :: List.filter (e_flt 0 2) tl7, [(0, w (cd + 2) y1 / 64), (1, 1)], w9) _
            refine e_Pn.callA rfl (fun nq dq => l_136 jk (hT.fr (fun c k q => by unfold kFr at q; unfold kLt; rw [if_neg (by omega)]) jf) (kLr_fr hR.1 jf hH) ((jf 1 0 (by unfold kFr; omega)).trans hN) (by omega) (by rw [ef5, ef7, ef14]; exact hP) (by omega)) (fun r45 w46 h47 => ?_)
            obtain ⟨z48, rfl, rfl, z48q⟩ := h47
            have z48r : z48 = -1 ∨ (0 ≤ z48 ∧ z48 < w9 1 14) := by rcases z48q with ⟨g, -⟩ | ⟨g1, g2, -⟩ <;> omega
            rw [ef5, ef7, ef14] at z48q
            replace z48q := (show Hid _ from z48q)
            show e_Pn 20 elay kcode eI nn6 d 138 (71, (2, (0, w (cd + 2) y1 % 64)) :: (0, (1, 1)) :: (1, (0, y1)) :: List.filter (e_flt 0 2) tl7, [(0, z48)], w9) _
            refine e_Pn.run (t' := (73, (3, (0, z48)) :: (2, (0, w (cd + 2) y1 % 64)) :: (0, (1, 1)) :: (1, (0, y1)) :: List.filter (e_flt 0 3) (List.filter (e_flt 0 2) tl7), [(0, z48)], w9)) kAlk 2 rfl ?_
            refine e_Pn.if1 kAlk rfl (fun h49 => ?_) (fun h49 => ?_)
            · replace h49 : (z48 : Int) ≥ 0 := h49
              show e_Pn 20 elay kcode eI nn6 d 138 (92, (3, (0, z48)) :: (2, (0, w (cd + 2) y1 % 64)) :: (0, (1, 1)) :: (1, (0, y1)) :: List.filter (e_flt 0 3) (List.filter (e_flt 0 2) tl7), [], w9) _
              refine e_Pn.run (t' := (93, (3, (0, z48)) :: (2, (0, w (cd + 2) y1 % 64)) :: (0, (1, 1)) :: (1, (0, y1)) :: List.filter (e_flt 0 3) (List.filter (e_flt 0 2) tl7), [(1, 1)], w9)) kAlk 1 rfl ?_
              refine e_Pn.getr (z := cd) kAlk rfl rfl jk.2.1 (by omega) ?_
              refine e_Pn.run (t' := (100, (3, (0, z48)) :: (2, (0, w (cd + 2) y1 % 64)) :: (0, (1, 1)) :: (1, (0, y1)) :: List.filter (e_flt 0 3) (List.filter (e_flt 0 2) tl7), [(0, 31), (0, z48), (0, y1), (1, cd)], w9)) kAlk 3 rfl ?_
              refine e_Pn.mmin kAlk rfl (fun z50 hz50 => ?_)
              replace hz50 : (31 < z48 ∧ z50 = 31) ∨ (z48 ≤ 31 ∧ z50 = z48) := hz50
              refine e_Pn.callA rfl (fun nq dq => l_22 jk (by omega)) (fun r51 w52 h53 => ?_)
              obtain ⟨rfl, w52f, w52q⟩ := h53
              show e_Pn 20 elay kcode eI nn6 d 138 (106, (3, (0, z48)) :: (2, (0, w (cd + 2) y1 % 64)) :: (0, (1, 1)) :: (1, (0, y1)) :: List.filter (e_flt 0 3) (List.filter (e_flt 0 2) tl7), [], w52) _
              refine e_Pn.inc (z := y1 + 1) kAlk rfl rfl (by omega) (by omega) ?_
              show e_Pn 20 elay kcode eI nn6 d 138 (109, (1, (0, y1 + 1)) :: (3, (0, z48)) :: (2, (0, w (cd + 2) y1 % 64)) :: (0, (1, 1)) :: List.filter (e_flt 0 1) (List.filter (e_flt 0 3) (List.filter (e_flt 0 2) tl7)), [], w52) _
              refine e_Pn.run (t' := (18, (1, (0, y1 + 1)) :: (3, (0, z48)) :: (2, (0, w (cd + 2) y1 % 64)) :: (0, (1, 1)) :: List.filter (e_flt 0 1) (List.filter (e_flt 0 3) (List.filter (e_flt 0 2) tl7)), [], w52)) kAlk 1 rfl ?_
              exact e_Pn.ord kAlk [0, 1] rfl rfl ((ih5 (by omega) _ (y1 + 1) w52 ⟨(by omega), (e_fr.trans jf (w52f.mono (fun c k q => by unfold kPa at q; unfold kFr; omega))), (fun k g => by rcases w52q with ⟨-, -, -, q⟩ | ⟨-, q⟩; (rw [q k (by omega)]; exact jr k (by omega)); (rw [q]; exact jr k (by omega))), ((w52f cd 1 (by unfold kPa; omega)).trans j1), (by rw [(w52f 1 9 (by unfold kPa; omega)), (w52f 1 10 (by unfold kPa; omega))]; exact senJ.skip js (fun q => by rcases (z48q : fndQ _ _ _ _ _ _) with ⟨g, -⟩ | ⟨g1, g2, g3, -⟩; omega; exact q.2 _ g1 g2 g3))⟩))
            · replace h49 : (z48 : Int) < 0 := by have q : ¬ ((z48 : Int) ≥ 0) := h49; omega
              show e_Pn 20 elay kcode eI nn6 d 138 (76, (3, (0, z48)) :: (2, (0, w (cd + 2) y1 % 64)) :: (0, (1, 1)) :: (1, (0, y1)) :: List.filter (e_flt 0 3) (List.filter (e_flt 0 2) tl7), [], w9) _
              refine e_Pn.run (t' := (79, (3, (0, z48)) :: (2, (0, w (cd + 2) y1 % 64)) :: (0, (1, 1)) :: (1, (0, y1)) :: List.filter (e_flt 0 3) (List.filter (e_flt 0 2) tl7), [(1, 1), (0, 5), (1, 1)], w9)) kAlk 3 rfl ?_
              refine e_Pn.getr (z := cd) kAlk rfl rfl jk.2.1 (by omega) ?_
              refine e_Pn.run (t' := (83, (3, (0, z48)) :: (2, (0, w (cd + 2) y1 % 64)) :: (0, (1, 1)) :: (1, (0, y1)) :: List.filter (e_flt 0 3) (List.filter (e_flt 0 2) tl7), [(0, y1), (1, cd), (0, 5), (1, 1)], w9)) kAlk 1 rfl ?_
              refine e_Pn.callA rfl (fun nq dq => l_24 jk (by omega)) (fun r54 w55 h56 => ?_)
              obtain ⟨z57, rfl, rfl, z57q⟩ := h56
              rw [jr y1 (Int.le_refl _)] at z57q
              subst z57q
              show e_Pn 20 elay kcode eI nn6 d 138 (86, (3, (0, z48)) :: (2, (0, w (cd + 2) y1 % 64)) :: (0, (1, 1)) :: (1, (0, y1)) :: List.filter (e_flt 0 3) (List.filter (e_flt 0 2) tl7), [(0, w (cd + 2) y1 / 64), (0, 5), (1, 1)], w9) _
              refine e_Pn.callA rfl (fun nq dq => l_133) (fun r58 w59 h60 => ?_)
              obtain ⟨rfl, w59q⟩ := h60
              show e_Pn 20 elay kcode eI nn6 d 138 (89, (3, (0, z48)) :: (2, (0, w (cd + 2) y1 % 64)) :: (0, (1, 1)) :: (1, (0, y1)) :: List.filter (e_flt 0 3) (List.filter (e_flt 0 2) tl7), [], w59) _
              refine e_Pn.run (t' := (106, (3, (0, z48)) :: (2, (0, w (cd + 2) y1 % 64)) :: (0, (1, 1)) :: (1, (0, y1)) :: List.filter (e_flt 0 3) (List.filter (e_flt 0 2) tl7), [], w59)) kAlk 1 rfl ?_
              refine e_Pn.inc (z := y1 + 1) kAlk rfl rfl (by omega) (by omega) ?_
              show e_Pn 20 elay kcode eI nn6 d 138 (109, (1, (0, y1 + 1)) :: (3, (0, z48)) :: (2, (0, w (cd + 2) y1 % 64)) :: (0, (1, 1)) :: List.filter (e_flt 0 1) (List.filter (e_flt 0 3) (List.filter (e_flt 0 2) tl7)), [], w59) _
              refine e_Pn.run (t' := (18, (1, (0, y1 + 1)) :: (3, (0, z48)) :: (2, (0, w (cd + 2) y1 % 64)) :: (0, (1, 1)) :: List.filter (e_flt 0 1) (List.filter (e_flt 0 3) (List.filter (e_flt 0 2) tl7)), [], w59)) kAlk 1 rfl ?_
              exact e_Pn.ord kAlk [0, 1] rfl rfl ((ih5 (by omega) _ (y1 + 1) w59 ⟨(by omega), (e_fr.trans jf ((cplQ.fr w59q).mono (fun c k q => by unfold kRc at q; unfold kFr; omega))), (fun k g => ((cplQ.fr w59q) (cd + 2) k (by unfold kRc; omega)).trans (jr k (by omega))), (((cplQ.fr w59q) cd 1 (by unfold kRc; omega)).trans j1), (senJ.miss js (by omega) (by omega) (by unfold isCl3; omega) (by rcases (z48q : fndQ _ _ _ _ _ _) with ⟨-, g⟩ | ⟨g, -⟩; (intro j j0 j1; exact g j j0 j1); (exfalso; omega)) w59q)⟩))
          · replace h40 : (w (cd + 2) y1 % 64 : Int) ≠ 34 := by have q : ¬ ((w (cd + 2) y1 % 64 : Int) = 34) := h40; omega
            show e_Pn 20 elay kcode eI nn6 d 138 (50, (2, (0, w (cd + 2) y1 % 64)) :: (0, (1, 1)) :: (1, (0, y1)) :: List.filter (e_flt 0 2) tl7, [], w9) _
            refine e_Pn.run (t' := (53, (2, (0, w (cd + 2) y1 % 64)) :: (0, (1, 1)) :: (1, (0, y1)) :: List.filter (e_flt 0 2) tl7, [(0, 39), (0, w (cd + 2) y1 % 64)], w9)) kAlk 2 rfl ?_
            refine e_Pn.if2 kAlk rfl (fun h61 => ?_) (fun h61 => ?_)
            · replace h61 : (w (cd + 2) y1 % 64 : Int) = 39 := h61
              show e_Pn 20 elay kcode eI nn6 d 138 (59, (2, (0, w (cd + 2) y1 % 64)) :: (0, (1, 1)) :: (1, (0, y1)) :: List.filter (e_flt 0 2) tl7, [], w9) _
              have jd := hW y1 (by omega) (by omega) (by unfold isCl3; omega)
              refine e_Pn.run (t' := (61, (2, (0, w (cd + 2) y1 % 64)) :: (0, (1, 1)) :: (1, (0, y1)) :: List.filter (e_flt 0 2) tl7, [(1, 1), (1, 1)], w9)) kAlk 2 rfl ?_
              refine e_Pn.getr (z := cd) kAlk rfl rfl jk.2.1 (by omega) ?_
              refine e_Pn.run (t' := (65, (2, (0, w (cd + 2) y1 % 64)) :: (0, (1, 1)) :: (1, (0, y1)) :: List.filter (e_flt 0 2) tl7, [(0, y1), (1, cd), (1, 1)], w9)) kAlk 1 rfl ?_
              refine e_Pn.callA rfl (fun nq dq => l_24 jk (by omega)) (fun r62 w63 h64 => ?_)
              obtain ⟨z65, rfl, rfl, z65q⟩ := h64
              rw [jr y1 (Int.le_refl _)] at z65q
              subst z65q
              show e_Pn 20 elay kcode eI nn6 d 138 (68, (2, (0, w (cd + 2) y1 % 64)) :: (0, (1, 1)) :: (1, (0, y1)) :: List.filter (e_flt 0 2) tl7, [(0, w (cd + 2) y1 / 64), (1, 1)], w9) _
              refine e_Pn.callA rfl (fun nq dq => l_136 jk (hT.fr (fun c k q => by unfold kFr at q; unfold kLt; rw [if_neg (by omega)]) jf) (kLr_fr hR.1 jf hH) ((jf 1 0 (by unfold kFr; omega)).trans hN) (by omega) (by rw [ef5, ef7, ef14]; exact hP) (by omega)) (fun r66 w67 h68 => ?_)
              obtain ⟨z69, rfl, rfl, z69q⟩ := h68
              have z69r : z69 = -1 ∨ (0 ≤ z69 ∧ z69 < w9 1 14) := by rcases z69q with ⟨g, -⟩ | ⟨g1, g2, -⟩ <;> omega
              rw [ef5, ef7, ef14] at z69q
              replace z69q := (show Hid _ from z69q)
              show e_Pn 20 elay kcode eI nn6 d 138 (71, (2, (0, w (cd + 2) y1 % 64)) :: (0, (1, 1)) :: (1, (0, y1)) :: List.filter (e_flt 0 2) tl7, [(0, z69)], w9) _
              refine e_Pn.run (t' := (73, (3, (0, z69)) :: (2, (0, w (cd + 2) y1 % 64)) :: (0, (1, 1)) :: (1, (0, y1)) :: List.filter (e_flt 0 3) (List.filter (e_flt 0 2) tl7), [(0, z69)], w9)) kAlk 2 rfl ?_
              refine e_Pn.if1 kAlk rfl (fun h70 => ?_) (fun h70 => ?_)
              · replace h70 : (z69 : Int) ≥ 0 := h70
                show e_Pn 20 elay kcode eI nn6 d 138 (92, (3, (0, z69)) :: (2, (0, w (cd + 2) y1 % 64)) :: (0, (1, 1)) :: (1, (0, y1)) :: List.filter (e_flt 0 3) (List.filter (e_flt 0 2) tl7), [], w9) _
                refine e_Pn.run (t' := (93, (3, (0, z69)) :: (2, (0, w (cd + 2) y1 % 64)) :: (0, (1, 1)) :: (1, (0, y1)) :: List.filter (e_flt 0 3) (List.filter (e_flt 0 2) tl7), [(1, 1)], w9)) kAlk 1 rfl ?_
                refine e_Pn.getr (z := cd) kAlk rfl rfl jk.2.1 (by omega) ?_
                refine e_Pn.run (t' := (100, (3, (0, z69)) :: (2, (0, w (cd + 2) y1 % 64)) :: (0, (1, 1)) :: (1, (0, y1)) :: List.filter (e_flt 0 3) (List.filter (e_flt 0 2) tl7), [(0, 31), (0, z69), (0, y1), (1, cd)], w9)) kAlk 3 rfl ?_
                refine e_Pn.mmin kAlk rfl (fun z71 hz71 => ?_)
                replace hz71 : (31 < z69 ∧ z71 = 31) ∨ (z69 ≤ 31 ∧ z71 = z69) := hz71
                refine e_Pn.callA rfl (fun nq dq => l_22 jk (by omega)) (fun r72 w73 h74 => ?_)
                obtain ⟨rfl, w73f, w73q⟩ := h74
                show e_Pn 20 elay kcode eI nn6 d 138 (106, (3, (0, z69)) :: (2, (0, w (cd + 2) y1 % 64)) :: (0, (1, 1)) :: (1, (0, y1)) :: List.filter (e_flt 0 3) (List.filter (e_flt 0 2) tl7), [], w73) _
                refine e_Pn.inc (z := y1 + 1) kAlk rfl rfl (by omega) (by omega) ?_
                show e_Pn 20 elay kcode eI nn6 d 138 (109, (1, (0, y1 + 1)) :: (3, (0, z69)) :: (2, (0, w (cd + 2) y1 % 64)) :: (0, (1, 1)) :: List.filter (e_flt 0 1) (List.filter (e_flt 0 3) (List.filter (e_flt 0 2) tl7)), [], w73) _
                refine e_Pn.run (t' := (18, (1, (0, y1 + 1)) :: (3, (0, z69)) :: (2, (0, w (cd + 2) y1 % 64)) :: (0, (1, 1)) :: List.filter (e_flt 0 1) (List.filter (e_flt 0 3) (List.filter (e_flt 0 2) tl7)), [], w73)) kAlk 1 rfl ?_
                exact e_Pn.ord kAlk [0, 1] rfl rfl ((ih5 (by omega) _ (y1 + 1) w73 ⟨(by omega), (e_fr.trans jf (w73f.mono (fun c k q => by unfold kPa at q; unfold kFr; omega))), (fun k g => by rcases w73q with ⟨-, -, -, q⟩ | ⟨-, q⟩; (rw [q k (by omega)]; exact jr k (by omega)); (rw [q]; exact jr k (by omega))), ((w73f cd 1 (by unfold kPa; omega)).trans j1), (by rw [(w73f 1 9 (by unfold kPa; omega)), (w73f 1 10 (by unfold kPa; omega))]; exact senJ.skip js (fun q => by rcases (z69q : fndQ _ _ _ _ _ _) with ⟨g, -⟩ | ⟨g1, g2, g3, -⟩; omega; exact q.2 _ g1 g2 g3))⟩))
              · replace h70 : (z69 : Int) < 0 := by have q : ¬ ((z69 : Int) ≥ 0) := h70; omega
                show e_Pn 20 elay kcode eI nn6 d 138 (76, (3, (0, z69)) :: (2, (0, w (cd + 2) y1 % 64)) :: (0, (1, 1)) :: (1, (0, y1)) :: List.filter (e_flt 0 3) (List.filter (e_flt 0 2) tl7), [], w9) _
                refine e_Pn.run (t' := (79, (3, (0, z69)) :: (2, (0, w (cd + 2) y1 % 64)) :: (0, (1, 1)) :: (1, (0, y1)) :: List.filter (e_flt 0 3) (List.filter (e_flt 0 2) tl7), [(1, 1), (0, 5), (1, 1)], w9)) kAlk 3 rfl ?_
                refine e_Pn.getr (z := cd) kAlk rfl rfl jk.2.1 (by omega) ?_
                refine e_Pn.run (t' := (83, (3, (0, z69)) :: (2, (0, w (cd + 2) y1 % 64)) :: (0, (1, 1)) :: (1, (0, y1)) :: List.filter (e_flt 0 3) (List.filter (e_flt 0 2) tl7), [(0, y1), (1, cd), (0, 5), (1, 1)], w9)) kAlk 1 rfl ?_
                refine e_Pn.callA rfl (fun nq dq => l_24 jk (by omega)) (fun r75 w76 h77 => ?_)
                obtain ⟨z78, rfl, rfl, z78q⟩ := h77
                rw [jr y1 (Int.le_refl _)] at z78q
                subst z78q
                show e_Pn 20 elay kcode eI nn6 d 138 (86, (3, (0, z69)) :: (2, (0, w (cd + 2) y1 % 64)) :: (0, (1, 1)) :: (1, (0, y1)) :: List.filter (e_flt 0 3) (List.filter (e_flt 0 2) tl7), [(0, w (cd + 2) y1 / 64), (0, 5), (1, 1)], w9) _
                refine e_Pn.callA rfl (fun nq dq => l_133) (fun r79 w80 h81 => ?_)
                obtain ⟨rfl, w80q⟩ := h81
                show e_Pn 20 elay kcode eI nn6 d 138 (89, (3, (0, z69)) :: (2, (0, w (cd + 2) y1 % 64)) :: (0, (1, 1)) :: (1, (0, y1)) :: List.filter (e_flt 0 3) (List.filter (e_flt 0 2) tl7), [], w80) _
                refine e_Pn.run (t' := (106, (3, (0, z69)) :: (2, (0, w (cd + 2) y1 % 64)) :: (0, (1, 1)) :: (1, (0, y1)) :: List.filter (e_flt 0 3) (List.filter (e_flt 0 2) tl7), [], w80)) kAlk 1 rfl ?_
                refine e_Pn.inc (z := y1 + 1) kAlk rfl rfl (by omega) (by omega) ?_
                show e_Pn 20 elay kcode eI nn6 d 138 (109, (1, (0, y1 + 1)) :: (3, (0, z69)) :: (2, (0, w (cd + 2) y1 % 64)) :: (0, (1, 1)) :: List.filter (e_flt 0 1) (List.filter (e_flt 0 3) (List.filter (e_flt 0 2) tl7)), [], w80) _
                refine e_Pn.run (t' := (18, (1, (0, y1 + 1)) :: (3, (0, z69)) :: (2, (0, w (cd + 2) y1 % 64)) :: (0, (1, 1)) :: List.filter (e_flt 0 1) (List.filter (e_flt 0 3) (List.filter (e_flt 0 2) tl7)), [], w80)) kAlk 1 rfl ?_
                exact e_Pn.ord kAlk [0, 1] rfl rfl ((ih5 (by omega) _ (y1 + 1) w80 ⟨(by omega), (e_fr.trans jf ((cplQ.fr w80q).mono (fun c k q => by unfold kRc at q; unfold kFr; omega))), (fun k g => ((cplQ.fr w80q) (cd + 2) k (by unfold kRc; omega)).trans (jr k (by omega))), (((cplQ.fr w80q) cd 1 (by unfold kRc; omega)).trans j1), (senJ.miss js (by omega) (by omega) (by unfold isCl3; omega) (by rcases (z69q : fndQ _ _ _ _ _ _) with ⟨-, g⟩ | ⟨g, -⟩; (intro j j0 j1; exact g j j0 j1); (exfalso; omega)) w80q)⟩))
            · replace h61 : (w (cd + 2) y1 % 64 : Int) ≠ 39 := by have q : ¬ ((w (cd + 2) y1 % 64 : Int) = 39) := h61; omega
              show e_Pn 20 elay kcode eI nn6 d 138 (56, (2, (0, w (cd + 2) y1 % 64)) :: (0, (1, 1)) :: (1, (0, y1)) :: List.filter (e_flt 0 2) tl7, [], w9) _
              refine e_Pn.run (t' := (106, (2, (0, w (cd + 2) y1 % 64)) :: (0, (1, 1)) :: (1, (0, y1)) :: List.filter (e_flt 0 2) tl7, [], w9)) kAlk 1 rfl ?_
              refine e_Pn.inc (z := y1 + 1) kAlk rfl rfl (by omega) (by omega) ?_
              show e_Pn 20 elay kcode eI nn6 d 138 (109, (1, (0, y1 + 1)) :: (2, (0, w (cd + 2) y1 % 64)) :: (0, (1, 1)) :: List.filter (e_flt 0 1) (List.filter (e_flt 0 2) tl7), [], w9) _
              refine e_Pn.run (t' := (18, (1, (0, y1 + 1)) :: (2, (0, w (cd + 2) y1 % 64)) :: (0, (1, 1)) :: List.filter (e_flt 0 1) (List.filter (e_flt 0 2) tl7), [], w9)) kAlk 1 rfl ?_
              exact e_Pn.ord kAlk [0, 1] rfl rfl ((ih5 (by omega) _ (y1 + 1) w9 ⟨(by omega), jf, (fun k g => jr k (by omega)), j1, (senJ.skip js (fun q => by unfold isCl3 at q; omega))⟩))
  exact e_Pn.ord kAlk [0, 1] rfl rfl (hL4 n (Nat.le_refl _) _ 0 w3 ⟨(by omega), (e_fr.up (e_fr.refl w) hw3 (by unfold kFr; omega)), (fun k g => by rw [← hw3]; exact e_up_ne _ _ (Or.inl (by omega))), (by rw [← hw3]; exact e_up_eq _ _ _ _), (by rw [show w3 1 9 = w 1 9 by rw [← hw3]; exact e_up_ne _ _ (Or.inl (by omega)), show w3 1 10 = w 1 10 by rw [← hw3]; exact e_up_ne _ _ (Or.inl (by omega))]; exact senJ.z)⟩)
end
