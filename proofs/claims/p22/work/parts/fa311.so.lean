noncomputable section
/-! pairs of the readers -/
theorem t_130 {N : Int} {w v : eW} (hK : rpK N w v) {x : Int} (hx : x ≠ 0) {n d d' : Nat} {r' : List eV} {v' : eW} (hM : e_Rn 20 elay ecode eI d' 333 (0, [(0, (1, 275)), (1, (0, x))], [], v) r' v') : e_Pn 20 elay kcode eI n d 130 (0, [(0, (1, 1))], [], w) (fun r w' => r = [] ∧ r' = [] ∧ rpF w' v') := by
  have hf := hK.1
  refine e_Pn.run (t' := (2, [(0, (1, 1))], [(1, 1), (1, 1)], w)) kAlk 2 rfl ?_
  refine e_Pn.getf (z := w 1 5) kAlk rfl rfl rfl (fun b1 => ?_)
  refine e_Pn.run (t' := (6, [(0, (1, 1))], [(0, 3), (0, w 1 5), (1, 1)], w)) kAlk 1 rfl ?_
  refine e_Pn.if2 kAlk rfl (fun h2 => ?_) (fun h2 => ?_)
  · replace h2 : (w 1 5 : Int) ≠ 3 := h2
    refine e_Pn.run (t' := (14, [(0, (1, 1))], [(0, 2), (1, 1)], w)) kAlk 1 rfl ?_
    refine e_Pn.callI rfl (fun nq3 dq4 => ?_)
    show e_Pn 20 elay kcode eI nq3 dq4 131 (0, [(0, (1, 1)), (1, (0, 2))], [], w) _
    refine e_Pn.run (t' := (1, [(0, (1, 1)), (1, (0, 2))], [(1, 1)], w)) kAlk 1 rfl ?_
    refine e_Pn.getf (z := 0) kAlk rfl rfl hf.1 (fun b5 => ?_)
    refine e_Pn.if1 kAlk rfl (fun h6 => ?_) (fun h6 => ?_)
    · replace h6 : (0 : Int) ≠ 0 := h6
      exfalso; omega
    · replace h6 : (0 : Int) = 0 := by have q : ¬ ((0 : Int) ≠ 0) := h6; omega
      refine e_Pn.run (t' := (9, [(0, (1, 1)), (1, (0, 2))], [(0, 2), (1, 1)], w)) kAlk 2 rfl ?_
      refine e_Pn.putf kAlk rfl rfl ?_
      generalize hw7 : e_up w 1 1 2 = w7
      refine e_Pn.run (t' := (14, [(0, (1, 1)), (1, (0, 2))], [(1, 1), (1, 1)], w7)) kAlk 2 rfl ?_
      refine e_Pn.getf (z := w 1 6) kAlk rfl rfl (by rw [← hw7]; exact (e_up_ne _ _ (Or.inr (by omega))).trans rfl) (fun b8 => ?_)
      refine e_Pn.putf kAlk rfl rfl ?_
      generalize hw9 : e_up w7 1 2 (w 1 6) = w9
      refine e_Pn.run (t' := (22, [(0, (1, 1)), (1, (0, 2))], [(0, 4), (1, 1)], w9)) kAlk 2 rfl ?_
      refine e_Pn.putf kAlk rfl rfl ?_
      generalize hw10 : e_up w9 1 5 4 = w10
      refine e_Pn.ret0 rfl ?_
      show e_Pn 20 elay kcode eI n d 130 (17, [(0, (1, 1))], [], w10) _
      replace hM := hM.st (t' := (1, [(0, (1, 275)), (1, (0, x))], [(1, 275)], v)) (fun _ _ q => e_Pn.run eAlk 1 rfl q)
      obtain ⟨b11, hM⟩ := hM.of (fun _ _ q => e_Pn.getf (z := 0) eAlk rfl rfl hf.2 q)
      rcases hM.or (fun _ _ q1 q2 => e_Pn.if1 eAlk rfl q1 q2) with ⟨h12, hM⟩ | ⟨h12, hM⟩
      · replace h12 : (0 : Int) ≠ 0 := h12
        exfalso; omega
      · replace h12 : (0 : Int) = 0 := by have q : ¬ ((0 : Int) ≠ 0) := h12; omega
        replace hM := hM.st (t' := (9, [(0, (1, 275)), (1, (0, x))], [(1, 275), (1, 275)], v)) (fun _ _ q => e_Pn.run eAlk 2 rfl q)
        obtain ⟨b13, hM⟩ := hM.of (fun _ _ q => e_Pn.getf (z := v 275 84) eAlk rfl rfl rfl q)
        replace hM := hM.st (t' := (13, [(0, (1, 275)), (1, (0, x))], [(0, 5), (0, v 275 84), (1, 275)], v)) (fun _ _ q => e_Pn.run eAlk 1 rfl q)
        rcases hM.or (fun _ _ q1 q2 => e_Pn.if2 eAlk rfl q1 q2) with ⟨h14, hM⟩ | ⟨h14, hM⟩
        · replace h14 : (v 275 84 : Int) ≠ 5 := h14
          replace hM := hM.st (t' := (21, [(0, (1, 275)), (1, (0, x))], [(0, x), (1, 275)], v)) (fun _ _ q => e_Pn.run eAlk 1 rfl q)
          replace hM := hM.st (fun _ _ q => e_Pn.putf eAlk rfl rfl q)
          generalize hv15 : e_up v 275 88 x = v15 at hM
          replace hM := hM.st (t' := (26, [(0, (1, 275)), (1, (0, x))], [(1, 275), (1, 275)], v15)) (fun _ _ q => e_Pn.run eAlk 2 rfl q)
          obtain ⟨b16, hM⟩ := hM.of (fun _ _ q => e_Pn.getf (z := v 275 86) eAlk rfl rfl (by rw [← hv15]; exact (e_up_ne _ _ (Or.inr (by omega))).trans rfl) q)
          replace hM := hM.st (fun _ _ q => e_Pn.putf eAlk rfl rfl q)
          generalize hv17 : e_up v15 275 89 (v 275 86) = v17 at hM
          obtain ⟨rfl, rfl⟩ := hM.re0 rfl
          refine e_Pn.ret0 rfl ?_
          have y1 : w10 1 1 = 2 := (by rw [← hw10]; exact (e_up_ne _ _ (Or.inr (by omega))).trans (by rw [← hw9]; exact (e_up_ne _ _ (Or.inr (by omega))).trans (by rw [← hw7]; exact e_up_eq _ _ _ _)))
          have y2 : w10 1 2 = w 1 6 := (by rw [← hw10]; exact (e_up_ne _ _ (Or.inr (by omega))).trans (by rw [← hw9]; exact e_up_eq _ _ _ _))
          have y3 : v17 275 88 = x := (by rw [← hv17]; exact (e_up_ne _ _ (Or.inr (by omega))).trans (by rw [← hv15]; exact e_up_eq _ _ _ _))
          have y4 : v17 275 89 = v 275 86 := (by rw [← hv17]; exact e_up_eq _ _ _ _)
          exact ⟨rfl, rfl, by rw [y1]; decide, by rw [y3]; first | decide | exact hx, by rw [y2, y4]; exact hK.2.1.1⟩
        · replace h14 : (v 275 84 : Int) = 5 := by have q : ¬ ((v 275 84 : Int) ≠ 5) := h14; omega
          replace hM := hM.st (t' := (21, [(0, (1, 275)), (1, (0, x))], [(0, 1), (1, 275)], v)) (fun _ _ q => e_Pn.run eAlk 2 rfl q)
          replace hM := hM.st (fun _ _ q => e_Pn.putf eAlk rfl rfl q)
          generalize hv18 : e_up v 275 88 1 = v18 at hM
          replace hM := hM.st (t' := (26, [(0, (1, 275)), (1, (0, x))], [(1, 275), (1, 275)], v18)) (fun _ _ q => e_Pn.run eAlk 2 rfl q)
          obtain ⟨b19, hM⟩ := hM.of (fun _ _ q => e_Pn.getf (z := v 275 86) eAlk rfl rfl (by rw [← hv18]; exact (e_up_ne _ _ (Or.inr (by omega))).trans rfl) q)
          replace hM := hM.st (fun _ _ q => e_Pn.putf eAlk rfl rfl q)
          generalize hv20 : e_up v18 275 89 (v 275 86) = v20 at hM
          obtain ⟨rfl, rfl⟩ := hM.re0 rfl
          refine e_Pn.ret0 rfl ?_
          have y1 : w10 1 1 = 2 := (by rw [← hw10]; exact (e_up_ne _ _ (Or.inr (by omega))).trans (by rw [← hw9]; exact (e_up_ne _ _ (Or.inr (by omega))).trans (by rw [← hw7]; exact e_up_eq _ _ _ _)))
          have y2 : w10 1 2 = w 1 6 := (by rw [← hw10]; exact (e_up_ne _ _ (Or.inr (by omega))).trans (by rw [← hw9]; exact e_up_eq _ _ _ _))
          have y3 : v20 275 88 = 1 := (by rw [← hv20]; exact (e_up_ne _ _ (Or.inr (by omega))).trans (by rw [← hv18]; exact e_up_eq _ _ _ _))
          have y4 : v20 275 89 = v 275 86 := (by rw [← hv20]; exact e_up_eq _ _ _ _)
          exact ⟨rfl, rfl, by rw [y1]; decide, by rw [y3]; first | decide | exact hx, by rw [y2, y4]; exact hK.2.1.1⟩
  · replace h2 : (w 1 5 : Int) = 3 := by have q : ¬ ((w 1 5 : Int) ≠ 3) := h2; omega
    refine e_Pn.run (t' := (14, [(0, (1, 1))], [(0, 1), (1, 1)], w)) kAlk 2 rfl ?_
    refine e_Pn.callI rfl (fun nq21 dq22 => ?_)
    show e_Pn 20 elay kcode eI nq21 dq22 131 (0, [(0, (1, 1)), (1, (0, 1))], [], w) _
    refine e_Pn.run (t' := (1, [(0, (1, 1)), (1, (0, 1))], [(1, 1)], w)) kAlk 1 rfl ?_
    refine e_Pn.getf (z := 0) kAlk rfl rfl hf.1 (fun b23 => ?_)
    refine e_Pn.if1 kAlk rfl (fun h24 => ?_) (fun h24 => ?_)
    · replace h24 : (0 : Int) ≠ 0 := h24
      exfalso; omega
    · replace h24 : (0 : Int) = 0 := by have q : ¬ ((0 : Int) ≠ 0) := h24; omega
      refine e_Pn.run (t' := (9, [(0, (1, 1)), (1, (0, 1))], [(0, 1), (1, 1)], w)) kAlk 2 rfl ?_
      refine e_Pn.putf kAlk rfl rfl ?_
      generalize hw25 : e_up w 1 1 1 = w25
      refine e_Pn.run (t' := (14, [(0, (1, 1)), (1, (0, 1))], [(1, 1), (1, 1)], w25)) kAlk 2 rfl ?_
      refine e_Pn.getf (z := w 1 6) kAlk rfl rfl (by rw [← hw25]; exact (e_up_ne _ _ (Or.inr (by omega))).trans rfl) (fun b26 => ?_)
      refine e_Pn.putf kAlk rfl rfl ?_
      generalize hw27 : e_up w25 1 2 (w 1 6) = w27
      refine e_Pn.run (t' := (22, [(0, (1, 1)), (1, (0, 1))], [(0, 4), (1, 1)], w27)) kAlk 2 rfl ?_
      refine e_Pn.putf kAlk rfl rfl ?_
      generalize hw28 : e_up w27 1 5 4 = w28
      refine e_Pn.ret0 rfl ?_
      show e_Pn 20 elay kcode eI n d 130 (17, [(0, (1, 1))], [], w28) _
      replace hM := hM.st (t' := (1, [(0, (1, 275)), (1, (0, x))], [(1, 275)], v)) (fun _ _ q => e_Pn.run eAlk 1 rfl q)
      obtain ⟨b29, hM⟩ := hM.of (fun _ _ q => e_Pn.getf (z := 0) eAlk rfl rfl hf.2 q)
      rcases hM.or (fun _ _ q1 q2 => e_Pn.if1 eAlk rfl q1 q2) with ⟨h30, hM⟩ | ⟨h30, hM⟩
      · replace h30 : (0 : Int) ≠ 0 := h30
        exfalso; omega
      · replace h30 : (0 : Int) = 0 := by have q : ¬ ((0 : Int) ≠ 0) := h30; omega
        replace hM := hM.st (t' := (9, [(0, (1, 275)), (1, (0, x))], [(1, 275), (1, 275)], v)) (fun _ _ q => e_Pn.run eAlk 2 rfl q)
        obtain ⟨b31, hM⟩ := hM.of (fun _ _ q => e_Pn.getf (z := v 275 84) eAlk rfl rfl rfl q)
        replace hM := hM.st (t' := (13, [(0, (1, 275)), (1, (0, x))], [(0, 5), (0, v 275 84), (1, 275)], v)) (fun _ _ q => e_Pn.run eAlk 1 rfl q)
        rcases hM.or (fun _ _ q1 q2 => e_Pn.if2 eAlk rfl q1 q2) with ⟨h32, hM⟩ | ⟨h32, hM⟩
        · replace h32 : (v 275 84 : Int) ≠ 5 := h32
          replace hM := hM.st (t' := (21, [(0, (1, 275)), (1, (0, x))], [(0, x), (1, 275)], v)) (fun _ _ q => e_Pn.run eAlk 1 rfl q)
          replace hM := hM.st (fun _ _ q => e_Pn.putf eAlk rfl rfl q)
          generalize hv33 : e_up v 275 88 x = v33 at hM
          replace hM := hM.st (t' := (26, [(0, (1, 275)), (1, (0, x))], [(1, 275), (1, 275)], v33)) (fun _ _ q => e_Pn.run eAlk 2 rfl q)
          obtain ⟨b34, hM⟩ := hM.of (fun _ _ q => e_Pn.getf (z := v 275 86) eAlk rfl rfl (by rw [← hv33]; exact (e_up_ne _ _ (Or.inr (by omega))).trans rfl) q)
          replace hM := hM.st (fun _ _ q => e_Pn.putf eAlk rfl rfl q)
          generalize hv35 : e_up v33 275 89 (v 275 86) = v35 at hM
          obtain ⟨rfl, rfl⟩ := hM.re0 rfl
          refine e_Pn.ret0 rfl ?_
          have y1 : w28 1 1 = 1 := (by rw [← hw28]; exact (e_up_ne _ _ (Or.inr (by omega))).trans (by rw [← hw27]; exact (e_up_ne _ _ (Or.inr (by omega))).trans (by rw [← hw25]; exact e_up_eq _ _ _ _)))
          have y2 : w28 1 2 = w 1 6 := (by rw [← hw28]; exact (e_up_ne _ _ (Or.inr (by omega))).trans (by rw [← hw27]; exact e_up_eq _ _ _ _))
          have y3 : v35 275 88 = x := (by rw [← hv35]; exact (e_up_ne _ _ (Or.inr (by omega))).trans (by rw [← hv33]; exact e_up_eq _ _ _ _))
          have y4 : v35 275 89 = v 275 86 := (by rw [← hv35]; exact e_up_eq _ _ _ _)
          exact ⟨rfl, rfl, by rw [y1]; decide, by rw [y3]; first | decide | exact hx, by rw [y2, y4]; exact hK.2.1.1⟩
        · replace h32 : (v 275 84 : Int) = 5 := by have q : ¬ ((v 275 84 : Int) ≠ 5) := h32; omega
          replace hM := hM.st (t' := (21, [(0, (1, 275)), (1, (0, x))], [(0, 1), (1, 275)], v)) (fun _ _ q => e_Pn.run eAlk 2 rfl q)
          replace hM := hM.st (fun _ _ q => e_Pn.putf eAlk rfl rfl q)
          generalize hv36 : e_up v 275 88 1 = v36 at hM
          replace hM := hM.st (t' := (26, [(0, (1, 275)), (1, (0, x))], [(1, 275), (1, 275)], v36)) (fun _ _ q => e_Pn.run eAlk 2 rfl q)
          obtain ⟨b37, hM⟩ := hM.of (fun _ _ q => e_Pn.getf (z := v 275 86) eAlk rfl rfl (by rw [← hv36]; exact (e_up_ne _ _ (Or.inr (by omega))).trans rfl) q)
          replace hM := hM.st (fun _ _ q => e_Pn.putf eAlk rfl rfl q)
          generalize hv38 : e_up v36 275 89 (v 275 86) = v38 at hM
          obtain ⟨rfl, rfl⟩ := hM.re0 rfl
          refine e_Pn.ret0 rfl ?_
          have y1 : w28 1 1 = 1 := (by rw [← hw28]; exact (e_up_ne _ _ (Or.inr (by omega))).trans (by rw [← hw27]; exact (e_up_ne _ _ (Or.inr (by omega))).trans (by rw [← hw25]; exact e_up_eq _ _ _ _)))
          have y2 : w28 1 2 = w 1 6 := (by rw [← hw28]; exact (e_up_ne _ _ (Or.inr (by omega))).trans (by rw [← hw27]; exact e_up_eq _ _ _ _))
          have y3 : v38 275 88 = 1 := (by rw [← hv38]; exact (e_up_ne _ _ (Or.inr (by omega))).trans (by rw [← hv36]; exact e_up_eq _ _ _ _))
          have y4 : v38 275 89 = v 275 86 := (by rw [← hv38]; exact e_up_eq _ _ _ _)
          exact ⟨rfl, rfl, by rw [y1]; decide, by rw [y3]; first | decide | exact hx, by rw [y2, y4]; exact hK.2.1.1⟩
theorem t_132 {N : Int} {w v : eW} (hK : rpK N w v) (hO : w 1 11 = v 275 83 ∧ 0 ≤ v 275 83 ∧ v 275 83 ≤ 30) {n d d' : Nat} {r' : List eV} {v' : eW} (hM : e_Rn 20 elay ecode eI d' 335 (0, [(0, (1, 275))], [], v) r' v') : e_Pn 20 elay kcode eI n d 132 (0, [(0, (1, 1))], [], w) (fun r w' => (r = [(0, 1)] ∧ r' = [] ∧ v 275 83 < 30 ∧ w' = e_up w 1 11 (v 275 83 + 1) ∧ v' = e_up v 275 83 (v 275 83 + 1)) ∨ (r = [(0, 0)] ∧ r' = [] ∧ rpF w' v')) := by
  have hf := hK.1
  refine e_Pn.run (t' := (1, [(0, (1, 1))], [(1, 1)], w)) kAlk 1 rfl ?_
  refine e_Pn.getf (z := v 275 83) kAlk rfl rfl hO.1 (fun b1 => ?_)
  refine e_Pn.run (t' := (6, [(0, (1, 1))], [(0, 30), (0, v 275 83)], w)) kAlk 1 rfl ?_
  refine e_Pn.if2 kAlk rfl (fun h2 => ?_) (fun h2 => ?_)
  · replace h2 : (v 275 83 : Int) < 30 := h2
    refine e_Pn.run (t' := (18, [(0, (1, 1))], [(1, 1), (1, 1)], w)) kAlk 2 rfl ?_
    refine e_Pn.getf (z := v 275 83) kAlk rfl rfl hO.1 (fun b3 => ?_)
    refine e_Pn.run (t' := (22, [(0, (1, 1))], [(0, 1), (0, v 275 83), (1, 1)], w)) kAlk 1 rfl ?_
    refine e_Pn.add (z := v 275 83 + 1) kAlk rfl (by omega) (by omega) ?_
    refine e_Pn.putf kAlk rfl rfl ?_
    generalize hw4 : e_up w 1 11 (v 275 83 + 1) = w4
    refine e_Pn.run (t' := (27, [(0, (1, 1))], [(0, 1)], w4)) kAlk 1 rfl ?_
    replace hM := hM.st (t' := (1, [(0, (1, 275))], [(1, 275)], v)) (fun _ _ q => e_Pn.run eAlk 1 rfl q)
    obtain ⟨b5, hM⟩ := hM.of (fun _ _ q => e_Pn.getf (z := 0) eAlk rfl rfl hf.2 q)
    rcases hM.or (fun _ _ q1 q2 => e_Pn.if1 eAlk rfl q1 q2) with ⟨h6, hM⟩ | ⟨h6, hM⟩
    · replace h6 : (0 : Int) ≠ 0 := h6
      exfalso; omega
    · replace h6 : (0 : Int) = 0 := by have q : ¬ ((0 : Int) ≠ 0) := h6; omega
      replace hM := hM.st (t' := (8, [(0, (1, 275))], [(1, 275)], v)) (fun _ _ q => e_Pn.run eAlk 1 rfl q)
      obtain ⟨b7, hM⟩ := hM.of (fun _ _ q => e_Pn.getf (z := v 275 83) eAlk rfl rfl rfl q)
      replace hM := hM.st (t' := (13, [(0, (1, 275))], [(0, 30), (0, v 275 83)], v)) (fun _ _ q => e_Pn.run eAlk 1 rfl q)
      rcases hM.or (fun _ _ q1 q2 => e_Pn.if2 eAlk rfl q1 q2) with ⟨h8, hM⟩ | ⟨h8, hM⟩
      · replace h8 : (v 275 83 : Int) ≠ 30 := h8
        replace hM := hM.st (t' := (23, [(0, (1, 275))], [(1, 275), (1, 275)], v)) (fun _ _ q => e_Pn.run eAlk 2 rfl q)
        obtain ⟨b9, hM⟩ := hM.of (fun _ _ q => e_Pn.getf (z := v 275 83) eAlk rfl rfl rfl q)
        replace hM := hM.st (t' := (27, [(0, (1, 275))], [(0, 1), (0, v 275 83), (1, 275)], v)) (fun _ _ q => e_Pn.run eAlk 1 rfl q)
        replace hM := hM.st (fun _ _ q => e_Pn.add (z := v 275 83 + 1) eAlk rfl (by omega) (by omega) q)
        replace hM := hM.st (fun _ _ q => e_Pn.putf eAlk rfl rfl q)
        generalize hv10 : e_up v 275 83 (v 275 83 + 1) = v10 at hM
        obtain ⟨rfl, rfl⟩ := hM.re0 rfl
        refine e_Pn.ret4 rfl ?_
        exact Or.inl ⟨rfl, rfl, (by omega), (by first | rfl | exact hw4.symm), (by first | rfl | exact hv10.symm)⟩
      · replace h8 : (v 275 83 : Int) = 30 := by have q : ¬ ((v 275 83 : Int) ≠ 30) := h8; omega
        exfalso; omega
  · replace h2 : (v 275 83 : Int) ≥ 30 := by have q : ¬ ((v 275 83 : Int) < 30) := h2; omega
    refine e_Pn.run (t' := (11, [(0, (1, 1))], [(0, 3), (1, 1)], w)) kAlk 2 rfl ?_
    refine e_Pn.callI rfl (fun nq11 dq12 => ?_)
    show e_Pn 20 elay kcode eI nq11 dq12 131 (0, [(0, (1, 1)), (1, (0, 3))], [], w) _
    refine e_Pn.run (t' := (1, [(0, (1, 1)), (1, (0, 3))], [(1, 1)], w)) kAlk 1 rfl ?_
    refine e_Pn.getf (z := 0) kAlk rfl rfl hf.1 (fun b13 => ?_)
    refine e_Pn.if1 kAlk rfl (fun h14 => ?_) (fun h14 => ?_)
    · replace h14 : (0 : Int) ≠ 0 := h14
      exfalso; omega
    · replace h14 : (0 : Int) = 0 := by have q : ¬ ((0 : Int) ≠ 0) := h14; omega
      refine e_Pn.run (t' := (9, [(0, (1, 1)), (1, (0, 3))], [(0, 3), (1, 1)], w)) kAlk 2 rfl ?_
      refine e_Pn.putf kAlk rfl rfl ?_
      generalize hw15 : e_up w 1 1 3 = w15
      refine e_Pn.run (t' := (14, [(0, (1, 1)), (1, (0, 3))], [(1, 1), (1, 1)], w15)) kAlk 2 rfl ?_
      refine e_Pn.getf (z := w 1 6) kAlk rfl rfl (by rw [← hw15]; exact (e_up_ne _ _ (Or.inr (by omega))).trans rfl) (fun b16 => ?_)
      refine e_Pn.putf kAlk rfl rfl ?_
      generalize hw17 : e_up w15 1 2 (w 1 6) = w17
      refine e_Pn.run (t' := (22, [(0, (1, 1)), (1, (0, 3))], [(0, 4), (1, 1)], w17)) kAlk 2 rfl ?_
      refine e_Pn.putf kAlk rfl rfl ?_
      generalize hw18 : e_up w17 1 5 4 = w18
      refine e_Pn.ret0 rfl ?_
      show e_Pn 20 elay kcode eI n d 132 (14, [(0, (1, 1))], [], w18) _
      refine e_Pn.run (t' := (15, [(0, (1, 1))], [(0, 0)], w18)) kAlk 1 rfl ?_
      replace hM := hM.st (t' := (1, [(0, (1, 275))], [(1, 275)], v)) (fun _ _ q => e_Pn.run eAlk 1 rfl q)
      obtain ⟨b19, hM⟩ := hM.of (fun _ _ q => e_Pn.getf (z := 0) eAlk rfl rfl hf.2 q)
      rcases hM.or (fun _ _ q1 q2 => e_Pn.if1 eAlk rfl q1 q2) with ⟨h20, hM⟩ | ⟨h20, hM⟩
      · replace h20 : (0 : Int) ≠ 0 := h20
        exfalso; omega
      · replace h20 : (0 : Int) = 0 := by have q : ¬ ((0 : Int) ≠ 0) := h20; omega
        replace hM := hM.st (t' := (8, [(0, (1, 275))], [(1, 275)], v)) (fun _ _ q => e_Pn.run eAlk 1 rfl q)
        obtain ⟨b21, hM⟩ := hM.of (fun _ _ q => e_Pn.getf (z := v 275 83) eAlk rfl rfl rfl q)
        replace hM := hM.st (t' := (13, [(0, (1, 275))], [(0, 30), (0, v 275 83)], v)) (fun _ _ q => e_Pn.run eAlk 1 rfl q)
        rcases hM.or (fun _ _ q1 q2 => e_Pn.if2 eAlk rfl q1 q2) with ⟨h22, hM⟩ | ⟨h22, hM⟩
        · replace h22 : (v 275 83 : Int) ≠ 30 := h22
          exfalso; omega
        · replace h22 : (v 275 83 : Int) = 30 := by have q : ¬ ((v 275 83 : Int) ≠ 30) := h22; omega
          replace hM := hM.st (t' := (18, [(0, (1, 275))], [(0, 3), (1, 275)], v)) (fun _ _ q => e_Pn.run eAlk 2 rfl q)
          obtain ⟨dhc23, r24, v25, hc23, hM⟩ := hM.ca rfl
          replace hc23 : e_Rn 20 elay ecode eI dhc23 333 (0, [(0, (1, 275)), (1, (0, 3))], [], v) r24 v25 := hc23
          replace hc23 := hc23.st (t' := (1, [(0, (1, 275)), (1, (0, 3))], [(1, 275)], v)) (fun _ _ q => e_Pn.run eAlk 1 rfl q)
          obtain ⟨b26, hc23⟩ := hc23.of (fun _ _ q => e_Pn.getf (z := 0) eAlk rfl rfl hf.2 q)
          rcases hc23.or (fun _ _ q1 q2 => e_Pn.if1 eAlk rfl q1 q2) with ⟨h27, hc23⟩ | ⟨h27, hc23⟩
          · replace h27 : (0 : Int) ≠ 0 := h27
            exfalso; omega
          · replace h27 : (0 : Int) = 0 := by have q : ¬ ((0 : Int) ≠ 0) := h27; omega
            replace hc23 := hc23.st (t' := (9, [(0, (1, 275)), (1, (0, 3))], [(1, 275), (1, 275)], v)) (fun _ _ q => e_Pn.run eAlk 2 rfl q)
            obtain ⟨b28, hc23⟩ := hc23.of (fun _ _ q => e_Pn.getf (z := v 275 84) eAlk rfl rfl rfl q)
            replace hc23 := hc23.st (t' := (13, [(0, (1, 275)), (1, (0, 3))], [(0, 5), (0, v 275 84), (1, 275)], v)) (fun _ _ q => e_Pn.run eAlk 1 rfl q)
            rcases hc23.or (fun _ _ q1 q2 => e_Pn.if2 eAlk rfl q1 q2) with ⟨h29, hc23⟩ | ⟨h29, hc23⟩
            · replace h29 : (v 275 84 : Int) ≠ 5 := h29
              replace hc23 := hc23.st (t' := (21, [(0, (1, 275)), (1, (0, 3))], [(0, 3), (1, 275)], v)) (fun _ _ q => e_Pn.run eAlk 1 rfl q)
              replace hc23 := hc23.st (fun _ _ q => e_Pn.putf eAlk rfl rfl q)
              generalize hv30 : e_up v 275 88 3 = v30 at hc23
              replace hc23 := hc23.st (t' := (26, [(0, (1, 275)), (1, (0, 3))], [(1, 275), (1, 275)], v30)) (fun _ _ q => e_Pn.run eAlk 2 rfl q)
              obtain ⟨b31, hc23⟩ := hc23.of (fun _ _ q => e_Pn.getf (z := v 275 86) eAlk rfl rfl (by rw [← hv30]; exact (e_up_ne _ _ (Or.inr (by omega))).trans rfl) q)
              replace hc23 := hc23.st (fun _ _ q => e_Pn.putf eAlk rfl rfl q)
              generalize hv32 : e_up v30 275 89 (v 275 86) = v32 at hc23
              obtain ⟨rfl, rfl⟩ := hc23.re0 rfl
              replace hM : e_Rn 20 elay ecode eI d' 335 (21, [(0, (1, 275))], [], v32) r' v' := hM
              replace hM := hM.st (t' := (23, [(0, (1, 275))], [(1, 275), (1, 275)], v32)) (fun _ _ q => e_Pn.run eAlk 2 rfl q)
              obtain ⟨b33, hM⟩ := hM.of (fun _ _ q => e_Pn.getf (z := v 275 83) eAlk rfl rfl (by rw [← hv32]; exact (e_up_ne _ _ (Or.inr (by omega))).trans (by rw [← hv30]; exact (e_up_ne _ _ (Or.inr (by omega))).trans rfl)) q)
              replace hM := hM.st (t' := (27, [(0, (1, 275))], [(0, 1), (0, v 275 83), (1, 275)], v32)) (fun _ _ q => e_Pn.run eAlk 1 rfl q)
              replace hM := hM.st (fun _ _ q => e_Pn.add (z := v 275 83 + 1) eAlk rfl (by omega) (by omega) q)
              replace hM := hM.st (fun _ _ q => e_Pn.putf eAlk rfl rfl q)
              generalize hv34 : e_up v32 275 83 (v 275 83 + 1) = v34 at hM
              obtain ⟨rfl, rfl⟩ := hM.re0 rfl
              refine e_Pn.ret4 rfl ?_
              have y1 : w18 1 1 = 3 := (by rw [← hw18]; exact (e_up_ne _ _ (Or.inr (by omega))).trans (by rw [← hw17]; exact (e_up_ne _ _ (Or.inr (by omega))).trans (by rw [← hw15]; exact e_up_eq _ _ _ _)))
              have y2 : w18 1 2 = w 1 6 := (by rw [← hw18]; exact (e_up_ne _ _ (Or.inr (by omega))).trans (by rw [← hw17]; exact e_up_eq _ _ _ _))
              have y3 : v34 275 88 = 3 := (by rw [← hv34]; exact (e_up_ne _ _ (Or.inr (by omega))).trans (by rw [← hv32]; exact (e_up_ne _ _ (Or.inr (by omega))).trans (by rw [← hv30]; exact e_up_eq _ _ _ _)))
              have y4 : v34 275 89 = v 275 86 := (by rw [← hv34]; exact (e_up_ne _ _ (Or.inr (by omega))).trans (by rw [← hv32]; exact e_up_eq _ _ _ _))
              exact Or.inr ⟨rfl, rfl, by rw [y1]; decide, by rw [y3]; decide, by rw [y2, y4]; exact hK.2.1.1⟩
            · replace h29 : (v 275 84 : Int) = 5 := by have q : ¬ ((v 275 84 : Int) ≠ 5) := h29; omega
              replace hc23 := hc23.st (t' := (21, [(0, (1, 275)), (1, (0, 3))], [(0, 1), (1, 275)], v)) (fun _ _ q => e_Pn.run eAlk 2 rfl q)
              replace hc23 := hc23.st (fun _ _ q => e_Pn.putf eAlk rfl rfl q)
              generalize hv35 : e_up v 275 88 1 = v35 at hc23
              replace hc23 := hc23.st (t' := (26, [(0, (1, 275)), (1, (0, 3))], [(1, 275), (1, 275)], v35)) (fun _ _ q => e_Pn.run eAlk 2 rfl q)
              obtain ⟨b36, hc23⟩ := hc23.of (fun _ _ q => e_Pn.getf (z := v 275 86) eAlk rfl rfl (by rw [← hv35]; exact (e_up_ne _ _ (Or.inr (by omega))).trans rfl) q)
              replace hc23 := hc23.st (fun _ _ q => e_Pn.putf eAlk rfl rfl q)
              generalize hv37 : e_up v35 275 89 (v 275 86) = v37 at hc23
              obtain ⟨rfl, rfl⟩ := hc23.re0 rfl
              replace hM : e_Rn 20 elay ecode eI d' 335 (21, [(0, (1, 275))], [], v37) r' v' := hM
              replace hM := hM.st (t' := (23, [(0, (1, 275))], [(1, 275), (1, 275)], v37)) (fun _ _ q => e_Pn.run eAlk 2 rfl q)
              obtain ⟨b38, hM⟩ := hM.of (fun _ _ q => e_Pn.getf (z := v 275 83) eAlk rfl rfl (by rw [← hv37]; exact (e_up_ne _ _ (Or.inr (by omega))).trans (by rw [← hv35]; exact (e_up_ne _ _ (Or.inr (by omega))).trans rfl)) q)
              replace hM := hM.st (t' := (27, [(0, (1, 275))], [(0, 1), (0, v 275 83), (1, 275)], v37)) (fun _ _ q => e_Pn.run eAlk 1 rfl q)
              replace hM := hM.st (fun _ _ q => e_Pn.add (z := v 275 83 + 1) eAlk rfl (by omega) (by omega) q)
              replace hM := hM.st (fun _ _ q => e_Pn.putf eAlk rfl rfl q)
              generalize hv39 : e_up v37 275 83 (v 275 83 + 1) = v39 at hM
              obtain ⟨rfl, rfl⟩ := hM.re0 rfl
              refine e_Pn.ret4 rfl ?_
              have y1 : w18 1 1 = 3 := (by rw [← hw18]; exact (e_up_ne _ _ (Or.inr (by omega))).trans (by rw [← hw17]; exact (e_up_ne _ _ (Or.inr (by omega))).trans (by rw [← hw15]; exact e_up_eq _ _ _ _)))
              have y2 : w18 1 2 = w 1 6 := (by rw [← hw18]; exact (e_up_ne _ _ (Or.inr (by omega))).trans (by rw [← hw17]; exact e_up_eq _ _ _ _))
              have y3 : v39 275 88 = 1 := (by rw [← hv39]; exact (e_up_ne _ _ (Or.inr (by omega))).trans (by rw [← hv37]; exact (e_up_ne _ _ (Or.inr (by omega))).trans (by rw [← hv35]; exact e_up_eq _ _ _ _)))
              have y4 : v39 275 89 = v 275 86 := (by rw [← hv39]; exact (e_up_ne _ _ (Or.inr (by omega))).trans (by rw [← hv37]; exact e_up_eq _ _ _ _))
              exact Or.inr ⟨rfl, rfl, by rw [y1]; decide, by rw [y3]; decide, by rw [y2, y4]; exact hK.2.1.1⟩
theorem t_129 {N : Int} {w v : eW} (hA : rpA N w v) (hK : rpK N w v) {k z : Int} (hz : (z = 1 ∧ w 1 5 = k) ∨ (z = 0 ∧ w 1 5 ≠ k)) {n d d' : Nat} {r' : List eV} {v' : eW} (hM : e_Rn 20 elay ecode eI d' 334 (0, [(0, (1, 275)), (1, (0, z))], [], v) r' v') : e_Pn 20 elay kcode eI n d 129 (0, [(0, (1, 1)), (1, (0, k))], [], w) (fun r w' => r = [] ∧ r' = [] ∧ ((rpA N w' v' ∧ rpK N w' v' ∧ w 1 7 ≤ w' 1 6 ∧ e_fr kRa w w' ∧ e_fr mTq v v') ∨ rpF w' v')) := by
  have hf := hK.1
  refine e_Pn.run (t' := (1, [(0, (1, 1)), (1, (0, k))], [(1, 1)], w)) kAlk 1 rfl ?_
  refine e_Pn.getf (z := w 1 5) kAlk rfl rfl rfl (fun b1 => ?_)
  refine e_Pn.run (t' := (5, [(0, (1, 1)), (1, (0, k))], [(0, k), (0, w 1 5)], w)) kAlk 1 rfl ?_
  refine e_Pn.if2 kAlk rfl (fun h2 => ?_) (fun h2 => ?_)
  · replace h2 : (w 1 5 : Int) ≠ k := h2
    refine e_Pn.run (t' := (16, [(0, (1, 1)), (1, (0, k))], [(1, 1)], w)) kAlk 1 rfl ?_
    replace hM := hM.st (t' := (1, [(0, (1, 275)), (1, (0, z))], [(1, 275)], v)) (fun _ _ q => e_Pn.run eAlk 1 rfl q)
    obtain ⟨b3, hM⟩ := hM.of (fun _ _ q => e_Pn.getf (z := 0) eAlk rfl rfl hf.2 q)
    rcases hM.or (fun _ _ q1 q2 => e_Pn.if1 eAlk rfl q1 q2) with ⟨h4, hM⟩ | ⟨h4, hM⟩
    · replace h4 : (0 : Int) = 0 := h4
      replace hM := hM.st (t' := (9, [(0, (1, 275)), (1, (0, z))], [(0, z)], v)) (fun _ _ q => e_Pn.run eAlk 1 rfl q)
      rcases hM.or (fun _ _ q1 q2 => e_Pn.if1 eAlk rfl q1 q2) with ⟨h5, hM⟩ | ⟨h5, hM⟩
      · replace h5 : (z : Int) = 0 := h5
        replace hM := hM.st (t' := (21, [(0, (1, 275)), (1, (0, z))], [(0, 2), (1, 275)], v)) (fun _ _ q => e_Pn.run eAlk 2 rfl q)
        obtain ⟨dc6, r7, v8, hc9, hM⟩ := hM.ca rfl
        refine e_Pn.callA rfl (fun nq dq => t_130 hK (by decide) (d' := dc6) hc9) (fun r10 w11 h12 => ?_)
        obtain ⟨rfl, rfl, q13F⟩ := h12
        show e_Pn 20 elay kcode eI n d 129 (19, [(0, (1, 1)), (1, (0, k))], [], w11) _
        replace hM : e_Rn 20 elay ecode eI d' 334 (24, [(0, (1, 275)), (1, (0, z))], [], v8) r' v' := hM
        obtain ⟨rfl, rfl⟩ := hM.re0 rfl
        refine e_Pn.ret0 rfl ?_
        exact ⟨rfl, rfl, Or.inr q13F⟩
      · replace h5 : (z : Int) ≠ 0 := by have q : ¬ ((z : Int) = 0) := h5; omega
        replace hM := hM.st (t' := (13, [(0, (1, 275)), (1, (0, z))], [(1, 275)], v)) (fun _ _ q => e_Pn.run eAlk 1 rfl q)
        exfalso; omega
    · replace h4 : (0 : Int) ≠ 0 := by have q : ¬ ((0 : Int) = 0) := h4; omega
      exfalso; omega
  · replace h2 : (w 1 5 : Int) = k := by have q : ¬ ((w 1 5 : Int) ≠ k) := h2; omega
    refine e_Pn.run (t' := (9, [(0, (1, 1)), (1, (0, k))], [(1, 1)], w)) kAlk 1 rfl ?_
    replace hM := hM.st (t' := (1, [(0, (1, 275)), (1, (0, z))], [(1, 275)], v)) (fun _ _ q => e_Pn.run eAlk 1 rfl q)
    obtain ⟨b14, hM⟩ := hM.of (fun _ _ q => e_Pn.getf (z := 0) eAlk rfl rfl hf.2 q)
    rcases hM.or (fun _ _ q1 q2 => e_Pn.if1 eAlk rfl q1 q2) with ⟨h15, hM⟩ | ⟨h15, hM⟩
    · replace h15 : (0 : Int) = 0 := h15
      replace hM := hM.st (t' := (9, [(0, (1, 275)), (1, (0, z))], [(0, z)], v)) (fun _ _ q => e_Pn.run eAlk 1 rfl q)
      rcases hM.or (fun _ _ q1 q2 => e_Pn.if1 eAlk rfl q1 q2) with ⟨h16, hM⟩ | ⟨h16, hM⟩
      · replace h16 : (z : Int) = 0 := h16
        replace hM := hM.st (t' := (21, [(0, (1, 275)), (1, (0, z))], [(0, 2), (1, 275)], v)) (fun _ _ q => e_Pn.run eAlk 2 rfl q)
        exfalso; omega
      · replace h16 : (z : Int) ≠ 0 := by have q : ¬ ((z : Int) = 0) := h16; omega
        replace hM := hM.st (t' := (13, [(0, (1, 275)), (1, (0, z))], [(1, 275)], v)) (fun _ _ q => e_Pn.run eAlk 1 rfl q)
        obtain ⟨dc17, r18, v19, hc20, hM⟩ := hM.ca rfl
        refine e_Pn.callA rfl (fun nq dq => t_123 hA hK.1 hK.2.1.2.1 (by have q9 := hK.2.1; omega) (d' := dc17) hc20) (fun r21 w22 h23 => ?_)
        obtain ⟨rfl, rfl, q24A, q24K, q24l, q24f, q24g⟩ := h23
        show e_Pn 20 elay kcode eI n d 129 (12, [(0, (1, 1)), (1, (0, k))], [], w22) _
        replace hM : e_Rn 20 elay ecode eI d' 334 (16, [(0, (1, 275)), (1, (0, z))], [], v19) r' v' := hM
        refine e_Pn.run (t' := (19, [(0, (1, 1)), (1, (0, k))], [], w22)) kAlk 1 rfl ?_
        replace hM := hM.st (t' := (24, [(0, (1, 275)), (1, (0, z))], [], v19)) (fun _ _ q => e_Pn.run eAlk 1 rfl q)
        obtain ⟨rfl, rfl⟩ := hM.re0 rfl
        refine e_Pn.ret0 rfl ?_
        exact ⟨rfl, rfl, Or.inl ⟨q24A, q24K, q24l, q24f, q24g⟩⟩
    · replace h15 : (0 : Int) ≠ 0 := by have q : ¬ ((0 : Int) = 0) := h15; omega
      exfalso; omega
end
