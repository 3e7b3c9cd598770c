noncomputable section
def mKw (R E c k : Int) : Prop := (c = 354 ∧ E ≤ k) ∨ ((c = 355 ∨ c = 356) ∧ k = R)
/-- the way of the row R, which begins at E: kept (n steps, as found), or not -/
def kwR (w w' : eW) (R E n b : Int) : Prop := e_fr (mKw R E) w w' ∧ ((b = 1 ∧ E + n ≤ 200000 ∧ w' 355 R = E ∧ w' 356 R = E + n ∧ (∀ j, 0 ≤ j → j < n → w' 354 (E + j) = w 353 j)) ∨ ((b ≠ 1 ∨ 200000 < E + n) ∧ w' 355 R = -1 ∧ w' 356 R = E))
theorem no_96_0 {R : Int} {E : Int} {k : Int} : ¬ mKw R E 275 k := by unfold mKw; omega
theorem no_96_1 {R : Int} {E : Int} {k : Int} : ¬ mKw R E 353 k := by unfold mKw; omega
theorem c_420_0 {d : Nat} {w : eW} (hT : e_Has mTy w) (hR : w 275 5 = 0) {n b : Int} (hn : 0 ≤ n ∧ n ≤ 1000) (hb : 0 ≤ b ∧ b ≤ 1) (hfo : b = 1 → ∀ i, 0 ≤ i → i ≤ n - 1 → -2147483648 ≤ w 353 i ∧ w 353 i ≤ 2147483647) : e_Ok 20 elay ecode eI d 420 (0, [(0, (1, 275)), (1, (0, n)), (2, (0, b))], [], w) (fun r w' => r = [] ∧ kwR w w' 0 0 n b) := by
  refine e_Ok.run (t' := (1, [(0, (1, 275)), (1, (0, n)), (2, (0, b))], [(1, 275)], w)) 1 rfl ?_
  refine e_Ok.getf (z := 0) rfl (el_o rfl) rfl rfl hR (by omega) ?_
  refine e_Ok.if1 rfl (fun h1 => ?_) (fun h1 => ?_)
  · replace h1 : (0 : Int) ≠ 0 := h1
    exfalso; omega
  · replace h1 : (0 : Int) = 0 := by have q : ¬ ((0 : Int) ≠ 0) := h1; omega
    refine e_Ok.run (t' := (24, [(3, (0, 0)), (0, (1, 275)), (1, (0, n)), (2, (0, b))], [(0, b)], w)) 4 rfl ?_
    refine e_Ok.if1 rfl (fun h2 => ?_) (fun h2 => ?_)
    · replace h2 : (b : Int) = 0 := h2
      refine e_Ok.run (t' := (45, [(5, (0, 0)), (4, (0, 0)), (3, (0, 0)), (0, (1, 275)), (1, (0, n)), (2, (0, b))], [], w)) 4 rfl ?_
      have hL3 : ∀ (nn : Nat) (y5 : Int) (v1 : eW), e_fr (mKw 0 0) w v1 ∧ e_Has mTy v1 ∧ (0 ≤ y5 ∧ y5 ≤ n) ∧ (∀ j, 0 ≤ j → j < y5 → v1 354 (0 + j) = w 353 j) → 1001 - y5 < nn → e_Ok 20 elay ecode eI d 420 (45, [(0, (1, 275)), (1, (0, n)), (3, (0, 0)), (4, (0, 0)), (5, (0, y5))], [], v1) (fun r w' => r = [] ∧ kwR w w' 0 0 n b) := by
        intro nn
        induction nn with
        | zero => intro y5 v1 hj hm; obtain ⟨j5, j6, j7, j8⟩ := hj; exfalso; omega
        | succ nn ih4 =>
          intro y5 v1 hj hm
          obtain ⟨j5, j6, j7, j8⟩ := hj
          refine e_Ok.run (t' := (48, [(0, (1, 275)), (1, (0, n)), (3, (0, 0)), (4, (0, 0)), (5, (0, y5))], [(0, n), (0, y5)], v1)) 2 rfl ?_
          refine e_Ok.if2 rfl (fun h9 => ?_) (fun h9 => ?_)
          · replace h9 : (y5 : Int) ≥ n := h9
            refine e_Ok.run (t' := (79, [(0, (1, 275)), (1, (0, n)), (3, (0, 0)), (4, (0, 0)), (5, (0, y5))], [(1, 275)], v1)) 1 rfl ?_
            refine e_Ok.getr (z := 355) rfl (el_o rfl) rfl rfl ((j5 275 115 (by first | exact no_96_0 | (unfold mKw; omega))).trans (e_Has.eq hT rfl)) (by omega) ?_
            refine e_Ok.run (t' := (83, [(0, (1, 275)), (1, (0, n)), (3, (0, 0)), (4, (0, 0)), (5, (0, y5))], [(1, 275), (1, 355)], v1)) 1 rfl ?_
            refine e_Ok.getf (z := 0) rfl (el_o rfl) rfl rfl ((j5 275 5 (by first | exact no_96_0 | (unfold mKw; omega))).trans hR) (by omega) ?_
            refine e_Ok.run (t' := (88, [(0, (1, 275)), (1, (0, n)), (3, (0, 0)), (4, (0, 0)), (5, (0, y5))], [(0, 0), (0, 0), (1, 355)], v1)) 1 rfl ?_
            refine e_Ok.if1 rfl (fun h10 => ?_) (fun h10 => ?_)
            · replace h10 : (0 : Int) = 0 := h10
              refine e_Ok.run (t' := (96, [(0, (1, 275)), (1, (0, n)), (3, (0, 0)), (4, (0, 0)), (5, (0, y5))], [(0, (-1)), (0, 0), (1, 355)], v1)) 1 rfl ?_
              refine e_Ok.ast rfl (el_o rfl) rfl rfl (by omega) ?_
              generalize hw11 : e_up v1 355 0 (-1) = w11
              have f12 : e_fr (mKw 0 0) w w11 := e_fr.up j5 hw11 (by unfold mKw; omega)
              have hT13 : e_Has mTy w11 := e_Has.ups j6 hw11 rfl
              refine e_Ok.run (t' := (98, [(0, (1, 275)), (1, (0, n)), (3, (0, 0)), (4, (0, 0)), (5, (0, y5))], [(1, 275)], w11)) 1 rfl ?_
              refine e_Ok.getr (z := 356) rfl (el_o rfl) rfl rfl (by rw [← hw11]; exact (e_up_ne _ _ (Or.inl (by omega))).trans ((j5 275 116 (by first | exact no_96_0 | (unfold mKw; omega))).trans (e_Has.eq hT rfl))) (by omega) ?_
              refine e_Ok.run (t' := (102, [(0, (1, 275)), (1, (0, n)), (3, (0, 0)), (4, (0, 0)), (5, (0, y5))], [(1, 275), (1, 356)], w11)) 1 rfl ?_
              refine e_Ok.getf (z := 0) rfl (el_o rfl) rfl rfl (by rw [← hw11]; exact (e_up_ne _ _ (Or.inl (by omega))).trans ((j5 275 5 (by first | exact no_96_0 | (unfold mKw; omega))).trans hR)) (by omega) ?_
              refine e_Ok.run (t' := (107, [(0, (1, 275)), (1, (0, n)), (3, (0, 0)), (4, (0, 0)), (5, (0, y5))], [(0, 0), (0, 0), (1, 356)], w11)) 1 rfl ?_
              refine e_Ok.if1 rfl (fun h14 => ?_) (fun h14 => ?_)
              · replace h14 : (0 : Int) = 0 := h14
                refine e_Ok.run (t' := (117, [(0, (1, 275)), (1, (0, n)), (3, (0, 0)), (4, (0, 0)), (5, (0, y5))], [(0, 0), (0, 0), (1, 356)], w11)) 1 rfl ?_
                refine e_Ok.ast rfl (el_o rfl) rfl rfl (by omega) ?_
                generalize hw15 : e_up w11 356 0 0 = w15
                have f16 : e_fr (mKw 0 0) w w15 := e_fr.up f12 hw15 (by unfold mKw; omega)
                have hT17 : e_Has mTy w15 := e_Has.ups hT13 hw15 rfl
                refine e_Ok.rets rfl rfl ?_
                have e5 : w15 355 0 = (-1) := (by rw [← hw15]; exact (e_up_ne _ _ (Or.inl (by omega))).trans (by rw [← hw11]; exact e_up_eq _ _ _ _))
                have e6 : w15 356 0 = 0 := (by rw [← hw15]; exact e_up_eq _ _ _ _)
                exact ⟨rfl, f16, Or.inr ⟨by omega, e5, by omega⟩⟩
              · replace h14 : (0 : Int) ≠ 0 := by have q : ¬ ((0 : Int) = 0) := h14; omega
                exfalso; omega
            · replace h10 : (0 : Int) ≠ 0 := by have q : ¬ ((0 : Int) = 0) := h10; omega
              exfalso; omega
          · replace h9 : (y5 : Int) < n := by have q : ¬ ((y5 : Int) ≥ n) := h9; omega
            refine e_Ok.run (t' := (53, [(0, (1, 275)), (1, (0, n)), (3, (0, 0)), (4, (0, 0)), (5, (0, y5))], [(0, 0)], v1)) 1 rfl ?_
            refine e_Ok.if1 rfl (fun h18 => ?_) (fun h18 => ?_)
            · replace h18 : (0 : Int) = 0 := h18
              refine e_Ok.run (t' := (79, [(0, (1, 275)), (1, (0, n)), (3, (0, 0)), (4, (0, 0)), (5, (0, y5))], [(1, 275)], v1)) 1 rfl ?_
              refine e_Ok.getr (z := 355) rfl (el_o rfl) rfl rfl ((j5 275 115 (by first | exact no_96_0 | (unfold mKw; omega))).trans (e_Has.eq hT rfl)) (by omega) ?_
              refine e_Ok.run (t' := (83, [(0, (1, 275)), (1, (0, n)), (3, (0, 0)), (4, (0, 0)), (5, (0, y5))], [(1, 275), (1, 355)], v1)) 1 rfl ?_
              refine e_Ok.getf (z := 0) rfl (el_o rfl) rfl rfl ((j5 275 5 (by first | exact no_96_0 | (unfold mKw; omega))).trans hR) (by omega) ?_
              refine e_Ok.run (t' := (88, [(0, (1, 275)), (1, (0, n)), (3, (0, 0)), (4, (0, 0)), (5, (0, y5))], [(0, 0), (0, 0), (1, 355)], v1)) 1 rfl ?_
              refine e_Ok.if1 rfl (fun h19 => ?_) (fun h19 => ?_)
              · replace h19 : (0 : Int) = 0 := h19
                refine e_Ok.run (t' := (96, [(0, (1, 275)), (1, (0, n)), (3, (0, 0)), (4, (0, 0)), (5, (0, y5))], [(0, (-1)), (0, 0), (1, 355)], v1)) 1 rfl ?_
                refine e_Ok.ast rfl (el_o rfl) rfl rfl (by omega) ?_
                generalize hw20 : e_up v1 355 0 (-1) = w20
                have f21 : e_fr (mKw 0 0) w w20 := e_fr.up j5 hw20 (by unfold mKw; omega)
                have hT22 : e_Has mTy w20 := e_Has.ups j6 hw20 rfl
                refine e_Ok.run (t' := (98, [(0, (1, 275)), (1, (0, n)), (3, (0, 0)), (4, (0, 0)), (5, (0, y5))], [(1, 275)], w20)) 1 rfl ?_
                refine e_Ok.getr (z := 356) rfl (el_o rfl) rfl rfl (by rw [← hw20]; exact (e_up_ne _ _ (Or.inl (by omega))).trans ((j5 275 116 (by first | exact no_96_0 | (unfold mKw; omega))).trans (e_Has.eq hT rfl))) (by omega) ?_
                refine e_Ok.run (t' := (102, [(0, (1, 275)), (1, (0, n)), (3, (0, 0)), (4, (0, 0)), (5, (0, y5))], [(1, 275), (1, 356)], w20)) 1 rfl ?_
                refine e_Ok.getf (z := 0) rfl (el_o rfl) rfl rfl (by rw [← hw20]; exact (e_up_ne _ _ (Or.inl (by omega))).trans ((j5 275 5 (by first | exact no_96_0 | (unfold mKw; omega))).trans hR)) (by omega) ?_
                refine e_Ok.run (t' := (107, [(0, (1, 275)), (1, (0, n)), (3, (0, 0)), (4, (0, 0)), (5, (0, y5))], [(0, 0), (0, 0), (1, 356)], w20)) 1 rfl ?_
                refine e_Ok.if1 rfl (fun h23 => ?_) (fun h23 => ?_)
                · replace h23 : (0 : Int) = 0 := h23
                  refine e_Ok.run (t' := (117, [(0, (1, 275)), (1, (0, n)), (3, (0, 0)), (4, (0, 0)), (5, (0, y5))], [(0, 0), (0, 0), (1, 356)], w20)) 1 rfl ?_
                  refine e_Ok.ast rfl (el_o rfl) rfl rfl (by omega) ?_
                  generalize hw24 : e_up w20 356 0 0 = w24
                  have f25 : e_fr (mKw 0 0) w w24 := e_fr.up f21 hw24 (by unfold mKw; omega)
                  have hT26 : e_Has mTy w24 := e_Has.ups hT22 hw24 rfl
                  refine e_Ok.rets rfl rfl ?_
                  have e5 : w24 355 0 = (-1) := (by rw [← hw24]; exact (e_up_ne _ _ (Or.inl (by omega))).trans (by rw [← hw20]; exact e_up_eq _ _ _ _))
                  have e6 : w24 356 0 = 0 := (by rw [← hw24]; exact e_up_eq _ _ _ _)
                  exact ⟨rfl, f25, Or.inr ⟨by omega, e5, by omega⟩⟩
                · replace h23 : (0 : Int) ≠ 0 := by have q : ¬ ((0 : Int) = 0) := h23; omega
                  exfalso; omega
              · replace h19 : (0 : Int) ≠ 0 := by have q : ¬ ((0 : Int) = 0) := h19; omega
                exfalso; omega
            · replace h18 : (0 : Int) ≠ 0 := by have q : ¬ ((0 : Int) = 0) := h18; omega
              exfalso; omega
      refine e_Ok.sub eAlk (e_sub_of rfl ?_) (hL3 (1001 + 1 : Int).toNat 0 w ⟨(e_fr.refl w), hT, by omega, (fun j g1 g2 => by omega)⟩ (by omega))
      exact ⟨rfl, rfl, rfl, rfl, rfl, trivial⟩
    · replace h2 : (b : Int) ≠ 0 := by have q : ¬ ((b : Int) = 0) := h2; omega
      refine e_Ok.run (t' := (29, [(3, (0, 0)), (0, (1, 275)), (1, (0, n)), (2, (0, b))], [(0, n), (0, 0)], w)) 2 rfl ?_
      refine e_Ok.add (z := n) rfl (by omega) (by omega) ?_
      refine e_Ok.run (t' := (32, [(3, (0, 0)), (0, (1, 275)), (1, (0, n)), (2, (0, b))], [(0, 200000), (0, n)], w)) 1 rfl ?_
      refine e_Ok.if2 rfl (fun h27 => ?_) (fun h27 => ?_)
      · replace h27 : (n : Int) > 200000 := h27
        exfalso; omega
      · replace h27 : (n : Int) ≤ 200000 := by have q : ¬ ((n : Int) > 200000) := h27; omega
        refine e_Ok.run (t' := (45, [(5, (0, 0)), (4, (0, 1)), (3, (0, 0)), (0, (1, 275)), (1, (0, n)), (2, (0, b))], [], w)) 5 rfl ?_
        have hL28 : ∀ (nn : Nat) (y5 : Int) (v1 : eW), e_fr (mKw 0 0) w v1 ∧ e_Has mTy v1 ∧ (0 ≤ y5 ∧ y5 ≤ n) ∧ (∀ j, 0 ≤ j → j < y5 → v1 354 (0 + j) = w 353 j) → 1001 - y5 < nn → e_Ok 20 elay ecode eI d 420 (45, [(0, (1, 275)), (1, (0, n)), (3, (0, 0)), (4, (0, 1)), (5, (0, y5))], [], v1) (fun r w' => r = [] ∧ kwR w w' 0 0 n b) := by
          intro nn
          induction nn with
          | zero => intro y5 v1 hj hm; obtain ⟨j30, j31, j32, j33⟩ := hj; exfalso; omega
          | succ nn ih29 =>
            intro y5 v1 hj hm
            obtain ⟨j30, j31, j32, j33⟩ := hj
            refine e_Ok.run (t' := (48, [(0, (1, 275)), (1, (0, n)), (3, (0, 0)), (4, (0, 1)), (5, (0, y5))], [(0, n), (0, y5)], v1)) 2 rfl ?_
            refine e_Ok.if2 rfl (fun h34 => ?_) (fun h34 => ?_)
            · replace h34 : (y5 : Int) ≥ n := h34
              refine e_Ok.run (t' := (79, [(0, (1, 275)), (1, (0, n)), (3, (0, 0)), (4, (0, 1)), (5, (0, y5))], [(1, 275)], v1)) 1 rfl ?_
              refine e_Ok.getr (z := 355) rfl (el_o rfl) rfl rfl ((j30 275 115 (by first | exact no_96_0 | (unfold mKw; omega))).trans (e_Has.eq hT rfl)) (by omega) ?_
              refine e_Ok.run (t' := (83, [(0, (1, 275)), (1, (0, n)), (3, (0, 0)), (4, (0, 1)), (5, (0, y5))], [(1, 275), (1, 355)], v1)) 1 rfl ?_
              refine e_Ok.getf (z := 0) rfl (el_o rfl) rfl rfl ((j30 275 5 (by first | exact no_96_0 | (unfold mKw; omega))).trans hR) (by omega) ?_
              refine e_Ok.run (t' := (88, [(0, (1, 275)), (1, (0, n)), (3, (0, 0)), (4, (0, 1)), (5, (0, y5))], [(0, 1), (0, 0), (1, 355)], v1)) 1 rfl ?_
              refine e_Ok.if1 rfl (fun h35 => ?_) (fun h35 => ?_)
              · replace h35 : (1 : Int) = 0 := h35
                exfalso; omega
              · replace h35 : (1 : Int) ≠ 0 := by have q : ¬ ((1 : Int) = 0) := h35; omega
                refine e_Ok.run (t' := (96, [(0, (1, 275)), (1, (0, n)), (3, (0, 0)), (4, (0, 1)), (5, (0, y5))], [(0, 0), (0, 0), (1, 355)], v1)) 2 rfl ?_
                refine e_Ok.ast rfl (el_o rfl) rfl rfl (by omega) ?_
                generalize hw36 : e_up v1 355 0 0 = w36
                have f37 : e_fr (mKw 0 0) w w36 := e_fr.up j30 hw36 (by unfold mKw; omega)
                have hT38 : e_Has mTy w36 := e_Has.ups j31 hw36 rfl
                refine e_Ok.run (t' := (98, [(0, (1, 275)), (1, (0, n)), (3, (0, 0)), (4, (0, 1)), (5, (0, y5))], [(1, 275)], w36)) 1 rfl ?_
                refine e_Ok.getr (z := 356) rfl (el_o rfl) rfl rfl (by rw [← hw36]; exact (e_up_ne _ _ (Or.inl (by omega))).trans ((j30 275 116 (by first | exact no_96_0 | (unfold mKw; omega))).trans (e_Has.eq hT rfl))) (by omega) ?_
                refine e_Ok.run (t' := (102, [(0, (1, 275)), (1, (0, n)), (3, (0, 0)), (4, (0, 1)), (5, (0, y5))], [(1, 275), (1, 356)], w36)) 1 rfl ?_
                refine e_Ok.getf (z := 0) rfl (el_o rfl) rfl rfl (by rw [← hw36]; exact (e_up_ne _ _ (Or.inl (by omega))).trans ((j30 275 5 (by first | exact no_96_0 | (unfold mKw; omega))).trans hR)) (by omega) ?_
                refine e_Ok.run (t' := (107, [(0, (1, 275)), (1, (0, n)), (3, (0, 0)), (4, (0, 1)), (5, (0, y5))], [(0, 1), (0, 0), (1, 356)], w36)) 1 rfl ?_
                refine e_Ok.if1 rfl (fun h40 => ?_) (fun h40 => ?_)
                · replace h40 : (1 : Int) = 0 := h40
                  exfalso; omega
                · replace h40 : (1 : Int) ≠ 0 := by have q : ¬ ((1 : Int) = 0) := h40; omega
                  refine e_Ok.run (t' := (112, [(0, (1, 275)), (1, (0, n)), (3, (0, 0)), (4, (0, 1)), (5, (0, y5))], [(0, n), (0, 0), (0, 0), (1, 356)], w36)) 2 rfl ?_
                  refine e_Ok.add (z := n) rfl (by omega) (by omega) ?_
                  refine e_Ok.run (t' := (117, [(0, (1, 275)), (1, (0, n)), (3, (0, 0)), (4, (0, 1)), (5, (0, y5))], [(0, n), (0, 0), (1, 356)], w36)) 1 rfl ?_
                  refine e_Ok.ast rfl (el_o rfl) rfl rfl (by omega) ?_
                  generalize hw41 : e_up w36 356 0 n = w41
                  have f42 : e_fr (mKw 0 0) w w41 := e_fr.up f37 hw41 (by unfold mKw; omega)
                  have hT43 : e_Has mTy w41 := e_Has.ups hT38 hw41 rfl
                  refine e_Ok.rets rfl rfl ?_
                  have e5 : w41 355 0 = 0 := (by rw [← hw41]; exact (e_up_ne _ _ (Or.inl (by omega))).trans (by rw [← hw36]; exact e_up_eq _ _ _ _))
                  have e6 : w41 356 0 = n := (by rw [← hw41]; exact e_up_eq _ _ _ _)
                  exact ⟨rfl, f42, Or.inl ⟨by omega, by omega, by omega, by omega, (fun j g1 g2 => Eq.trans (show w41 354 (0 + j) = v1 354 (0 + j) from (by rw [← hw41]; exact (e_up_ne _ _ (Or.inl (by omega))).trans (by rw [← hw36]; exact (e_up_ne _ _ (Or.inl (by omega))).trans rfl))) (j33 j g1 (by omega)))⟩⟩
            · replace h34 : (y5 : Int) < n := by have q : ¬ ((y5 : Int) ≥ n) := h34; omega
              refine e_Ok.run (t' := (53, [(0, (1, 275)), (1, (0, n)), (3, (0, 0)), (4, (0, 1)), (5, (0, y5))], [(0, 1)], v1)) 1 rfl ?_
              refine e_Ok.if1 rfl (fun h44 => ?_) (fun h44 => ?_)
              · replace h44 : (1 : Int) = 0 := h44
                exfalso; omega
              · replace h44 : (1 : Int) ≠ 0 := by have q : ¬ ((1 : Int) = 0) := h44; omega
                refine e_Ok.run (t' := (57, [(0, (1, 275)), (1, (0, n)), (3, (0, 0)), (4, (0, 1)), (5, (0, y5))], [(1, 275)], v1)) 1 rfl ?_
                refine e_Ok.getr (z := 354) rfl (el_o rfl) rfl rfl ((j30 275 114 (by first | exact no_96_0 | (unfold mKw; omega))).trans (e_Has.eq hT rfl)) (by omega) ?_
                refine e_Ok.run (t' := (63, [(0, (1, 275)), (1, (0, n)), (3, (0, 0)), (4, (0, 1)), (5, (0, y5))], [(0, y5), (0, 0), (1, 354)], v1)) 2 rfl ?_
                refine e_Ok.add (z := y5) rfl (by omega) (by omega) ?_
                refine e_Ok.run (t' := (65, [(0, (1, 275)), (1, (0, n)), (3, (0, 0)), (4, (0, 1)), (5, (0, y5))], [(1, 275), (0, y5), (1, 354)], v1)) 1 rfl ?_
                refine e_Ok.getr (z := 353) rfl (el_o rfl) rfl rfl ((j30 275 113 (by first | exact no_96_0 | (unfold mKw; omega))).trans (e_Has.eq hT rfl)) (by omega) ?_
                refine e_Ok.run (t' := (70, [(0, (1, 275)), (1, (0, n)), (3, (0, 0)), (4, (0, 1)), (5, (0, y5))], [(0, y5), (1, 353), (0, y5), (1, 354)], v1)) 1 rfl ?_
                have h45 := (hfo (by omega) y5 (by omega) (by omega))
                refine e_Ok.ald (z := w 353 y5) rfl (el_o rfl) rfl (by omega) ((j30 353 y5 (by first | exact no_96_1 | (unfold mKw; omega))).trans rfl) (by omega) ?_
                refine e_Ok.ast rfl (el_o rfl) rfl rfl (by omega) ?_
                generalize hw46 : e_up v1 354 y5 (w 353 y5) = w46
                have f47 : e_fr (mKw 0 0) w w46 := e_fr.up j30 hw46 (by unfold mKw; omega)
                have hT48 : e_Has mTy w46 := e_Has.ups j31 hw46 rfl
                refine e_Ok.inc (z := y5 + 1) rfl rfl (by omega) (by omega) ?_
                show e_Ok 20 elay ecode eI d 420 (75, [(5, (0, y5 + 1)), (0, (1, 275)), (1, (0, n)), (3, (0, 0)), (4, (0, 1))], [], w46) _
                refine e_Ok.run (t' := (45, [(5, (0, y5 + 1)), (0, (1, 275)), (1, (0, n)), (3, (0, 0)), (4, (0, 1))], [], w46)) 1 rfl ?_
                refine e_Ok.sub eAlk (e_sub_of rfl ?_) (ih29 (y5 + 1) w46 ⟨f47, hT48, by omega, (fun j g1 g2 => Decidable.byCases (p := j = y5) (fun ej => by rw [ej, show 0 + y5 = y5 by omega, ← hw46]; exact e_up_eq _ _ _ _) (fun ej => Eq.trans (show w46 354 (0 + j) = v1 354 (0 + j) from by rw [← hw46]; exact e_up_ne _ _ (Or.inr (by omega))) (j33 j g1 (by omega))))⟩ (by omega))
                exact ⟨rfl, rfl, rfl, rfl, rfl, trivial⟩
        refine e_Ok.sub eAlk (e_sub_of rfl ?_) (hL28 (1001 + 1 : Int).toNat 0 w ⟨(e_fr.refl w), hT, by omega, (fun j g1 g2 => by omega)⟩ (by omega))
        exact ⟨rfl, rfl, rfl, rfl, rfl, trivial⟩
theorem c_420_1 {d : Nat} {w : eW} (hT : e_Has mTy w) {R E : Int} (hR : w 275 5 = R) (hRr : 1 ≤ R ∧ R ≤ 1999) (hE : w 356 (R - 1) = E) (hEr : 0 ≤ E ∧ E ≤ 200000) {n b : Int} (hn : 0 ≤ n ∧ n ≤ 1000) (hb : 0 ≤ b ∧ b ≤ 1) (hfo : b = 1 → ∀ i, 0 ≤ i → i ≤ n - 1 → -2147483648 ≤ w 353 i ∧ w 353 i ≤ 2147483647) : e_Ok 20 elay ecode eI d 420 (0, [(0, (1, 275)), (1, (0, n)), (2, (0, b))], [], w) (fun r w' => r = [] ∧ kwR w w' R E n b) := by
  refine e_Ok.run (t' := (1, [(0, (1, 275)), (1, (0, n)), (2, (0, b))], [(1, 275)], w)) 1 rfl ?_
  refine e_Ok.getf (z := R) rfl (el_o rfl) rfl rfl hR (by omega) ?_
  refine e_Ok.if1 rfl (fun h1 => ?_) (fun h1 => ?_)
  · replace h1 : (R : Int) ≠ 0 := h1
    refine e_Ok.run (t' := (12, [(0, (1, 275)), (1, (0, n)), (2, (0, b))], [(1, 275)], w)) 1 rfl ?_
    refine e_Ok.getr (z := 356) rfl (el_o rfl) rfl rfl (e_Has.eq hT rfl) (by omega) ?_
    refine e_Ok.run (t' := (16, [(0, (1, 275)), (1, (0, n)), (2, (0, b))], [(1, 275), (1, 356)], w)) 1 rfl ?_
    refine e_Ok.getf (z := R) rfl (el_o rfl) rfl rfl hR (by omega) ?_
    refine e_Ok.run (t' := (20, [(0, (1, 275)), (1, (0, n)), (2, (0, b))], [(0, 1), (0, R), (1, 356)], w)) 1 rfl ?_
    refine e_Ok.sub' (z := R - 1) rfl (by omega) (by omega) ?_
    refine e_Ok.ald (z := E) rfl (el_o rfl) rfl (by omega) hE (by omega) ?_
    refine e_Ok.run (t' := (24, [(3, (0, E)), (0, (1, 275)), (1, (0, n)), (2, (0, b))], [(0, b)], w)) 2 rfl ?_
    refine e_Ok.if1 rfl (fun h2 => ?_) (fun h2 => ?_)
    · replace h2 : (b : Int) = 0 := h2
      refine e_Ok.run (t' := (45, [(5, (0, 0)), (4, (0, 0)), (3, (0, E)), (0, (1, 275)), (1, (0, n)), (2, (0, b))], [], w)) 4 rfl ?_
      have hL3 : ∀ (nn : Nat) (y5 : Int) (v1 : eW), e_fr (mKw R E) w v1 ∧ e_Has mTy v1 ∧ (0 ≤ y5 ∧ y5 ≤ n) ∧ (∀ j, 0 ≤ j → j < y5 → v1 354 (E + j) = w 353 j) → 1001 - y5 < nn → e_Ok 20 elay ecode eI d 420 (45, [(0, (1, 275)), (1, (0, n)), (3, (0, E)), (4, (0, 0)), (5, (0, y5))], [], v1) (fun r w' => r = [] ∧ kwR w w' R E n b) := by
        intro nn
        induction nn with
        | zero => intro y5 v1 hj hm; obtain ⟨j5, j6, j7, j8⟩ := hj; exfalso; omega
        | succ nn ih4 =>
          intro y5 v1 hj hm
          obtain ⟨j5, j6, j7, j8⟩ := hj
          refine e_Ok.run (t' := (48, [(0, (1, 275)), (1, (0, n)), (3, (0, E)), (4, (0, 0)), (5, (0, y5))], [(0, n), (0, y5)], v1)) 2 rfl ?_
          refine e_Ok.if2 rfl (fun h9 => ?_) (fun h9 => ?_)
          · replace h9 : (y5 : Int) ≥ n := h9
            refine e_Ok.run (t' := (79, [(0, (1, 275)), (1, (0, n)), (3, (0, E)), (4, (0, 0)), (5, (0, y5))], [(1, 275)], v1)) 1 rfl ?_
            refine e_Ok.getr (z := 355) rfl (el_o rfl) rfl rfl ((j5 275 115 (by first | exact no_96_0 | (unfold mKw; omega))).trans (e_Has.eq hT rfl)) (by omega) ?_
            refine e_Ok.run (t' := (83, [(0, (1, 275)), (1, (0, n)), (3, (0, E)), (4, (0, 0)), (5, (0, y5))], [(1, 275), (1, 355)], v1)) 1 rfl ?_
            refine e_Ok.getf (z := R) rfl (el_o rfl) rfl rfl ((j5 275 5 (by first | exact no_96_0 | (unfold mKw; omega))).trans hR) (by omega) ?_
            refine e_Ok.run (t' := (88, [(0, (1, 275)), (1, (0, n)), (3, (0, E)), (4, (0, 0)), (5, (0, y5))], [(0, 0), (0, R), (1, 355)], v1)) 1 rfl ?_
            refine e_Ok.if1 rfl (fun h10 => ?_) (fun h10 => ?_)
            · replace h10 : (0 : Int) = 0 := h10
              refine e_Ok.run (t' := (96, [(0, (1, 275)), (1, (0, n)), (3, (0, E)), (4, (0, 0)), (5, (0, y5))], [(0, (-1)), (0, R), (1, 355)], v1)) 1 rfl ?_
              refine e_Ok.ast rfl (el_o rfl) rfl rfl (by omega) ?_
              generalize hw11 : e_up v1 355 R (-1) = w11
              have f12 : e_fr (mKw R E) w w11 := e_fr.up j5 hw11 (by unfold mKw; omega)
              have hT13 : e_Has mTy w11 := e_Has.ups j6 hw11 rfl
              refine e_Ok.run (t' := (98, [(0, (1, 275)), (1, (0, n)), (3, (0, E)), (4, (0, 0)), (5, (0, y5))], [(1, 275)], w11)) 1 rfl ?_
              refine e_Ok.getr (z := 356) rfl (el_o rfl) rfl rfl (by rw [← hw11]; exact (e_up_ne _ _ (Or.inl (by omega))).trans ((j5 275 116 (by first | exact no_96_0 | (unfold mKw; omega))).trans (e_Has.eq hT rfl))) (by omega) ?_
              refine e_Ok.run (t' := (102, [(0, (1, 275)), (1, (0, n)), (3, (0, E)), (4, (0, 0)), (5, (0, y5))], [(1, 275), (1, 356)], w11)) 1 rfl ?_
              refine e_Ok.getf (z := R) rfl (el_o rfl) rfl rfl (by rw [← hw11]; exact (e_up_ne _ _ (Or.inl (by omega))).trans ((j5 275 5 (by first | exact no_96_0 | (unfold mKw; omega))).trans hR)) (by omega) ?_
              refine e_Ok.run (t' := (107, [(0, (1, 275)), (1, (0, n)), (3, (0, E)), (4, (0, 0)), (5, (0, y5))], [(0, 0), (0, R), (1, 356)], w11)) 1 rfl ?_
              refine e_Ok.if1 rfl (fun h14 => ?_) (fun h14 => ?_)
              · replace h14 : (0 : Int) = 0 := h14
                refine e_Ok.run (t' := (117, [(0, (1, 275)), (1, (0, n)), (3, (0, E)), (4, (0, 0)), (5, (0, y5))], [(0, E), (0, R), (1, 356)], w11)) 1 rfl ?_
                refine e_Ok.ast rfl (el_o rfl) rfl rfl (by omega) ?_
                generalize hw15 : e_up w11 356 R E = w15
                have f16 : e_fr (mKw R E) w w15 := e_fr.up f12 hw15 (by unfold mKw; omega)
                have hT17 : e_Has mTy w15 := e_Has.ups hT13 hw15 rfl
                refine e_Ok.rets rfl rfl ?_
                have e5 : w15 355 R = (-1) := (by rw [← hw15]; exact (e_up_ne _ _ (Or.inl (by omega))).trans (by rw [← hw11]; exact e_up_eq _ _ _ _))
                have e6 : w15 356 R = E := (by rw [← hw15]; exact e_up_eq _ _ _ _)
                exact ⟨rfl, f16, Or.inr ⟨by omega, e5, by omega⟩⟩
              · replace h14 : (0 : Int) ≠ 0 := by have q : ¬ ((0 : Int) = 0) := h14; omega
                exfalso; omega
            · replace h10 : (0 : Int) ≠ 0 := by have q : ¬ ((0 : Int) = 0) := h10; omega
              exfalso; omega
          · replace h9 : (y5 : Int) < n := by have q : ¬ ((y5 : Int) ≥ n) := h9; omega
            refine e_Ok.run (t' := (53, [(0, (1, 275)), (1, (0, n)), (3, (0, E)), (4, (0, 0)), (5, (0, y5))], [(0, 0)], v1)) 1 rfl ?_
            refine e_Ok.if1 rfl (fun h18 => ?_) (fun h18 => ?_)
            · replace h18 : (0 : Int) = 0 := h18
              refine e_Ok.run (t' := (79, [(0, (1, 275)), (1, (0, n)), (3, (0, E)), (4, (0, 0)), (5, (0, y5))], [(1, 275)], v1)) 1 rfl ?_
              refine e_Ok.getr (z := 355) rfl (el_o rfl) rfl rfl ((j5 275 115 (by first | exact no_96_0 | (unfold mKw; omega))).trans (e_Has.eq hT rfl)) (by omega) ?_
              refine e_Ok.run (t' := (83, [(0, (1, 275)), (1, (0, n)), (3, (0, E)), (4, (0, 0)), (5, (0, y5))], [(1, 275), (1, 355)], v1)) 1 rfl ?_
              refine e_Ok.getf (z := R) rfl (el_o rfl) rfl rfl ((j5 275 5 (by first | exact no_96_0 | (unfold mKw; omega))).trans hR) (by omega) ?_
              refine e_Ok.run (t' := (88, [(0, (1, 275)), (1, (0, n)), (3, (0, E)), (4, (0, 0)), (5, (0, y5))], [(0, 0), (0, R), (1, 355)], v1)) 1 rfl ?_
              refine e_Ok.if1 rfl (fun h19 => ?_) (fun h19 => ?_)
              · replace h19 : (0 : Int) = 0 := h19
                refine e_Ok.run (t' := (96, [(0, (1, 275)), (1, (0, n)), (3, (0, E)), (4, (0, 0)), (5, (0, y5))], [(0, (-1)), (0, R), (1, 355)], v1)) 1 rfl ?_
                refine e_Ok.ast rfl (el_o rfl) rfl rfl (by omega) ?_
                generalize hw20 : e_up v1 355 R (-1) = w20
                have f21 : e_fr (mKw R E) w w20 := e_fr.up j5 hw20 (by unfold mKw; omega)
                have hT22 : e_Has mTy w20 := e_Has.ups j6 hw20 rfl
                refine e_Ok.run (t' := (98, [(0, (1, 275)), (1, (0, n)), (3, (0, E)), (4, (0, 0)), (5, (0, y5))], [(1, 275)], w20)) 1 rfl ?_
                refine e_Ok.getr (z := 356) rfl (el_o rfl) rfl rfl (by rw [← hw20]; exact (e_up_ne _ _ (Or.inl (by omega))).trans ((j5 275 116 (by first | exact no_96_0 | (unfold mKw; omega))).trans (e_Has.eq hT rfl))) (by omega) ?_
                refine e_Ok.run (t' := (102, [(0, (1, 275)), (1, (0, n)), (3, (0, E)), (4, (0, 0)), (5, (0, y5))], [(1, 275), (1, 356)], w20)) 1 rfl ?_
                refine e_Ok.getf (z := R) rfl (el_o rfl) rfl rfl (by rw [← hw20]; exact (e_up_ne _ _ (Or.inl (by omega))).trans ((j5 275 5 (by first | exact no_96_0 | (unfold mKw; omega))).trans hR)) (by omega) ?_
                refine e_Ok.run (t' := (107, [(0, (1, 275)), (1, (0, n)), (3, (0, E)), (4, (0, 0)), (5, (0, y5))], [(0, 0), (0, R), (1, 356)], w20)) 1 rfl ?_
                refine e_Ok.if1 rfl (fun h23 => ?_) (fun h23 => ?_)
                · replace h23 : (0 : Int) = 0 := h23
                  refine e_Ok.run (t' := (117, [(0, (1, 275)), (1, (0, n)), (3, (0, E)), (4, (0, 0)), (5, (0, y5))], [(0, E), (0, R), (1, 356)], w20)) 1 rfl ?_
                  refine e_Ok.ast rfl (el_o rfl) rfl rfl (by omega) ?_
                  generalize hw24 : e_up w20 356 R E = w24
                  have f25 : e_fr (mKw R E) w w24 := e_fr.up f21 hw24 (by unfold mKw; omega)
                  have hT26 : e_Has mTy w24 := e_Has.ups hT22 hw24 rfl
                  refine e_Ok.rets rfl rfl ?_
                  have e5 : w24 355 R = (-1) := (by rw [← hw24]; exact (e_up_ne _ _ (Or.inl (by omega))).trans (by rw [← hw20]; exact e_up_eq _ _ _ _))
                  have e6 : w24 356 R = E := (by rw [← hw24]; exact e_up_eq _ _ _ _)
                  exact ⟨rfl, f25, Or.inr ⟨by omega, e5, by omega⟩⟩
                · replace h23 : (0 : Int) ≠ 0 := by have q : ¬ ((0 : Int) = 0) := h23; omega
                  exfalso; omega
              · replace h19 : (0 : Int) ≠ 0 := by have q : ¬ ((0 : Int) = 0) := h19; omega
                exfalso; omega
            · replace h18 : (0 : Int) ≠ 0 := by have q : ¬ ((0 : Int) = 0) := h18; omega
              exfalso; omega
      refine e_Ok.sub eAlk (e_sub_of rfl ?_) (hL3 (1001 + 1 : Int).toNat 0 w ⟨(e_fr.refl w), hT, by omega, (fun j g1 g2 => by omega)⟩ (by omega))
      exact ⟨rfl, rfl, rfl, rfl, rfl, trivial⟩
    · replace h2 : (b : Int) ≠ 0 := by have q : ¬ ((b : Int) = 0) := h2; omega
      refine e_Ok.run (t' := (29, [(3, (0, E)), (0, (1, 275)), (1, (0, n)), (2, (0, b))], [(0, n), (0, E)], w)) 2 rfl ?_
      refine e_Ok.add (z := E + n) rfl (by omega) (by omega) ?_
      refine e_Ok.run (t' := (32, [(3, (0, E)), (0, (1, 275)), (1, (0, n)), (2, (0, b))], [(0, 200000), (0, E + n)], w)) 1 rfl ?_
      refine e_Ok.if2 rfl (fun h27 => ?_) (fun h27 => ?_)
      · replace h27 : (E + n : Int) > 200000 := h27
        refine e_Ok.run (t' := (45, [(5, (0, 0)), (4, (0, 0)), (3, (0, E)), (0, (1, 275)), (1, (0, n)), (2, (0, b))], [], w)) 4 rfl ?_
        have hL28 : ∀ (nn : Nat) (y5 : Int) (v1 : eW), e_fr (mKw R E) w v1 ∧ e_Has mTy v1 ∧ (0 ≤ y5 ∧ y5 ≤ n) ∧ (∀ j, 0 ≤ j → j < y5 → v1 354 (E + j) = w 353 j) → 1001 - y5 < nn → e_Ok 20 elay ecode eI d 420 (45, [(0, (1, 275)), (1, (0, n)), (3, (0, E)), (4, (0, 0)), (5, (0, y5))], [], v1) (fun r w' => r = [] ∧ kwR w w' R E n b) := by
          intro nn
          induction nn with
          | zero => intro y5 v1 hj hm; obtain ⟨j30, j31, j32, j33⟩ := hj; exfalso; omega
          | succ nn ih29 =>
            intro y5 v1 hj hm
            obtain ⟨j30, j31, j32, j33⟩ := hj
            refine e_Ok.run (t' := (48, [(0, (1, 275)), (1, (0, n)), (3, (0, E)), (4, (0, 0)), (5, (0, y5))], [(0, n), (0, y5)], v1)) 2 rfl ?_
            refine e_Ok.if2 rfl (fun h34 => ?_) (fun h34 => ?_)
            · replace h34 : (y5 : Int) ≥ n := h34
              refine e_Ok.run (t' := (79, [(0, (1, 275)), (1, (0, n)), (3, (0, E)), (4, (0, 0)), (5, (0, y5))], [(1, 275)], v1)) 1 rfl ?_
              refine e_Ok.getr (z := 355) rfl (el_o rfl) rfl rfl ((j30 275 115 (by first | exact no_96_0 | (unfold mKw; omega))).trans (e_Has.eq hT rfl)) (by omega) ?_
              refine e_Ok.run (t' := (83, [(0, (1, 275)), (1, (0, n)), (3, (0, E)), (4, (0, 0)), (5, (0, y5))], [(1, 275), (1, 355)], v1)) 1 rfl ?_
              refine e_Ok.getf (z := R) rfl (el_o rfl) rfl rfl ((j30 275 5 (by first | exact no_96_0 | (unfold mKw; omega))).trans hR) (by omega) ?_
              refine e_Ok.run (t' := (88, [(0, (1, 275)), (1, (0, n)), (3, (0, E)), (4, (0, 0)), (5, (0, y5))], [(0, 0), (0, R), (1, 355)], v1)) 1 rfl ?_
              refine e_Ok.if1 rfl (fun h35 => ?_) (fun h35 => ?_)
              · replace h35 : (0 : Int) = 0 := h35
                refine e_Ok.run (t' := (96, [(0, (1, 275)), (1, (0, n)), (3, (0, E)), (4, (0, 0)), (5, (0, y5))], [(0, (-1)), (0, R), (1, 355)], v1)) 1 rfl ?_
                refine e_Ok.ast rfl (el_o rfl) rfl rfl (by omega) ?_
                generalize hw36 : e_up v1 355 R (-1) = w36
                have f37 : e_fr (mKw R E) w w36 := e_fr.up j30 hw36 (by unfold mKw; omega)
                have hT38 : e_Has mTy w36 := e_Has.ups j31 hw36 rfl
                refine e_Ok.run (t' := (98, [(0, (1, 275)), (1, (0, n)), (3, (0, E)), (4, (0, 0)), (5, (0, y5))], [(1, 275)], w36)) 1 rfl ?_
                refine e_Ok.getr (z := 356) rfl (el_o rfl) rfl rfl (by rw [← hw36]; exact (e_up_ne _ _ (Or.inl (by omega))).trans ((j30 275 116 (by first | exact no_96_0 | (unfold mKw; omega))).trans (e_Has.eq hT rfl))) (by omega) ?_
                refine e_Ok.run (t' := (102, [(0, (1, 275)), (1, (0, n)), (3, (0, E)), (4, (0, 0)), (5, (0, y5))], [(1, 275), (1, 356)], w36)) 1 rfl ?_
                refine e_Ok.getf (z := R) rfl (el_o rfl) rfl rfl (by rw [← hw36]; exact (e_up_ne _ _ (Or.inl (by omega))).trans ((j30 275 5 (by first | exact no_96_0 | (unfold mKw; omega))).trans hR)) (by omega) ?_
                refine e_Ok.run (t' := (107, [(0, (1, 275)), (1, (0, n)), (3, (0, E)), (4, (0, 0)), (5, (0, y5))], [(0, 0), (0, R), (1, 356)], w36)) 1 rfl ?_
                refine e_Ok.if1 rfl (fun h40 => ?_) (fun h40 => ?_)
                · replace h40 : (0 : Int) = 0 := h40
                  refine e_Ok.run (t' := (117, [(0, (1, 275)), (1, (0, n)), (3, (0, E)), (4, (0, 0)), (5, (0, y5))], [(0, E), (0, R), (1, 356)], w36)) 1 rfl ?_
                  refine e_Ok.ast rfl (el_o rfl) rfl rfl (by omega) ?_
                  generalize hw41 : e_up w36 356 R E = w41
                  have f42 : e_fr (mKw R E) w w41 := e_fr.up f37 hw41 (by unfold mKw; omega)
                  have hT43 : e_Has mTy w41 := e_Has.ups hT38 hw41 rfl
                  refine e_Ok.rets rfl rfl ?_
                  have e5 : w41 355 R = (-1) := (by rw [← hw41]; exact (e_up_ne _ _ (Or.inl (by omega))).trans (by rw [← hw36]; exact e_up_eq _ _ _ _))
                  have e6 : w41 356 R = E := (by rw [← hw41]; exact e_up_eq _ _ _ _)
                  exact ⟨rfl, f42, Or.inr ⟨by omega, e5, by omega⟩⟩
                · replace h40 : (0 : Int) ≠ 0 := by have q : ¬ ((0 : Int) = 0) := h40; omega
                  exfalso; omega
              · replace h35 : (0 : Int) ≠ 0 := by have q : ¬ ((0 : Int) = 0) := h35; omega
                exfalso; omega
            · replace h34 : (y5 : Int) < n := by have q : ¬ ((y5 : Int) ≥ n) := h34; omega
              refine e_Ok.run (t' := (53, [(0, (1, 275)), (1, (0, n)), (3, (0, E)), (4, (0, 0)), (5, (0, y5))], [(0, 0)], v1)) 1 rfl ?_
              refine e_Ok.if1 rfl (fun h44 => ?_) (fun h44 => ?_)
              · replace h44 : (0 : Int) = 0 := h44
                refine e_Ok.run (t' := (79, [(0, (1, 275)), (1, (0, n)), (3, (0, E)), (4, (0, 0)), (5, (0, y5))], [(1, 275)], v1)) 1 rfl ?_
                refine e_Ok.getr (z := 355) rfl (el_o rfl) rfl rfl ((j30 275 115 (by first | exact no_96_0 | (unfold mKw; omega))).trans (e_Has.eq hT rfl)) (by omega) ?_
                refine e_Ok.run (t' := (83, [(0, (1, 275)), (1, (0, n)), (3, (0, E)), (4, (0, 0)), (5, (0, y5))], [(1, 275), (1, 355)], v1)) 1 rfl ?_
                refine e_Ok.getf (z := R) rfl (el_o rfl) rfl rfl ((j30 275 5 (by first | exact no_96_0 | (unfold mKw; omega))).trans hR) (by omega) ?_
                refine e_Ok.run (t' := (88, [(0, (1, 275)), (1, (0, n)), (3, (0, E)), (4, (0, 0)), (5, (0, y5))], [(0, 0), (0, R), (1, 355)], v1)) 1 rfl ?_
                refine e_Ok.if1 rfl (fun h45 => ?_) (fun h45 => ?_)
                · replace h45 : (0 : Int) = 0 := h45
                  refine e_Ok.run (t' := (96, [(0, (1, 275)), (1, (0, n)), (3, (0, E)), (4, (0, 0)), (5, (0, y5))], [(0, (-1)), (0, R), (1, 355)], v1)) 1 rfl ?_
                  refine e_Ok.ast rfl (el_o rfl) rfl rfl (by omega) ?_
                  generalize hw46 : e_up v1 355 R (-1) = w46
                  have f47 : e_fr (mKw R E) w w46 := e_fr.up j30 hw46 (by unfold mKw; omega)
                  have hT48 : e_Has mTy w46 := e_Has.ups j31 hw46 rfl
                  refine e_Ok.run (t' := (98, [(0, (1, 275)), (1, (0, n)), (3, (0, E)), (4, (0, 0)), (5, (0, y5))], [(1, 275)], w46)) 1 rfl ?_
                  refine e_Ok.getr (z := 356) rfl (el_o rfl) rfl rfl (by rw [← hw46]; exact (e_up_ne _ _ (Or.inl (by omega))).trans ((j30 275 116 (by first | exact no_96_0 | (unfold mKw; omega))).trans (e_Has.eq hT rfl))) (by omega) ?_
                  refine e_Ok.run (t' := (102, [(0, (1, 275)), (1, (0, n)), (3, (0, E)), (4, (0, 0)), (5, (0, y5))], [(1, 275), (1, 356)], w46)) 1 rfl ?_
                  refine e_Ok.getf (z := R) rfl (el_o rfl) rfl rfl (by rw [← hw46]; exact (e_up_ne _ _ (Or.inl (by omega))).trans ((j30 275 5 (by first | exact no_96_0 | (unfold mKw; omega))).trans hR)) (by omega) ?_
                  refine e_Ok.run (t' := (107, [(0, (1, 275)), (1, (0, n)), (3, (0, E)), (4, (0, 0)), (5, (0, y5))], [(0, 0), (0, R), (1, 356)], w46)) 1 rfl ?_
                  refine e_Ok.if1 rfl (fun h49 => ?_) (fun h49 => ?_)
                  · replace h49 : (0 : Int) = 0 := h49
                    refine e_Ok.run (t' := (117, [(0, (1, 275)), (1, (0, n)), (3, (0, E)), (4, (0, 0)), (5, (0, y5))], [(0, E), (0, R), (1, 356)], w46)) 1 rfl ?_
                    refine e_Ok.ast rfl (el_o rfl) rfl rfl (by omega) ?_
                    generalize hw50 : e_up w46 356 R E = w50
                    have f51 : e_fr (mKw R E) w w50 := e_fr.up f47 hw50 (by unfold mKw; omega)
                    have hT52 : e_Has mTy w50 := e_Has.ups hT48 hw50 rfl
                    refine e_Ok.rets rfl rfl ?_
                    have e5 : w50 355 R = (-1) := (by rw [← hw50]; exact (e_up_ne _ _ (Or.inl (by omega))).trans (by rw [← hw46]; exact e_up_eq _ _ _ _))
                    have e6 : w50 356 R = E := (by rw [← hw50]; exact e_up_eq _ _ _ _)
                    exact ⟨rfl, f51, Or.inr ⟨by omega, e5, by omega⟩⟩
                  · replace h49 : (0 : Int) ≠ 0 := by have q : ¬ ((0 : Int) = 0) := h49; omega
                    exfalso; omega
                · replace h45 : (0 : Int) ≠ 0 := by have q : ¬ ((0 : Int) = 0) := h45; omega
                  exfalso; omega
              · replace h44 : (0 : Int) ≠ 0 := by have q : ¬ ((0 : Int) = 0) := h44; omega
                exfalso; omega
        refine e_Ok.sub eAlk (e_sub_of rfl ?_) (hL28 (1001 + 1 : Int).toNat 0 w ⟨(e_fr.refl w), hT, by omega, (fun j g1 g2 => by omega)⟩ (by omega))
        exact ⟨rfl, rfl, rfl, rfl, rfl, trivial⟩
      · replace h27 : (E + n : Int) ≤ 200000 := by have q : ¬ ((E + n : Int) > 200000) := h27; omega
        refine e_Ok.run (t' := (45, [(5, (0, 0)), (4, (0, 1)), (3, (0, E)), (0, (1, 275)), (1, (0, n)), (2, (0, b))], [], w)) 5 rfl ?_
        have hL53 : ∀ (nn : Nat) (y5 : Int) (v1 : eW), e_fr (mKw R E) w v1 ∧ e_Has mTy v1 ∧ (0 ≤ y5 ∧ y5 ≤ n) ∧ (∀ j, 0 ≤ j → j < y5 → v1 354 (E + j) = w 353 j) → 1001 - y5 < nn → e_Ok 20 elay ecode eI d 420 (45, [(0, (1, 275)), (1, (0, n)), (3, (0, E)), (4, (0, 1)), (5, (0, y5))], [], v1) (fun r w' => r = [] ∧ kwR w w' R E n b) := by
          intro nn
          induction nn with
          | zero => intro y5 v1 hj hm; obtain ⟨j55, j56, j57, j58⟩ := hj; exfalso; omega
          | succ nn ih54 =>
            intro y5 v1 hj hm
            obtain ⟨j55, j56, j57, j58⟩ := hj
            refine e_Ok.run (t' := (48, [(0, (1, 275)), (1, (0, n)), (3, (0, E)), (4, (0, 1)), (5, (0, y5))], [(0, n), (0, y5)], v1)) 2 rfl ?_
            refine e_Ok.if2 rfl (fun h59 => ?_) (fun h59 => ?_)
            · replace h59 : (y5 : Int) ≥ n := h59
              refine e_Ok.run (t' := (79, [(0, (1, 275)), (1, (0, n)), (3, (0, E)), (4, (0, 1)), (5, (0, y5))], [(1, 275)], v1)) 1 rfl ?_
              refine e_Ok.getr (z := 355) rfl (el_o rfl) rfl rfl ((j55 275 115 (by first | exact no_96_0 | (unfold mKw; omega))).trans (e_Has.eq hT rfl)) (by omega) ?_
              refine e_Ok.run (t' := (83, [(0, (1, 275)), (1, (0, n)), (3, (0, E)), (4, (0, 1)), (5, (0, y5))], [(1, 275), (1, 355)], v1)) 1 rfl ?_
              refine e_Ok.getf (z := R) rfl (el_o rfl) rfl rfl ((j55 275 5 (by first | exact no_96_0 | (unfold mKw; omega))).trans hR) (by omega) ?_
              refine e_Ok.run (t' := (88, [(0, (1, 275)), (1, (0, n)), (3, (0, E)), (4, (0, 1)), (5, (0, y5))], [(0, 1), (0, R), (1, 355)], v1)) 1 rfl ?_
              refine e_Ok.if1 rfl (fun h60 => ?_) (fun h60 => ?_)
              · replace h60 : (1 : Int) = 0 := h60
                exfalso; omega
              · replace h60 : (1 : Int) ≠ 0 := by have q : ¬ ((1 : Int) = 0) := h60; omega
                refine e_Ok.run (t' := (96, [(0, (1, 275)), (1, (0, n)), (3, (0, E)), (4, (0, 1)), (5, (0, y5))], [(0, E), (0, R), (1, 355)], v1)) 2 rfl ?_
                refine e_Ok.ast rfl (el_o rfl) rfl rfl (by omega) ?_
                generalize hw61 : e_up v1 355 R E = w61
                have f62 : e_fr (mKw R E) w w61 := e_fr.up j55 hw61 (by unfold mKw; omega)
                have hT63 : e_Has mTy w61 := e_Has.ups j56 hw61 rfl
                refine e_Ok.run (t' := (98, [(0, (1, 275)), (1, (0, n)), (3, (0, E)), (4, (0, 1)), (5, (0, y5))], [(1, 275)], w61)) 1 rfl ?_
                refine e_Ok.getr (z := 356) rfl (el_o rfl) rfl rfl (by rw [← hw61]; exact (e_up_ne _ _ (Or.inl (by omega))).trans ((j55 275 116 (by first | exact no_96_0 | (unfold mKw; omega))).trans (e_Has.eq hT rfl))) (by omega) ?_
                refine e_Ok.run (t' := (102, [(0, (1, 275)), (1, (0, n)), (3, (0, E)), (4, (0, 1)), (5, (0, y5))], [(1, 275), (1, 356)], w61)) 1 rfl ?_
                refine e_Ok.getf (z := R) rfl (el_o rfl) rfl rfl (by rw [← hw61]; exact (e_up_ne _ _ (Or.inl (by omega))).trans ((j55 275 5 (by first | exact no_96_0 | (unfold mKw; omega))).trans hR)) (by omega) ?_
                refine e_Ok.run (t' := (107, [(0, (1, 275)), (1, (0, n)), (3, (0, E)), (4, (0, 1)), (5, (0, y5))], [(0, 1), (0, R), (1, 356)], w61)) 1 rfl ?_
                refine e_Ok.if1 rfl (fun h64 => ?_) (fun h64 => ?_)
                · replace h64 : (1 : Int) = 0 := h64
                  exfalso; omega
                · replace h64 : (1 : Int) ≠ 0 := by have q : ¬ ((1 : Int) = 0) := h64; omega
                  refine e_Ok.run (t' := (112, [(0, (1, 275)), (1, (0, n)), (3, (0, E)), (4, (0, 1)), (5, (0, y5))], [(0, n), (0, E), (0, R), (1, 356)], w61)) 2 rfl ?_
                  refine e_Ok.add (z := E + n) rfl (by omega) (by omega) ?_
                  refine e_Ok.run (t' := (117, [(0, (1, 275)), (1, (0, n)), (3, (0, E)), (4, (0, 1)), (5, (0, y5))], [(0, E + n), (0, R), (1, 356)], w61)) 1 rfl ?_
                  refine e_Ok.ast rfl (el_o rfl) rfl rfl (by omega) ?_
                  generalize hw65 : e_up w61 356 R (E + n) = w65
                  have f66 : e_fr (mKw R E) w w65 := e_fr.up f62 hw65 (by unfold mKw; omega)
                  have hT67 : e_Has mTy w65 := e_Has.ups hT63 hw65 rfl
                  refine e_Ok.rets rfl rfl ?_
                  have e5 : w65 355 R = E := (by rw [← hw65]; exact (e_up_ne _ _ (Or.inl (by omega))).trans (by rw [← hw61]; exact e_up_eq _ _ _ _))
                  have e6 : w65 356 R = E + n := (by rw [← hw65]; exact e_up_eq _ _ _ _)
                  exact ⟨rfl, f66, Or.inl ⟨by omega, by omega, by omega, by omega, (fun j g1 g2 => Eq.trans (by rw [← hw65]; exact (e_up_ne _ _ (Or.inl (by omega))).trans (by rw [← hw61]; exact (e_up_ne _ _ (Or.inl (by omega))).trans rfl)) (j58 j g1 (by omega)))⟩⟩
            · replace h59 : (y5 : Int) < n := by have q : ¬ ((y5 : Int) ≥ n) := h59; omega
              refine e_Ok.run (t' := (53, [(0, (1, 275)), (1, (0, n)), (3, (0, E)), (4, (0, 1)), (5, (0, y5))], [(0, 1)], v1)) 1 rfl ?_
              refine e_Ok.if1 rfl (fun h68 => ?_) (fun h68 => ?_)
              · replace h68 : (1 : Int) = 0 := h68
                exfalso; omega
              · replace h68 : (1 : Int) ≠ 0 := by have q : ¬ ((1 : Int) = 0) := h68; omega
                refine e_Ok.run (t' := (57, [(0, (1, 275)), (1, (0, n)), (3, (0, E)), (4, (0, 1)), (5, (0, y5))], [(1, 275)], v1)) 1 rfl ?_
                refine e_Ok.getr (z := 354) rfl (el_o rfl) rfl rfl ((j55 275 114 (by first | exact no_96_0 | (unfold mKw; omega))).trans (e_Has.eq hT rfl)) (by omega) ?_
                refine e_Ok.run (t' := (63, [(0, (1, 275)), (1, (0, n)), (3, (0, E)), (4, (0, 1)), (5, (0, y5))], [(0, y5), (0, E), (1, 354)], v1)) 2 rfl ?_
                refine e_Ok.add (z := E + y5) rfl (by omega) (by omega) ?_
                refine e_Ok.run (t' := (65, [(0, (1, 275)), (1, (0, n)), (3, (0, E)), (4, (0, 1)), (5, (0, y5))], [(1, 275), (0, E + y5), (1, 354)], v1)) 1 rfl ?_
                refine e_Ok.getr (z := 353) rfl (el_o rfl) rfl rfl ((j55 275 113 (by first | exact no_96_0 | (unfold mKw; omega))).trans (e_Has.eq hT rfl)) (by omega) ?_
                refine e_Ok.run (t' := (70, [(0, (1, 275)), (1, (0, n)), (3, (0, E)), (4, (0, 1)), (5, (0, y5))], [(0, y5), (1, 353), (0, E + y5), (1, 354)], v1)) 1 rfl ?_
                have h69 := (hfo (by omega) y5 (by omega) (by omega))
                refine e_Ok.ald (z := w 353 y5) rfl (el_o rfl) rfl (by omega) ((j55 353 y5 (by first | exact no_96_1 | (unfold mKw; omega))).trans rfl) (by omega) ?_
                refine e_Ok.ast rfl (el_o rfl) rfl rfl (by omega) ?_
                generalize hw70 : e_up v1 354 (E + y5) (w 353 y5) = w70
                have f71 : e_fr (mKw R E) w w70 := e_fr.up j55 hw70 (by unfold mKw; omega)
                have hT72 : e_Has mTy w70 := e_Has.ups j56 hw70 rfl
                refine e_Ok.inc (z := y5 + 1) rfl rfl (by omega) (by omega) ?_
                show e_Ok 20 elay ecode eI d 420 (75, [(5, (0, y5 + 1)), (0, (1, 275)), (1, (0, n)), (3, (0, E)), (4, (0, 1))], [], w70) _
                refine e_Ok.run (t' := (45, [(5, (0, y5 + 1)), (0, (1, 275)), (1, (0, n)), (3, (0, E)), (4, (0, 1))], [], w70)) 1 rfl ?_
                refine e_Ok.sub eAlk (e_sub_of rfl ?_) (ih54 (y5 + 1) w70 ⟨f71, hT72, by omega, (fun j g1 g2 => Decidable.byCases (p := j = y5) (fun ej => by rw [ej, show E + y5 = E + y5 by omega, ← hw70]; exact e_up_eq _ _ _ _) (fun ej => Eq.trans (show w70 354 (E + j) = v1 354 (E + j) from by rw [← hw70]; exact e_up_ne _ _ (Or.inr (by omega))) (j58 j g1 (by omega))))⟩ (by omega))
                exact ⟨rfl, rfl, rfl, rfl, rfl, trivial⟩
        refine e_Ok.sub eAlk (e_sub_of rfl ?_) (hL53 (1001 + 1 : Int).toNat 0 w ⟨(e_fr.refl w), hT, by omega, (fun j g1 g2 => by omega)⟩ (by omega))
        exact ⟨rfl, rfl, rfl, rfl, rfl, trivial⟩
  · replace h1 : (R : Int) = 0 := by have q : ¬ ((R : Int) ≠ 0) := h1; omega
    exfalso; omega
theorem c_420 {d : Nat} {w : eW} (hT : e_Has mTy w) {R E n b : Int} (hR : w 275 5 = R) (hRr : 0 ≤ R ∧ R ≤ 1999) (hE0 : R = 0 → E = 0) (hE : 1 ≤ R → w 356 (R - 1) = E) (hEr : 0 ≤ E ∧ E ≤ 200000) (hn : 0 ≤ n ∧ n ≤ 1000) (hb : 0 ≤ b ∧ b ≤ 1) (hfo : b = 1 → ∀ i, 0 ≤ i → i ≤ n - 1 → -2147483648 ≤ w 353 i ∧ w 353 i ≤ 2147483647) : e_Ok 20 elay ecode eI d 420 (0, [(0, (1, 275)), (1, (0, n)), (2, (0, b))], [], w) (fun r w' => r = [] ∧ kwR w w' R E n b) := by
  by_cases h : R = 0
  · have e := hE0 h
    subst h
    subst e
    exact c_420_0 hT hR hn hb hfo
  · exact c_420_1 hT hR (by omega) (hE (by omega)) hEr hn hb hfo
end
