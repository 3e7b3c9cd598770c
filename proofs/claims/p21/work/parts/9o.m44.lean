noncomputable section
theorem c_410 {d : Nat} {w : eW} (hT : e_Has mTy w) {x j m : Int} (hx : 0 ≤ x ∧ x ≤ 1000) (hj : 0 ≤ j ∧ j < m) (hm : m ≤ 6) (hN : ∀ k, 0 ≤ k → k < m → 1 ≤ w 347 k ∧ w 347 k ≤ 200001) : e_Ok 20 elay ecode eI d 410 (0, [(0, (1, 275)), (1, (0, x)), (2, (0, j))], [], w) (fun r w' => r = [(0, dv (fun k => w 347 k) x j.toNat % w 347 j)] ∧ w = w') := by
  refine e_Ok.run (t' := (5, [(4, (0, 0)), (3, (0, x)), (0, (1, 275)), (1, (0, x)), (2, (0, j))], [], w)) 4 rfl ?_
  have hL1 : ∀ (nn : Nat) (y3 : Int) (y4 : Int), (0 ≤ y4 ∧ y4 ≤ j) ∧ (0 ≤ y3 ∧ y3 ≤ 1000) ∧ y3 = dv (fun k => w 347 k) x y4.toNat → 7 - y4 < nn → e_Ok 20 elay ecode eI d 410 (5, [(0, (1, 275)), (2, (0, j)), (3, (0, y3)), (4, (0, y4))], [], w) (fun r w' => r = [(0, dv (fun k => w 347 k) x j.toNat % w 347 j)] ∧ w = w') := by
    intro nn
    induction nn with
    | zero => intro y3 y4 hj hm; obtain ⟨j3, j4, j5⟩ := hj; exfalso; omega
    | succ nn ih2 =>
      intro y3 y4 hj hm
      obtain ⟨j3, j4, j5⟩ := hj
      refine e_Ok.run (t' := (8, [(0, (1, 275)), (2, (0, j)), (3, (0, y3)), (4, (0, y4))], [(0, j), (0, y4)], w)) 2 rfl ?_
      refine e_Ok.if2 rfl (fun h6 => ?_) (fun h6 => ?_)
      · replace h6 : (y4 : Int) ≥ j := h6
        refine e_Ok.run (t' := (29, [(0, (1, 275)), (2, (0, j)), (3, (0, y3)), (4, (0, y4))], [(1, 275), (0, y3)], w)) 2 rfl ?_
        refine e_Ok.getr (z := 347) rfl (el_o rfl) rfl rfl (e_Has.eq hT rfl) (by omega) ?_
        refine e_Ok.run (t' := (33, [(0, (1, 275)), (2, (0, j)), (3, (0, y3)), (4, (0, y4))], [(0, j), (1, 347), (0, y3)], w)) 1 rfl ?_
        have h7 := (hN j (by omega) (by omega))
        refine e_Ok.ald (z := w 347 j) rfl (el_o rfl) rfl (by omega) rfl (by omega) ?_
        refine e_Ok.remn (fun z8 hz8 => ?_) rfl (by omega) (by omega)
        replace hz8 : z8 = y3 % (w 347 j) := hz8
        refine e_Ok.rets rfl rfl ?_
        exact ⟨by rw [hz8, j5, show y4 = j by omega], rfl⟩
      · replace h6 : (y4 : Int) < j := by have q : ¬ ((y4 : Int) ≥ j) := h6; omega
        refine e_Ok.run (t' := (13, [(0, (1, 275)), (2, (0, j)), (3, (0, y3)), (4, (0, y4))], [(1, 275), (0, y3)], w)) 2 rfl ?_
        refine e_Ok.getr (z := 347) rfl (el_o rfl) rfl rfl (e_Has.eq hT rfl) (by omega) ?_
        refine e_Ok.run (t' := (18, [(0, (1, 275)), (2, (0, j)), (3, (0, y3)), (4, (0, y4))], [(0, y4), (1, 347), (0, y3)], w)) 1 rfl ?_
        have h9 := (hN y4 (by omega) (by omega))
        refine e_Ok.ald (z := w 347 y4) rfl (el_o rfl) rfl (by omega) rfl (by omega) ?_
        refine e_Ok.divn (fun z10 hz10 => ?_) rfl (by omega) (by omega)
        replace hz10 : z10 = y3 / (w 347 y4) := hz10
        have hzb : 0 ≤ z10 ∧ z10 ≤ y3 := ⟨by rw [hz10]; exact Int.ediv_nonneg (by omega) (by omega), by rw [hz10]; exact Int.ediv_le_self _ (by omega)⟩
        refine e_Ok.run (t' := (21, [(3, (0, z10)), (0, (1, 275)), (2, (0, j)), (4, (0, y4))], [], w)) 1 rfl ?_
        refine e_Ok.inc (z := y4 + 1) rfl rfl (by omega) (by omega) ?_
        show e_Ok 20 elay ecode eI d 410 (24, [(4, (0, y4 + 1)), (3, (0, z10)), (0, (1, 275)), (2, (0, j))], [], w) _
        refine e_Ok.run (t' := (5, [(4, (0, y4 + 1)), (3, (0, z10)), (0, (1, 275)), (2, (0, j))], [], w)) 1 rfl ?_
        refine e_Ok.sub eAlk (e_sub_of rfl ?_) (ih2 z10 (y4 + 1) ⟨by omega, by omega, (by rw [show (y4 + 1).toNat = y4.toNat + 1 by omega]; show z10 = dv (fun k => w 347 k) x y4.toNat / w 347 (y4.toNat : Int); rw [← j5, show ((y4.toNat : Nat) : Int) = y4 by omega]; exact hz10)⟩ (by omega))
        exact ⟨rfl, rfl, rfl, rfl, trivial⟩
  refine e_Ok.sub eAlk (e_sub_of rfl ?_) (hL1 (7 + 1 : Int).toNat x 0 ⟨by omega, by omega, rfl⟩ (by omega))
  exact ⟨rfl, rfl, rfl, rfl, trivial⟩
theorem c_411 {d : Nat} {w : eW} (hT : e_Has mTy w) {j m : Int} (hj : 0 ≤ j ∧ j ≤ m) (hm : m ≤ 6) (hN : ∀ k, 0 ≤ k → k < m → 1 ≤ w 347 k ∧ w 347 k ≤ 200001) (hP : prd (fun k => w 347 k) m.toNat ≤ 1000) : e_Ok 20 elay ecode eI d 411 (0, [(0, (1, 275)), (1, (0, j))], [], w) (fun r w' => r = [(0, prd (fun k => w 347 k) j.toNat)] ∧ w = w') := by
  refine e_Ok.run (t' := (4, [(3, (0, 0)), (2, (0, 1)), (0, (1, 275)), (1, (0, j))], [], w)) 4 rfl ?_
  have hL1 : ∀ (nn : Nat) (y2 : Int) (y3 : Int), (0 ≤ y3 ∧ y3 ≤ j ∧ 1 ≤ y2 ∧ y2 ≤ 1000) ∧ y2 = prd (fun k => w 347 k) y3.toNat → 7 - y3 < nn → e_Ok 20 elay ecode eI d 411 (4, [(0, (1, 275)), (1, (0, j)), (2, (0, y2)), (3, (0, y3))], [], w) (fun r w' => r = [(0, prd (fun k => w 347 k) j.toNat)] ∧ w = w') := by
    intro nn
    induction nn with
    | zero => intro y2 y3 hj hm; obtain ⟨j3, j4⟩ := hj; exfalso; omega
    | succ nn ih2 =>
      intro y2 y3 hj hm
      obtain ⟨j3, j4⟩ := hj
      refine e_Ok.run (t' := (6, [(0, (1, 275)), (1, (0, j)), (2, (0, y2)), (3, (0, y3))], [(0, j), (0, y3)], w)) 2 rfl ?_
      refine e_Ok.if2 rfl (fun h5 => ?_) (fun h5 => ?_)
      · replace h5 : (y3 : Int) ≥ j := h5
        refine e_Ok.run (t' := (25, [(0, (1, 275)), (1, (0, j)), (2, (0, y2)), (3, (0, y3))], [(0, y2)], w)) 1 rfl ?_
        refine e_Ok.rets rfl rfl ?_
        exact ⟨by rw [j4, show y3 = j by omega], rfl⟩
      · replace h5 : (y3 : Int) < j := by have q : ¬ ((y3 : Int) ≥ j) := h5; omega
        refine e_Ok.run (t' := (11, [(0, (1, 275)), (1, (0, j)), (2, (0, y2)), (3, (0, y3))], [(1, 275), (0, y2)], w)) 2 rfl ?_
        refine e_Ok.getr (z := 347) rfl (el_o rfl) rfl rfl (e_Has.eq hT rfl) (by omega) ?_
        refine e_Ok.run (t' := (15, [(0, (1, 275)), (1, (0, j)), (2, (0, y2)), (3, (0, y3))], [(0, y3), (1, 347), (0, y2)], w)) 1 rfl ?_
        have h6 := (hN y3 (by omega) (by omega))
        refine e_Ok.ald (z := w 347 y3) rfl (el_o rfl) rfl (by omega) rfl (by omega) ?_
        have hp1 : prd (fun k => w 347 k) (y3 + 1).toNat = y2 * w 347 y3 := by rw [show (y3 + 1).toNat = y3.toNat + 1 by omega]; show prd (fun k => w 347 k) y3.toNat * w 347 (y3.toNat : Int) = _; rw [← j4, show ((y3.toNat : Nat) : Int) = y3 by omega]
        have hpl := prd_le (f := (fun k => w 347 k)) (m := (y3 + 1).toNat) (n := m.toNat) (by omega) (fun k g1 g2 => (hN k g1 (by omega)).1)
        have hpp := prd_pos (f := (fun k => w 347 k)) (n := (y3 + 1).toNat) (fun k g1 g2 => (hN k g1 (by omega)).1)
        have hpb : 1 ≤ y2 * (w 347 y3) ∧ y2 * (w 347 y3) ≤ 1000 := by rw [← hp1]; omega
        refine e_Ok.mul (z := y2 * (w 347 y3)) rfl (by omega) (by omega) ?_
        refine e_Ok.run (t' := (18, [(2, (0, y2 * (w 347 y3))), (0, (1, 275)), (1, (0, j)), (3, (0, y3))], [], w)) 1 rfl ?_
        refine e_Ok.inc (z := y3 + 1) rfl rfl (by omega) (by omega) ?_
        show e_Ok 20 elay ecode eI d 411 (21, [(3, (0, y3 + 1)), (2, (0, y2 * (w 347 y3))), (0, (1, 275)), (1, (0, j))], [], w) _
        refine e_Ok.run (t' := (4, [(3, (0, y3 + 1)), (2, (0, y2 * (w 347 y3))), (0, (1, 275)), (1, (0, j))], [], w)) 1 rfl ?_
        refine e_Ok.sub eAlk (e_sub_of rfl ?_) (ih2 (y2 * (w 347 y3)) (y3 + 1) ⟨by omega, hp1.symm⟩ (by omega))
        exact ⟨rfl, rfl, rfl, rfl, trivial⟩
  refine e_Ok.sub eAlk (e_sub_of rfl ?_) (hL1 (7 + 1 : Int).toNat 1 0 ⟨by omega, rfl⟩ (by omega))
  exact ⟨rfl, rfl, rfl, rfl, trivial⟩
end
