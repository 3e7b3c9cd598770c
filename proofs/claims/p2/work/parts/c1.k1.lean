noncomputable section
/-! the class: the tape -/
def kTp (c k : Int) : Prop := (c = 1 ∧ k = 0) ∨ c = 5
theorem c_118 {d : Nat} {w : eW} (hT : e_Has kTy w) {a : Int} (ha : -2147483648 ≤ a ∧ a ≤ 2147483647) (hl : 0 ≤ w 1 0 ∧ w 1 0 ≤ 3996) : e_Ok 20 elay ecode eI d 118 (0, [(0, (1, 1)), (1, (0, a))], [], w) (fun r w' => r = [] ∧ e_fr kTp w w' ∧ e_Has kTy w' ∧ w' 1 0 = w 1 0 + 4) := by
  refine e_Ok.run (t' := (3, [(2, (0, 24)), (0, (1, 1)), (1, (0, a))], [], w)) 2 rfl ?_
  have hL1 : ∀ (nn : Nat) (y2 : Int) (v1 : eW), e_fr kTp w v1 ∧ e_Has kTy v1 ∧ ((8 * (v1 1 0 - w 1 0) = 24 - y2 ∧ -8 ≤ y2 ∧ y2 ≤ 24)) → y2 + 8 < nn → e_Ok 20 elay ecode eI d 118 (3, [(0, (1, 1)), (1, (0, a)), (2, (0, y2))], [], v1) (fun r w' => r = [] ∧ e_fr kTp w w' ∧ e_Has kTy w' ∧ w' 1 0 = w 1 0 + 4) := by
    intro nn
    induction nn with
    | zero => intro y2 v1 hj hm; obtain ⟨j3, j4, j5⟩ := hj; exfalso; omega
    | succ nn ih2 =>
      intro y2 v1 hj hm
      obtain ⟨j3, j4, j5⟩ := hj
      refine e_Ok.run (t' := (4, [(0, (1, 1)), (1, (0, a)), (2, (0, y2))], [(0, y2)], v1)) 1 rfl ?_
      refine e_Ok.if1 rfl (fun h6 => ?_) (fun h6 => ?_)
      · replace h6 : (y2 : Int) < 0 := h6
        refine e_Ok.rets rfl rfl ?_
        exact ⟨rfl, j3, j4, by omega⟩
      · replace h6 : (y2 : Int) ≥ 0 := by have q : ¬ ((y2 : Int) < 0) := h6; omega
        refine e_Ok.run (t' := (8, [(0, (1, 1)), (1, (0, a)), (2, (0, y2))], [(1, 1)], v1)) 1 rfl ?_
        refine e_Ok.getf (z := v1 1 0) rfl rfl rfl rfl rfl (by omega) ?_
        refine e_Ok.run (t' := (14, [(0, (1, 1)), (1, (0, a)), (2, (0, y2))], [(0, 4000), (0, v1 1 0)], v1)) 1 rfl ?_
        refine e_Ok.if2 rfl (fun h7 => ?_) (fun h7 => ?_)
        · replace h7 : (v1 1 0 : Int) ≥ 4000 := h7
          refine e_Ok.rets rfl rfl ?_
          exact ⟨rfl, j3, j4, by omega⟩
        · replace h7 : (v1 1 0 : Int) < 4000 := by have q : ¬ ((v1 1 0 : Int) ≥ 4000) := h7; omega
          refine e_Ok.run (t' := (18, [(0, (1, 1)), (1, (0, a)), (2, (0, y2))], [(1, 1)], v1)) 1 rfl ?_
          refine e_Ok.getr (z := 5) rfl rfl rfl rfl ((j3 1 4 (by unfold kTp; omega)).trans (e_Has.eq hT rfl)) (by omega) ?_
          refine e_Ok.run (t' := (22, [(0, (1, 1)), (1, (0, a)), (2, (0, y2))], [(1, 1), (1, 5)], v1)) 1 rfl ?_
          refine e_Ok.getf (z := v1 1 0) rfl rfl rfl rfl rfl (by omega) ?_
          refine e_Ok.run (t' := (27, [(0, (1, 1)), (1, (0, a)), (2, (0, y2))], [(0, y2), (0, a), (0, v1 1 0), (1, 5)], v1)) 2 rfl ?_
          refine e_Ok.any rfl (eB_any _ _) (fun z8 z8a z8b => ?_)
          refine e_Ok.i2b rfl (fun z9 hz9 => ?_)
          obtain ⟨z10, hz10, z10r⟩ := e_nar_2 z9
          refine e_Ok.ast rfl rfl rfl hz10 (by omega) ?_
          generalize hw11 : e_up v1 5 (v1 1 0) z10 = w11
          have f12 : e_fr kTp w w11 := e_fr.up j3 hw11 (by unfold kTp; omega)
          have hT13 : e_Has kTy w11 := e_Has.upr j4 hw11 rfl (by omega)
          refine e_Ok.run (t' := (32, [(0, (1, 1)), (1, (0, a)), (2, (0, y2))], [(1, 1), (1, 1)], w11)) 2 rfl ?_
          refine e_Ok.getf (z := v1 1 0) rfl rfl rfl rfl (by rw [← hw11]; exact (e_up_ne _ _ (Or.inl (by omega))).trans rfl) (by omega) ?_
          refine e_Ok.run (t' := (36, [(0, (1, 1)), (1, (0, a)), (2, (0, y2))], [(0, 1), (0, v1 1 0), (1, 1)], w11)) 1 rfl ?_
          refine e_Ok.add (z := v1 1 0 + 1) rfl (by omega) (by omega) ?_
          refine e_Ok.putf rfl rfl rfl rfl ?_
          generalize hw14 : e_up w11 1 0 (v1 1 0 + 1) = w14
          have f15 : e_fr kTp w w14 := e_fr.up f12 hw14 (by unfold kTp; omega)
          have hT16 : e_Has kTy w14 := e_Has.upr hT13 hw14 rfl (by omega)
          refine e_Ok.inc (z := y2 - 8) rfl rfl (by omega) (by omega) ?_
          show e_Ok 20 elay ecode eI d 118 (43, [(2, (0, y2 - 8)), (0, (1, 1)), (1, (0, a))], [], w14) _
          refine e_Ok.run (t' := (3, [(2, (0, y2 - 8)), (0, (1, 1)), (1, (0, a))], [], w14)) 1 rfl ?_
          refine e_Ok.sub eAlk (e_sub_of rfl ?_) (ih2 (y2 - 8) w14 ⟨f15, hT16, (by have e1 : w14 1 0 = v1 1 0 + 1 := (by rw [← hw14]; exact e_up_eq _ _ _ _); omega)⟩ (by omega))
          exact ⟨rfl, rfl, rfl, trivial⟩
  refine e_Ok.sub eAlk (e_sub_of rfl ?_) (hL1 (33 + 1 : Int).toNat 24 w ⟨(e_fr.refl w), hT, by omega⟩ (by omega))
  exact ⟨rfl, rfl, rfl, trivial⟩
end
