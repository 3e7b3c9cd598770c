noncomputable section
theorem no_69_0 {z : Int} {k : Int} : ¬ mNt z 275 k := by unfold mNt; omega
theorem no_69_1 {z : Int} {k : Int} : ¬ mNt z 337 k := by unfold mNt; omega
set_option maxHeartbeats 4000000 in
theorem c_359 {d : Nat} (hd : 21 ≤ d) {w : eW} (hT : e_Has mTy w) {a q : Int} (ha : 0 ≤ a ∧ a ≤ 3) (hq : 0 ≤ q ∧ q ≤ 31) (hent : 0 ≤ w 337 (32 * a + q) ∧ w 337 (32 * a + q) ≤ 9999) (htm : w 276 0 ≤ 6000) : e_Ok 20 elay ecode eI d 359 (0, [(0, (1, 275)), (1, (0, a)), (2, (0, q))], [], w) (fun r w' => ∃ z : Int, r = [(0, z)] ∧ ((z = -1 ∧ w = w') ∨ ((0 ≤ z ∧ z ≤ 15) ∧ (w 276 (1260 * z + 416) = 0 ∨ w 276 (1260 * z + 416) = 6) ∧ e_fr (mNt z) w w' ∧ e_Has mTy w' ∧ w' 276 (1260 * z + 416) = 1 ∧ w' 276 (1260 * z + 417) = a ∧ w' 276 (1260 * z + 424) = -1 ∧ w' 276 (1260 * z + 428) = 1 ∧ w' 276 (1260 * z + 429) = 0 ∧ w' 276 (1260 * z + 436) = w 337 (32 * a + q) ∧ w' 276 (1260 * z + 437) = 0))) := by
  obtain ⟨d, rfl⟩ : ∃ e, d = e + 1 := ⟨d - 1, by omega⟩
  have ht0 := e_Has.get hT (c := 276) (k := 0) (lo := 0) (hi := 6000) rfl (by decide)
  refine e_Ok.run (t' := (2, [(3, (0, 0)), (0, (1, 275)), (1, (0, a)), (2, (0, q))], [], w)) 2 rfl ?_
  have hL1 : ∀ (nn : Nat) (y3 : Int), 0 ≤ y3 ∧ y3 ≤ 16 → 17 - y3 < nn → e_Ok 20 elay ecode eI (d + 1) 359 (2, [(0, (1, 275)), (1, (0, a)), (2, (0, q)), (3, (0, y3))], [], w) (fun r w' => ∃ z : Int, r = [(0, z)] ∧ ((z = -1 ∧ w = w') ∨ ((0 ≤ z ∧ z ≤ 15) ∧ (w 276 (1260 * z + 416) = 0 ∨ w 276 (1260 * z + 416) = 6) ∧ e_fr (mNt z) w w' ∧ e_Has mTy w' ∧ w' 276 (1260 * z + 416) = 1 ∧ w' 276 (1260 * z + 417) = a ∧ w' 276 (1260 * z + 424) = -1 ∧ w' 276 (1260 * z + 428) = 1 ∧ w' 276 (1260 * z + 429) = 0 ∧ w' 276 (1260 * z + 436) = w 337 (32 * a + q) ∧ w' 276 (1260 * z + 437) = 0))) := by
    intro nn
    induction nn with
    | zero => intro y3 hj hm; obtain j3 := hj; exfalso; omega
    | succ nn ih2 =>
      intro y3 hj hm
      obtain j3 := hj
      refine e_Ok.run (t' := (5, [(0, (1, 275)), (1, (0, a)), (2, (0, q)), (3, (0, y3))], [(0, 16), (0, y3)], w)) 2 rfl ?_
      refine e_Ok.if2 rfl (fun h4 => ?_) (fun h4 => ?_)
      · replace h4 : (y3 : Int) ≥ 16 := h4
        refine e_Ok.run (t' := (43, [(0, (1, 275)), (1, (0, a)), (2, (0, q)), (3, (0, y3))], [(0, 16), (0, y3)], w)) 2 rfl ?_
        refine e_Ok.if2 rfl (fun h5 => ?_) (fun h5 => ?_)
        · replace h5 : (y3 : Int) ≠ 16 := h5
          exfalso; omega
        · replace h5 : (y3 : Int) = 16 := by have q : ¬ ((y3 : Int) ≠ 16) := h5; omega
          refine e_Ok.run (t' := (47, [(0, (1, 275)), (1, (0, a)), (2, (0, q)), (3, (0, y3))], [(0, (-1))], w)) 1 rfl ?_
          refine e_Ok.rets rfl rfl ?_
          exact ⟨_, rfl, Or.inl ⟨rfl, rfl⟩⟩
      · replace h4 : (y3 : Int) < 16 := by have q : ¬ ((y3 : Int) ≥ 16) := h4; omega
        refine e_Ok.run (t' := (9, [(0, (1, 275)), (1, (0, a)), (2, (0, q)), (3, (0, y3))], [(1, 275)], w)) 1 rfl ?_
        refine e_Ok.getr (z := 276) rfl (el_o rfl) rfl rfl (e_Has.eq hT rfl) (by omega) ?_
        refine e_Ok.run (t' := (13, [(0, (1, 275)), (1, (0, a)), (2, (0, q)), (3, (0, y3))], [(0, y3), (1, 276)], w)) 1 rfl ?_
        refine e_Ok.callS rfl (by omega) rfl rfl (c_269 (by omega)) (fun r6 w7 h8 => ?_)
        obtain ⟨rfl, rfl⟩ := h8
        show e_Ok 20 elay ecode eI (d + 1) 359 (16, [(0, (1, 275)), (1, (0, a)), (2, (0, q)), (3, (0, y3))], [(0, 1260 * y3 + 416), (1, 276)], w) _
        have h9 := (e_Has.get hT (c := 276) (k := 1260 * y3 + 416) (lo := 0) (hi := 7) (nR_TSTATE (t := y3) (by omega)) (by decide))
        refine e_Ok.ald (z := w 276 (1260 * y3 + 416)) rfl (el_o rfl) rfl (by omega) rfl (by omega) ?_
        refine e_Ok.if1 rfl (fun h10 => ?_) (fun h10 => ?_)
        · replace h10 : (w 276 (1260 * y3 + 416) : Int) = 0 := h10
          refine e_Ok.run (t' := (43, [(0, (1, 275)), (1, (0, a)), (2, (0, q)), (3, (0, y3))], [(0, 16), (0, y3)], w)) 2 rfl ?_
          refine e_Ok.if2 rfl (fun h11 => ?_) (fun h11 => ?_)
          · replace h11 : (y3 : Int) ≠ 16 := h11
            refine e_Ok.run (t' := (49, [(0, (1, 275)), (1, (0, a)), (2, (0, q)), (3, (0, y3))], [(0, y3)], w)) 1 rfl ?_
            refine e_Ok.callS rfl (by omega) rfl rfl (c_269 (by omega)) (fun r12 w13 h14 => ?_)
            obtain ⟨rfl, rfl⟩ := h14
            show e_Ok 20 elay ecode eI (d + 1) 359 (52, [(0, (1, 275)), (1, (0, a)), (2, (0, q)), (3, (0, y3))], [(0, 1260 * y3 + 416)], w) _
            refine e_Ok.run (t' := (57, [(5, (0, 0)), (4, (0, 1260 * y3 + 416)), (0, (1, 275)), (1, (0, a)), (2, (0, q)), (3, (0, y3))], [], w)) 3 rfl ?_
            have hL15 : ∀ (nn : Nat) (y5 : Int) (v2 : eW), e_fr (mNt y3) w v2 ∧ e_Has mTy v2 ∧ (0 ≤ y5 ∧ y5 ≤ 20) ∧ (∀ j, 0 ≤ j → j < y5 → v2 276 (1260 * y3 + j + 416) = 0) → 21 - y5 < nn → e_Ok 20 elay ecode eI (d + 1) 359 (57, [(0, (1, 275)), (1, (0, a)), (2, (0, q)), (3, (0, y3)), (4, (0, 1260 * y3 + 416)), (5, (0, y5))], [], v2) (fun r w' => ∃ z : Int, r = [(0, z)] ∧ ((z = -1 ∧ w = w') ∨ ((0 ≤ z ∧ z ≤ 15) ∧ (w 276 (1260 * z + 416) = 0 ∨ w 276 (1260 * z + 416) = 6) ∧ e_fr (mNt z) w w' ∧ e_Has mTy w' ∧ w' 276 (1260 * z + 416) = 1 ∧ w' 276 (1260 * z + 417) = a ∧ w' 276 (1260 * z + 424) = -1 ∧ w' 276 (1260 * z + 428) = 1 ∧ w' 276 (1260 * z + 429) = 0 ∧ w' 276 (1260 * z + 436) = w 337 (32 * a + q) ∧ w' 276 (1260 * z + 437) = 0))) := by
              intro nn
              induction nn with
              | zero => intro y5 v2 hj hm; obtain ⟨j17, j18, j19, j20⟩ := hj; exfalso; omega
              | succ nn ih16 =>
                intro y5 v2 hj hm
                obtain ⟨j17, j18, j19, j20⟩ := hj
                refine e_Ok.run (t' := (61, [(0, (1, 275)), (1, (0, a)), (2, (0, q)), (3, (0, y3)), (4, (0, 1260 * y3 + 416)), (5, (0, y5))], [(0, 20), (0, y5)], v2)) 2 rfl ?_
                refine e_Ok.if2 rfl (fun h21 => ?_) (fun h21 => ?_)
                · replace h21 : (y5 : Int) ≥ 20 := h21
                  refine e_Ok.run (t' := (82, [(0, (1, 275)), (1, (0, a)), (2, (0, q)), (3, (0, y3)), (4, (0, 1260 * y3 + 416)), (5, (0, y5))], [(1, 275)], v2)) 1 rfl ?_
                  refine e_Ok.getr (z := 276) rfl (el_o rfl) rfl rfl ((j17 275 0 (by first | exact no_69_0 | (unfold mNt; omega))).trans (e_Has.eq hT rfl)) (by omega) ?_
                  refine e_Ok.run (t' := (88, [(0, (1, 275)), (1, (0, a)), (2, (0, q)), (3, (0, y3)), (4, (0, 1260 * y3 + 416)), (5, (0, y5))], [(0, 1), (0, 1260 * y3 + 416), (1, 276)], v2)) 2 rfl ?_
                  refine e_Ok.ast rfl (el_o rfl) rfl rfl (by omega) ?_
                  generalize hw22 : e_up v2 276 (1260 * y3 + 416) 1 = w22
                  have f23 : e_fr (mNt y3) w w22 := e_fr.up j17 hw22 (by unfold mNt; omega)
                  have hT24 : e_Has mTy w22 := e_Has.upr j18 hw22 (nR_TSTATE (t := y3) (by omega)) (by omega)
                  refine e_Ok.run (t' := (90, [(0, (1, 275)), (1, (0, a)), (2, (0, q)), (3, (0, y3)), (4, (0, 1260 * y3 + 416)), (5, (0, y5))], [(1, 275)], w22)) 1 rfl ?_
                  refine e_Ok.getr (z := 276) rfl (el_o rfl) rfl rfl (by rw [← hw22]; exact (e_up_ne _ _ (Or.inl (by omega))).trans ((j17 275 0 (by first | exact no_69_0 | (unfold mNt; omega))).trans (e_Has.eq hT rfl))) (by omega) ?_
                  refine e_Ok.run (t' := (96, [(0, (1, 275)), (1, (0, a)), (2, (0, q)), (3, (0, y3)), (4, (0, 1260 * y3 + 416)), (5, (0, y5))], [(0, 1), (0, 1260 * y3 + 416), (1, 276)], w22)) 2 rfl ?_
                  refine e_Ok.add (z := 1260 * y3 + 417) rfl (by omega) (by omega) ?_
                  refine e_Ok.run (t' := (98, [(0, (1, 275)), (1, (0, a)), (2, (0, q)), (3, (0, y3)), (4, (0, 1260 * y3 + 416)), (5, (0, y5))], [(0, a), (0, 1260 * y3 + 417), (1, 276)], w22)) 1 rfl ?_
                  refine e_Ok.ast rfl (el_o rfl) rfl rfl (by omega) ?_
                  generalize hw25 : e_up w22 276 (1260 * y3 + 417) a = w25
                  have f26 : e_fr (mNt y3) w w25 := e_fr.up f23 hw25 (by unfold mNt; omega)
                  have hT27 : e_Has mTy w25 := e_Has.upr hT24 hw25 (nR_TASK_ARM (t := y3) (by omega)) (by omega)
                  refine e_Ok.run (t' := (100, [(0, (1, 275)), (1, (0, a)), (2, (0, q)), (3, (0, y3)), (4, (0, 1260 * y3 + 416)), (5, (0, y5))], [(1, 275)], w25)) 1 rfl ?_
                  refine e_Ok.getr (z := 276) rfl (el_o rfl) rfl rfl (by rw [← hw25]; exact (e_up_ne _ _ (Or.inl (by omega))).trans (by rw [← hw22]; exact (e_up_ne _ _ (Or.inl (by omega))).trans ((j17 275 0 (by first | exact no_69_0 | (unfold mNt; omega))).trans (e_Has.eq hT rfl)))) (by omega) ?_
                  refine e_Ok.run (t' := (107, [(0, (1, 275)), (1, (0, a)), (2, (0, q)), (3, (0, y3)), (4, (0, 1260 * y3 + 416)), (5, (0, y5))], [(0, 8), (0, 1260 * y3 + 416), (1, 276)], w25)) 2 rfl ?_
                  refine e_Ok.add (z := 1260 * y3 + 424) rfl (by omega) (by omega) ?_
                  refine e_Ok.run (t' := (109, [(0, (1, 275)), (1, (0, a)), (2, (0, q)), (3, (0, y3)), (4, (0, 1260 * y3 + 416)), (5, (0, y5))], [(0, (-1)), (0, 1260 * y3 + 424), (1, 276)], w25)) 1 rfl ?_
                  refine e_Ok.ast rfl (el_o rfl) rfl rfl (by omega) ?_
                  generalize hw28 : e_up w25 276 (1260 * y3 + 424) (-1) = w28
                  have f29 : e_fr (mNt y3) w w28 := e_fr.up f26 hw28 (by unfold mNt; omega)
                  have hT30 : e_Has mTy w28 := e_Has.upr hT27 hw28 (nR_WATCHED (t := y3) (by omega)) (by omega)
                  refine e_Ok.run (t' := (111, [(0, (1, 275)), (1, (0, a)), (2, (0, q)), (3, (0, y3)), (4, (0, 1260 * y3 + 416)), (5, (0, y5))], [(1, 275)], w28)) 1 rfl ?_
                  refine e_Ok.getr (z := 276) rfl (el_o rfl) rfl rfl (by rw [← hw28]; exact (e_up_ne _ _ (Or.inl (by omega))).trans (by rw [← hw25]; exact (e_up_ne _ _ (Or.inl (by omega))).trans (by rw [← hw22]; exact (e_up_ne _ _ (Or.inl (by omega))).trans ((j17 275 0 (by first | exact no_69_0 | (unfold mNt; omega))).trans (e_Has.eq hT rfl))))) (by omega) ?_
                  refine e_Ok.run (t' := (118, [(0, (1, 275)), (1, (0, a)), (2, (0, q)), (3, (0, y3)), (4, (0, 1260 * y3 + 416)), (5, (0, y5))], [(0, 11), (0, 1260 * y3 + 416), (1, 276)], w28)) 2 rfl ?_
                  refine e_Ok.add (z := 1260 * y3 + 427) rfl (by omega) (by omega) ?_
                  refine e_Ok.run (t' := (120, [(0, (1, 275)), (1, (0, a)), (2, (0, q)), (3, (0, y3)), (4, (0, 1260 * y3 + 416)), (5, (0, y5))], [(1, 275), (0, 1260 * y3 + 427), (1, 276)], w28)) 1 rfl ?_
                  refine e_Ok.getr (z := 276) rfl (el_o rfl) rfl rfl (by rw [← hw28]; exact (e_up_ne _ _ (Or.inl (by omega))).trans (by rw [← hw25]; exact (e_up_ne _ _ (Or.inl (by omega))).trans (by rw [← hw22]; exact (e_up_ne _ _ (Or.inl (by omega))).trans ((j17 275 0 (by first | exact no_69_0 | (unfold mNt; omega))).trans (e_Has.eq hT rfl))))) (by omega) ?_
                  refine e_Ok.run (t' := (124, [(0, (1, 275)), (1, (0, a)), (2, (0, q)), (3, (0, y3)), (4, (0, 1260 * y3 + 416)), (5, (0, y5))], [(0, 0), (1, 276), (0, 1260 * y3 + 427), (1, 276)], w28)) 1 rfl ?_
                  refine e_Ok.ald (z := w 276 0) rfl (el_o rfl) rfl (by omega) (by rw [← hw28]; exact (e_up_ne _ _ (Or.inr (by omega))).trans (by rw [← hw25]; exact (e_up_ne _ _ (Or.inr (by omega))).trans (by rw [← hw22]; exact (e_up_ne _ _ (Or.inr (by omega))).trans ((j17 276 0 (by unfold mNt; omega)).trans rfl)))) (by omega) ?_
                  refine e_Ok.run (t' := (126, [(0, (1, 275)), (1, (0, a)), (2, (0, q)), (3, (0, y3)), (4, (0, 1260 * y3 + 416)), (5, (0, y5))], [(0, 1), (0, w 276 0), (0, 1260 * y3 + 427), (1, 276)], w28)) 1 rfl ?_
                  refine e_Ok.add (z := w 276 0 + 1) rfl (by omega) (by omega) ?_
                  refine e_Ok.ast rfl (el_o rfl) rfl rfl (by omega) ?_
                  generalize hw31 : e_up w28 276 (1260 * y3 + 427) (w 276 0 + 1) = w31
                  have f32 : e_fr (mNt y3) w w31 := e_fr.up f29 hw31 (by unfold mNt; omega)
                  have hT33 : e_Has mTy w31 := e_Has.upr hT30 hw31 (nR_ACTS (t := y3) (by omega)) (by omega)
                  refine e_Ok.run (t' := (129, [(0, (1, 275)), (1, (0, a)), (2, (0, q)), (3, (0, y3)), (4, (0, 1260 * y3 + 416)), (5, (0, y5))], [(1, 275)], w31)) 1 rfl ?_
                  refine e_Ok.getr (z := 276) rfl (el_o rfl) rfl rfl (by rw [← hw31]; exact (e_up_ne _ _ (Or.inl (by omega))).trans (by rw [← hw28]; exact (e_up_ne _ _ (Or.inl (by omega))).trans (by rw [← hw25]; exact (e_up_ne _ _ (Or.inl (by omega))).trans (by rw [← hw22]; exact (e_up_ne _ _ (Or.inl (by omega))).trans ((j17 275 0 (by first | exact no_69_0 | (unfold mNt; omega))).trans (e_Has.eq hT rfl)))))) (by omega) ?_
                  refine e_Ok.run (t' := (136, [(0, (1, 275)), (1, (0, a)), (2, (0, q)), (3, (0, y3)), (4, (0, 1260 * y3 + 416)), (5, (0, y5))], [(0, 12), (0, 1260 * y3 + 416), (1, 276)], w31)) 2 rfl ?_
                  refine e_Ok.add (z := 1260 * y3 + 428) rfl (by omega) (by omega) ?_
                  refine e_Ok.run (t' := (138, [(0, (1, 275)), (1, (0, a)), (2, (0, q)), (3, (0, y3)), (4, (0, 1260 * y3 + 416)), (5, (0, y5))], [(0, 1), (0, 1260 * y3 + 428), (1, 276)], w31)) 1 rfl ?_
                  refine e_Ok.ast rfl (el_o rfl) rfl rfl (by omega) ?_
                  generalize hw34 : e_up w31 276 (1260 * y3 + 428) 1 = w34
                  have f35 : e_fr (mNt y3) w w34 := e_fr.up f32 hw34 (by unfold mNt; omega)
                  have hT36 : e_Has mTy w34 := e_Has.upr hT33 hw34 (nR_FRAMES (t := y3) (by omega)) (by omega)
                  refine e_Ok.run (t' := (140, [(0, (1, 275)), (1, (0, a)), (2, (0, q)), (3, (0, y3)), (4, (0, 1260 * y3 + 416)), (5, (0, y5))], [(1, 275)], w34)) 1 rfl ?_
                  refine e_Ok.getr (z := 276) rfl (el_o rfl) rfl rfl (by rw [← hw34]; exact (e_up_ne _ _ (Or.inl (by omega))).trans (by rw [← hw31]; exact (e_up_ne _ _ (Or.inl (by omega))).trans (by rw [← hw28]; exact (e_up_ne _ _ (Or.inl (by omega))).trans (by rw [← hw25]; exact (e_up_ne _ _ (Or.inl (by omega))).trans (by rw [← hw22]; exact (e_up_ne _ _ (Or.inl (by omega))).trans ((j17 275 0 (by first | exact no_69_0 | (unfold mNt; omega))).trans (e_Has.eq hT rfl))))))) (by omega) ?_
                  refine e_Ok.run (t' := (147, [(0, (1, 275)), (1, (0, a)), (2, (0, q)), (3, (0, y3)), (4, (0, 1260 * y3 + 416)), (5, (0, y5))], [(0, 20), (0, 1260 * y3 + 416), (1, 276)], w34)) 2 rfl ?_
                  refine e_Ok.add (z := 1260 * y3 + 436) rfl (by omega) (by omega) ?_
                  refine e_Ok.run (t' := (149, [(0, (1, 275)), (1, (0, a)), (2, (0, q)), (3, (0, y3)), (4, (0, 1260 * y3 + 416)), (5, (0, y5))], [(1, 275), (0, 1260 * y3 + 436), (1, 276)], w34)) 1 rfl ?_
                  refine e_Ok.getr (z := 337) rfl (el_o rfl) rfl rfl (by rw [← hw34]; exact (e_up_ne _ _ (Or.inl (by omega))).trans (by rw [← hw31]; exact (e_up_ne _ _ (Or.inl (by omega))).trans (by rw [← hw28]; exact (e_up_ne _ _ (Or.inl (by omega))).trans (by rw [← hw25]; exact (e_up_ne _ _ (Or.inl (by omega))).trans (by rw [← hw22]; exact (e_up_ne _ _ (Or.inl (by omega))).trans ((j17 275 74 (by first | exact no_69_0 | (unfold mNt; omega))).trans (e_Has.eq hT rfl))))))) (by omega) ?_
                  refine e_Ok.run (t' := (155, [(0, (1, 275)), (1, (0, a)), (2, (0, q)), (3, (0, y3)), (4, (0, 1260 * y3 + 416)), (5, (0, y5))], [(0, a), (0, 32), (1, 337), (0, 1260 * y3 + 436), (1, 276)], w34)) 2 rfl ?_
                  refine e_Ok.mul (z := 32 * a) rfl (by omega) (by omega) ?_
                  refine e_Ok.run (t' := (157, [(0, (1, 275)), (1, (0, a)), (2, (0, q)), (3, (0, y3)), (4, (0, 1260 * y3 + 416)), (5, (0, y5))], [(0, q), (0, 32 * a), (1, 337), (0, 1260 * y3 + 436), (1, 276)], w34)) 1 rfl ?_
                  refine e_Ok.add (z := 32 * a + q) rfl (by omega) (by omega) ?_
                  refine e_Ok.ald (z := w 337 (32 * a + q)) rfl (el_o rfl) rfl (by omega) (by rw [← hw34]; exact (e_up_ne _ _ (Or.inl (by omega))).trans (by rw [← hw31]; exact (e_up_ne _ _ (Or.inl (by omega))).trans (by rw [← hw28]; exact (e_up_ne _ _ (Or.inl (by omega))).trans (by rw [← hw25]; exact (e_up_ne _ _ (Or.inl (by omega))).trans (by rw [← hw22]; exact (e_up_ne _ _ (Or.inl (by omega))).trans ((j17 337 (32 * a + q) (by first | exact no_69_1 | (unfold mNt; omega))).trans rfl)))))) (by omega) ?_
                  refine e_Ok.ast rfl (el_o rfl) rfl rfl (by omega) ?_
                  generalize hw37 : e_up w34 276 (1260 * y3 + 436) (w 337 (32 * a + q)) = w37
                  have f38 : e_fr (mNt y3) w w37 := e_fr.up f35 hw37 (by unfold mNt; omega)
                  have hT39 : e_Has mTy w37 := e_Has.upr hT36 hw37 (nR_FRg y3 0 (by omega) (by omega) (by omega)) (by omega)
                  refine e_Ok.run (t' := (161, [(0, (1, 275)), (1, (0, a)), (2, (0, q)), (3, (0, y3)), (4, (0, 1260 * y3 + 416)), (5, (0, y5))], [(1, 275)], w37)) 1 rfl ?_
                  refine e_Ok.getr (z := 276) rfl (el_o rfl) rfl rfl (by rw [← hw37]; exact (e_up_ne _ _ (Or.inl (by omega))).trans (by rw [← hw34]; exact (e_up_ne _ _ (Or.inl (by omega))).trans (by rw [← hw31]; exact (e_up_ne _ _ (Or.inl (by omega))).trans (by rw [← hw28]; exact (e_up_ne _ _ (Or.inl (by omega))).trans (by rw [← hw25]; exact (e_up_ne _ _ (Or.inl (by omega))).trans (by rw [← hw22]; exact (e_up_ne _ _ (Or.inl (by omega))).trans ((j17 275 0 (by first | exact no_69_0 | (unfold mNt; omega))).trans (e_Has.eq hT rfl)))))))) (by omega) ?_
                  refine e_Ok.run (t' := (168, [(0, (1, 275)), (1, (0, a)), (2, (0, q)), (3, (0, y3)), (4, (0, 1260 * y3 + 416)), (5, (0, y5))], [(0, 20), (0, 1260 * y3 + 416), (1, 276)], w37)) 2 rfl ?_
                  refine e_Ok.add (z := 1260 * y3 + 436) rfl (by omega) (by omega) ?_
                  refine e_Ok.run (t' := (170, [(0, (1, 275)), (1, (0, a)), (2, (0, q)), (3, (0, y3)), (4, (0, 1260 * y3 + 416)), (5, (0, y5))], [(0, 1), (0, 1260 * y3 + 436), (1, 276)], w37)) 1 rfl ?_
                  refine e_Ok.add (z := 1260 * y3 + 437) rfl (by omega) (by omega) ?_
                  refine e_Ok.run (t' := (172, [(0, (1, 275)), (1, (0, a)), (2, (0, q)), (3, (0, y3)), (4, (0, 1260 * y3 + 416)), (5, (0, y5))], [(0, 0), (0, 1260 * y3 + 437), (1, 276)], w37)) 1 rfl ?_
                  refine e_Ok.ast rfl (el_o rfl) rfl rfl (by omega) ?_
                  generalize hw40 : e_up w37 276 (1260 * y3 + 437) 0 = w40
                  have f41 : e_fr (mNt y3) w w40 := e_fr.up f38 hw40 (by unfold mNt; omega)
                  have hT42 : e_Has mTy w40 := e_Has.upr hT39 hw40 (nR_FRWg y3 0 (by omega) (by omega) (by omega)) (by omega)
                  refine e_Ok.run (t' := (174, [(0, (1, 275)), (1, (0, a)), (2, (0, q)), (3, (0, y3)), (4, (0, 1260 * y3 + 416)), (5, (0, y5))], [(0, y3)], w40)) 1 rfl ?_
                  refine e_Ok.rets rfl rfl ?_
                  exact ⟨_, rfl, Or.inr ⟨by omega, by omega, f41, hT42, (by rw [← hw40]; exact (e_up_ne _ _ (Or.inr (by omega))).trans (by rw [← hw37]; exact (e_up_ne _ _ (Or.inr (by omega))).trans (by rw [← hw34]; exact (e_up_ne _ _ (Or.inr (by omega))).trans (by rw [← hw31]; exact (e_up_ne _ _ (Or.inr (by omega))).trans (by rw [← hw28]; exact (e_up_ne _ _ (Or.inr (by omega))).trans (by rw [← hw25]; exact (e_up_ne _ _ (Or.inr (by omega))).trans (by rw [← hw22]; exact e_up_eq _ _ _ _))))))), (by rw [← hw40]; exact (e_up_ne _ _ (Or.inr (by omega))).trans (by rw [← hw37]; exact (e_up_ne _ _ (Or.inr (by omega))).trans (by rw [← hw34]; exact (e_up_ne _ _ (Or.inr (by omega))).trans (by rw [← hw31]; exact (e_up_ne _ _ (Or.inr (by omega))).trans (by rw [← hw28]; exact (e_up_ne _ _ (Or.inr (by omega))).trans (by rw [← hw25]; exact e_up_eq _ _ _ _)))))), (by rw [← hw40]; exact (e_up_ne _ _ (Or.inr (by omega))).trans (by rw [← hw37]; exact (e_up_ne _ _ (Or.inr (by omega))).trans (by rw [← hw34]; exact (e_up_ne _ _ (Or.inr (by omega))).trans (by rw [← hw31]; exact (e_up_ne _ _ (Or.inr (by omega))).trans (by rw [← hw28]; exact e_up_eq _ _ _ _))))), (by rw [← hw40]; exact (e_up_ne _ _ (Or.inr (by omega))).trans (by rw [← hw37]; exact (e_up_ne _ _ (Or.inr (by omega))).trans (by rw [← hw34]; exact e_up_eq _ _ _ _))), (Eq.trans (show w40 276 (1260 * y3 + 429) = v2 276 (1260 * y3 + 429) from (by rw [← hw40]; exact (e_up_ne _ _ (Or.inr (by omega))).trans (by rw [← hw37]; exact (e_up_ne _ _ (Or.inr (by omega))).trans (by rw [← hw34]; exact (e_up_ne _ _ (Or.inr (by omega))).trans (by rw [← hw31]; exact (e_up_ne _ _ (Or.inr (by omega))).trans (by rw [← hw28]; exact (e_up_ne _ _ (Or.inr (by omega))).trans (by rw [← hw25]; exact (e_up_ne _ _ (Or.inr (by omega))).trans (by rw [← hw22]; exact (e_up_ne _ _ (Or.inr (by omega))).trans rfl)))))))) (by have q := j20 13 (by omega) (by omega); rwa [show 1260 * y3 + 13 + 416 = 1260 * y3 + 429 by omega] at q)), (by rw [← hw40]; exact (e_up_ne _ _ (Or.inr (by omega))).trans (by rw [← hw37]; exact e_up_eq _ _ _ _)), (by rw [← hw40]; exact e_up_eq _ _ _ _)⟩⟩
                · replace h21 : (y5 : Int) < 20 := by have q : ¬ ((y5 : Int) ≥ 20) := h21; omega
                  refine e_Ok.run (t' := (65, [(0, (1, 275)), (1, (0, a)), (2, (0, q)), (3, (0, y3)), (4, (0, 1260 * y3 + 416)), (5, (0, y5))], [(1, 275)], v2)) 1 rfl ?_
                  refine e_Ok.getr (z := 276) rfl (el_o rfl) rfl rfl ((j17 275 0 (by first | exact no_69_0 | (unfold mNt; omega))).trans (e_Has.eq hT rfl)) (by omega) ?_
                  refine e_Ok.run (t' := (72, [(0, (1, 275)), (1, (0, a)), (2, (0, q)), (3, (0, y3)), (4, (0, 1260 * y3 + 416)), (5, (0, y5))], [(0, y5), (0, 1260 * y3 + 416), (1, 276)], v2)) 2 rfl ?_
                  refine e_Ok.add (z := 1260 * y3 + y5 + 416) rfl (by omega) (by omega) ?_
                  refine e_Ok.run (t' := (74, [(0, (1, 275)), (1, (0, a)), (2, (0, q)), (3, (0, y3)), (4, (0, 1260 * y3 + 416)), (5, (0, y5))], [(0, 0), (0, 1260 * y3 + y5 + 416), (1, 276)], v2)) 1 rfl ?_
                  refine e_Ok.ast rfl (el_o rfl) rfl rfl (by omega) ?_
                  generalize hw43 : e_up v2 276 (1260 * y3 + y5 + 416) 0 = w43
                  have f44 : e_fr (mNt y3) w w43 := e_fr.up j17 hw43 (by unfold mNt; omega)
                  have hT45 : e_Has mTy w43 := e_Has.task0 j18 (by omega) (by omega) hw43
                  refine e_Ok.inc (z := y5 + 1) rfl rfl (by omega) (by omega) ?_
                  show e_Ok 20 elay ecode eI (d + 1) 359 (78, [(5, (0, y5 + 1)), (0, (1, 275)), (1, (0, a)), (2, (0, q)), (3, (0, y3)), (4, (0, 1260 * y3 + 416))], [], w43) _
                  refine e_Ok.run (t' := (57, [(5, (0, y5 + 1)), (0, (1, 275)), (1, (0, a)), (2, (0, q)), (3, (0, y3)), (4, (0, 1260 * y3 + 416))], [], w43)) 1 rfl ?_
                  refine e_Ok.sub eAlk (e_sub_of rfl ?_) (ih16 (y5 + 1) w43 ⟨f44, hT45, by omega, (fun j g1 g2 => Decidable.byCases (p := j = y5) (fun e => by rw [e, ← hw43]; exact e_up_eq _ _ _ _) (fun e => Eq.trans (by rw [← hw43]; exact e_up_ne _ _ (Or.inr (by omega))) (j20 j g1 (by omega))))⟩ (by omega))
                  exact ⟨rfl, rfl, rfl, rfl, rfl, rfl, trivial⟩
            refine e_Ok.sub eAlk (e_sub_of rfl ?_) (hL15 (21 + 1 : Int).toNat 0 w ⟨(e_fr.refl w), hT, by omega, (fun j g1 g2 => by omega)⟩ (by omega))
            exact ⟨rfl, rfl, rfl, rfl, rfl, rfl, trivial⟩
          · replace h11 : (y3 : Int) = 16 := by have q : ¬ ((y3 : Int) ≠ 16) := h11; omega
            exfalso; omega
        · replace h10 : (w 276 (1260 * y3 + 416) : Int) ≠ 0 := by have q : ¬ ((w 276 (1260 * y3 + 416) : Int) = 0) := h10; omega
          refine e_Ok.run (t' := (21, [(0, (1, 275)), (1, (0, a)), (2, (0, q)), (3, (0, y3))], [(1, 275)], w)) 1 rfl ?_
          refine e_Ok.getr (z := 276) rfl (el_o rfl) rfl rfl (e_Has.eq hT rfl) (by omega) ?_
          refine e_Ok.run (t' := (25, [(0, (1, 275)), (1, (0, a)), (2, (0, q)), (3, (0, y3))], [(0, y3), (1, 276)], w)) 1 rfl ?_
          refine e_Ok.callS rfl (by omega) rfl rfl (c_269 (by omega)) (fun r46 w47 h48 => ?_)
          obtain ⟨rfl, rfl⟩ := h48
          show e_Ok 20 elay ecode eI (d + 1) 359 (28, [(0, (1, 275)), (1, (0, a)), (2, (0, q)), (3, (0, y3))], [(0, 1260 * y3 + 416), (1, 276)], w) _
          refine e_Ok.ald (z := w 276 (1260 * y3 + 416)) rfl (el_o rfl) rfl (by omega) rfl (by omega) ?_
          refine e_Ok.run (t' := (31, [(0, (1, 275)), (1, (0, a)), (2, (0, q)), (3, (0, y3))], [(0, 6), (0, w 276 (1260 * y3 + 416))], w)) 1 rfl ?_
          refine e_Ok.if2 rfl (fun h49 => ?_) (fun h49 => ?_)
          · replace h49 : (w 276 (1260 * y3 + 416) : Int) = 6 := h49
            refine e_Ok.run (t' := (43, [(0, (1, 275)), (1, (0, a)), (2, (0, q)), (3, (0, y3))], [(0, 16), (0, y3)], w)) 2 rfl ?_
            refine e_Ok.if2 rfl (fun h50 => ?_) (fun h50 => ?_)
            · replace h50 : (y3 : Int) ≠ 16 := h50
              refine e_Ok.run (t' := (49, [(0, (1, 275)), (1, (0, a)), (2, (0, q)), (3, (0, y3))], [(0, y3)], w)) 1 rfl ?_
              refine e_Ok.callS rfl (by omega) rfl rfl (c_269 (by omega)) (fun r51 w52 h53 => ?_)
              obtain ⟨rfl, rfl⟩ := h53
              show e_Ok 20 elay ecode eI (d + 1) 359 (52, [(0, (1, 275)), (1, (0, a)), (2, (0, q)), (3, (0, y3))], [(0, 1260 * y3 + 416)], w) _
              refine e_Ok.run (t' := (57, [(5, (0, 0)), (4, (0, 1260 * y3 + 416)), (0, (1, 275)), (1, (0, a)), (2, (0, q)), (3, (0, y3))], [], w)) 3 rfl ?_
              have hL54 : ∀ (nn : Nat) (y5 : Int) (v2 : eW), e_fr (mNt y3) w v2 ∧ e_Has mTy v2 ∧ (0 ≤ y5 ∧ y5 ≤ 20) ∧ (∀ j, 0 ≤ j → j < y5 → v2 276 (1260 * y3 + j + 416) = 0) → 21 - y5 < nn → e_Ok 20 elay ecode eI (d + 1) 359 (57, [(0, (1, 275)), (1, (0, a)), (2, (0, q)), (3, (0, y3)), (4, (0, 1260 * y3 + 416)), (5, (0, y5))], [], v2) (fun r w' => ∃ z : Int, r = [(0, z)] ∧ ((z = -1 ∧ w = w') ∨ ((0 ≤ z ∧ z ≤ 15) ∧ (w 276 (1260 * z + 416) = 0 ∨ w 276 (1260 * z + 416) = 6) ∧ e_fr (mNt z) w w' ∧ e_Has mTy w' ∧ w' 276 (1260 * z + 416) = 1 ∧ w' 276 (1260 * z + 417) = a ∧ w' 276 (1260 * z + 424) = -1 ∧ w' 276 (1260 * z + 428) = 1 ∧ w' 276 (1260 * z + 429) = 0 ∧ w' 276 (1260 * z + 436) = w 337 (32 * a + q) ∧ w' 276 (1260 * z + 437) = 0))) := by
                intro nn
                induction nn with
                | zero => intro y5 v2 hj hm; obtain ⟨j56, j57, j58, j59⟩ := hj; exfalso; omega
                | succ nn ih55 =>
                  intro y5 v2 hj hm
                  obtain ⟨j56, j57, j58, j59⟩ := hj
                  refine e_Ok.run (t' := (61, [(0, (1, 275)), (1, (0, a)), (2, (0, q)), (3, (0, y3)), (4, (0, 1260 * y3 + 416)), (5, (0, y5))], [(0, 20), (0, y5)], v2)) 2 rfl ?_
                  refine e_Ok.if2 rfl (fun h60 => ?_) (fun h60 => ?_)
                  · replace h60 : (y5 : Int) ≥ 20 := h60
                    refine e_Ok.run (t' := (82, [(0, (1, 275)), (1, (0, a)), (2, (0, q)), (3, (0, y3)), (4, (0, 1260 * y3 + 416)), (5, (0, y5))], [(1, 275)], v2)) 1 rfl ?_
                    refine e_Ok.getr (z := 276) rfl (el_o rfl) rfl rfl ((j56 275 0 (by first | exact no_69_0 | (unfold mNt; omega))).trans (e_Has.eq hT rfl)) (by omega) ?_
                    refine e_Ok.run (t' := (88, [(0, (1, 275)), (1, (0, a)), (2, (0, q)), (3, (0, y3)), (4, (0, 1260 * y3 + 416)), (5, (0, y5))], [(0, 1), (0, 1260 * y3 + 416), (1, 276)], v2)) 2 rfl ?_
                    refine e_Ok.ast rfl (el_o rfl) rfl rfl (by omega) ?_
                    generalize hw61 : e_up v2 276 (1260 * y3 + 416) 1 = w61
                    have f62 : e_fr (mNt y3) w w61 := e_fr.up j56 hw61 (by unfold mNt; omega)
                    have hT63 : e_Has mTy w61 := e_Has.upr j57 hw61 (nR_TSTATE (t := y3) (by omega)) (by omega)
                    refine e_Ok.run (t' := (90, [(0, (1, 275)), (1, (0, a)), (2, (0, q)), (3, (0, y3)), (4, (0, 1260 * y3 + 416)), (5, (0, y5))], [(1, 275)], w61)) 1 rfl ?_
                    refine e_Ok.getr (z := 276) rfl (el_o rfl) rfl rfl (by rw [← hw61]; exact (e_up_ne _ _ (Or.inl (by omega))).trans ((j56 275 0 (by first | exact no_69_0 | (unfold mNt; omega))).trans (e_Has.eq hT rfl))) (by omega) ?_
                    refine e_Ok.run (t' := (96, [(0, (1, 275)), (1, (0, a)), (2, (0, q)), (3, (0, y3)), (4, (0, 1260 * y3 + 416)), (5, (0, y5))], [(0, 1), (0, 1260 * y3 + 416), (1, 276)], w61)) 2 rfl ?_
                    refine e_Ok.add (z := 1260 * y3 + 417) rfl (by omega) (by omega) ?_
                    refine e_Ok.run (t' := (98, [(0, (1, 275)), (1, (0, a)), (2, (0, q)), (3, (0, y3)), (4, (0, 1260 * y3 + 416)), (5, (0, y5))], [(0, a), (0, 1260 * y3 + 417), (1, 276)], w61)) 1 rfl ?_
                    refine e_Ok.ast rfl (el_o rfl) rfl rfl (by omega) ?_
                    generalize hw64 : e_up w61 276 (1260 * y3 + 417) a = w64
                    have f65 : e_fr (mNt y3) w w64 := e_fr.up f62 hw64 (by unfold mNt; omega)
                    have hT66 : e_Has mTy w64 := e_Has.upr hT63 hw64 (nR_TASK_ARM (t := y3) (by omega)) (by omega)
                    refine e_Ok.run (t' := (100, [(0, (1, 275)), (1, (0, a)), (2, (0, q)), (3, (0, y3)), (4, (0, 1260 * y3 + 416)), (5, (0, y5))], [(1, 275)], w64)) 1 rfl ?_
                    refine e_Ok.getr (z := 276) rfl (el_o rfl) rfl rfl (by rw [← hw64]; exact (e_up_ne _ _ (Or.inl (by omega))).trans (by rw [← hw61]; exact (e_up_ne _ _ (Or.inl (by omega))).trans ((j56 275 0 (by first | exact no_69_0 | (unfold mNt; omega))).trans (e_Has.eq hT rfl)))) (by omega) ?_
                    refine e_Ok.run (t' := (107, [(0, (1, 275)), (1, (0, a)), (2, (0, q)), (3, (0, y3)), (4, (0, 1260 * y3 + 416)), (5, (0, y5))], [(0, 8), (0, 1260 * y3 + 416), (1, 276)], w64)) 2 rfl ?_
                    refine e_Ok.add (z := 1260 * y3 + 424) rfl (by omega) (by omega) ?_
                    refine e_Ok.run (t' := (109, [(0, (1, 275)), (1, (0, a)), (2, (0, q)), (3, (0, y3)), (4, (0, 1260 * y3 + 416)), (5, (0, y5))], [(0, (-1)), (0, 1260 * y3 + 424), (1, 276)], w64)) 1 rfl ?_
                    refine e_Ok.ast rfl (el_o rfl) rfl rfl (by omega) ?_
                    generalize hw67 : e_up w64 276 (1260 * y3 + 424) (-1) = w67
                    have f68 : e_fr (mNt y3) w w67 := e_fr.up f65 hw67 (by unfold mNt; omega)
                    have hT69 : e_Has mTy w67 := e_Has.upr hT66 hw67 (nR_WATCHED (t := y3) (by omega)) (by omega)
                    refine e_Ok.run (t' := (111, [(0, (1, 275)), (1, (0, a)), (2, (0, q)), (3, (0, y3)), (4, (0, 1260 * y3 + 416)), (5, (0, y5))], [(1, 275)], w67)) 1 rfl ?_
                    refine e_Ok.getr (z := 276) rfl (el_o rfl) rfl rfl (by rw [← hw67]; exact (e_up_ne _ _ (Or.inl (by omega))).trans (by rw [← hw64]; exact (e_up_ne _ _ (Or.inl (by omega))).trans (by rw [← hw61]; exact (e_up_ne _ _ (Or.inl (by omega))).trans ((j56 275 0 (by first | exact no_69_0 | (unfold mNt; omega))).trans (e_Has.eq hT rfl))))) (by omega) ?_
                    refine e_Ok.run (t' := (118, [(0, (1, 275)), (1, (0, a)), (2, (0, q)), (3, (0, y3)), (4, (0, 1260 * y3 + 416)), (5, (0, y5))], [(0, 11), (0, 1260 * y3 + 416), (1, 276)], w67)) 2 rfl ?_
                    refine e_Ok.add (z := 1260 * y3 + 427) rfl (by omega) (by omega) ?_
                    refine e_Ok.run (t' := (120, [(0, (1, 275)), (1, (0, a)), (2, (0, q)), (3, (0, y3)), (4, (0, 1260 * y3 + 416)), (5, (0, y5))], [(1, 275), (0, 1260 * y3 + 427), (1, 276)], w67)) 1 rfl ?_
                    refine e_Ok.getr (z := 276) rfl (el_o rfl) rfl rfl (by rw [← hw67]; exact (e_up_ne _ _ (Or.inl (by omega))).trans (by rw [← hw64]; exact (e_up_ne _ _ (Or.inl (by omega))).trans (by rw [← hw61]; exact (e_up_ne _ _ (Or.inl (by omega))).trans ((j56 275 0 (by first | exact no_69_0 | (unfold mNt; omega))).trans (e_Has.eq hT rfl))))) (by omega) ?_
                    refine e_Ok.run (t' := (124, [(0, (1, 275)), (1, (0, a)), (2, (0, q)), (3, (0, y3)), (4, (0, 1260 * y3 + 416)), (5, (0, y5))], [(0, 0), (1, 276), (0, 1260 * y3 + 427), (1, 276)], w67)) 1 rfl ?_
                    refine e_Ok.ald (z := w 276 0) rfl (el_o rfl) rfl (by omega) (by rw [← hw67]; exact (e_up_ne _ _ (Or.inr (by omega))).trans (by rw [← hw64]; exact (e_up_ne _ _ (Or.inr (by omega))).trans (by rw [← hw61]; exact (e_up_ne _ _ (Or.inr (by omega))).trans ((j56 276 0 (by unfold mNt; omega)).trans rfl)))) (by omega) ?_
                    refine e_Ok.run (t' := (126, [(0, (1, 275)), (1, (0, a)), (2, (0, q)), (3, (0, y3)), (4, (0, 1260 * y3 + 416)), (5, (0, y5))], [(0, 1), (0, w 276 0), (0, 1260 * y3 + 427), (1, 276)], w67)) 1 rfl ?_
                    refine e_Ok.add (z := w 276 0 + 1) rfl (by omega) (by omega) ?_
                    refine e_Ok.ast rfl (el_o rfl) rfl rfl (by omega) ?_
                    generalize hw70 : e_up w67 276 (1260 * y3 + 427) (w 276 0 + 1) = w70
                    have f71 : e_fr (mNt y3) w w70 := e_fr.up f68 hw70 (by unfold mNt; omega)
                    have hT72 : e_Has mTy w70 := e_Has.upr hT69 hw70 (nR_ACTS (t := y3) (by omega)) (by omega)
                    refine e_Ok.run (t' := (129, [(0, (1, 275)), (1, (0, a)), (2, (0, q)), (3, (0, y3)), (4, (0, 1260 * y3 + 416)), (5, (0, y5))], [(1, 275)], w70)) 1 rfl ?_
                    refine e_Ok.getr (z := 276) rfl (el_o rfl) rfl rfl (by rw [← hw70]; exact (e_up_ne _ _ (Or.inl (by omega))).trans (by rw [← hw67]; exact (e_up_ne _ _ (Or.inl (by omega))).trans (by rw [← hw64]; exact (e_up_ne _ _ (Or.inl (by omega))).trans (by rw [← hw61]; exact (e_up_ne _ _ (Or.inl (by omega))).trans ((j56 275 0 (by first | exact no_69_0 | (unfold mNt; omega))).trans (e_Has.eq hT rfl)))))) (by omega) ?_
                    refine e_Ok.run (t' := (136, [(0, (1, 275)), (1, (0, a)), (2, (0, q)), (3, (0, y3)), (4, (0, 1260 * y3 + 416)), (5, (0, y5))], [(0, 12), (0, 1260 * y3 + 416), (1, 276)], w70)) 2 rfl ?_
                    refine e_Ok.add (z := 1260 * y3 + 428) rfl (by omega) (by omega) ?_
                    refine e_Ok.run (t' := (138, [(0, (1, 275)), (1, (0, a)), (2, (0, q)), (3, (0, y3)), (4, (0, 1260 * y3 + 416)), (5, (0, y5))], [(0, 1), (0, 1260 * y3 + 428), (1, 276)], w70)) 1 rfl ?_
                    refine e_Ok.ast rfl (el_o rfl) rfl rfl (by omega) ?_
                    generalize hw73 : e_up w70 276 (1260 * y3 + 428) 1 = w73
                    have f74 : e_fr (mNt y3) w w73 := e_fr.up f71 hw73 (by unfold mNt; omega)
                    have hT75 : e_Has mTy w73 := e_Has.upr hT72 hw73 (nR_FRAMES (t := y3) (by omega)) (by omega)
                    refine e_Ok.run (t' := (140, [(0, (1, 275)), (1, (0, a)), (2, (0, q)), (3, (0, y3)), (4, (0, 1260 * y3 + 416)), (5, (0, y5))], [(1, 275)], w73)) 1 rfl ?_
                    refine e_Ok.getr (z := 276) rfl (el_o rfl) rfl rfl (by rw [← hw73]; exact (e_up_ne _ _ (Or.inl (by omega))).trans (by rw [← hw70]; exact (e_up_ne _ _ (Or.inl (by omega))).trans (by rw [← hw67]; exact (e_up_ne _ _ (Or.inl (by omega))).trans (by rw [← hw64]; exact (e_up_ne _ _ (Or.inl (by omega))).trans (by rw [← hw61]; exact (e_up_ne _ _ (Or.inl (by omega))).trans ((j56 275 0 (by first | exact no_69_0 | (unfold mNt; omega))).trans (e_Has.eq hT rfl))))))) (by omega) ?_
                    refine e_Ok.run (t' := (147, [(0, (1, 275)), (1, (0, a)), (2, (0, q)), (3, (0, y3)), (4, (0, 1260 * y3 + 416)), (5, (0, y5))], [(0, 20), (0, 1260 * y3 + 416), (1, 276)], w73)) 2 rfl ?_
                    refine e_Ok.add (z := 1260 * y3 + 436) rfl (by omega) (by omega) ?_
                    refine e_Ok.run (t' := (149, [(0, (1, 275)), (1, (0, a)), (2, (0, q)), (3, (0, y3)), (4, (0, 1260 * y3 + 416)), (5, (0, y5))], [(1, 275), (0, 1260 * y3 + 436), (1, 276)], w73)) 1 rfl ?_
                    refine e_Ok.getr (z := 337) rfl (el_o rfl) rfl rfl (by rw [← hw73]; exact (e_up_ne _ _ (Or.inl (by omega))).trans (by rw [← hw70]; exact (e_up_ne _ _ (Or.inl (by omega))).trans (by rw [← hw67]; exact (e_up_ne _ _ (Or.inl (by omega))).trans (by rw [← hw64]; exact (e_up_ne _ _ (Or.inl (by omega))).trans (by rw [← hw61]; exact (e_up_ne _ _ (Or.inl (by omega))).trans ((j56 275 74 (by first | exact no_69_0 | (unfold mNt; omega))).trans (e_Has.eq hT rfl))))))) (by omega) ?_
                    refine e_Ok.run (t' := (155, [(0, (1, 275)), (1, (0, a)), (2, (0, q)), (3, (0, y3)), (4, (0, 1260 * y3 + 416)), (5, (0, y5))], [(0, a), (0, 32), (1, 337), (0, 1260 * y3 + 436), (1, 276)], w73)) 2 rfl ?_
                    refine e_Ok.mul (z := 32 * a) rfl (by omega) (by omega) ?_
                    refine e_Ok.run (t' := (157, [(0, (1, 275)), (1, (0, a)), (2, (0, q)), (3, (0, y3)), (4, (0, 1260 * y3 + 416)), (5, (0, y5))], [(0, q), (0, 32 * a), (1, 337), (0, 1260 * y3 + 436), (1, 276)], w73)) 1 rfl ?_
                    refine e_Ok.add (z := 32 * a + q) rfl (by omega) (by omega) ?_
                    refine e_Ok.ald (z := w 337 (32 * a + q)) rfl (el_o rfl) rfl (by omega) (by rw [← hw73]; exact (e_up_ne _ _ (Or.inl (by omega))).trans (by rw [← hw70]; exact (e_up_ne _ _ (Or.inl (by omega))).trans (by rw [← hw67]; exact (e_up_ne _ _ (Or.inl (by omega))).trans (by rw [← hw64]; exact (e_up_ne _ _ (Or.inl (by omega))).trans (by rw [← hw61]; exact (e_up_ne _ _ (Or.inl (by omega))).trans ((j56 337 (32 * a + q) (by first | exact no_69_1 | (unfold mNt; omega))).trans rfl)))))) (by omega) ?_
                    refine e_Ok.ast rfl (el_o rfl) rfl rfl (by omega) ?_
                    generalize hw76 : e_up w73 276 (1260 * y3 + 436) (w 337 (32 * a + q)) = w76
                    have f77 : e_fr (mNt y3) w w76 := e_fr.up f74 hw76 (by unfold mNt; omega)
                    have hT78 : e_Has mTy w76 := e_Has.upr hT75 hw76 (nR_FRg y3 0 (by omega) (by omega) (by omega)) (by omega)
                    refine e_Ok.run (t' := (161, [(0, (1, 275)), (1, (0, a)), (2, (0, q)), (3, (0, y3)), (4, (0, 1260 * y3 + 416)), (5, (0, y5))], [(1, 275)], w76)) 1 rfl ?_
                    refine e_Ok.getr (z := 276) rfl (el_o rfl) rfl rfl (by rw [← hw76]; exact (e_up_ne _ _ (Or.inl (by omega))).trans (by rw [← hw73]; exact (e_up_ne _ _ (Or.inl (by omega))).trans (by rw [← hw70]; exact (e_up_ne _ _ (Or.inl (by omega))).trans (by rw [← hw67]; exact (e_up_ne _ _ (Or.inl (by omega))).trans (by rw [← hw64]; exact (e_up_ne _ _ (Or.inl (by omega))).trans (by rw [← hw61]; exact (e_up_ne _ _ (Or.inl (by omega))).trans ((j56 275 0 (by first | exact no_69_0 | (unfold mNt; omega))).trans (e_Has.eq hT rfl)))))))) (by omega) ?_
                    refine e_Ok.run (t' := (168, [(0, (1, 275)), (1, (0, a)), (2, (0, q)), (3, (0, y3)), (4, (0, 1260 * y3 + 416)), (5, (0, y5))], [(0, 20), (0, 1260 * y3 + 416), (1, 276)], w76)) 2 rfl ?_
                    refine e_Ok.add (z := 1260 * y3 + 436) rfl (by omega) (by omega) ?_
                    refine e_Ok.run (t' := (170, [(0, (1, 275)), (1, (0, a)), (2, (0, q)), (3, (0, y3)), (4, (0, 1260 * y3 + 416)), (5, (0, y5))], [(0, 1), (0, 1260 * y3 + 436), (1, 276)], w76)) 1 rfl ?_
                    refine e_Ok.add (z := 1260 * y3 + 437) rfl (by omega) (by omega) ?_
                    refine e_Ok.run (t' := (172, [(0, (1, 275)), (1, (0, a)), (2, (0, q)), (3, (0, y3)), (4, (0, 1260 * y3 + 416)), (5, (0, y5))], [(0, 0), (0, 1260 * y3 + 437), (1, 276)], w76)) 1 rfl ?_
                    refine e_Ok.ast rfl (el_o rfl) rfl rfl (by omega) ?_
                    generalize hw79 : e_up w76 276 (1260 * y3 + 437) 0 = w79
                    have f80 : e_fr (mNt y3) w w79 := e_fr.up f77 hw79 (by unfold mNt; omega)
                    have hT81 : e_Has mTy w79 := e_Has.upr hT78 hw79 (nR_FRWg y3 0 (by omega) (by omega) (by omega)) (by omega)
                    refine e_Ok.run (t' := (174, [(0, (1, 275)), (1, (0, a)), (2, (0, q)), (3, (0, y3)), (4, (0, 1260 * y3 + 416)), (5, (0, y5))], [(0, y3)], w79)) 1 rfl ?_
                    refine e_Ok.rets rfl rfl ?_
                    exact ⟨_, rfl, Or.inr ⟨by omega, by omega, f80, hT81, (by rw [← hw79]; exact (e_up_ne _ _ (Or.inr (by omega))).trans (by rw [← hw76]; exact (e_up_ne _ _ (Or.inr (by omega))).trans (by rw [← hw73]; exact (e_up_ne _ _ (Or.inr (by omega))).trans (by rw [← hw70]; exact (e_up_ne _ _ (Or.inr (by omega))).trans (by rw [← hw67]; exact (e_up_ne _ _ (Or.inr (by omega))).trans (by rw [← hw64]; exact (e_up_ne _ _ (Or.inr (by omega))).trans (by rw [← hw61]; exact e_up_eq _ _ _ _))))))), (by rw [← hw79]; exact (e_up_ne _ _ (Or.inr (by omega))).trans (by rw [← hw76]; exact (e_up_ne _ _ (Or.inr (by omega))).trans (by rw [← hw73]; exact (e_up_ne _ _ (Or.inr (by omega))).trans (by rw [← hw70]; exact (e_up_ne _ _ (Or.inr (by omega))).trans (by rw [← hw67]; exact (e_up_ne _ _ (Or.inr (by omega))).trans (by rw [← hw64]; exact e_up_eq _ _ _ _)))))), (by rw [← hw79]; exact (e_up_ne _ _ (Or.inr (by omega))).trans (by rw [← hw76]; exact (e_up_ne _ _ (Or.inr (by omega))).trans (by rw [← hw73]; exact (e_up_ne _ _ (Or.inr (by omega))).trans (by rw [← hw70]; exact (e_up_ne _ _ (Or.inr (by omega))).trans (by rw [← hw67]; exact e_up_eq _ _ _ _))))), (by rw [← hw79]; exact (e_up_ne _ _ (Or.inr (by omega))).trans (by rw [← hw76]; exact (e_up_ne _ _ (Or.inr (by omega))).trans (by rw [← hw73]; exact e_up_eq _ _ _ _))), (Eq.trans (show w79 276 (1260 * y3 + 429) = v2 276 (1260 * y3 + 429) from (by rw [← hw79]; exact (e_up_ne _ _ (Or.inr (by omega))).trans (by rw [← hw76]; exact (e_up_ne _ _ (Or.inr (by omega))).trans (by rw [← hw73]; exact (e_up_ne _ _ (Or.inr (by omega))).trans (by rw [← hw70]; exact (e_up_ne _ _ (Or.inr (by omega))).trans (by rw [← hw67]; exact (e_up_ne _ _ (Or.inr (by omega))).trans (by rw [← hw64]; exact (e_up_ne _ _ (Or.inr (by omega))).trans (by rw [← hw61]; exact (e_up_ne _ _ (Or.inr (by omega))).trans rfl)))))))) (by have q := j59 13 (by omega) (by omega); rwa [show 1260 * y3 + 13 + 416 = 1260 * y3 + 429 by omega] at q)), (by rw [← hw79]; exact (e_up_ne _ _ (Or.inr (by omega))).trans (by rw [← hw76]; exact e_up_eq _ _ _ _)), (by rw [← hw79]; exact e_up_eq _ _ _ _)⟩⟩
                  · replace h60 : (y5 : Int) < 20 := by have q : ¬ ((y5 : Int) ≥ 20) := h60; omega
                    refine e_Ok.run (t' := (65, [(0, (1, 275)), (1, (0, a)), (2, (0, q)), (3, (0, y3)), (4, (0, 1260 * y3 + 416)), (5, (0, y5))], [(1, 275)], v2)) 1 rfl ?_
                    refine e_Ok.getr (z := 276) rfl (el_o rfl) rfl rfl ((j56 275 0 (by first | exact no_69_0 | (unfold mNt; omega))).trans (e_Has.eq hT rfl)) (by omega) ?_
                    refine e_Ok.run (t' := (72, [(0, (1, 275)), (1, (0, a)), (2, (0, q)), (3, (0, y3)), (4, (0, 1260 * y3 + 416)), (5, (0, y5))], [(0, y5), (0, 1260 * y3 + 416), (1, 276)], v2)) 2 rfl ?_
                    refine e_Ok.add (z := 1260 * y3 + y5 + 416) rfl (by omega) (by omega) ?_
                    refine e_Ok.run (t' := (74, [(0, (1, 275)), (1, (0, a)), (2, (0, q)), (3, (0, y3)), (4, (0, 1260 * y3 + 416)), (5, (0, y5))], [(0, 0), (0, 1260 * y3 + y5 + 416), (1, 276)], v2)) 1 rfl ?_
                    refine e_Ok.ast rfl (el_o rfl) rfl rfl (by omega) ?_
                    generalize hw82 : e_up v2 276 (1260 * y3 + y5 + 416) 0 = w82
                    have f83 : e_fr (mNt y3) w w82 := e_fr.up j56 hw82 (by unfold mNt; omega)
                    have hT84 : e_Has mTy w82 := e_Has.task0 j57 (by omega) (by omega) hw82
                    refine e_Ok.inc (z := y5 + 1) rfl rfl (by omega) (by omega) ?_
                    show e_Ok 20 elay ecode eI (d + 1) 359 (78, [(5, (0, y5 + 1)), (0, (1, 275)), (1, (0, a)), (2, (0, q)), (3, (0, y3)), (4, (0, 1260 * y3 + 416))], [], w82) _
                    refine e_Ok.run (t' := (57, [(5, (0, y5 + 1)), (0, (1, 275)), (1, (0, a)), (2, (0, q)), (3, (0, y3)), (4, (0, 1260 * y3 + 416))], [], w82)) 1 rfl ?_
                    refine e_Ok.sub eAlk (e_sub_of rfl ?_) (ih55 (y5 + 1) w82 ⟨f83, hT84, by omega, (fun j g1 g2 => Decidable.byCases (p := j = y5) (fun e => by rw [e, ← hw82]; exact e_up_eq _ _ _ _) (fun e => Eq.trans (by rw [← hw82]; exact e_up_ne _ _ (Or.inr (by omega))) (j59 j g1 (by omega))))⟩ (by omega))
                    exact ⟨rfl, rfl, rfl, rfl, rfl, rfl, trivial⟩
              refine e_Ok.sub eAlk (e_sub_of rfl ?_) (hL54 (21 + 1 : Int).toNat 0 w ⟨(e_fr.refl w), hT, by omega, (fun j g1 g2 => by omega)⟩ (by omega))
              exact ⟨rfl, rfl, rfl, rfl, rfl, rfl, trivial⟩
            · replace h50 : (y3 : Int) = 16 := by have q : ¬ ((y3 : Int) ≠ 16) := h50; omega
              exfalso; omega
          · replace h49 : (w 276 (1260 * y3 + 416) : Int) ≠ 6 := by have q : ¬ ((w 276 (1260 * y3 + 416) : Int) = 6) := h49; omega
            refine e_Ok.inc (z := y3 + 1) rfl rfl (by omega) (by omega) ?_
            show e_Ok 20 elay ecode eI (d + 1) 359 (37, [(3, (0, y3 + 1)), (0, (1, 275)), (1, (0, a)), (2, (0, q))], [], w) _
            refine e_Ok.run (t' := (2, [(3, (0, y3 + 1)), (0, (1, 275)), (1, (0, a)), (2, (0, q))], [], w)) 1 rfl ?_
            refine e_Ok.sub eAlk (e_sub_of rfl ?_) (ih2 (y3 + 1) (by omega) (by omega))
            exact ⟨rfl, rfl, rfl, rfl, trivial⟩
  refine e_Ok.sub eAlk (e_sub_of rfl ?_) (hL1 (17 + 1 : Int).toNat 0 (by omega) (by omega))
  exact ⟨rfl, rfl, rfl, rfl, trivial⟩
end
