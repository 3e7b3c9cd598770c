noncomputable section
/-! the model: rows of the book behind back; what channel and aim answer -/
set_option maxHeartbeats 4000000 in
theorem c_436_r {d : Nat} (hd : 49 ≤ d) {w : eW} {G : Int → Gh} {S : Int → Int → Int} (hK : bkI w G S) {p1 : Int} (g1 : -2147483648 ≤ p1 ∧ p1 ≤ 2147483647) : e_Ok 20 elay ecode eI d 436 (0, [(0, (1, 275)), (1, (0, p1))], [], w) (fun r w' => ∃ z : Int, r = [(0, z)] ∧ (w' 275 5 = w 275 5 ∨ (0 ≤ w' 275 5 ∧ w' 275 5 ≤ w 275 5 + 1))) := by
  obtain ⟨d, rfl⟩ : ∃ e, d = e + 1 := ⟨d - 1, by omega⟩
  have hI := hK.inv
  have hro := hK.2.2.2.2.2.2.2.2
  refine e_Ok.run (t' := (4, [(0, (1, 275)), (1, (0, p1))], [(1, 275), (4, 0), (4, p1)], w)) 4 rfl ?_
  refine e_Ok.getf (z := w 275 5) rfl rfl rfl rfl rfl (by omega) ?_
  refine e_Ok.run (t' := (8, [(0, (1, 275)), (1, (0, p1))], [(4, w 275 5), (4, 0), (4, p1)], w)) 1 rfl ?_
  refine e_Ok.callS rfl (by omega) rfl rfl (c_266) (fun r1 w2 h3 => ?_)
  obtain ⟨z4, rfl, rfl, q5⟩ := h3
  obtain ⟨rfl, q5⟩ | ⟨rfl, q5⟩ := q5
  · show e_Ok 20 elay ecode eI (d + 1) 436 (11, [(0, (1, 275)), (1, (0, p1))], [(0, 1)], w) _
    refine e_Ok.if1 rfl (fun h6 => ?_) (fun h6 => ?_)
    · replace h6 : (1 : Int) ≠ 0 := h6
      refine e_Ok.run (t' := (17, [(0, (1, 275)), (1, (0, p1))], [(1, 275)], w)) 1 rfl ?_
      have h7 := (e_Has.get hI.1 (c := 275) (k := 3) (lo := 0) (hi := 1) rfl (by decide))
      refine e_Ok.getf (z := w 275 3) rfl rfl rfl rfl rfl (by omega) ?_
      refine e_Ok.if1 rfl (fun h8 => ?_) (fun h8 => ?_)
      · replace h8 : (w 275 3 : Int) ≠ 0 := h8
        refine e_Ok.run (t' := (29, [(0, (1, 275)), (1, (0, p1))], [(0, 100), (0, p1)], w)) 2 rfl ?_
        refine e_Ok.divn (fun z9 hz9 => ?_) rfl (by omega) (by omega)
        replace hz9 : z9 = p1 / 100 := hz9
        have z9r : 0 ≤ z9 ∧ z9 ≤ 20 := by omega
        have hSz := hK.2.1 (100 * z9) (by omega) (by omega)
        refine e_Ok.run (t' := (33, [(3, (0, 0)), (2, (0, z9)), (0, (1, 275)), (1, (0, p1))], [], w)) 3 rfl ?_
        have hL10 : ∀ (nn : Nat) (y3 : Int) (v1 : eW), e_fr mBb w v1 ∧ (0 ≤ y3 ∧ y3 ≤ 33060) ∧ (∀ k, 0 ≤ k → k < y3 → v1 276 k = S (100 * z9) k) ∧ (∀ c k, ¬ (c = 276 ∧ 0 ≤ k ∧ k < y3) → v1 c k = w c k) → 33061 - y3 < nn → e_Ok 20 elay ecode eI (d + 1) 436 (33, [(0, (1, 275)), (1, (0, p1)), (2, (0, z9)), (3, (0, y3))], [], v1) (fun r w' => ∃ z : Int, r = [(0, z)] ∧ (w' 275 5 = w 275 5 ∨ (0 ≤ w' 275 5 ∧ w' 275 5 ≤ w 275 5 + 1))) := by
          intro nn
          induction nn with
          | zero => intro y3 v1 hj hm; obtain ⟨j12, j13, j14, j15⟩ := hj; exfalso; omega
          | succ nn ih11 =>
            intro y3 v1 hj hm
            obtain ⟨j12, j13, j14, j15⟩ := hj
            refine e_Ok.run (t' := (36, [(0, (1, 275)), (1, (0, p1)), (2, (0, z9)), (3, (0, y3))], [(0, 33060), (0, y3)], v1)) 2 rfl ?_
            refine e_Ok.if2 rfl (fun h16 => ?_) (fun h16 => ?_)
            · replace h16 : (y3 : Int) ≥ 33060 := h16
              have hv1s : ∀ k, v1 276 k = S (100 * z9) k := fun k => Decidable.byCases (p := 0 ≤ k ∧ k < 33060) (fun e => j14 k e.1 (by omega)) (fun e => Eq.trans (j15 276 k (by omega)) (hSz.2.2 k (by omega)).symm)
              have hv1T : e_Has mTy v1 := e_Has.low hSz.1.1 (frB.onN (frB.bb j12) hv1s)
              refine e_Ok.run (t' := (79, [(0, (1, 275)), (1, (0, p1)), (2, (0, z9)), (3, (0, y3))], [(0, 1), (1, 275)], v1)) 2 rfl ?_
              refine e_Ok.putb rfl rfl rfl rfl (by omega) ?_
              generalize hw17 : e_up v1 275 6 1 = w17
              have f18 : e_fr mBb w w17 := e_fr.up j12 hw17 (by unfold mBb mTi mPm; omega)
              refine e_Ok.run (t' := (85, [(0, (1, 275)), (1, (0, p1)), (2, (0, z9)), (3, (0, y3))], [(0, z9), (0, 100)], w17)) 2 rfl ?_
              refine e_Ok.mul (z := 100 * z9) rfl (by omega) (by omega) ?_
              refine e_Ok.run (t' := (87, [(3, (0, 100 * z9)), (0, (1, 275)), (1, (0, p1)), (2, (0, z9))], [], w17)) 1 rfl ?_
              have hL19 : ∀ (nn : Nat) (y3 : Int) (v2 : eW), e_fr mBb w v2 ∧ e_Has mTy v2 ∧ v2 275 6 = 1 ∧ v2 275 118 = w 275 118 ∧ (∀ k, v2 276 k = S y3 k) ∧ ((100 * z9 ≤ y3 ∧ y3 ≤ p1)) → 2001 - y3 < nn → e_Ok 20 elay ecode eI (d + 1) 436 (87, [(0, (1, 275)), (1, (0, p1)), (3, (0, y3))], [], v2) (fun r w' => ∃ z : Int, r = [(0, z)] ∧ (w' 275 5 = w 275 5 ∨ (0 ≤ w' 275 5 ∧ w' 275 5 ≤ w 275 5 + 1))) := by
                intro nn
                induction nn with
                | zero => intro y3 v2 hj hm; obtain ⟨j21, j22, j23, j24, j25, j26⟩ := hj; exfalso; omega
                | succ nn ih20 =>
                  intro y3 v2 hj hm
                  obtain ⟨j21, j22, j23, j24, j25, j26⟩ := hj
                  refine e_Ok.run (t' := (89, [(0, (1, 275)), (1, (0, p1)), (3, (0, y3))], [(0, p1), (0, y3)], v2)) 2 rfl ?_
                  refine e_Ok.if2 rfl (fun h27 => ?_) (fun h27 => ?_)
                  · replace h27 : (y3 : Int) ≥ p1 := h27
                    refine e_Ok.run (t' := (149, [(0, (1, 275)), (1, (0, p1)), (3, (0, y3))], [(0, 0), (1, 275)], v2)) 2 rfl ?_
                    refine e_Ok.putb rfl rfl rfl rfl (by omega) ?_
                    generalize hw28 : e_up v2 275 6 0 = w28
                    have f29 : e_fr mBb w w28 := e_fr.up j21 hw28 (by unfold mBb mTi mPm; omega)
                    refine e_Ok.run (t' := (154, [(0, (1, 275)), (1, (0, p1)), (3, (0, y3))], [(0, p1), (1, 275)], w28)) 2 rfl ?_
                    refine e_Ok.putf rfl rfl rfl rfl ?_
                    generalize hw30 : e_up w28 275 5 p1 = w30
                    refine e_Ok.run (t' := (158, [(0, (1, 275)), (1, (0, p1)), (3, (0, y3))], [(1, 275)], w30)) 1 rfl ?_
                    refine e_Ok.getr (z := 276) rfl rfl rfl rfl (by rw [← hw30]; exact (e_up_ne _ _ (Or.inr (by omega))).trans (by rw [← hw28]; exact (e_up_ne _ _ (Or.inr (by omega))).trans ((j21 275 0 (by unfold mBb mTi mPm; omega)).trans (e_Has.eq hI.1 rfl)))) (by omega) ?_
                    refine e_Ok.run (t' := (162, [(0, (1, 275)), (1, (0, p1)), (3, (0, y3))], [(0, 0), (1, 276)], w30)) 1 rfl ?_
                    have h31 := (e_Has.get j22 (c := 276) (k := 0) (lo := 0) (hi := 6000) rfl (by decide))
                    refine e_Ok.ald (z := v2 276 0) rfl rfl rfl (by omega) (by rw [← hw30]; exact (e_up_ne _ _ (Or.inl (by omega))).trans (by rw [← hw28]; exact (e_up_ne _ _ (Or.inl (by omega))).trans rfl)) (by omega) ?_
                    refine e_Ok.rets rfl rfl ?_
                    exact ⟨_, rfl, by have e : w30 275 5 = p1 := (by rw [← hw30]; exact e_up_eq _ _ _ _); exact Or.inr ⟨by omega, by omega⟩⟩
                  · replace h27 : (y3 : Int) < p1 := by have q : ¬ ((y3 : Int) ≥ p1) := h27; omega
                    have hkb := (hK.2.2.2.2.1 y3 (by omega) (by omega)).1
                    refine e_Ok.run (t' := (94, [(0, (1, 275)), (1, (0, p1)), (3, (0, y3))], [(0, y3), (1, 275)], v2)) 2 rfl ?_
                    refine e_Ok.putf rfl rfl rfl rfl ?_
                    generalize hw32 : e_up v2 275 117 y3 = w32
                    have f33 : e_fr mBb w w32 := e_fr.up j21 hw32 (by unfold mBb mTi mPm; omega)
                    refine e_Ok.run (t' := (99, [(0, (1, 275)), (1, (0, p1)), (3, (0, y3))], [(1, 275), (1, 275)], w32)) 2 rfl ?_
                    refine e_Ok.getr (z := 279) rfl rfl rfl rfl (by rw [← hw32]; exact (e_up_ne _ _ (Or.inr (by omega))).trans ((j21 275 4 (by unfold mBb mTi mPm; omega)).trans (e_Has.eq hI.1 rfl))) (by omega) ?_
                    refine e_Ok.run (t' := (104, [(0, (1, 275)), (1, (0, p1)), (3, (0, y3))], [(0, y3), (0, 4), (1, 279), (1, 275)], w32)) 2 rfl ?_
                    refine e_Ok.mul (z := 4 * y3) rfl (by omega) (by omega) ?_
                    have h34 := (hkb (4 * y3) (by omega) (by omega))
                    refine e_Ok.ald (z := w 279 (4 * y3)) rfl rfl rfl (by omega) (by rw [← hw32]; exact (e_up_ne _ _ (Or.inl (by omega))).trans ((j21 279 (4 * y3) (by unfold mBb mTi mPm; omega)).trans rfl)) (by omega) ?_
                    refine e_Ok.run (t' := (107, [(0, (1, 275)), (1, (0, p1)), (3, (0, y3))], [(1, 275), (0, w 279 (4 * y3)), (1, 275)], w32)) 1 rfl ?_
                    refine e_Ok.getr (z := 279) rfl rfl rfl rfl (by rw [← hw32]; exact (e_up_ne _ _ (Or.inr (by omega))).trans ((j21 275 4 (by unfold mBb mTi mPm; omega)).trans (e_Has.eq hI.1 rfl))) (by omega) ?_
                    refine e_Ok.run (t' := (112, [(0, (1, 275)), (1, (0, p1)), (3, (0, y3))], [(0, y3), (0, 4), (1, 279), (0, w 279 (4 * y3)), (1, 275)], w32)) 2 rfl ?_
                    refine e_Ok.mul (z := 4 * y3) rfl (by omega) (by omega) ?_
                    refine e_Ok.run (t' := (114, [(0, (1, 275)), (1, (0, p1)), (3, (0, y3))], [(0, 1), (0, 4 * y3), (1, 279), (0, w 279 (4 * y3)), (1, 275)], w32)) 1 rfl ?_
                    refine e_Ok.add (z := 4 * y3 + 1) rfl (by omega) (by omega) ?_
                    have h35 := (hkb (4 * y3 + 1) (by omega) (by omega))
                    refine e_Ok.ald (z := w 279 (4 * y3 + 1)) rfl rfl rfl (by omega) (by rw [← hw32]; exact (e_up_ne _ _ (Or.inl (by omega))).trans ((j21 279 (4 * y3 + 1) (by unfold mBb mTi mPm; omega)).trans rfl)) (by omega) ?_
                    refine e_Ok.run (t' := (117, [(0, (1, 275)), (1, (0, p1)), (3, (0, y3))], [(1, 275), (0, w 279 (4 * y3 + 1)), (0, w 279 (4 * y3)), (1, 275)], w32)) 1 rfl ?_
                    refine e_Ok.getr (z := 279) rfl rfl rfl rfl (by rw [← hw32]; exact (e_up_ne _ _ (Or.inr (by omega))).trans ((j21 275 4 (by unfold mBb mTi mPm; omega)).trans (e_Has.eq hI.1 rfl))) (by omega) ?_
                    refine e_Ok.run (t' := (122, [(0, (1, 275)), (1, (0, p1)), (3, (0, y3))], [(0, y3), (0, 4), (1, 279), (0, w 279 (4 * y3 + 1)), (0, w 279 (4 * y3)), (1, 275)], w32)) 2 rfl ?_
                    refine e_Ok.mul (z := 4 * y3) rfl (by omega) (by omega) ?_
                    refine e_Ok.run (t' := (124, [(0, (1, 275)), (1, (0, p1)), (3, (0, y3))], [(0, 2), (0, 4 * y3), (1, 279), (0, w 279 (4 * y3 + 1)), (0, w 279 (4 * y3)), (1, 275)], w32)) 1 rfl ?_
                    refine e_Ok.add (z := 4 * y3 + 2) rfl (by omega) (by omega) ?_
                    have h36 := (hkb (4 * y3 + 2) (by omega) (by omega))
                    refine e_Ok.ald (z := w 279 (4 * y3 + 2)) rfl rfl rfl (by omega) (by rw [← hw32]; exact (e_up_ne _ _ (Or.inl (by omega))).trans ((j21 279 (4 * y3 + 2) (by unfold mBb mTi mPm; omega)).trans rfl)) (by omega) ?_
                    refine e_Ok.run (t' := (127, [(0, (1, 275)), (1, (0, p1)), (3, (0, y3))], [(1, 275), (0, w 279 (4 * y3 + 2)), (0, w 279 (4 * y3 + 1)), (0, w 279 (4 * y3)), (1, 275)], w32)) 1 rfl ?_
                    refine e_Ok.getr (z := 279) rfl rfl rfl rfl (by rw [← hw32]; exact (e_up_ne _ _ (Or.inr (by omega))).trans ((j21 275 4 (by unfold mBb mTi mPm; omega)).trans (e_Has.eq hI.1 rfl))) (by omega) ?_
                    refine e_Ok.run (t' := (132, [(0, (1, 275)), (1, (0, p1)), (3, (0, y3))], [(0, y3), (0, 4), (1, 279), (0, w 279 (4 * y3 + 2)), (0, w 279 (4 * y3 + 1)), (0, w 279 (4 * y3)), (1, 275)], w32)) 2 rfl ?_
                    refine e_Ok.mul (z := 4 * y3) rfl (by omega) (by omega) ?_
                    refine e_Ok.run (t' := (134, [(0, (1, 275)), (1, (0, p1)), (3, (0, y3))], [(0, 3), (0, 4 * y3), (1, 279), (0, w 279 (4 * y3 + 2)), (0, w 279 (4 * y3 + 1)), (0, w 279 (4 * y3)), (1, 275)], w32)) 1 rfl ?_
                    refine e_Ok.add (z := 4 * y3 + 3) rfl (by omega) (by omega) ?_
                    have h37 := (hkb (4 * y3 + 3) (by omega) (by omega))
                    refine e_Ok.ald (z := w 279 (4 * y3 + 3)) rfl rfl rfl (by omega) (by rw [← hw32]; exact (e_up_ne _ _ (Or.inl (by omega))).trans ((j21 279 (4 * y3 + 3) (by unfold mBb mTi mPm; omega)).trans rfl)) (by omega) ?_
                    have hpr := bkI.pre hK f33 (show w32 275 6 = 1 from by rw [← hw32]; exact (e_up_ne _ _ (Or.inr (by decide))).trans j23) (fun k => Eq.trans (show w32 276 k = v2 276 k from by rw [← hw32]; exact e_up_ne _ _ (Or.inl (by decide))) (j25 k)) (i := y3) (by omega)
                    have h118 : w32 275 118 = w 275 118 := by rw [← hw32]; exact (e_up_ne _ _ (Or.inr (by decide))).trans j24
                    have h66 : w32 275 6 = 1 := by rw [← hw32]; exact (e_up_ne _ _ (Or.inr (by decide))).trans j23
                    refine e_Ok.callV rfl (by omega) rfl rfl rfl rfl (c_435 (by omega) hpr.1 hpr.2.1 hpr.2.2.1 h66 (by have := hK.2.2.2.2.2.2.1; omega) (i := y3) (by omega) (by rw [← hw32]; exact e_up_eq _ _ _ _) hpr.2.2.2.1 hpr.2.2.2.2.2 (f33 279 _ (by unfold mBb mTi mPm; omega)) (f33 279 _ (by unfold mBb mTi mPm; omega)) (f33 279 _ (by unfold mBb mTi mPm; omega)) (f33 279 _ (by unfold mBb mTi mPm; omega))) (fun r38 w40 h41 => ?_)
                    obtain ⟨z42, rfl, q43, q438, q436, q43s⟩ := h41
                    have f44 : e_fr mBb w w40 := e_fr.trans f33 (e_fr.mono q43 (fun c k q => by exact q))
                    have q43T : e_Has mTy w40 := (hK.2.1 (y3 + 1) (by omega) (by omega)).1.1.low (frB.onN (frB.bb f44) q43s)
                    show e_Ok 20 elay ecode eI (d + 1) 436 (139, [(0, (1, 275)), (1, (0, p1)), (3, (0, y3))], [(0, z42)], w40) _
                    refine e_Ok.run (t' := (141, [(4, (0, z42)), (0, (1, 275)), (1, (0, p1)), (3, (0, y3))], [], w40)) 1 rfl ?_
                    refine e_Ok.inc (z := y3 + 1) rfl rfl (by omega) (by omega) ?_
                    show e_Ok 20 elay ecode eI (d + 1) 436 (144, [(3, (0, y3 + 1)), (4, (0, z42)), (0, (1, 275)), (1, (0, p1))], [], w40) _
                    refine e_Ok.run (t' := (87, [(3, (0, y3 + 1)), (4, (0, z42)), (0, (1, 275)), (1, (0, p1))], [], w40)) 1 rfl ?_
                    refine e_Ok.sub eAlk (e_sub_of rfl ?_) (ih20 (y3 + 1) w40 ⟨f44, q43T, (q436.trans h66), (q438.trans h118), q43s, by omega⟩ (by omega))
                    exact ⟨rfl, rfl, rfl, trivial⟩
              refine e_Ok.sub eAlk (e_sub_of rfl ?_) (hL19 (2001 + 1 : Int).toNat (100 * z9) w17 ⟨f18, (e_Has.low hv1T (fun c k q => by rw [← hw17]; exact e_up_ne _ _ (Decidable.byCases (p := c = 275) (fun e => Or.inr (fun e2 => by rw [e, e2] at q; exact absurd q (by decide : ¬ ((1 : Int) ≤ 0)))) (fun e => Or.inl e)))), (by rw [← hw17]; exact e_up_eq _ _ _ _), (by rw [← hw17]; exact (e_up_ne _ _ (Or.inr (by decide))).trans (j15 275 118 (by omega))), (fun k => Eq.trans (show w17 276 k = v1 276 k from by rw [← hw17]; exact e_up_ne _ _ (Or.inl (by decide))) (hv1s k)), by omega⟩ (by omega))
              exact ⟨rfl, rfl, rfl, trivial⟩
            · replace h16 : (y3 : Int) < 33060 := by have q : ¬ ((y3 : Int) ≥ 33060) := h16; omega
              have hSb : -2147483648 ≤ S (100 * z9) y3 ∧ S (100 * z9) y3 ≤ 2147483647 := by have := e_Has.now hSz.1.1 y3; unfold wn at this; rw [if_pos rfl] at this; exact this
              refine e_Ok.run (t' := (40, [(0, (1, 275)), (1, (0, p1)), (2, (0, z9)), (3, (0, y3))], [(1, 275)], v1)) 1 rfl ?_
              refine e_Ok.getr (z := 276) rfl rfl rfl rfl ((j12 275 0 (by unfold mBb mTi mPm; omega)).trans (e_Has.eq hI.1 rfl)) (by omega) ?_
              refine e_Ok.run (t' := (45, [(0, (1, 275)), (1, (0, p1)), (2, (0, z9)), (3, (0, y3))], [(0, z9), (0, y3), (1, 276)], v1)) 2 rfl ?_
              refine e_Ok.if1 rfl (fun h45 => ?_) (fun h45 => ?_)
              · replace h45 : (z9 : Int) ≠ 0 := h45
                refine e_Ok.run (t' := (58, [(0, (1, 275)), (1, (0, p1)), (2, (0, z9)), (3, (0, y3))], [(1, 275), (0, y3), (1, 276)], v1)) 1 rfl ?_
                refine e_Ok.getr (z := 278) rfl rfl rfl rfl ((j12 275 2 (by unfold mBb mTi mPm; omega)).trans (e_Has.eq hI.1 rfl)) (by omega) ?_
                refine e_Ok.run (t' := (65, [(0, (1, 275)), (1, (0, p1)), (2, (0, z9)), (3, (0, y3))], [(0, 1), (0, z9), (0, 33060), (1, 278), (0, y3), (1, 276)], v1)) 3 rfl ?_
                refine e_Ok.sub' (z := z9 - 1) rfl (by omega) (by omega) ?_
                refine e_Ok.mul (z := 33060 * z9 - 33060) rfl (by omega) (by omega) ?_
                refine e_Ok.run (t' := (68, [(0, (1, 275)), (1, (0, p1)), (2, (0, z9)), (3, (0, y3))], [(0, y3), (0, 33060 * z9 - 33060), (1, 278), (0, y3), (1, 276)], v1)) 1 rfl ?_
                refine e_Ok.add (z := 33060 * z9 + y3 - 33060) rfl (by omega) (by omega) ?_
                refine e_Ok.ald (z := (S (100 * z9) y3)) rfl rfl rfl (by omega) ((j12 278 (33060 * z9 + y3 - 33060) (by unfold mBb mTi mPm; omega)).trans (by rw [show 33060 * z9 + y3 - 33060 = 33060 * z9 - 33060 + y3 by omega]; exact hK.2.2.2.1 z9 y3 (by omega) (by omega) (by omega) (by omega))) (by omega) ?_
                refine e_Ok.ast rfl rfl rfl rfl (by omega) ?_
                generalize hw46 : e_up v1 276 y3 ((S (100 * z9) y3)) = w46
                have f47 : e_fr mBb w w46 := e_fr.up j12 hw46 (by unfold mBb mTi mPm; omega)
                refine e_Ok.inc (z := y3 + 1) rfl rfl (by omega) (by omega) ?_
                show e_Ok 20 elay ecode eI (d + 1) 436 (74, [(3, (0, y3 + 1)), (0, (1, 275)), (1, (0, p1)), (2, (0, z9))], [], w46) _
                refine e_Ok.run (t' := (33, [(3, (0, y3 + 1)), (0, (1, 275)), (1, (0, p1)), (2, (0, z9))], [], w46)) 1 rfl ?_
                refine e_Ok.sub eAlk (e_sub_of rfl ?_) (ih11 (y3 + 1) w46 ⟨f47, by omega, (fun k g1 g2 => Decidable.byCases (p := k = y3) (fun e => by rw [e, ← hw46]; exact e_up_eq _ _ _ _) (fun e => Eq.trans (show w46 276 k = v1 276 k from by rw [← hw46]; exact e_up_ne _ _ (Or.inr e)) (j14 k g1 (by omega)))), (fun c k q => Eq.trans (show w46 c k = v1 c k from by rw [← hw46]; exact e_up_ne _ _ (by omega)) (j15 c k (by omega)))⟩ (by omega))
                exact ⟨rfl, rfl, rfl, rfl, trivial⟩
              · replace h45 : (z9 : Int) = 0 := by have q : ¬ ((z9 : Int) ≠ 0) := h45; omega
                have hS0 : S 0 y3 = S (100 * z9) y3 := by rw [show 100 * z9 = 0 by omega]
                rw [← hS0] at hSb
                refine e_Ok.run (t' := (49, [(0, (1, 275)), (1, (0, p1)), (2, (0, z9)), (3, (0, y3))], [(1, 275), (0, y3), (1, 276)], v1)) 1 rfl ?_
                refine e_Ok.getr (z := 277) rfl rfl rfl rfl ((j12 275 1 (by unfold mBb mTi mPm; omega)).trans (e_Has.eq hI.1 rfl)) (by omega) ?_
                refine e_Ok.run (t' := (53, [(0, (1, 275)), (1, (0, p1)), (2, (0, z9)), (3, (0, y3))], [(0, y3), (1, 277), (0, y3), (1, 276)], v1)) 1 rfl ?_
                refine e_Ok.ald (z := (S 0 y3)) rfl rfl rfl (by omega) ((j12 277 y3 (by unfold mBb mTi mPm; omega)).trans (hK.2.2.1 y3 (by omega) (by omega))) (by omega) ?_
                refine e_Ok.run (t' := (70, [(0, (1, 275)), (1, (0, p1)), (2, (0, z9)), (3, (0, y3))], [(0, (S 0 y3)), (0, y3), (1, 276)], v1)) 1 rfl ?_
                refine e_Ok.ast rfl rfl rfl rfl (by omega) ?_
                generalize hw48 : e_up v1 276 y3 ((S 0 y3)) = w48
                have f49 : e_fr mBb w w48 := e_fr.up j12 hw48 (by unfold mBb mTi mPm; omega)
                refine e_Ok.inc (z := y3 + 1) rfl rfl (by omega) (by omega) ?_
                show e_Ok 20 elay ecode eI (d + 1) 436 (74, [(3, (0, y3 + 1)), (0, (1, 275)), (1, (0, p1)), (2, (0, z9))], [], w48) _
                refine e_Ok.run (t' := (33, [(3, (0, y3 + 1)), (0, (1, 275)), (1, (0, p1)), (2, (0, z9))], [], w48)) 1 rfl ?_
                refine e_Ok.sub eAlk (e_sub_of rfl ?_) (ih11 (y3 + 1) w48 ⟨f49, by omega, (fun k g1 g2 => Decidable.byCases (p := k = y3) (fun e => by rw [e, ← hw48]; exact (e_up_eq _ _ _ _).trans hS0) (fun e => Eq.trans (show w48 276 k = v1 276 k from by rw [← hw48]; exact e_up_ne _ _ (Or.inr e)) (j14 k g1 (by omega)))), (fun c k q => Eq.trans (show w48 c k = v1 c k from by rw [← hw48]; exact e_up_ne _ _ (by omega)) (j15 c k (by omega)))⟩ (by omega))
                exact ⟨rfl, rfl, rfl, rfl, trivial⟩
        refine e_Ok.sub eAlk (e_sub_of rfl ?_) (hL10 (33061 + 1 : Int).toNat 0 w ⟨e_fr.refl w, by omega, (fun k g1 g2 => by omega), (fun c k _ => rfl)⟩ (by omega))
        exact ⟨rfl, rfl, rfl, rfl, trivial⟩
      · replace h8 : (w 275 3 : Int) = 0 := by have q : ¬ ((w 275 3 : Int) ≠ 0) := h8; omega
        refine e_Ok.run (t' := (25, [(0, (1, 275)), (1, (0, p1))], [(0, (-2))], w)) 1 rfl ?_
        refine e_Ok.rets rfl rfl ?_
        exact ⟨_, rfl, Or.inl rfl⟩
    · replace h6 : (1 : Int) = 0 := by have q : ¬ ((1 : Int) ≠ 0) := h6; omega
      exfalso; omega
  · show e_Ok 20 elay ecode eI (d + 1) 436 (11, [(0, (1, 275)), (1, (0, p1))], [(0, 0)], w) _
    refine e_Ok.if1 rfl (fun h50 => ?_) (fun h50 => ?_)
    · replace h50 : (0 : Int) ≠ 0 := h50
      exfalso; omega
    · replace h50 : (0 : Int) = 0 := by have q : ¬ ((0 : Int) ≠ 0) := h50; omega
      refine e_Ok.run (t' := (15, [(0, (1, 275)), (1, (0, p1))], [(0, (-1))], w)) 1 rfl ?_
      refine e_Ok.rets rfl rfl ?_
      exact ⟨_, rfl, Or.inl rfl⟩
set_option maxHeartbeats 4000000 in
theorem c_434_z {d : Nat} (hd : 25 ≤ d) {w : eW} {G : Int → Gh} (hI : mInv w G) (hB : bkE w) (hE : w 276 5 ≤ 7000000) {p1 p2 : Int} (g1 : -2147483648 ≤ p1 ∧ p1 ≤ 2147483647) (g2 : -2147483648 ≤ p2 ∧ p2 ≤ 2147483647) : e_Ok 20 elay ecode eI d 434 (0, [(0, (1, 275)), (1, (0, p1)), (2, (0, p2))], [], w) (fun r w' => ∃ z : Int, r = [(0, z)] ∧ ((¬ (0 ≤ p1 ∧ p1 ≤ 5) ∧ z = -1) ∨ ((0 ≤ p1 ∧ p1 ≤ 5) ∧ ((w 275 3 = 0 ∧ z = -2) ∨ (w 275 3 = 1 ∧ ((mBk w ∧ z = -3) ∨ (¬ mBk w ∧ z = 0))))))) := by
  obtain ⟨d, rfl⟩ : ∃ e, d = e + 1 := ⟨d - 1, by omega⟩
  refine e_Ok.run (t' := (6, [(0, (1, 275)), (1, (0, p1)), (2, (0, p2))], [(4, 5), (4, 0), (4, p1)], w)) 4 rfl ?_
  refine e_Ok.callS rfl (by omega) rfl rfl (c_266) (fun r1 w2 h3 => ?_)
  obtain ⟨z4, rfl, rfl, q5⟩ := h3
  obtain ⟨rfl, q5⟩ | ⟨rfl, q5⟩ := q5
  · show e_Ok 20 elay ecode eI (d + 1) 434 (9, [(0, (1, 275)), (1, (0, p1)), (2, (0, p2))], [(0, 1)], w) _
    refine e_Ok.if1 rfl (fun h6 => ?_) (fun h6 => ?_)
    · replace h6 : (1 : Int) ≠ 0 := h6
      refine e_Ok.run (t' := (15, [(0, (1, 275)), (1, (0, p1)), (2, (0, p2))], [(1, 275)], w)) 1 rfl ?_
      have h7 := (e_Has.get hI.1 (c := 275) (k := 3) (lo := 0) (hi := 1) rfl (by decide))
      refine e_Ok.getf (z := w 275 3) rfl rfl rfl rfl rfl (by omega) ?_
      refine e_Ok.if1 rfl (fun h8 => ?_) (fun h8 => ?_)
      · replace h8 : (w 275 3 : Int) ≠ 0 := h8
        refine e_Ok.run (t' := (25, [(0, (1, 275)), (1, (0, p1)), (2, (0, p2))], [(1, 275)], w)) 1 rfl ?_
        refine e_Ok.callV rfl (by omega) rfl rfl rfl rfl (c_422_x hI.1 hB) (fun r9 w10 h11 => ?_)
        obtain ⟨z12, rfl, rfl, q13⟩ := h11
        obtain ⟨rfl, q13⟩ | ⟨rfl, q13⟩ := q13
        · show e_Ok 20 elay ecode eI (d + 1) 434 (28, [(0, (1, 275)), (1, (0, p1)), (2, (0, p2))], [(0, 1)], w) _
          refine e_Ok.if1 rfl (fun h14 => ?_) (fun h14 => ?_)
          · replace h14 : (1 : Int) = 0 := h14
            exfalso; omega
          · replace h14 : (1 : Int) ≠ 0 := by have q : ¬ ((1 : Int) = 0) := h14; omega
            refine e_Ok.run (t' := (33, [(0, (1, 275)), (1, (0, p1)), (2, (0, p2))], [(0, (-3))], w)) 1 rfl ?_
            refine e_Ok.rets rfl rfl ?_
            exact ⟨_, rfl, Or.inr ⟨by omega, Or.inr ⟨by omega, Or.inl ⟨by assumption, rfl⟩⟩⟩⟩
        · show e_Ok 20 elay ecode eI (d + 1) 434 (28, [(0, (1, 275)), (1, (0, p1)), (2, (0, p2))], [(0, 0)], w) _
          refine e_Ok.if1 rfl (fun h15 => ?_) (fun h15 => ?_)
          · replace h15 : (0 : Int) = 0 := h15
            refine e_Ok.run (t' := (35, [(0, (1, 275)), (1, (0, p1)), (2, (0, p2))], [(1, 275)], w)) 1 rfl ?_
            refine e_Ok.getr (z := 276) rfl rfl rfl rfl (e_Has.eq hI.1 rfl) (by omega) ?_
            refine e_Ok.run (t' := (41, [(0, (1, 275)), (1, (0, p1)), (2, (0, p2))], [(0, p1), (0, 8), (1, 276)], w)) 2 rfl ?_
            refine e_Ok.add (z := p1 + 8) rfl (by omega) (by omega) ?_
            refine e_Ok.run (t' := (43, [(0, (1, 275)), (1, (0, p1)), (2, (0, p2))], [(0, p2), (0, p1 + 8), (1, 276)], w)) 1 rfl ?_
            refine e_Ok.ast rfl rfl rfl rfl (by omega) ?_
            generalize hw16 : e_up w 276 (p1 + 8) p2 = w16
            have f17 : e_fr mTi w w16 := e_fr.up (e_fr.refl w) hw16 (by unfold mTi; omega)
            have hT18 : e_Has mTy w16 := e_Has.upr hI.1 hw16 (nR_AIM (by omega)) (by omega)
            have hI19 : mInv w16 G := (mInv.up1 hI hw16 hT18 (by unfold idl; omega))
            refine e_Ok.run (t' := (50, [(0, (1, 275)), (1, (0, p1)), (2, (0, p2))], [(0, 0), (0, p2), (0, p1), (0, 9), (1, 275)], w16)) 5 rfl ?_
            refine e_Ok.callV rfl (by omega) rfl rfl rfl rfl (c_423_u (by omega) hT18 (bkE.fr hB (f17 275 5 (by unfold mTi; omega)) (f17 275 6 (by unfold mTi; omega)) (fun k => f17 356 k (by unfold mTi; omega))).1 (fun e => by have e5 : w16 275 5 = w 275 5 := f17 275 5 (by unfold mTi; omega); have e6 : w16 275 6 = w 275 6 := f17 275 6 (by unfold mTi; omega); have h1 := hB.1; have h2 := (show ¬ mBk w by assumption); unfold mBk at h2; omega) (by decide) (fun e => by omega)) (fun r20 w21 h22 => ?_)
            obtain ⟨rfl, q23⟩ := h22
            show e_Ok 20 elay ecode eI (d + 1) 434 (53, [(0, (1, 275)), (1, (0, p1)), (2, (0, p2))], [], w21) _
            refine e_Ok.run (t' := (54, [(0, (1, 275)), (1, (0, p1)), (2, (0, p2))], [(0, 0)], w21)) 1 rfl ?_
            refine e_Ok.rets rfl rfl ?_
            exact ⟨_, rfl, Or.inr ⟨by omega, Or.inr ⟨by omega, Or.inr ⟨by assumption, rfl⟩⟩⟩⟩
          · replace h15 : (0 : Int) ≠ 0 := by have q : ¬ ((0 : Int) = 0) := h15; omega
            exfalso; omega
      · replace h8 : (w 275 3 : Int) = 0 := by have q : ¬ ((w 275 3 : Int) ≠ 0) := h8; omega
        refine e_Ok.run (t' := (23, [(0, (1, 275)), (1, (0, p1)), (2, (0, p2))], [(0, (-2))], w)) 1 rfl ?_
        refine e_Ok.rets rfl rfl ?_
        exact ⟨_, rfl, Or.inr ⟨by omega, Or.inl ⟨by omega, rfl⟩⟩⟩
    · replace h6 : (1 : Int) = 0 := by have q : ¬ ((1 : Int) ≠ 0) := h6; omega
      exfalso; omega
  · show e_Ok 20 elay ecode eI (d + 1) 434 (9, [(0, (1, 275)), (1, (0, p1)), (2, (0, p2))], [(0, 0)], w) _
    refine e_Ok.if1 rfl (fun h24 => ?_) (fun h24 => ?_)
    · replace h24 : (0 : Int) ≠ 0 := h24
      exfalso; omega
    · replace h24 : (0 : Int) = 0 := by have q : ¬ ((0 : Int) ≠ 0) := h24; omega
      refine e_Ok.run (t' := (13, [(0, (1, 275)), (1, (0, p1)), (2, (0, p2))], [(0, (-1))], w)) 1 rfl ?_
      refine e_Ok.rets rfl rfl ?_
      exact ⟨_, rfl, Or.inl ⟨by omega, rfl⟩⟩
end
