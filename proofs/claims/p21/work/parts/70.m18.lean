noncomputable section
theorem nR_PARTg {e : Int} (p k : Int) (h : 0 ≤ p ∧ p ≤ 31) (hk : 1 ≤ k ∧ k ≤ 3) (he : e = 4 * p + k + 20576) : mTy 276 e = (-2147483648, 2147483647) := by rw [he]; exact nR_PART h hk
def mDr (c k : Int) : Prop := (c = 276 ∧ ((20576 ≤ k ∧ k ≤ 20703 ∧ k % 4 = 3) ∨ (160 ≤ k ∧ k ≤ 223) ∨ (352 ≤ k ∧ k ≤ 415))) ∨ c = 326 ∨ c = 327
theorem no_70_0 {k : Int} : ¬ mDr 275 k := by unfold mDr; omega
theorem no_70_1 {b : Int} (hb : 0 ≤ b ∧ b ≤ 3) : ¬ mDr 276 (33 * b + 20704) := by unfold mDr; omega
theorem no_70_2 {k : Int} : ¬ mDr 306 k := by unfold mDr; omega
theorem no_70_3 {k : Int} : ¬ mDr 304 k := by unfold mDr; omega
theorem no_70_4 {k : Int} : ¬ mDr 303 k := by unfold mDr; omega
theorem no_70_5 {k : Int} : ¬ mDr 307 k := by unfold mDr; omega
theorem no_70_6 {k : Int} : ¬ mDr 308 k := by unfold mDr; omega
theorem no_70_7 {k : Int} : ¬ mDr 309 k := by unfold mDr; omega
theorem su_70_10 {c k : Int} (q : mO c k) : mDr c k := by
  unfold mO at q
  rcases q with ⟨q, (⟨q, q⟩ | ⟨q, q⟩)⟩ | q | q
  · exact Or.inl ⟨(by omega), Or.inr (Or.inl ⟨(by omega), (by omega)⟩)⟩
  · exact Or.inl ⟨(by omega), Or.inr (Or.inr ⟨(by omega), (by omega)⟩)⟩
  · exact Or.inr (Or.inl (by omega))
  · exact Or.inr (Or.inr (by omega))
set_option maxHeartbeats 4000000 in
theorem c_398 {d : Nat} (hd : 25 ≤ d) {w : eW} (hT : e_Has mTy w) (hA : mAc w) {b : Int} (hb : 0 ≤ b ∧ b ≤ 3) : e_Ok 20 elay ecode eI d 398 (0, [(0, (1, 275)), (1, (0, b))], [], w) (fun r w' => r = [] ∧ e_fr mDr w w' ∧ e_Has mTy w') := by
  obtain ⟨d, rfl⟩ : ∃ e, d = e + 1 := ⟨d - 1, by omega⟩
  refine e_Ok.run (t' := (6, [(0, (1, 275)), (1, (0, b))], [(0, b), (0, 33), (0, 20704)], w)) 3 rfl ?_
  refine e_Ok.mul (z := 33 * b) rfl (by omega) (by omega) ?_
  refine e_Ok.add (z := 33 * b + 20704) rfl (by omega) (by omega) ?_
  refine e_Ok.run (t' := (14, [(4, (0, 1)), (3, (0, 0)), (2, (0, 33 * b + 20704)), (0, (1, 275)), (1, (0, b))], [], w)) 5 rfl ?_
  have hL1 : ∀ (nn : Nat) (y3 : Int) (y4 : Int) (v1 : eW), e_fr mDr w v1 ∧ e_Has mTy v1 ∧ (1 ≤ y4 ∧ y4 ≤ 33) → 34 - y4 < nn → e_Ok 20 elay ecode eI (d + 1) 398 (14, [(0, (1, 275)), (1, (0, b)), (2, (0, 33 * b + 20704)), (3, (0, y3)), (4, (0, y4))], [], v1) (fun r w' => r = [] ∧ e_fr mDr w w' ∧ e_Has mTy w') := by
    intro nn
    induction nn with
    | zero => intro y3 y4 v1 hj hm; obtain ⟨j3, j4, j5⟩ := hj; exfalso; omega
    | succ nn ih2 =>
      intro y3 y4 v1 hj hm
      obtain ⟨j3, j4, j5⟩ := hj
      refine e_Ok.run (t' := (17, [(0, (1, 275)), (1, (0, b)), (2, (0, 33 * b + 20704)), (3, (0, y3)), (4, (0, y4))], [(1, 275), (0, y4)], v1)) 2 rfl ?_
      refine e_Ok.getr (z := 276) rfl (el_o rfl) rfl rfl ((j3 275 0 no_70_0).trans (e_Has.eq hT rfl)) (by omega) ?_
      refine e_Ok.run (t' := (21, [(0, (1, 275)), (1, (0, b)), (2, (0, 33 * b + 20704)), (3, (0, y3)), (4, (0, y4))], [(0, 33 * b + 20704), (1, 276), (0, y4)], v1)) 1 rfl ?_
      have h6 := (e_Has.get hT (c := 276) (k := 33 * b + 20704) (lo := 0) (hi := 32) (nR_ORDER (b := b) (by omega)) (by decide))
      refine e_Ok.ald (z := w 276 (33 * b + 20704)) rfl (el_o rfl) rfl (by omega) ((j3 276 (33 * b + 20704) (by first | exact no_70_1 (by omega) | (unfold mDr; omega))).trans rfl) (by omega) ?_
      refine e_Ok.if2 rfl (fun h7 => ?_) (fun h7 => ?_)
      · replace h7 : (y4 : Int) > w 276 (33 * b + 20704) := h7
        refine e_Ok.run (t' := (213, [(0, (1, 275)), (1, (0, b)), (2, (0, 33 * b + 20704)), (3, (0, y3)), (4, (0, y4))], [(1, 275)], v1)) 1 rfl ?_
        refine e_Ok.getr (z := 306) rfl (el_o rfl) rfl rfl ((j3 275 37 no_70_0).trans (e_Has.eq hT rfl)) (by omega) ?_
        refine e_Ok.run (t' := (217, [(0, (1, 275)), (1, (0, b)), (2, (0, 33 * b + 20704)), (3, (0, y3)), (4, (0, y4))], [(0, b), (1, 306)], v1)) 1 rfl ?_
        have h8 := (e_Has.get hT (c := 306) (k := b) (lo := (-1)) (hi := 63) rfl (by decide))
        refine e_Ok.ald (z := w 306 b) rfl (el_o rfl) rfl (by omega) ((j3 306 b no_70_2).trans rfl) (by omega) ?_
        refine e_Ok.if1 rfl (fun h9 => ?_) (fun h9 => ?_)
        · replace h9 : (w 306 b : Int) < 0 := h9
          refine e_Ok.rets rfl rfl ?_
          exact ⟨rfl, j3, j4⟩
        · replace h9 : (w 306 b : Int) ≥ 0 := by have q : ¬ ((w 306 b : Int) < 0) := h9; omega
          refine e_Ok.run (t' := (223, [(0, (1, 275)), (1, (0, b)), (2, (0, 33 * b + 20704)), (3, (0, y3)), (4, (0, y4))], [(1, 275), (1, 275)], v1)) 2 rfl ?_
          refine e_Ok.getr (z := 306) rfl (el_o rfl) rfl rfl ((j3 275 37 no_70_0).trans (e_Has.eq hT rfl)) (by omega) ?_
          refine e_Ok.run (t' := (227, [(0, (1, 275)), (1, (0, b)), (2, (0, 33 * b + 20704)), (3, (0, y3)), (4, (0, y4))], [(0, b), (1, 306), (1, 275)], v1)) 1 rfl ?_
          refine e_Ok.ald (z := w 306 b) rfl (el_o rfl) rfl (by omega) ((j3 306 b no_70_2).trans rfl) (by omega) ?_
          refine e_Ok.run (t' := (229, [(0, (1, 275)), (1, (0, b)), (2, (0, 33 * b + 20704)), (3, (0, y3)), (4, (0, y4))], [(0, y3), (0, w 306 b), (1, 275)], v1)) 1 rfl ?_
          have hJ12 : ∀ m11 : Int, 0 ≤ m11 ∧ m11 ≤ 1 → e_Ok 20 elay ecode eI (d + 1) 398 (237, [(0, (1, 275)), (1, (0, b)), (2, (0, 33 * b + 20704)), (3, (0, y3)), (4, (0, y4))], [(0, m11), (0, w 306 b), (1, 275)], v1) (fun r w' => r = [] ∧ e_fr mDr w w' ∧ e_Has mTy w') := by
            intro m11 m11r
            refine e_Ok.callV rfl (by omega) rfl rfl rfl rfl (c_323 (by omega) j4 (mAc.fr' (fun k q => by revert q; unfold mDr; omega) j3 hA) (by omega) (by omega)) (fun r13 w14 h15 => ?_)
            obtain ⟨rfl, q16, q16T⟩ := h15
            have f17 : e_fr mDr w w14 := e_fr.trans j3 (e_fr.mono q16 (fun c k q => su_70_10 q))
            show e_Ok 20 elay ecode eI (d + 1) 398 (240, [(0, (1, 275)), (1, (0, b)), (2, (0, 33 * b + 20704)), (3, (0, y3)), (4, (0, y4))], [], w14) _
            refine e_Ok.rets rfl rfl ?_
            exact ⟨rfl, f17, q16T⟩
          refine e_Ok.if1 rfl (fun h10 => ?_) (fun h10 => ?_)
          · exact e_Ok.run 1 rfl (hJ12 0 (by omega))
          · exact e_Ok.run 2 rfl (hJ12 1 (by omega))
      · replace h7 : (y4 : Int) ≤ w 276 (33 * b + 20704) := by have q : ¬ ((y4 : Int) > w 276 (33 * b + 20704)) := h7; omega
        refine e_Ok.run (t' := (26, [(0, (1, 275)), (1, (0, b)), (2, (0, 33 * b + 20704)), (3, (0, y3)), (4, (0, y4))], [(1, 275)], v1)) 1 rfl ?_
        refine e_Ok.getr (z := 276) rfl (el_o rfl) rfl rfl ((j3 275 0 no_70_0).trans (e_Has.eq hT rfl)) (by omega) ?_
        refine e_Ok.run (t' := (32, [(0, (1, 275)), (1, (0, b)), (2, (0, 33 * b + 20704)), (3, (0, y3)), (4, (0, y4))], [(0, y4), (0, 33 * b + 20704), (1, 276)], v1)) 2 rfl ?_
        refine e_Ok.add (z := 33 * b + y4 + 20704) rfl (by omega) (by omega) ?_
        have h18 := (e_Has.get hT (c := 276) (k := 33 * b + y4 + 20704) (lo := 0) (hi := 31) (nR_ORD b (by omega) (by omega)) (by decide))
        refine e_Ok.ald (z := w 276 (33 * b + y4 + 20704)) rfl (el_o rfl) rfl (by omega) ((j3 276 (33 * b + y4 + 20704) (by unfold mDr; omega)).trans rfl) (by omega) ?_
        refine e_Ok.run (t' := (37, [(5, (0, w 276 (33 * b + y4 + 20704))), (0, (1, 275)), (1, (0, b)), (2, (0, 33 * b + 20704)), (3, (0, y3)), (4, (0, y4))], [(1, 275)], v1)) 2 rfl ?_
        refine e_Ok.getr (z := 276) rfl (el_o rfl) rfl rfl ((j3 275 0 no_70_0).trans (e_Has.eq hT rfl)) (by omega) ?_
        refine e_Ok.run (t' := (42, [(5, (0, w 276 (33 * b + y4 + 20704))), (0, (1, 275)), (1, (0, b)), (2, (0, 33 * b + 20704)), (3, (0, y3)), (4, (0, y4))], [(0, w 276 (33 * b + y4 + 20704)), (1, 276)], v1)) 1 rfl ?_
        refine e_Ok.callS rfl (by omega) rfl rfl (c_392 (by omega)) (fun r19 w20 h21 => ?_)
        obtain ⟨rfl, rfl⟩ := h21
        show e_Ok 20 elay ecode eI (d + 1) 398 (45, [(5, (0, w 276 (33 * b + y4 + 20704))), (0, (1, 275)), (1, (0, b)), (2, (0, 33 * b + 20704)), (3, (0, y3)), (4, (0, y4))], [(0, 4 * w 276 (33 * b + y4 + 20704) + 20576), (1, 276)], v1) _
        refine e_Ok.run (t' := (46, [(5, (0, w 276 (33 * b + y4 + 20704))), (0, (1, 275)), (1, (0, b)), (2, (0, 33 * b + 20704)), (3, (0, y3)), (4, (0, y4))], [(0, 3), (0, 4 * w 276 (33 * b + y4 + 20704) + 20576), (1, 276)], v1)) 1 rfl ?_
        refine e_Ok.add (z := 4 * w 276 (33 * b + y4 + 20704) + 20579) rfl (by omega) (by omega) ?_
        have h22 := (e_Has.get j4 (c := 276) (k := 4 * w 276 (33 * b + y4 + 20704) + 20579) (lo := (-2147483648)) (hi := 2147483647) (nR_PART3 (p := w 276 (33 * b + y4 + 20704)) (by omega)) (by decide))
        refine e_Ok.ald (z := v1 276 (4 * w 276 (33 * b + y4 + 20704) + 20579)) rfl rfl rfl (by omega) rfl (by omega) ?_
        refine e_Ok.run (t' := (53, [(6, (0, v1 276 (4 * w 276 (33 * b + y4 + 20704) + 20579))), (5, (0, w 276 (33 * b + y4 + 20704))), (0, (1, 275)), (1, (0, b)), (2, (0, 33 * b + 20704)), (3, (0, y3)), (4, (0, y4))], [(1, 275), (0, v1 276 (4 * w 276 (33 * b + y4 + 20704) + 20579))], v1)) 3 rfl ?_
        refine e_Ok.getr (z := 304) rfl (el_o rfl) rfl rfl ((j3 275 35 no_70_0).trans (e_Has.eq hT rfl)) (by omega) ?_
        refine e_Ok.run (t' := (57, [(6, (0, v1 276 (4 * w 276 (33 * b + y4 + 20704) + 20579))), (5, (0, w 276 (33 * b + y4 + 20704))), (0, (1, 275)), (1, (0, b)), (2, (0, 33 * b + 20704)), (3, (0, y3)), (4, (0, y4))], [(0, b), (1, 304), (0, v1 276 (4 * w 276 (33 * b + y4 + 20704) + 20579))], v1)) 1 rfl ?_
        have h23 := (e_Has.get hT (c := 304) (k := b) (lo := 0) (hi := 100) rfl (by decide))
        refine e_Ok.ald (z := w 304 b) rfl (el_o rfl) rfl (by omega) ((j3 304 b no_70_3).trans rfl) (by omega) ?_
        refine e_Ok.any rfl (eF_add_any _ _) (fun z24 z24a z24b => ?_)
        refine e_Ok.run (t' := (60, [(6, (0, v1 276 (4 * w 276 (33 * b + y4 + 20704) + 20579))), (5, (0, w 276 (33 * b + y4 + 20704))), (0, (1, 275)), (1, (0, b)), (2, (0, 33 * b + 20704)), (3, (0, y3)), (4, (0, y4))], [(1, 275), (0, z24)], v1)) 1 rfl ?_
        refine e_Ok.getr (z := 303) rfl (el_o rfl) rfl rfl ((j3 275 34 no_70_0).trans (e_Has.eq hT rfl)) (by omega) ?_
        refine e_Ok.run (t' := (64, [(6, (0, v1 276 (4 * w 276 (33 * b + y4 + 20704) + 20579))), (5, (0, w 276 (33 * b + y4 + 20704))), (0, (1, 275)), (1, (0, b)), (2, (0, 33 * b + 20704)), (3, (0, y3)), (4, (0, y4))], [(0, b), (1, 303), (0, z24)], v1)) 1 rfl ?_
        have h25 := (e_Has.get hT (c := 303) (k := b) (lo := 0) (hi := 16000) rfl (by decide))
        refine e_Ok.ald (z := w 303 b) rfl (el_o rfl) rfl (by omega) ((j3 303 b no_70_4).trans rfl) (by omega) ?_
        refine e_Ok.if2 rfl (fun h26 => ?_) (fun h26 => ?_)
        · replace h26 : (z24 : Int) ≥ w 303 b := h26
          refine e_Ok.run (t' := (81, [(6, (0, v1 276 (4 * w 276 (33 * b + y4 + 20704) + 20579))), (5, (0, w 276 (33 * b + y4 + 20704))), (0, (1, 275)), (1, (0, b)), (2, (0, 33 * b + 20704)), (3, (0, y3)), (4, (0, y4))], [(1, 275)], v1)) 1 rfl ?_
          refine e_Ok.getr (z := 303) rfl (el_o rfl) rfl rfl ((j3 275 34 no_70_0).trans (e_Has.eq hT rfl)) (by omega) ?_
          refine e_Ok.run (t' := (85, [(6, (0, v1 276 (4 * w 276 (33 * b + y4 + 20704) + 20579))), (5, (0, w 276 (33 * b + y4 + 20704))), (0, (1, 275)), (1, (0, b)), (2, (0, 33 * b + 20704)), (3, (0, y3)), (4, (0, y4))], [(0, b), (1, 303)], v1)) 1 rfl ?_
          refine e_Ok.ald (z := w 303 b) rfl (el_o rfl) rfl (by omega) ((j3 303 b no_70_4).trans rfl) (by omega) ?_
          refine e_Ok.run (t' := (91, [(7, (0, w 303 b)), (6, (0, v1 276 (4 * w 276 (33 * b + y4 + 20704) + 20579))), (5, (0, w 276 (33 * b + y4 + 20704))), (0, (1, 275)), (1, (0, b)), (2, (0, 33 * b + 20704)), (3, (0, y3)), (4, (0, y4))], [(0, 1), (0, y4)], v1)) 3 rfl ?_
          refine e_Ok.if2 rfl (fun h27 => ?_) (fun h27 => ?_)
          · replace h27 : (y4 : Int) ≤ 1 := h27
            refine e_Ok.run (t' := (157, [(7, (0, w 303 b)), (6, (0, v1 276 (4 * w 276 (33 * b + y4 + 20704) + 20579))), (5, (0, w 276 (33 * b + y4 + 20704))), (0, (1, 275)), (1, (0, b)), (2, (0, 33 * b + 20704)), (3, (0, y3)), (4, (0, y4))], [(0, v1 276 (4 * w 276 (33 * b + y4 + 20704) + 20579)), (0, w 303 b)], v1)) 2 rfl ?_
            have hJ30 : ∀ m29 : Int, (-2147483648) ≤ m29 ∧ m29 ≤ 2147483647 → e_Ok 20 elay ecode eI (d + 1) 398 (167, [(7, (0, w 303 b)), (6, (0, v1 276 (4 * w 276 (33 * b + y4 + 20704) + 20579))), (5, (0, w 276 (33 * b + y4 + 20704))), (0, (1, 275)), (1, (0, b)), (2, (0, 33 * b + 20704)), (3, (0, y3)), (4, (0, y4))], [(0, m29)], v1) (fun r w' => r = [] ∧ e_fr mDr w w' ∧ e_Has mTy w') := by
              intro m29 m29r
              refine e_Ok.run (t' := (170, [(6, (0, m29)), (7, (0, w 303 b)), (5, (0, w 276 (33 * b + y4 + 20704))), (0, (1, 275)), (1, (0, b)), (2, (0, 33 * b + 20704)), (3, (0, y3)), (4, (0, y4))], [(1, 275)], v1)) 2 rfl ?_
              refine e_Ok.getr (z := 276) rfl (el_o rfl) rfl rfl ((j3 275 0 no_70_0).trans (e_Has.eq hT rfl)) (by omega) ?_
              refine e_Ok.run (t' := (175, [(6, (0, m29)), (7, (0, w 303 b)), (5, (0, w 276 (33 * b + y4 + 20704))), (0, (1, 275)), (1, (0, b)), (2, (0, 33 * b + 20704)), (3, (0, y3)), (4, (0, y4))], [(0, w 276 (33 * b + y4 + 20704)), (1, 276)], v1)) 1 rfl ?_
              refine e_Ok.callS rfl (by omega) rfl rfl (c_392 (by omega)) (fun r31 w32 h33 => ?_)
              obtain ⟨rfl, rfl⟩ := h33
              show e_Ok 20 elay ecode eI (d + 1) 398 (178, [(6, (0, m29)), (7, (0, w 303 b)), (5, (0, w 276 (33 * b + y4 + 20704))), (0, (1, 275)), (1, (0, b)), (2, (0, 33 * b + 20704)), (3, (0, y3)), (4, (0, y4))], [(0, 4 * w 276 (33 * b + y4 + 20704) + 20576), (1, 276)], v1) _
              refine e_Ok.run (t' := (179, [(6, (0, m29)), (7, (0, w 303 b)), (5, (0, w 276 (33 * b + y4 + 20704))), (0, (1, 275)), (1, (0, b)), (2, (0, 33 * b + 20704)), (3, (0, y3)), (4, (0, y4))], [(0, 3), (0, 4 * w 276 (33 * b + y4 + 20704) + 20576), (1, 276)], v1)) 1 rfl ?_
              refine e_Ok.add (z := 4 * w 276 (33 * b + y4 + 20704) + 20579) rfl (by omega) (by omega) ?_
              refine e_Ok.run (t' := (182, [(6, (0, m29)), (7, (0, w 303 b)), (5, (0, w 276 (33 * b + y4 + 20704))), (0, (1, 275)), (1, (0, b)), (2, (0, 33 * b + 20704)), (3, (0, y3)), (4, (0, y4))], [(0, m29), (0, 4 * w 276 (33 * b + y4 + 20704) + 20579), (1, 276)], v1)) 1 rfl ?_
              refine e_Ok.ast rfl (el_o rfl) rfl rfl (by omega) ?_
              generalize hw34 : e_up v1 276 (4 * w 276 (33 * b + y4 + 20704) + 20579) m29 = w34
              have f35 : e_fr mDr w w34 := e_fr.up j3 hw34 (by unfold mDr; omega)
              have hT36 : e_Has mTy w34 := e_Has.upr j4 hw34 (nR_PART3 (p := w 276 (33 * b + y4 + 20704)) (by omega)) (by omega)
              refine e_Ok.run (t' := (188, [(6, (0, m29)), (7, (0, w 303 b)), (5, (0, w 276 (33 * b + y4 + 20704))), (0, (1, 275)), (1, (0, b)), (2, (0, 33 * b + 20704)), (3, (0, y3)), (4, (0, y4))], [(1, 275), (4, m29), (0, y3)], w34)) 4 rfl ?_
              refine e_Ok.getr (z := 307) rfl (el_o rfl) rfl rfl (by rw [← hw34]; exact (e_up_ne _ _ (Or.inl (by omega))).trans ((j3 275 38 no_70_0).trans (e_Has.eq hT rfl))) (by omega) ?_
              refine e_Ok.run (t' := (192, [(6, (0, m29)), (7, (0, w 303 b)), (5, (0, w 276 (33 * b + y4 + 20704))), (0, (1, 275)), (1, (0, b)), (2, (0, 33 * b + 20704)), (3, (0, y3)), (4, (0, y4))], [(0, b), (1, 307), (4, m29), (0, y3)], w34)) 1 rfl ?_
              have h37 := (e_Has.get hT (c := 307) (k := b) (lo := (-2147483648)) (hi := 2147483647) rfl (by decide))
              refine e_Ok.ald (z := w 307 b) rfl (el_o rfl) rfl (by omega) (by rw [← hw34]; exact (e_up_ne _ _ (Or.inl (by omega))).trans ((j3 307 b no_70_5).trans rfl)) (by omega) ?_
              refine e_Ok.run (t' := (195, [(6, (0, m29)), (7, (0, w 303 b)), (5, (0, w 276 (33 * b + y4 + 20704))), (0, (1, 275)), (1, (0, b)), (2, (0, 33 * b + 20704)), (3, (0, y3)), (4, (0, y4))], [(1, 275), (4, w 307 b), (4, m29), (0, y3)], w34)) 2 rfl ?_
              refine e_Ok.getr (z := 308) rfl (el_o rfl) rfl rfl (by rw [← hw34]; exact (e_up_ne _ _ (Or.inl (by omega))).trans ((j3 275 39 no_70_0).trans (e_Has.eq hT rfl))) (by omega) ?_
              refine e_Ok.run (t' := (199, [(6, (0, m29)), (7, (0, w 303 b)), (5, (0, w 276 (33 * b + y4 + 20704))), (0, (1, 275)), (1, (0, b)), (2, (0, 33 * b + 20704)), (3, (0, y3)), (4, (0, y4))], [(0, b), (1, 308), (4, w 307 b), (4, m29), (0, y3)], w34)) 1 rfl ?_
              have h38 := (e_Has.get hT (c := 308) (k := b) (lo := (-2147483648)) (hi := 2147483647) rfl (by decide))
              refine e_Ok.ald (z := w 308 b) rfl (el_o rfl) rfl (by omega) (by rw [← hw34]; exact (e_up_ne _ _ (Or.inl (by omega))).trans ((j3 308 b no_70_6).trans rfl)) (by omega) ?_
              refine e_Ok.run (t' := (201, [(6, (0, m29)), (7, (0, w 303 b)), (5, (0, w 276 (33 * b + y4 + 20704))), (0, (1, 275)), (1, (0, b)), (2, (0, 33 * b + 20704)), (3, (0, y3)), (4, (0, y4))], [(4, w 308 b), (4, w 307 b), (4, m29), (0, y3)], w34)) 1 rfl ?_
              refine e_Ok.callS rfl (by omega) rfl rfl (c_266) (fun r39 w40 h41 => ?_)
              obtain ⟨z42, rfl, rfl, q43⟩ := h41
              obtain ⟨rfl, q43⟩ | ⟨rfl, q43⟩ := q43
              · show e_Ok 20 elay ecode eI (d + 1) 398 (204, [(6, (0, m29)), (7, (0, w 303 b)), (5, (0, w 276 (33 * b + y4 + 20704))), (0, (1, 275)), (1, (0, b)), (2, (0, 33 * b + 20704)), (3, (0, y3)), (4, (0, y4))], [(0, 1), (0, y3)], w34) _
                refine e_Ok.any rfl (eB_any _ _) (fun z44 z44a z44b => ?_)
                refine e_Ok.run (t' := (206, [(3, (0, z44)), (6, (0, m29)), (7, (0, w 303 b)), (5, (0, w 276 (33 * b + y4 + 20704))), (0, (1, 275)), (1, (0, b)), (2, (0, 33 * b + 20704)), (4, (0, y4))], [], w34)) 1 rfl ?_
                refine e_Ok.inc (z := y4 + 1) rfl rfl (by omega) (by omega) ?_
                show e_Ok 20 elay ecode eI (d + 1) 398 (209, [(4, (0, y4 + 1)), (3, (0, z44)), (6, (0, m29)), (7, (0, w 303 b)), (5, (0, w 276 (33 * b + y4 + 20704))), (0, (1, 275)), (1, (0, b)), (2, (0, 33 * b + 20704))], [], w34) _
                refine e_Ok.run (t' := (14, [(4, (0, y4 + 1)), (3, (0, z44)), (6, (0, m29)), (7, (0, w 303 b)), (5, (0, w 276 (33 * b + y4 + 20704))), (0, (1, 275)), (1, (0, b)), (2, (0, 33 * b + 20704))], [], w34)) 1 rfl ?_
                refine e_Ok.sub eAlk (e_sub_of rfl ?_) (ih2 z44 (y4 + 1) w34 ⟨f35, hT36, by omega⟩ (by omega))
                exact ⟨rfl, rfl, rfl, rfl, rfl, trivial⟩
              · show e_Ok 20 elay ecode eI (d + 1) 398 (204, [(6, (0, m29)), (7, (0, w 303 b)), (5, (0, w 276 (33 * b + y4 + 20704))), (0, (1, 275)), (1, (0, b)), (2, (0, 33 * b + 20704)), (3, (0, y3)), (4, (0, y4))], [(0, 0), (0, y3)], w34) _
                refine e_Ok.any rfl (eB_any _ _) (fun z45 z45a z45b => ?_)
                refine e_Ok.run (t' := (206, [(3, (0, z45)), (6, (0, m29)), (7, (0, w 303 b)), (5, (0, w 276 (33 * b + y4 + 20704))), (0, (1, 275)), (1, (0, b)), (2, (0, 33 * b + 20704)), (4, (0, y4))], [], w34)) 1 rfl ?_
                refine e_Ok.inc (z := y4 + 1) rfl rfl (by omega) (by omega) ?_
                show e_Ok 20 elay ecode eI (d + 1) 398 (209, [(4, (0, y4 + 1)), (3, (0, z45)), (6, (0, m29)), (7, (0, w 303 b)), (5, (0, w 276 (33 * b + y4 + 20704))), (0, (1, 275)), (1, (0, b)), (2, (0, 33 * b + 20704))], [], w34) _
                refine e_Ok.run (t' := (14, [(4, (0, y4 + 1)), (3, (0, z45)), (6, (0, m29)), (7, (0, w 303 b)), (5, (0, w 276 (33 * b + y4 + 20704))), (0, (1, 275)), (1, (0, b)), (2, (0, 33 * b + 20704))], [], w34)) 1 rfl ?_
                refine e_Ok.sub eAlk (e_sub_of rfl ?_) (ih2 z45 (y4 + 1) w34 ⟨f35, hT36, by omega⟩ (by omega))
                exact ⟨rfl, rfl, rfl, rfl, rfl, trivial⟩
            refine e_Ok.if2 rfl (fun h28 => ?_) (fun h28 => ?_)
            · exact e_Ok.run 1 rfl (hJ30 (v1 276 (4 * w 276 (33 * b + y4 + 20704) + 20579)) (by omega))
            · exact e_Ok.run 2 rfl (hJ30 (w 303 b) (by omega))
          · replace h27 : (y4 : Int) > 1 := by have q : ¬ ((y4 : Int) ≤ 1) := h27; omega
            refine e_Ok.run (t' := (95, [(7, (0, w 303 b)), (6, (0, v1 276 (4 * w 276 (33 * b + y4 + 20704) + 20579))), (5, (0, w 276 (33 * b + y4 + 20704))), (0, (1, 275)), (1, (0, b)), (2, (0, 33 * b + 20704)), (3, (0, y3)), (4, (0, y4))], [(1, 275)], v1)) 1 rfl ?_
            refine e_Ok.getr (z := 276) rfl (el_o rfl) rfl rfl ((j3 275 0 no_70_0).trans (e_Has.eq hT rfl)) (by omega) ?_
            refine e_Ok.run (t' := (101, [(7, (0, w 303 b)), (6, (0, v1 276 (4 * w 276 (33 * b + y4 + 20704) + 20579))), (5, (0, w 276 (33 * b + y4 + 20704))), (0, (1, 275)), (1, (0, b)), (2, (0, 33 * b + 20704)), (3, (0, y3)), (4, (0, y4))], [(0, y4), (0, 33 * b + 20704), (1, 276)], v1)) 2 rfl ?_
            refine e_Ok.add (z := 33 * b + y4 + 20704) rfl (by omega) (by omega) ?_
            refine e_Ok.run (t' := (103, [(7, (0, w 303 b)), (6, (0, v1 276 (4 * w 276 (33 * b + y4 + 20704) + 20579))), (5, (0, w 276 (33 * b + y4 + 20704))), (0, (1, 275)), (1, (0, b)), (2, (0, 33 * b + 20704)), (3, (0, y3)), (4, (0, y4))], [(0, 1), (0, 33 * b + y4 + 20704), (1, 276)], v1)) 1 rfl ?_
            refine e_Ok.sub' (z := 33 * b + y4 + 20703) rfl (by omega) (by omega) ?_
            have h46 := (e_Has.get hT (c := 276) (k := 33 * b + y4 + 20703) (lo := 0) (hi := 31) (nR_ORD b (by omega) (by omega)) (by decide))
            refine e_Ok.ald (z := w 276 (33 * b + y4 + 20703)) rfl (el_o rfl) rfl (by omega) ((j3 276 (33 * b + y4 + 20703) (by unfold mDr; omega)).trans rfl) (by omega) ?_
            refine e_Ok.run (t' := (108, [(8, (0, w 276 (33 * b + y4 + 20703))), (7, (0, w 303 b)), (6, (0, v1 276 (4 * w 276 (33 * b + y4 + 20704) + 20579))), (5, (0, w 276 (33 * b + y4 + 20704))), (0, (1, 275)), (1, (0, b)), (2, (0, 33 * b + 20704)), (3, (0, y3)), (4, (0, y4))], [(1, 275)], v1)) 2 rfl ?_
            refine e_Ok.getr (z := 276) rfl (el_o rfl) rfl rfl ((j3 275 0 no_70_0).trans (e_Has.eq hT rfl)) (by omega) ?_
            refine e_Ok.run (t' := (113, [(8, (0, w 276 (33 * b + y4 + 20703))), (7, (0, w 303 b)), (6, (0, v1 276 (4 * w 276 (33 * b + y4 + 20704) + 20579))), (5, (0, w 276 (33 * b + y4 + 20704))), (0, (1, 275)), (1, (0, b)), (2, (0, 33 * b + 20704)), (3, (0, y3)), (4, (0, y4))], [(0, w 276 (33 * b + y4 + 20703)), (1, 276)], v1)) 1 rfl ?_
            refine e_Ok.callS rfl (by omega) rfl rfl (c_392 (by omega)) (fun r47 w48 h49 => ?_)
            obtain ⟨rfl, rfl⟩ := h49
            show e_Ok 20 elay ecode eI (d + 1) 398 (116, [(8, (0, w 276 (33 * b + y4 + 20703))), (7, (0, w 303 b)), (6, (0, v1 276 (4 * w 276 (33 * b + y4 + 20704) + 20579))), (5, (0, w 276 (33 * b + y4 + 20704))), (0, (1, 275)), (1, (0, b)), (2, (0, 33 * b + 20704)), (3, (0, y3)), (4, (0, y4))], [(0, 4 * w 276 (33 * b + y4 + 20703) + 20576), (1, 276)], v1) _
            refine e_Ok.run (t' := (117, [(8, (0, w 276 (33 * b + y4 + 20703))), (7, (0, w 303 b)), (6, (0, v1 276 (4 * w 276 (33 * b + y4 + 20704) + 20579))), (5, (0, w 276 (33 * b + y4 + 20704))), (0, (1, 275)), (1, (0, b)), (2, (0, 33 * b + 20704)), (3, (0, y3)), (4, (0, y4))], [(0, 3), (0, 4 * w 276 (33 * b + y4 + 20703) + 20576), (1, 276)], v1)) 1 rfl ?_
            refine e_Ok.add (z := 4 * w 276 (33 * b + y4 + 20703) + 20579) rfl (by omega) (by omega) ?_
            have h50 := (e_Has.get j4 (c := 276) (k := 4 * w 276 (33 * b + y4 + 20703) + 20579) (lo := (-2147483648)) (hi := 2147483647) (nR_PART3 (p := w 276 (33 * b + y4 + 20703)) (by omega)) (by decide))
            refine e_Ok.ald (z := v1 276 (4 * w 276 (33 * b + y4 + 20703) + 20579)) rfl rfl rfl (by omega) rfl (by omega) ?_
            refine e_Ok.run (t' := (120, [(8, (0, w 276 (33 * b + y4 + 20703))), (7, (0, w 303 b)), (6, (0, v1 276 (4 * w 276 (33 * b + y4 + 20704) + 20579))), (5, (0, w 276 (33 * b + y4 + 20704))), (0, (1, 275)), (1, (0, b)), (2, (0, 33 * b + 20704)), (3, (0, y3)), (4, (0, y4))], [(1, 275), (0, v1 276 (4 * w 276 (33 * b + y4 + 20703) + 20579))], v1)) 1 rfl ?_
            refine e_Ok.getr (z := 309) rfl (el_o rfl) rfl rfl ((j3 275 41 no_70_0).trans (e_Has.eq hT rfl)) (by omega) ?_
            refine e_Ok.run (t' := (125, [(8, (0, w 276 (33 * b + y4 + 20703))), (7, (0, w 303 b)), (6, (0, v1 276 (4 * w 276 (33 * b + y4 + 20704) + 20579))), (5, (0, w 276 (33 * b + y4 + 20704))), (0, (1, 275)), (1, (0, b)), (2, (0, 33 * b + 20704)), (3, (0, y3)), (4, (0, y4))], [(0, w 276 (33 * b + y4 + 20703)), (1, 309), (0, v1 276 (4 * w 276 (33 * b + y4 + 20703) + 20579))], v1)) 1 rfl ?_
            have h51 := (e_Has.get hT (c := 309) (k := w 276 (33 * b + y4 + 20703)) (lo := 0) (hi := 800) rfl (by decide))
            refine e_Ok.ald (z := w 309 (w 276 (33 * b + y4 + 20703))) rfl rfl rfl (by omega) ((j3 309 (w 276 (33 * b + y4 + 20703)) no_70_7).trans rfl) (by omega) ?_
            refine e_Ok.any rfl (eF_sub_any _ _) (fun z52 z52a z52b => ?_)
            refine e_Ok.run (t' := (128, [(8, (0, w 276 (33 * b + y4 + 20703))), (7, (0, w 303 b)), (6, (0, v1 276 (4 * w 276 (33 * b + y4 + 20704) + 20579))), (5, (0, w 276 (33 * b + y4 + 20704))), (0, (1, 275)), (1, (0, b)), (2, (0, 33 * b + 20704)), (3, (0, y3)), (4, (0, y4))], [(1, 275), (0, z52)], v1)) 1 rfl ?_
            refine e_Ok.getr (z := 309) rfl (el_o rfl) rfl rfl ((j3 275 41 no_70_0).trans (e_Has.eq hT rfl)) (by omega) ?_
            refine e_Ok.run (t' := (133, [(8, (0, w 276 (33 * b + y4 + 20703))), (7, (0, w 303 b)), (6, (0, v1 276 (4 * w 276 (33 * b + y4 + 20704) + 20579))), (5, (0, w 276 (33 * b + y4 + 20704))), (0, (1, 275)), (1, (0, b)), (2, (0, 33 * b + 20704)), (3, (0, y3)), (4, (0, y4))], [(0, w 276 (33 * b + y4 + 20704)), (1, 309), (0, z52)], v1)) 1 rfl ?_
            have h53 := (e_Has.get hT (c := 309) (k := w 276 (33 * b + y4 + 20704)) (lo := 0) (hi := 800) rfl (by decide))
            refine e_Ok.ald (z := w 309 (w 276 (33 * b + y4 + 20704))) rfl rfl rfl (by omega) ((j3 309 (w 276 (33 * b + y4 + 20704)) no_70_7).trans rfl) (by omega) ?_
            refine e_Ok.any rfl (eF_sub_any _ _) (fun z54 z54a z54b => ?_)
            refine e_Ok.run (t' := (141, [(9, (0, z54)), (8, (0, w 276 (33 * b + y4 + 20703))), (7, (0, w 303 b)), (6, (0, v1 276 (4 * w 276 (33 * b + y4 + 20704) + 20579))), (5, (0, w 276 (33 * b + y4 + 20704))), (0, (1, 275)), (1, (0, b)), (2, (0, 33 * b + 20704)), (3, (0, y3)), (4, (0, y4))], [(0, w 303 b), (0, z54)], v1)) 3 rfl ?_
            have hJ57 : ∀ m56 : Int, (-2147483648) ≤ m56 ∧ m56 ≤ 2147483647 → e_Ok 20 elay ecode eI (d + 1) 398 (151, [(9, (0, z54)), (8, (0, w 276 (33 * b + y4 + 20703))), (7, (0, w 303 b)), (6, (0, v1 276 (4 * w 276 (33 * b + y4 + 20704) + 20579))), (5, (0, w 276 (33 * b + y4 + 20704))), (0, (1, 275)), (1, (0, b)), (2, (0, 33 * b + 20704)), (3, (0, y3)), (4, (0, y4))], [(0, m56)], v1) (fun r w' => r = [] ∧ e_fr mDr w w' ∧ e_Has mTy w') := by
              intro m56 m56r
              refine e_Ok.run (t' := (157, [(7, (0, m56)), (9, (0, z54)), (8, (0, w 276 (33 * b + y4 + 20703))), (6, (0, v1 276 (4 * w 276 (33 * b + y4 + 20704) + 20579))), (5, (0, w 276 (33 * b + y4 + 20704))), (0, (1, 275)), (1, (0, b)), (2, (0, 33 * b + 20704)), (3, (0, y3)), (4, (0, y4))], [(0, v1 276 (4 * w 276 (33 * b + y4 + 20704) + 20579)), (0, m56)], v1)) 3 rfl ?_
              have hJ60 : ∀ m59 : Int, (-2147483648) ≤ m59 ∧ m59 ≤ 2147483647 → e_Ok 20 elay ecode eI (d + 1) 398 (167, [(7, (0, m56)), (9, (0, z54)), (8, (0, w 276 (33 * b + y4 + 20703))), (6, (0, v1 276 (4 * w 276 (33 * b + y4 + 20704) + 20579))), (5, (0, w 276 (33 * b + y4 + 20704))), (0, (1, 275)), (1, (0, b)), (2, (0, 33 * b + 20704)), (3, (0, y3)), (4, (0, y4))], [(0, m59)], v1) (fun r w' => r = [] ∧ e_fr mDr w w' ∧ e_Has mTy w') := by
                intro m59 m59r
                refine e_Ok.run (t' := (170, [(6, (0, m59)), (7, (0, m56)), (9, (0, z54)), (8, (0, w 276 (33 * b + y4 + 20703))), (5, (0, w 276 (33 * b + y4 + 20704))), (0, (1, 275)), (1, (0, b)), (2, (0, 33 * b + 20704)), (3, (0, y3)), (4, (0, y4))], [(1, 275)], v1)) 2 rfl ?_
                refine e_Ok.getr (z := 276) rfl (el_o rfl) rfl rfl ((j3 275 0 no_70_0).trans (e_Has.eq hT rfl)) (by omega) ?_
                refine e_Ok.run (t' := (175, [(6, (0, m59)), (7, (0, m56)), (9, (0, z54)), (8, (0, w 276 (33 * b + y4 + 20703))), (5, (0, w 276 (33 * b + y4 + 20704))), (0, (1, 275)), (1, (0, b)), (2, (0, 33 * b + 20704)), (3, (0, y3)), (4, (0, y4))], [(0, w 276 (33 * b + y4 + 20704)), (1, 276)], v1)) 1 rfl ?_
                refine e_Ok.callS rfl (by omega) rfl rfl (c_392 (by omega)) (fun r61 w62 h63 => ?_)
                obtain ⟨rfl, rfl⟩ := h63
                show e_Ok 20 elay ecode eI (d + 1) 398 (178, [(6, (0, m59)), (7, (0, m56)), (9, (0, z54)), (8, (0, w 276 (33 * b + y4 + 20703))), (5, (0, w 276 (33 * b + y4 + 20704))), (0, (1, 275)), (1, (0, b)), (2, (0, 33 * b + 20704)), (3, (0, y3)), (4, (0, y4))], [(0, 4 * w 276 (33 * b + y4 + 20704) + 20576), (1, 276)], v1) _
                refine e_Ok.run (t' := (179, [(6, (0, m59)), (7, (0, m56)), (9, (0, z54)), (8, (0, w 276 (33 * b + y4 + 20703))), (5, (0, w 276 (33 * b + y4 + 20704))), (0, (1, 275)), (1, (0, b)), (2, (0, 33 * b + 20704)), (3, (0, y3)), (4, (0, y4))], [(0, 3), (0, 4 * w 276 (33 * b + y4 + 20704) + 20576), (1, 276)], v1)) 1 rfl ?_
                refine e_Ok.add (z := 4 * w 276 (33 * b + y4 + 20704) + 20579) rfl (by omega) (by omega) ?_
                refine e_Ok.run (t' := (182, [(6, (0, m59)), (7, (0, m56)), (9, (0, z54)), (8, (0, w 276 (33 * b + y4 + 20703))), (5, (0, w 276 (33 * b + y4 + 20704))), (0, (1, 275)), (1, (0, b)), (2, (0, 33 * b + 20704)), (3, (0, y3)), (4, (0, y4))], [(0, m59), (0, 4 * w 276 (33 * b + y4 + 20704) + 20579), (1, 276)], v1)) 1 rfl ?_
                refine e_Ok.ast rfl (el_o rfl) rfl rfl (by omega) ?_
                generalize hw64 : e_up v1 276 (4 * w 276 (33 * b + y4 + 20704) + 20579) m59 = w64
                have f65 : e_fr mDr w w64 := e_fr.up j3 hw64 (by unfold mDr; omega)
                have hT66 : e_Has mTy w64 := e_Has.upr j4 hw64 (nR_PART3 (p := w 276 (33 * b + y4 + 20704)) (by omega)) (by omega)
                refine e_Ok.run (t' := (188, [(6, (0, m59)), (7, (0, m56)), (9, (0, z54)), (8, (0, w 276 (33 * b + y4 + 20703))), (5, (0, w 276 (33 * b + y4 + 20704))), (0, (1, 275)), (1, (0, b)), (2, (0, 33 * b + 20704)), (3, (0, y3)), (4, (0, y4))], [(1, 275), (4, m59), (0, y3)], w64)) 4 rfl ?_
                refine e_Ok.getr (z := 307) rfl (el_o rfl) rfl rfl (by rw [← hw64]; exact (e_up_ne _ _ (Or.inl (by omega))).trans ((j3 275 38 no_70_0).trans (e_Has.eq hT rfl))) (by omega) ?_
                refine e_Ok.run (t' := (192, [(6, (0, m59)), (7, (0, m56)), (9, (0, z54)), (8, (0, w 276 (33 * b + y4 + 20703))), (5, (0, w 276 (33 * b + y4 + 20704))), (0, (1, 275)), (1, (0, b)), (2, (0, 33 * b + 20704)), (3, (0, y3)), (4, (0, y4))], [(0, b), (1, 307), (4, m59), (0, y3)], w64)) 1 rfl ?_
                have h67 := (e_Has.get hT (c := 307) (k := b) (lo := (-2147483648)) (hi := 2147483647) rfl (by decide))
                refine e_Ok.ald (z := w 307 b) rfl (el_o rfl) rfl (by omega) (by rw [← hw64]; exact (e_up_ne _ _ (Or.inl (by omega))).trans ((j3 307 b no_70_5).trans rfl)) (by omega) ?_
                refine e_Ok.run (t' := (195, [(6, (0, m59)), (7, (0, m56)), (9, (0, z54)), (8, (0, w 276 (33 * b + y4 + 20703))), (5, (0, w 276 (33 * b + y4 + 20704))), (0, (1, 275)), (1, (0, b)), (2, (0, 33 * b + 20704)), (3, (0, y3)), (4, (0, y4))], [(1, 275), (4, w 307 b), (4, m59), (0, y3)], w64)) 2 rfl ?_
                refine e_Ok.getr (z := 308) rfl (el_o rfl) rfl rfl (by rw [← hw64]; exact (e_up_ne _ _ (Or.inl (by omega))).trans ((j3 275 39 no_70_0).trans (e_Has.eq hT rfl))) (by omega) ?_
                refine e_Ok.run (t' := (199, [(6, (0, m59)), (7, (0, m56)), (9, (0, z54)), (8, (0, w 276 (33 * b + y4 + 20703))), (5, (0, w 276 (33 * b + y4 + 20704))), (0, (1, 275)), (1, (0, b)), (2, (0, 33 * b + 20704)), (3, (0, y3)), (4, (0, y4))], [(0, b), (1, 308), (4, w 307 b), (4, m59), (0, y3)], w64)) 1 rfl ?_
                have h68 := (e_Has.get hT (c := 308) (k := b) (lo := (-2147483648)) (hi := 2147483647) rfl (by decide))
                refine e_Ok.ald (z := w 308 b) rfl (el_o rfl) rfl (by omega) (by rw [← hw64]; exact (e_up_ne _ _ (Or.inl (by omega))).trans ((j3 308 b no_70_6).trans rfl)) (by omega) ?_
                refine e_Ok.run (t' := (201, [(6, (0, m59)), (7, (0, m56)), (9, (0, z54)), (8, (0, w 276 (33 * b + y4 + 20703))), (5, (0, w 276 (33 * b + y4 + 20704))), (0, (1, 275)), (1, (0, b)), (2, (0, 33 * b + 20704)), (3, (0, y3)), (4, (0, y4))], [(4, w 308 b), (4, w 307 b), (4, m59), (0, y3)], w64)) 1 rfl ?_
                refine e_Ok.callS rfl (by omega) rfl rfl (c_266) (fun r69 w70 h71 => ?_)
                obtain ⟨z72, rfl, rfl, q73⟩ := h71
                obtain ⟨rfl, q73⟩ | ⟨rfl, q73⟩ := q73
                · show e_Ok 20 elay ecode eI (d + 1) 398 (204, [(6, (0, m59)), (7, (0, m56)), (9, (0, z54)), (8, (0, w 276 (33 * b + y4 + 20703))), (5, (0, w 276 (33 * b + y4 + 20704))), (0, (1, 275)), (1, (0, b)), (2, (0, 33 * b + 20704)), (3, (0, y3)), (4, (0, y4))], [(0, 1), (0, y3)], w64) _
                  refine e_Ok.any rfl (eB_any _ _) (fun z74 z74a z74b => ?_)
                  refine e_Ok.run (t' := (206, [(3, (0, z74)), (6, (0, m59)), (7, (0, m56)), (9, (0, z54)), (8, (0, w 276 (33 * b + y4 + 20703))), (5, (0, w 276 (33 * b + y4 + 20704))), (0, (1, 275)), (1, (0, b)), (2, (0, 33 * b + 20704)), (4, (0, y4))], [], w64)) 1 rfl ?_
                  refine e_Ok.inc (z := y4 + 1) rfl rfl (by omega) (by omega) ?_
                  show e_Ok 20 elay ecode eI (d + 1) 398 (209, [(4, (0, y4 + 1)), (3, (0, z74)), (6, (0, m59)), (7, (0, m56)), (9, (0, z54)), (8, (0, w 276 (33 * b + y4 + 20703))), (5, (0, w 276 (33 * b + y4 + 20704))), (0, (1, 275)), (1, (0, b)), (2, (0, 33 * b + 20704))], [], w64) _
                  refine e_Ok.run (t' := (14, [(4, (0, y4 + 1)), (3, (0, z74)), (6, (0, m59)), (7, (0, m56)), (9, (0, z54)), (8, (0, w 276 (33 * b + y4 + 20703))), (5, (0, w 276 (33 * b + y4 + 20704))), (0, (1, 275)), (1, (0, b)), (2, (0, 33 * b + 20704))], [], w64)) 1 rfl ?_
                  refine e_Ok.sub eAlk (e_sub_of rfl ?_) (ih2 z74 (y4 + 1) w64 ⟨f65, hT66, by omega⟩ (by omega))
                  exact ⟨rfl, rfl, rfl, rfl, rfl, trivial⟩
                · show e_Ok 20 elay ecode eI (d + 1) 398 (204, [(6, (0, m59)), (7, (0, m56)), (9, (0, z54)), (8, (0, w 276 (33 * b + y4 + 20703))), (5, (0, w 276 (33 * b + y4 + 20704))), (0, (1, 275)), (1, (0, b)), (2, (0, 33 * b + 20704)), (3, (0, y3)), (4, (0, y4))], [(0, 0), (0, y3)], w64) _
                  refine e_Ok.any rfl (eB_any _ _) (fun z75 z75a z75b => ?_)
                  refine e_Ok.run (t' := (206, [(3, (0, z75)), (6, (0, m59)), (7, (0, m56)), (9, (0, z54)), (8, (0, w 276 (33 * b + y4 + 20703))), (5, (0, w 276 (33 * b + y4 + 20704))), (0, (1, 275)), (1, (0, b)), (2, (0, 33 * b + 20704)), (4, (0, y4))], [], w64)) 1 rfl ?_
                  refine e_Ok.inc (z := y4 + 1) rfl rfl (by omega) (by omega) ?_
                  show e_Ok 20 elay ecode eI (d + 1) 398 (209, [(4, (0, y4 + 1)), (3, (0, z75)), (6, (0, m59)), (7, (0, m56)), (9, (0, z54)), (8, (0, w 276 (33 * b + y4 + 20703))), (5, (0, w 276 (33 * b + y4 + 20704))), (0, (1, 275)), (1, (0, b)), (2, (0, 33 * b + 20704))], [], w64) _
                  refine e_Ok.run (t' := (14, [(4, (0, y4 + 1)), (3, (0, z75)), (6, (0, m59)), (7, (0, m56)), (9, (0, z54)), (8, (0, w 276 (33 * b + y4 + 20703))), (5, (0, w 276 (33 * b + y4 + 20704))), (0, (1, 275)), (1, (0, b)), (2, (0, 33 * b + 20704))], [], w64)) 1 rfl ?_
                  refine e_Ok.sub eAlk (e_sub_of rfl ?_) (ih2 z75 (y4 + 1) w64 ⟨f65, hT66, by omega⟩ (by omega))
                  exact ⟨rfl, rfl, rfl, rfl, rfl, trivial⟩
              refine e_Ok.if2 rfl (fun h58 => ?_) (fun h58 => ?_)
              · exact e_Ok.run 1 rfl (hJ60 (v1 276 (4 * w 276 (33 * b + y4 + 20704) + 20579)) (by omega))
              · exact e_Ok.run 2 rfl (hJ60 m56 (by omega))
            refine e_Ok.if2 rfl (fun h55 => ?_) (fun h55 => ?_)
            · exact e_Ok.run 1 rfl (hJ57 (w 303 b) (by omega))
            · exact e_Ok.run 2 rfl (hJ57 z54 (by omega))
        · replace h26 : (z24 : Int) < w 303 b := by have q : ¬ ((z24 : Int) ≥ w 303 b) := h26; omega
          refine e_Ok.run (t' := (71, [(6, (0, v1 276 (4 * w 276 (33 * b + y4 + 20704) + 20579))), (5, (0, w 276 (33 * b + y4 + 20704))), (0, (1, 275)), (1, (0, b)), (2, (0, 33 * b + 20704)), (3, (0, y3)), (4, (0, y4))], [(1, 275), (0, v1 276 (4 * w 276 (33 * b + y4 + 20704) + 20579))], v1)) 2 rfl ?_
          refine e_Ok.getr (z := 304) rfl (el_o rfl) rfl rfl ((j3 275 35 no_70_0).trans (e_Has.eq hT rfl)) (by omega) ?_
          refine e_Ok.run (t' := (75, [(6, (0, v1 276 (4 * w 276 (33 * b + y4 + 20704) + 20579))), (5, (0, w 276 (33 * b + y4 + 20704))), (0, (1, 275)), (1, (0, b)), (2, (0, 33 * b + 20704)), (3, (0, y3)), (4, (0, y4))], [(0, b), (1, 304), (0, v1 276 (4 * w 276 (33 * b + y4 + 20704) + 20579))], v1)) 1 rfl ?_
          refine e_Ok.ald (z := w 304 b) rfl (el_o rfl) rfl (by omega) ((j3 304 b no_70_3).trans rfl) (by omega) ?_
          refine e_Ok.any rfl (eF_add_any _ _) (fun z76 z76a z76b => ?_)
          refine e_Ok.run (t' := (91, [(7, (0, z76)), (6, (0, v1 276 (4 * w 276 (33 * b + y4 + 20704) + 20579))), (5, (0, w 276 (33 * b + y4 + 20704))), (0, (1, 275)), (1, (0, b)), (2, (0, 33 * b + 20704)), (3, (0, y3)), (4, (0, y4))], [(0, 1), (0, y4)], v1)) 4 rfl ?_
          refine e_Ok.if2 rfl (fun h77 => ?_) (fun h77 => ?_)
          · replace h77 : (y4 : Int) ≤ 1 := h77
            refine e_Ok.run (t' := (157, [(7, (0, z76)), (6, (0, v1 276 (4 * w 276 (33 * b + y4 + 20704) + 20579))), (5, (0, w 276 (33 * b + y4 + 20704))), (0, (1, 275)), (1, (0, b)), (2, (0, 33 * b + 20704)), (3, (0, y3)), (4, (0, y4))], [(0, v1 276 (4 * w 276 (33 * b + y4 + 20704) + 20579)), (0, z76)], v1)) 2 rfl ?_
            have hJ80 : ∀ m79 : Int, (-2147483648) ≤ m79 ∧ m79 ≤ 2147483647 → e_Ok 20 elay ecode eI (d + 1) 398 (167, [(7, (0, z76)), (6, (0, v1 276 (4 * w 276 (33 * b + y4 + 20704) + 20579))), (5, (0, w 276 (33 * b + y4 + 20704))), (0, (1, 275)), (1, (0, b)), (2, (0, 33 * b + 20704)), (3, (0, y3)), (4, (0, y4))], [(0, m79)], v1) (fun r w' => r = [] ∧ e_fr mDr w w' ∧ e_Has mTy w') := by
              intro m79 m79r
              refine e_Ok.run (t' := (170, [(6, (0, m79)), (7, (0, z76)), (5, (0, w 276 (33 * b + y4 + 20704))), (0, (1, 275)), (1, (0, b)), (2, (0, 33 * b + 20704)), (3, (0, y3)), (4, (0, y4))], [(1, 275)], v1)) 2 rfl ?_
              refine e_Ok.getr (z := 276) rfl (el_o rfl) rfl rfl ((j3 275 0 no_70_0).trans (e_Has.eq hT rfl)) (by omega) ?_
              refine e_Ok.run (t' := (175, [(6, (0, m79)), (7, (0, z76)), (5, (0, w 276 (33 * b + y4 + 20704))), (0, (1, 275)), (1, (0, b)), (2, (0, 33 * b + 20704)), (3, (0, y3)), (4, (0, y4))], [(0, w 276 (33 * b + y4 + 20704)), (1, 276)], v1)) 1 rfl ?_
              refine e_Ok.callS rfl (by omega) rfl rfl (c_392 (by omega)) (fun r81 w82 h83 => ?_)
              obtain ⟨rfl, rfl⟩ := h83
              show e_Ok 20 elay ecode eI (d + 1) 398 (178, [(6, (0, m79)), (7, (0, z76)), (5, (0, w 276 (33 * b + y4 + 20704))), (0, (1, 275)), (1, (0, b)), (2, (0, 33 * b + 20704)), (3, (0, y3)), (4, (0, y4))], [(0, 4 * w 276 (33 * b + y4 + 20704) + 20576), (1, 276)], v1) _
              refine e_Ok.run (t' := (179, [(6, (0, m79)), (7, (0, z76)), (5, (0, w 276 (33 * b + y4 + 20704))), (0, (1, 275)), (1, (0, b)), (2, (0, 33 * b + 20704)), (3, (0, y3)), (4, (0, y4))], [(0, 3), (0, 4 * w 276 (33 * b + y4 + 20704) + 20576), (1, 276)], v1)) 1 rfl ?_
              refine e_Ok.add (z := 4 * w 276 (33 * b + y4 + 20704) + 20579) rfl (by omega) (by omega) ?_
              refine e_Ok.run (t' := (182, [(6, (0, m79)), (7, (0, z76)), (5, (0, w 276 (33 * b + y4 + 20704))), (0, (1, 275)), (1, (0, b)), (2, (0, 33 * b + 20704)), (3, (0, y3)), (4, (0, y4))], [(0, m79), (0, 4 * w 276 (33 * b + y4 + 20704) + 20579), (1, 276)], v1)) 1 rfl ?_
              refine e_Ok.ast rfl (el_o rfl) rfl rfl (by omega) ?_
              generalize hw84 : e_up v1 276 (4 * w 276 (33 * b + y4 + 20704) + 20579) m79 = w84
              have f85 : e_fr mDr w w84 := e_fr.up j3 hw84 (by unfold mDr; omega)
              have hT86 : e_Has mTy w84 := e_Has.upr j4 hw84 (nR_PART3 (p := w 276 (33 * b + y4 + 20704)) (by omega)) (by omega)
              refine e_Ok.run (t' := (188, [(6, (0, m79)), (7, (0, z76)), (5, (0, w 276 (33 * b + y4 + 20704))), (0, (1, 275)), (1, (0, b)), (2, (0, 33 * b + 20704)), (3, (0, y3)), (4, (0, y4))], [(1, 275), (4, m79), (0, y3)], w84)) 4 rfl ?_
              refine e_Ok.getr (z := 307) rfl (el_o rfl) rfl rfl (by rw [← hw84]; exact (e_up_ne _ _ (Or.inl (by omega))).trans ((j3 275 38 no_70_0).trans (e_Has.eq hT rfl))) (by omega) ?_
              refine e_Ok.run (t' := (192, [(6, (0, m79)), (7, (0, z76)), (5, (0, w 276 (33 * b + y4 + 20704))), (0, (1, 275)), (1, (0, b)), (2, (0, 33 * b + 20704)), (3, (0, y3)), (4, (0, y4))], [(0, b), (1, 307), (4, m79), (0, y3)], w84)) 1 rfl ?_
              have h87 := (e_Has.get hT (c := 307) (k := b) (lo := (-2147483648)) (hi := 2147483647) rfl (by decide))
              refine e_Ok.ald (z := w 307 b) rfl (el_o rfl) rfl (by omega) (by rw [← hw84]; exact (e_up_ne _ _ (Or.inl (by omega))).trans ((j3 307 b no_70_5).trans rfl)) (by omega) ?_
              refine e_Ok.run (t' := (195, [(6, (0, m79)), (7, (0, z76)), (5, (0, w 276 (33 * b + y4 + 20704))), (0, (1, 275)), (1, (0, b)), (2, (0, 33 * b + 20704)), (3, (0, y3)), (4, (0, y4))], [(1, 275), (4, w 307 b), (4, m79), (0, y3)], w84)) 2 rfl ?_
              refine e_Ok.getr (z := 308) rfl (el_o rfl) rfl rfl (by rw [← hw84]; exact (e_up_ne _ _ (Or.inl (by omega))).trans ((j3 275 39 no_70_0).trans (e_Has.eq hT rfl))) (by omega) ?_
              refine e_Ok.run (t' := (199, [(6, (0, m79)), (7, (0, z76)), (5, (0, w 276 (33 * b + y4 + 20704))), (0, (1, 275)), (1, (0, b)), (2, (0, 33 * b + 20704)), (3, (0, y3)), (4, (0, y4))], [(0, b), (1, 308), (4, w 307 b), (4, m79), (0, y3)], w84)) 1 rfl ?_
              have h88 := (e_Has.get hT (c := 308) (k := b) (lo := (-2147483648)) (hi := 2147483647) rfl (by decide))
              refine e_Ok.ald (z := w 308 b) rfl (el_o rfl) rfl (by omega) (by rw [← hw84]; exact (e_up_ne _ _ (Or.inl (by omega))).trans ((j3 308 b no_70_6).trans rfl)) (by omega) ?_
              refine e_Ok.run (t' := (201, [(6, (0, m79)), (7, (0, z76)), (5, (0, w 276 (33 * b + y4 + 20704))), (0, (1, 275)), (1, (0, b)), (2, (0, 33 * b + 20704)), (3, (0, y3)), (4, (0, y4))], [(4, w 308 b), (4, w 307 b), (4, m79), (0, y3)], w84)) 1 rfl ?_
              refine e_Ok.callS rfl (by omega) rfl rfl (c_266) (fun r89 w90 h91 => ?_)
              obtain ⟨z92, rfl, rfl, q93⟩ := h91
              obtain ⟨rfl, q93⟩ | ⟨rfl, q93⟩ := q93
              · show e_Ok 20 elay ecode eI (d + 1) 398 (204, [(6, (0, m79)), (7, (0, z76)), (5, (0, w 276 (33 * b + y4 + 20704))), (0, (1, 275)), (1, (0, b)), (2, (0, 33 * b + 20704)), (3, (0, y3)), (4, (0, y4))], [(0, 1), (0, y3)], w84) _
                refine e_Ok.any rfl (eB_any _ _) (fun z94 z94a z94b => ?_)
                refine e_Ok.run (t' := (206, [(3, (0, z94)), (6, (0, m79)), (7, (0, z76)), (5, (0, w 276 (33 * b + y4 + 20704))), (0, (1, 275)), (1, (0, b)), (2, (0, 33 * b + 20704)), (4, (0, y4))], [], w84)) 1 rfl ?_
                refine e_Ok.inc (z := y4 + 1) rfl rfl (by omega) (by omega) ?_
                show e_Ok 20 elay ecode eI (d + 1) 398 (209, [(4, (0, y4 + 1)), (3, (0, z94)), (6, (0, m79)), (7, (0, z76)), (5, (0, w 276 (33 * b + y4 + 20704))), (0, (1, 275)), (1, (0, b)), (2, (0, 33 * b + 20704))], [], w84) _
                refine e_Ok.run (t' := (14, [(4, (0, y4 + 1)), (3, (0, z94)), (6, (0, m79)), (7, (0, z76)), (5, (0, w 276 (33 * b + y4 + 20704))), (0, (1, 275)), (1, (0, b)), (2, (0, 33 * b + 20704))], [], w84)) 1 rfl ?_
                refine e_Ok.sub eAlk (e_sub_of rfl ?_) (ih2 z94 (y4 + 1) w84 ⟨f85, hT86, by omega⟩ (by omega))
                exact ⟨rfl, rfl, rfl, rfl, rfl, trivial⟩
              · show e_Ok 20 elay ecode eI (d + 1) 398 (204, [(6, (0, m79)), (7, (0, z76)), (5, (0, w 276 (33 * b + y4 + 20704))), (0, (1, 275)), (1, (0, b)), (2, (0, 33 * b + 20704)), (3, (0, y3)), (4, (0, y4))], [(0, 0), (0, y3)], w84) _
                refine e_Ok.any rfl (eB_any _ _) (fun z95 z95a z95b => ?_)
                refine e_Ok.run (t' := (206, [(3, (0, z95)), (6, (0, m79)), (7, (0, z76)), (5, (0, w 276 (33 * b + y4 + 20704))), (0, (1, 275)), (1, (0, b)), (2, (0, 33 * b + 20704)), (4, (0, y4))], [], w84)) 1 rfl ?_
                refine e_Ok.inc (z := y4 + 1) rfl rfl (by omega) (by omega) ?_
                show e_Ok 20 elay ecode eI (d + 1) 398 (209, [(4, (0, y4 + 1)), (3, (0, z95)), (6, (0, m79)), (7, (0, z76)), (5, (0, w 276 (33 * b + y4 + 20704))), (0, (1, 275)), (1, (0, b)), (2, (0, 33 * b + 20704))], [], w84) _
                refine e_Ok.run (t' := (14, [(4, (0, y4 + 1)), (3, (0, z95)), (6, (0, m79)), (7, (0, z76)), (5, (0, w 276 (33 * b + y4 + 20704))), (0, (1, 275)), (1, (0, b)), (2, (0, 33 * b + 20704))], [], w84)) 1 rfl ?_
                refine e_Ok.sub eAlk (e_sub_of rfl ?_) (ih2 z95 (y4 + 1) w84 ⟨f85, hT86, by omega⟩ (by omega))
                exact ⟨rfl, rfl, rfl, rfl, rfl, trivial⟩
            refine e_Ok.if2 rfl (fun h78 => ?_) (fun h78 => ?_)
            · exact e_Ok.run 1 rfl (hJ80 (v1 276 (4 * w 276 (33 * b + y4 + 20704) + 20579)) (by omega))
            · exact e_Ok.run 2 rfl (hJ80 z76 (by omega))
          · replace h77 : (y4 : Int) > 1 := by have q : ¬ ((y4 : Int) ≤ 1) := h77; omega
            refine e_Ok.run (t' := (95, [(7, (0, z76)), (6, (0, v1 276 (4 * w 276 (33 * b + y4 + 20704) + 20579))), (5, (0, w 276 (33 * b + y4 + 20704))), (0, (1, 275)), (1, (0, b)), (2, (0, 33 * b + 20704)), (3, (0, y3)), (4, (0, y4))], [(1, 275)], v1)) 1 rfl ?_
            refine e_Ok.getr (z := 276) rfl (el_o rfl) rfl rfl ((j3 275 0 no_70_0).trans (e_Has.eq hT rfl)) (by omega) ?_
            refine e_Ok.run (t' := (101, [(7, (0, z76)), (6, (0, v1 276 (4 * w 276 (33 * b + y4 + 20704) + 20579))), (5, (0, w 276 (33 * b + y4 + 20704))), (0, (1, 275)), (1, (0, b)), (2, (0, 33 * b + 20704)), (3, (0, y3)), (4, (0, y4))], [(0, y4), (0, 33 * b + 20704), (1, 276)], v1)) 2 rfl ?_
            refine e_Ok.add (z := 33 * b + y4 + 20704) rfl (by omega) (by omega) ?_
            refine e_Ok.run (t' := (103, [(7, (0, z76)), (6, (0, v1 276 (4 * w 276 (33 * b + y4 + 20704) + 20579))), (5, (0, w 276 (33 * b + y4 + 20704))), (0, (1, 275)), (1, (0, b)), (2, (0, 33 * b + 20704)), (3, (0, y3)), (4, (0, y4))], [(0, 1), (0, 33 * b + y4 + 20704), (1, 276)], v1)) 1 rfl ?_
            refine e_Ok.sub' (z := 33 * b + y4 + 20703) rfl (by omega) (by omega) ?_
            have h96 := (e_Has.get hT (c := 276) (k := 33 * b + y4 + 20703) (lo := 0) (hi := 31) (nR_ORD b (by omega) (by omega)) (by decide))
            refine e_Ok.ald (z := w 276 (33 * b + y4 + 20703)) rfl (el_o rfl) rfl (by omega) ((j3 276 (33 * b + y4 + 20703) (by unfold mDr; omega)).trans rfl) (by omega) ?_
            refine e_Ok.run (t' := (108, [(8, (0, w 276 (33 * b + y4 + 20703))), (7, (0, z76)), (6, (0, v1 276 (4 * w 276 (33 * b + y4 + 20704) + 20579))), (5, (0, w 276 (33 * b + y4 + 20704))), (0, (1, 275)), (1, (0, b)), (2, (0, 33 * b + 20704)), (3, (0, y3)), (4, (0, y4))], [(1, 275)], v1)) 2 rfl ?_
            refine e_Ok.getr (z := 276) rfl (el_o rfl) rfl rfl ((j3 275 0 no_70_0).trans (e_Has.eq hT rfl)) (by omega) ?_
            refine e_Ok.run (t' := (113, [(8, (0, w 276 (33 * b + y4 + 20703))), (7, (0, z76)), (6, (0, v1 276 (4 * w 276 (33 * b + y4 + 20704) + 20579))), (5, (0, w 276 (33 * b + y4 + 20704))), (0, (1, 275)), (1, (0, b)), (2, (0, 33 * b + 20704)), (3, (0, y3)), (4, (0, y4))], [(0, w 276 (33 * b + y4 + 20703)), (1, 276)], v1)) 1 rfl ?_
            refine e_Ok.callS rfl (by omega) rfl rfl (c_392 (by omega)) (fun r97 w98 h99 => ?_)
            obtain ⟨rfl, rfl⟩ := h99
            show e_Ok 20 elay ecode eI (d + 1) 398 (116, [(8, (0, w 276 (33 * b + y4 + 20703))), (7, (0, z76)), (6, (0, v1 276 (4 * w 276 (33 * b + y4 + 20704) + 20579))), (5, (0, w 276 (33 * b + y4 + 20704))), (0, (1, 275)), (1, (0, b)), (2, (0, 33 * b + 20704)), (3, (0, y3)), (4, (0, y4))], [(0, 4 * w 276 (33 * b + y4 + 20703) + 20576), (1, 276)], v1) _
            refine e_Ok.run (t' := (117, [(8, (0, w 276 (33 * b + y4 + 20703))), (7, (0, z76)), (6, (0, v1 276 (4 * w 276 (33 * b + y4 + 20704) + 20579))), (5, (0, w 276 (33 * b + y4 + 20704))), (0, (1, 275)), (1, (0, b)), (2, (0, 33 * b + 20704)), (3, (0, y3)), (4, (0, y4))], [(0, 3), (0, 4 * w 276 (33 * b + y4 + 20703) + 20576), (1, 276)], v1)) 1 rfl ?_
            refine e_Ok.add (z := 4 * w 276 (33 * b + y4 + 20703) + 20579) rfl (by omega) (by omega) ?_
            have h100 := (e_Has.get j4 (c := 276) (k := 4 * w 276 (33 * b + y4 + 20703) + 20579) (lo := (-2147483648)) (hi := 2147483647) (nR_PART3 (p := w 276 (33 * b + y4 + 20703)) (by omega)) (by decide))
            refine e_Ok.ald (z := v1 276 (4 * w 276 (33 * b + y4 + 20703) + 20579)) rfl rfl rfl (by omega) rfl (by omega) ?_
            refine e_Ok.run (t' := (120, [(8, (0, w 276 (33 * b + y4 + 20703))), (7, (0, z76)), (6, (0, v1 276 (4 * w 276 (33 * b + y4 + 20704) + 20579))), (5, (0, w 276 (33 * b + y4 + 20704))), (0, (1, 275)), (1, (0, b)), (2, (0, 33 * b + 20704)), (3, (0, y3)), (4, (0, y4))], [(1, 275), (0, v1 276 (4 * w 276 (33 * b + y4 + 20703) + 20579))], v1)) 1 rfl ?_
            refine e_Ok.getr (z := 309) rfl (el_o rfl) rfl rfl ((j3 275 41 no_70_0).trans (e_Has.eq hT rfl)) (by omega) ?_
            refine e_Ok.run (t' := (125, [(8, (0, w 276 (33 * b + y4 + 20703))), (7, (0, z76)), (6, (0, v1 276 (4 * w 276 (33 * b + y4 + 20704) + 20579))), (5, (0, w 276 (33 * b + y4 + 20704))), (0, (1, 275)), (1, (0, b)), (2, (0, 33 * b + 20704)), (3, (0, y3)), (4, (0, y4))], [(0, w 276 (33 * b + y4 + 20703)), (1, 309), (0, v1 276 (4 * w 276 (33 * b + y4 + 20703) + 20579))], v1)) 1 rfl ?_
            have h101 := (e_Has.get hT (c := 309) (k := w 276 (33 * b + y4 + 20703)) (lo := 0) (hi := 800) rfl (by decide))
            refine e_Ok.ald (z := w 309 (w 276 (33 * b + y4 + 20703))) rfl rfl rfl (by omega) ((j3 309 (w 276 (33 * b + y4 + 20703)) no_70_7).trans rfl) (by omega) ?_
            refine e_Ok.any rfl (eF_sub_any _ _) (fun z102 z102a z102b => ?_)
            refine e_Ok.run (t' := (128, [(8, (0, w 276 (33 * b + y4 + 20703))), (7, (0, z76)), (6, (0, v1 276 (4 * w 276 (33 * b + y4 + 20704) + 20579))), (5, (0, w 276 (33 * b + y4 + 20704))), (0, (1, 275)), (1, (0, b)), (2, (0, 33 * b + 20704)), (3, (0, y3)), (4, (0, y4))], [(1, 275), (0, z102)], v1)) 1 rfl ?_
            refine e_Ok.getr (z := 309) rfl (el_o rfl) rfl rfl ((j3 275 41 no_70_0).trans (e_Has.eq hT rfl)) (by omega) ?_
            refine e_Ok.run (t' := (133, [(8, (0, w 276 (33 * b + y4 + 20703))), (7, (0, z76)), (6, (0, v1 276 (4 * w 276 (33 * b + y4 + 20704) + 20579))), (5, (0, w 276 (33 * b + y4 + 20704))), (0, (1, 275)), (1, (0, b)), (2, (0, 33 * b + 20704)), (3, (0, y3)), (4, (0, y4))], [(0, w 276 (33 * b + y4 + 20704)), (1, 309), (0, z102)], v1)) 1 rfl ?_
            have h103 := (e_Has.get hT (c := 309) (k := w 276 (33 * b + y4 + 20704)) (lo := 0) (hi := 800) rfl (by decide))
            refine e_Ok.ald (z := w 309 (w 276 (33 * b + y4 + 20704))) rfl rfl rfl (by omega) ((j3 309 (w 276 (33 * b + y4 + 20704)) no_70_7).trans rfl) (by omega) ?_
            refine e_Ok.any rfl (eF_sub_any _ _) (fun z104 z104a z104b => ?_)
            refine e_Ok.run (t' := (141, [(9, (0, z104)), (8, (0, w 276 (33 * b + y4 + 20703))), (7, (0, z76)), (6, (0, v1 276 (4 * w 276 (33 * b + y4 + 20704) + 20579))), (5, (0, w 276 (33 * b + y4 + 20704))), (0, (1, 275)), (1, (0, b)), (2, (0, 33 * b + 20704)), (3, (0, y3)), (4, (0, y4))], [(0, z76), (0, z104)], v1)) 3 rfl ?_
            have hJ107 : ∀ m106 : Int, (-2147483648) ≤ m106 ∧ m106 ≤ 2147483647 → e_Ok 20 elay ecode eI (d + 1) 398 (151, [(9, (0, z104)), (8, (0, w 276 (33 * b + y4 + 20703))), (7, (0, z76)), (6, (0, v1 276 (4 * w 276 (33 * b + y4 + 20704) + 20579))), (5, (0, w 276 (33 * b + y4 + 20704))), (0, (1, 275)), (1, (0, b)), (2, (0, 33 * b + 20704)), (3, (0, y3)), (4, (0, y4))], [(0, m106)], v1) (fun r w' => r = [] ∧ e_fr mDr w w' ∧ e_Has mTy w') := by
              intro m106 m106r
              refine e_Ok.run (t' := (157, [(7, (0, m106)), (9, (0, z104)), (8, (0, w 276 (33 * b + y4 + 20703))), (6, (0, v1 276 (4 * w 276 (33 * b + y4 + 20704) + 20579))), (5, (0, w 276 (33 * b + y4 + 20704))), (0, (1, 275)), (1, (0, b)), (2, (0, 33 * b + 20704)), (3, (0, y3)), (4, (0, y4))], [(0, v1 276 (4 * w 276 (33 * b + y4 + 20704) + 20579)), (0, m106)], v1)) 3 rfl ?_
              have hJ110 : ∀ m109 : Int, (-2147483648) ≤ m109 ∧ m109 ≤ 2147483647 → e_Ok 20 elay ecode eI (d + 1) 398 (167, [(7, (0, m106)), (9, (0, z104)), (8, (0, w 276 (33 * b + y4 + 20703))), (6, (0, v1 276 (4 * w 276 (33 * b + y4 + 20704) + 20579))), (5, (0, w 276 (33 * b + y4 + 20704))), (0, (1, 275)), (1, (0, b)), (2, (0, 33 * b + 20704)), (3, (0, y3)), (4, (0, y4))], [(0, m109)], v1) (fun r w' => r = [] ∧ e_fr mDr w w' ∧ e_Has mTy w') := by
                intro m109 m109r
                refine e_Ok.run (t' := (170, [(6, (0, m109)), (7, (0, m106)), (9, (0, z104)), (8, (0, w 276 (33 * b + y4 + 20703))), (5, (0, w 276 (33 * b + y4 + 20704))), (0, (1, 275)), (1, (0, b)), (2, (0, 33 * b + 20704)), (3, (0, y3)), (4, (0, y4))], [(1, 275)], v1)) 2 rfl ?_
                refine e_Ok.getr (z := 276) rfl (el_o rfl) rfl rfl ((j3 275 0 no_70_0).trans (e_Has.eq hT rfl)) (by omega) ?_
                refine e_Ok.run (t' := (175, [(6, (0, m109)), (7, (0, m106)), (9, (0, z104)), (8, (0, w 276 (33 * b + y4 + 20703))), (5, (0, w 276 (33 * b + y4 + 20704))), (0, (1, 275)), (1, (0, b)), (2, (0, 33 * b + 20704)), (3, (0, y3)), (4, (0, y4))], [(0, w 276 (33 * b + y4 + 20704)), (1, 276)], v1)) 1 rfl ?_
                refine e_Ok.callS rfl (by omega) rfl rfl (c_392 (by omega)) (fun r111 w112 h113 => ?_)
                obtain ⟨rfl, rfl⟩ := h113
                show e_Ok 20 elay ecode eI (d + 1) 398 (178, [(6, (0, m109)), (7, (0, m106)), (9, (0, z104)), (8, (0, w 276 (33 * b + y4 + 20703))), (5, (0, w 276 (33 * b + y4 + 20704))), (0, (1, 275)), (1, (0, b)), (2, (0, 33 * b + 20704)), (3, (0, y3)), (4, (0, y4))], [(0, 4 * w 276 (33 * b + y4 + 20704) + 20576), (1, 276)], v1) _
                refine e_Ok.run (t' := (179, [(6, (0, m109)), (7, (0, m106)), (9, (0, z104)), (8, (0, w 276 (33 * b + y4 + 20703))), (5, (0, w 276 (33 * b + y4 + 20704))), (0, (1, 275)), (1, (0, b)), (2, (0, 33 * b + 20704)), (3, (0, y3)), (4, (0, y4))], [(0, 3), (0, 4 * w 276 (33 * b + y4 + 20704) + 20576), (1, 276)], v1)) 1 rfl ?_
                refine e_Ok.add (z := 4 * w 276 (33 * b + y4 + 20704) + 20579) rfl (by omega) (by omega) ?_
                refine e_Ok.run (t' := (182, [(6, (0, m109)), (7, (0, m106)), (9, (0, z104)), (8, (0, w 276 (33 * b + y4 + 20703))), (5, (0, w 276 (33 * b + y4 + 20704))), (0, (1, 275)), (1, (0, b)), (2, (0, 33 * b + 20704)), (3, (0, y3)), (4, (0, y4))], [(0, m109), (0, 4 * w 276 (33 * b + y4 + 20704) + 20579), (1, 276)], v1)) 1 rfl ?_
                refine e_Ok.ast rfl (el_o rfl) rfl rfl (by omega) ?_
                generalize hw114 : e_up v1 276 (4 * w 276 (33 * b + y4 + 20704) + 20579) m109 = w114
                have f115 : e_fr mDr w w114 := e_fr.up j3 hw114 (by unfold mDr; omega)
                have hT116 : e_Has mTy w114 := e_Has.upr j4 hw114 (nR_PART3 (p := w 276 (33 * b + y4 + 20704)) (by omega)) (by omega)
                refine e_Ok.run (t' := (188, [(6, (0, m109)), (7, (0, m106)), (9, (0, z104)), (8, (0, w 276 (33 * b + y4 + 20703))), (5, (0, w 276 (33 * b + y4 + 20704))), (0, (1, 275)), (1, (0, b)), (2, (0, 33 * b + 20704)), (3, (0, y3)), (4, (0, y4))], [(1, 275), (4, m109), (0, y3)], w114)) 4 rfl ?_
                refine e_Ok.getr (z := 307) rfl (el_o rfl) rfl rfl (by rw [← hw114]; exact (e_up_ne _ _ (Or.inl (by omega))).trans ((j3 275 38 no_70_0).trans (e_Has.eq hT rfl))) (by omega) ?_
                refine e_Ok.run (t' := (192, [(6, (0, m109)), (7, (0, m106)), (9, (0, z104)), (8, (0, w 276 (33 * b + y4 + 20703))), (5, (0, w 276 (33 * b + y4 + 20704))), (0, (1, 275)), (1, (0, b)), (2, (0, 33 * b + 20704)), (3, (0, y3)), (4, (0, y4))], [(0, b), (1, 307), (4, m109), (0, y3)], w114)) 1 rfl ?_
                have h117 := (e_Has.get hT (c := 307) (k := b) (lo := (-2147483648)) (hi := 2147483647) rfl (by decide))
                refine e_Ok.ald (z := w 307 b) rfl (el_o rfl) rfl (by omega) (by rw [← hw114]; exact (e_up_ne _ _ (Or.inl (by omega))).trans ((j3 307 b no_70_5).trans rfl)) (by omega) ?_
                refine e_Ok.run (t' := (195, [(6, (0, m109)), (7, (0, m106)), (9, (0, z104)), (8, (0, w 276 (33 * b + y4 + 20703))), (5, (0, w 276 (33 * b + y4 + 20704))), (0, (1, 275)), (1, (0, b)), (2, (0, 33 * b + 20704)), (3, (0, y3)), (4, (0, y4))], [(1, 275), (4, w 307 b), (4, m109), (0, y3)], w114)) 2 rfl ?_
                refine e_Ok.getr (z := 308) rfl (el_o rfl) rfl rfl (by rw [← hw114]; exact (e_up_ne _ _ (Or.inl (by omega))).trans ((j3 275 39 no_70_0).trans (e_Has.eq hT rfl))) (by omega) ?_
                refine e_Ok.run (t' := (199, [(6, (0, m109)), (7, (0, m106)), (9, (0, z104)), (8, (0, w 276 (33 * b + y4 + 20703))), (5, (0, w 276 (33 * b + y4 + 20704))), (0, (1, 275)), (1, (0, b)), (2, (0, 33 * b + 20704)), (3, (0, y3)), (4, (0, y4))], [(0, b), (1, 308), (4, w 307 b), (4, m109), (0, y3)], w114)) 1 rfl ?_
                have h118 := (e_Has.get hT (c := 308) (k := b) (lo := (-2147483648)) (hi := 2147483647) rfl (by decide))
                refine e_Ok.ald (z := w 308 b) rfl (el_o rfl) rfl (by omega) (by rw [← hw114]; exact (e_up_ne _ _ (Or.inl (by omega))).trans ((j3 308 b no_70_6).trans rfl)) (by omega) ?_
                refine e_Ok.run (t' := (201, [(6, (0, m109)), (7, (0, m106)), (9, (0, z104)), (8, (0, w 276 (33 * b + y4 + 20703))), (5, (0, w 276 (33 * b + y4 + 20704))), (0, (1, 275)), (1, (0, b)), (2, (0, 33 * b + 20704)), (3, (0, y3)), (4, (0, y4))], [(4, w 308 b), (4, w 307 b), (4, m109), (0, y3)], w114)) 1 rfl ?_
                refine e_Ok.callS rfl (by omega) rfl rfl (c_266) (fun r119 w120 h121 => ?_)
                obtain ⟨z122, rfl, rfl, q123⟩ := h121
                obtain ⟨rfl, q123⟩ | ⟨rfl, q123⟩ := q123
                · show e_Ok 20 elay ecode eI (d + 1) 398 (204, [(6, (0, m109)), (7, (0, m106)), (9, (0, z104)), (8, (0, w 276 (33 * b + y4 + 20703))), (5, (0, w 276 (33 * b + y4 + 20704))), (0, (1, 275)), (1, (0, b)), (2, (0, 33 * b + 20704)), (3, (0, y3)), (4, (0, y4))], [(0, 1), (0, y3)], w114) _
                  refine e_Ok.any rfl (eB_any _ _) (fun z124 z124a z124b => ?_)
                  refine e_Ok.run (t' := (206, [(3, (0, z124)), (6, (0, m109)), (7, (0, m106)), (9, (0, z104)), (8, (0, w 276 (33 * b + y4 + 20703))), (5, (0, w 276 (33 * b + y4 + 20704))), (0, (1, 275)), (1, (0, b)), (2, (0, 33 * b + 20704)), (4, (0, y4))], [], w114)) 1 rfl ?_
                  refine e_Ok.inc (z := y4 + 1) rfl rfl (by omega) (by omega) ?_
                  show e_Ok 20 elay ecode eI (d + 1) 398 (209, [(4, (0, y4 + 1)), (3, (0, z124)), (6, (0, m109)), (7, (0, m106)), (9, (0, z104)), (8, (0, w 276 (33 * b + y4 + 20703))), (5, (0, w 276 (33 * b + y4 + 20704))), (0, (1, 275)), (1, (0, b)), (2, (0, 33 * b + 20704))], [], w114) _
                  refine e_Ok.run (t' := (14, [(4, (0, y4 + 1)), (3, (0, z124)), (6, (0, m109)), (7, (0, m106)), (9, (0, z104)), (8, (0, w 276 (33 * b + y4 + 20703))), (5, (0, w 276 (33 * b + y4 + 20704))), (0, (1, 275)), (1, (0, b)), (2, (0, 33 * b + 20704))], [], w114)) 1 rfl ?_
                  refine e_Ok.sub eAlk (e_sub_of rfl ?_) (ih2 z124 (y4 + 1) w114 ⟨f115, hT116, by omega⟩ (by omega))
                  exact ⟨rfl, rfl, rfl, rfl, rfl, trivial⟩
                · show e_Ok 20 elay ecode eI (d + 1) 398 (204, [(6, (0, m109)), (7, (0, m106)), (9, (0, z104)), (8, (0, w 276 (33 * b + y4 + 20703))), (5, (0, w 276 (33 * b + y4 + 20704))), (0, (1, 275)), (1, (0, b)), (2, (0, 33 * b + 20704)), (3, (0, y3)), (4, (0, y4))], [(0, 0), (0, y3)], w114) _
                  refine e_Ok.any rfl (eB_any _ _) (fun z125 z125a z125b => ?_)
                  refine e_Ok.run (t' := (206, [(3, (0, z125)), (6, (0, m109)), (7, (0, m106)), (9, (0, z104)), (8, (0, w 276 (33 * b + y4 + 20703))), (5, (0, w 276 (33 * b + y4 + 20704))), (0, (1, 275)), (1, (0, b)), (2, (0, 33 * b + 20704)), (4, (0, y4))], [], w114)) 1 rfl ?_
                  refine e_Ok.inc (z := y4 + 1) rfl rfl (by omega) (by omega) ?_
                  show e_Ok 20 elay ecode eI (d + 1) 398 (209, [(4, (0, y4 + 1)), (3, (0, z125)), (6, (0, m109)), (7, (0, m106)), (9, (0, z104)), (8, (0, w 276 (33 * b + y4 + 20703))), (5, (0, w 276 (33 * b + y4 + 20704))), (0, (1, 275)), (1, (0, b)), (2, (0, 33 * b + 20704))], [], w114) _
                  refine e_Ok.run (t' := (14, [(4, (0, y4 + 1)), (3, (0, z125)), (6, (0, m109)), (7, (0, m106)), (9, (0, z104)), (8, (0, w 276 (33 * b + y4 + 20703))), (5, (0, w 276 (33 * b + y4 + 20704))), (0, (1, 275)), (1, (0, b)), (2, (0, 33 * b + 20704))], [], w114)) 1 rfl ?_
                  refine e_Ok.sub eAlk (e_sub_of rfl ?_) (ih2 z125 (y4 + 1) w114 ⟨f115, hT116, by omega⟩ (by omega))
                  exact ⟨rfl, rfl, rfl, rfl, rfl, trivial⟩
              refine e_Ok.if2 rfl (fun h108 => ?_) (fun h108 => ?_)
              · exact e_Ok.run 1 rfl (hJ110 (v1 276 (4 * w 276 (33 * b + y4 + 20704) + 20579)) (by omega))
              · exact e_Ok.run 2 rfl (hJ110 m106 (by omega))
            refine e_Ok.if2 rfl (fun h105 => ?_) (fun h105 => ?_)
            · exact e_Ok.run 1 rfl (hJ107 z76 (by omega))
            · exact e_Ok.run 2 rfl (hJ107 z104 (by omega))
  refine e_Ok.sub eAlk (e_sub_of rfl ?_) (hL1 (34 + 1 : Int).toNat 0 1 w ⟨(e_fr.refl w), hT, by omega⟩ (by omega))
  exact ⟨rfl, rfl, rfl, rfl, rfl, trivial⟩
theorem no_70_8 {t : Int} {k : Int} : ¬ mPt t 275 k := by unfold mPt; omega
theorem no_70_9 {t : Int} {k : Int} : ¬ mPt t 286 k := by unfold mPt; omega
theorem su_70_11 {t : Int} {c k : Int} (q : mPt t c k) : mP c k := by
  unfold mPt at q
  rcases q with ⟨(q | q), ⟨q, q⟩⟩
  · exact Or.inl (by omega)
  · exact Or.inr (by omega)
theorem c_395 {d : Nat} (hd : 23 ≤ d) {w : eW} (hT : e_Has mTy w) {p x : Int} (hp : 0 ≤ p ∧ p ≤ 31) (hx : 0 ≤ x ∧ x ≤ 1) : e_Ok 20 elay ecode eI d 395 (0, [(0, (1, 275)), (1, (0, p)), (2, (0, x))], [], w) (fun r w' => ∃ z : Int, r = [(0, z)] ∧ e_fr mP w w' ∧ -2147483648 ≤ z ∧ z ≤ 2147483647) := by
  obtain ⟨d, rfl⟩ : ∃ e, d = e + 1 := ⟨d - 1, by omega⟩
  refine e_Ok.run (t' := (1, [(0, (1, 275)), (1, (0, p)), (2, (0, x))], [(1, 275)], w)) 1 rfl ?_
  refine e_Ok.getr (z := 276) rfl (el_o rfl) rfl rfl (e_Has.eq hT rfl) (by omega) ?_
  refine e_Ok.run (t' := (5, [(0, (1, 275)), (1, (0, p)), (2, (0, x))], [(0, p), (1, 276)], w)) 1 rfl ?_
  refine e_Ok.callS rfl (by omega) rfl rfl (c_392 (by omega)) (fun r1 w2 h3 => ?_)
  obtain ⟨rfl, rfl⟩ := h3
  show e_Ok 20 elay ecode eI (d + 1) 395 (8, [(0, (1, 275)), (1, (0, p)), (2, (0, x))], [(0, 4 * p + 20576), (1, 276)], w) _
  have h4 := (e_Has.get hT (c := 276) (k := 4 * p + 20576) (lo := 0) (hi := 8) (nR_WHERE (p := p) (by omega)) (by decide))
  refine e_Ok.ald (z := w 276 (4 * p + 20576)) rfl (el_o rfl) rfl (by omega) rfl (by omega) ?_
  refine e_Ok.run (t' := (13, [(3, (0, w 276 (4 * p + 20576))), (0, (1, 275)), (1, (0, p)), (2, (0, x))], [(0, 8), (0, w 276 (4 * p + 20576))], w)) 3 rfl ?_
  refine e_Ok.if2 rfl (fun h5 => ?_) (fun h5 => ?_)
  · replace h5 : (w 276 (4 * p + 20576) : Int) ≠ 8 := h5
    refine e_Ok.run (t' := (32, [(3, (0, w 276 (4 * p + 20576))), (0, (1, 275)), (1, (0, p)), (2, (0, x))], [(0, 4), (0, w 276 (4 * p + 20576))], w)) 2 rfl ?_
    refine e_Ok.if2 rfl (fun h6 => ?_) (fun h6 => ?_)
    · replace h6 : (w 276 (4 * p + 20576) : Int) < 4 := h6
      refine e_Ok.run (t' := (92, [(3, (0, w 276 (4 * p + 20576))), (0, (1, 275)), (1, (0, p)), (2, (0, x))], [(1, 275)], w)) 1 rfl ?_
      refine e_Ok.getr (z := 302) rfl (el_o rfl) rfl rfl (e_Has.eq hT rfl) (by omega) ?_
      refine e_Ok.run (t' := (96, [(3, (0, w 276 (4 * p + 20576))), (0, (1, 275)), (1, (0, p)), (2, (0, x))], [(0, w 276 (4 * p + 20576)), (1, 302)], w)) 1 rfl ?_
      have h7 := (e_Has.get hT (c := 302) (k := w 276 (4 * p + 20576)) (lo := 0) (hi := 3) rfl (by decide))
      refine e_Ok.ald (z := w 302 (w 276 (4 * p + 20576))) rfl rfl rfl (by omega) rfl (by omega) ?_
      refine e_Ok.run (t' := (98, [(3, (0, w 276 (4 * p + 20576))), (0, (1, 275)), (1, (0, p)), (2, (0, x))], [(0, 2), (0, w 302 (w 276 (4 * p + 20576)))], w)) 1 rfl ?_
      refine e_Ok.remn (fun z8 hz8 => ?_) rfl (by omega) (by omega)
      replace hz8 : z8 = (w 302 (w 276 (4 * p + 20576))) % 2 := hz8
      have z8r : 0 ≤ z8 ∧ z8 ≤ 1 := by omega
      refine e_Ok.run (t' := (100, [(3, (0, w 276 (4 * p + 20576))), (0, (1, 275)), (1, (0, p)), (2, (0, x))], [(0, x), (0, z8)], w)) 1 rfl ?_
      refine e_Ok.if2 rfl (fun h9 => ?_) (fun h9 => ?_)
      · replace h9 : (z8 : Int) = x := h9
        refine e_Ok.run (t' := (108, [(3, (0, w 276 (4 * p + 20576))), (0, (1, 275)), (1, (0, p)), (2, (0, x))], [(1, 275)], w)) 1 rfl ?_
        refine e_Ok.getr (z := 302) rfl (el_o rfl) rfl rfl (e_Has.eq hT rfl) (by omega) ?_
        refine e_Ok.run (t' := (112, [(3, (0, w 276 (4 * p + 20576))), (0, (1, 275)), (1, (0, p)), (2, (0, x))], [(0, w 276 (4 * p + 20576)), (1, 302)], w)) 1 rfl ?_
        refine e_Ok.ald (z := w 302 (w 276 (4 * p + 20576))) rfl rfl rfl (by omega) rfl (by omega) ?_
        refine e_Ok.run (t' := (114, [(3, (0, w 276 (4 * p + 20576))), (0, (1, 275)), (1, (0, p)), (2, (0, x))], [(0, 2), (0, w 302 (w 276 (4 * p + 20576)))], w)) 1 rfl ?_
        refine e_Ok.if2 rfl (fun h10 => ?_) (fun h10 => ?_)
        · replace h10 : (w 302 (w 276 (4 * p + 20576)) : Int) ≥ 2 := h10
          refine e_Ok.run (t' := (132, [(3, (0, w 276 (4 * p + 20576))), (0, (1, 275)), (1, (0, p)), (2, (0, x))], [(1, 275)], w)) 1 rfl ?_
          refine e_Ok.getr (z := 276) rfl (el_o rfl) rfl rfl (e_Has.eq hT rfl) (by omega) ?_
          refine e_Ok.run (t' := (136, [(3, (0, w 276 (4 * p + 20576))), (0, (1, 275)), (1, (0, p)), (2, (0, x))], [(0, p), (1, 276)], w)) 1 rfl ?_
          refine e_Ok.callS rfl (by omega) rfl rfl (c_392 (by omega)) (fun r11 w12 h13 => ?_)
          obtain ⟨rfl, rfl⟩ := h13
          show e_Ok 20 elay ecode eI (d + 1) 395 (139, [(3, (0, w 276 (4 * p + 20576))), (0, (1, 275)), (1, (0, p)), (2, (0, x))], [(0, 4 * p + 20576), (1, 276)], w) _
          refine e_Ok.run (t' := (140, [(3, (0, w 276 (4 * p + 20576))), (0, (1, 275)), (1, (0, p)), (2, (0, x))], [(0, 3), (0, 4 * p + 20576), (1, 276)], w)) 1 rfl ?_
          refine e_Ok.add (z := 4 * p + 20579) rfl (by omega) (by omega) ?_
          have h14 := (e_Has.get hT (c := 276) (k := 4 * p + 20579) (lo := (-2147483648)) (hi := 2147483647) (nR_PART3 (p := p) (by omega)) (by decide))
          refine e_Ok.ald (z := w 276 (4 * p + 20579)) rfl (el_o rfl) rfl (by omega) rfl (by omega) ?_
          refine e_Ok.anyU rfl (fun z15 z15a z15b => ?_)
          refine e_Ok.run (t' := (148, [(4, (0, z15)), (3, (0, w 276 (4 * p + 20576))), (0, (1, 275)), (1, (0, p)), (2, (0, x))], [(0, x), (0, z15)], w)) 3 rfl ?_
          refine e_Ok.if1 rfl (fun h16 => ?_) (fun h16 => ?_)
          · replace h16 : (x : Int) ≠ 0 := h16
            refine e_Ok.run (t' := (161, [(4, (0, z15)), (3, (0, w 276 (4 * p + 20576))), (0, (1, 275)), (1, (0, p)), (2, (0, x))], [(1, 275), (0, z15)], w)) 1 rfl ?_
            refine e_Ok.getr (z := 301) rfl (el_o rfl) rfl rfl (e_Has.eq hT rfl) (by omega) ?_
            refine e_Ok.run (t' := (165, [(4, (0, z15)), (3, (0, w 276 (4 * p + 20576))), (0, (1, 275)), (1, (0, p)), (2, (0, x))], [(0, w 276 (4 * p + 20576)), (1, 301), (0, z15)], w)) 1 rfl ?_
            have h17 := (e_Has.get hT (c := 301) (k := w 276 (4 * p + 20576)) (lo := (-16000)) (hi := 16000) rfl (by decide))
            refine e_Ok.ald (z := w 301 (w 276 (4 * p + 20576))) rfl rfl rfl (by omega) rfl (by omega) ?_
            refine e_Ok.any rfl (eF_add_any _ _) (fun z18 z18a z18b => ?_)
            refine e_Ok.rets rfl rfl ?_
            exact ⟨_, rfl, (e_fr.refl w), by omega, by omega⟩
          · replace h16 : (x : Int) = 0 := by have q : ¬ ((x : Int) ≠ 0) := h16; omega
            refine e_Ok.run (t' := (152, [(4, (0, z15)), (3, (0, w 276 (4 * p + 20576))), (0, (1, 275)), (1, (0, p)), (2, (0, x))], [(1, 275), (0, z15)], w)) 1 rfl ?_
            refine e_Ok.getr (z := 300) rfl (el_o rfl) rfl rfl (e_Has.eq hT rfl) (by omega) ?_
            refine e_Ok.run (t' := (156, [(4, (0, z15)), (3, (0, w 276 (4 * p + 20576))), (0, (1, 275)), (1, (0, p)), (2, (0, x))], [(0, w 276 (4 * p + 20576)), (1, 300), (0, z15)], w)) 1 rfl ?_
            have h19 := (e_Has.get hT (c := 300) (k := w 276 (4 * p + 20576)) (lo := (-16000)) (hi := 16000) rfl (by decide))
            refine e_Ok.ald (z := w 300 (w 276 (4 * p + 20576))) rfl rfl rfl (by omega) rfl (by omega) ?_
            refine e_Ok.run (t' := (166, [(4, (0, z15)), (3, (0, w 276 (4 * p + 20576))), (0, (1, 275)), (1, (0, p)), (2, (0, x))], [(0, w 300 (w 276 (4 * p + 20576))), (0, z15)], w)) 1 rfl ?_
            refine e_Ok.any rfl (eF_add_any _ _) (fun z20 z20a z20b => ?_)
            refine e_Ok.rets rfl rfl ?_
            exact ⟨_, rfl, (e_fr.refl w), by omega, by omega⟩
        · replace h10 : (w 302 (w 276 (4 * p + 20576)) : Int) < 2 := by have q : ¬ ((w 302 (w 276 (4 * p + 20576)) : Int) ≥ 2) := h10; omega
          refine e_Ok.run (t' := (118, [(3, (0, w 276 (4 * p + 20576))), (0, (1, 275)), (1, (0, p)), (2, (0, x))], [(1, 275)], w)) 1 rfl ?_
          refine e_Ok.getr (z := 276) rfl (el_o rfl) rfl rfl (e_Has.eq hT rfl) (by omega) ?_
          refine e_Ok.run (t' := (122, [(3, (0, w 276 (4 * p + 20576))), (0, (1, 275)), (1, (0, p)), (2, (0, x))], [(0, p), (1, 276)], w)) 1 rfl ?_
          refine e_Ok.callS rfl (by omega) rfl rfl (c_392 (by omega)) (fun r21 w22 h23 => ?_)
          obtain ⟨rfl, rfl⟩ := h23
          show e_Ok 20 elay ecode eI (d + 1) 395 (125, [(3, (0, w 276 (4 * p + 20576))), (0, (1, 275)), (1, (0, p)), (2, (0, x))], [(0, 4 * p + 20576), (1, 276)], w) _
          refine e_Ok.run (t' := (126, [(3, (0, w 276 (4 * p + 20576))), (0, (1, 275)), (1, (0, p)), (2, (0, x))], [(0, 3), (0, 4 * p + 20576), (1, 276)], w)) 1 rfl ?_
          refine e_Ok.add (z := 4 * p + 20579) rfl (by omega) (by omega) ?_
          have h24 := (e_Has.get hT (c := 276) (k := 4 * p + 20579) (lo := (-2147483648)) (hi := 2147483647) (nR_PART3 (p := p) (by omega)) (by decide))
          refine e_Ok.ald (z := w 276 (4 * p + 20579)) rfl (el_o rfl) rfl (by omega) rfl (by omega) ?_
          refine e_Ok.run (t' := (148, [(4, (0, w 276 (4 * p + 20579))), (3, (0, w 276 (4 * p + 20576))), (0, (1, 275)), (1, (0, p)), (2, (0, x))], [(0, x), (0, w 276 (4 * p + 20579))], w)) 4 rfl ?_
          refine e_Ok.if1 rfl (fun h25 => ?_) (fun h25 => ?_)
          · replace h25 : (x : Int) ≠ 0 := h25
            refine e_Ok.run (t' := (161, [(4, (0, w 276 (4 * p + 20579))), (3, (0, w 276 (4 * p + 20576))), (0, (1, 275)), (1, (0, p)), (2, (0, x))], [(1, 275), (0, w 276 (4 * p + 20579))], w)) 1 rfl ?_
            refine e_Ok.getr (z := 301) rfl (el_o rfl) rfl rfl (e_Has.eq hT rfl) (by omega) ?_
            refine e_Ok.run (t' := (165, [(4, (0, w 276 (4 * p + 20579))), (3, (0, w 276 (4 * p + 20576))), (0, (1, 275)), (1, (0, p)), (2, (0, x))], [(0, w 276 (4 * p + 20576)), (1, 301), (0, w 276 (4 * p + 20579))], w)) 1 rfl ?_
            have h26 := (e_Has.get hT (c := 301) (k := w 276 (4 * p + 20576)) (lo := (-16000)) (hi := 16000) rfl (by decide))
            refine e_Ok.ald (z := w 301 (w 276 (4 * p + 20576))) rfl rfl rfl (by omega) rfl (by omega) ?_
            refine e_Ok.any rfl (eF_add_any _ _) (fun z27 z27a z27b => ?_)
            refine e_Ok.rets rfl rfl ?_
            exact ⟨_, rfl, (e_fr.refl w), by omega, by omega⟩
          · replace h25 : (x : Int) = 0 := by have q : ¬ ((x : Int) ≠ 0) := h25; omega
            refine e_Ok.run (t' := (152, [(4, (0, w 276 (4 * p + 20579))), (3, (0, w 276 (4 * p + 20576))), (0, (1, 275)), (1, (0, p)), (2, (0, x))], [(1, 275), (0, w 276 (4 * p + 20579))], w)) 1 rfl ?_
            refine e_Ok.getr (z := 300) rfl (el_o rfl) rfl rfl (e_Has.eq hT rfl) (by omega) ?_
            refine e_Ok.run (t' := (156, [(4, (0, w 276 (4 * p + 20579))), (3, (0, w 276 (4 * p + 20576))), (0, (1, 275)), (1, (0, p)), (2, (0, x))], [(0, w 276 (4 * p + 20576)), (1, 300), (0, w 276 (4 * p + 20579))], w)) 1 rfl ?_
            have h28 := (e_Has.get hT (c := 300) (k := w 276 (4 * p + 20576)) (lo := (-16000)) (hi := 16000) rfl (by decide))
            refine e_Ok.ald (z := w 300 (w 276 (4 * p + 20576))) rfl rfl rfl (by omega) rfl (by omega) ?_
            refine e_Ok.run (t' := (166, [(4, (0, w 276 (4 * p + 20579))), (3, (0, w 276 (4 * p + 20576))), (0, (1, 275)), (1, (0, p)), (2, (0, x))], [(0, w 300 (w 276 (4 * p + 20576))), (0, w 276 (4 * p + 20579))], w)) 1 rfl ?_
            refine e_Ok.any rfl (eF_add_any _ _) (fun z29 z29a z29b => ?_)
            refine e_Ok.rets rfl rfl ?_
            exact ⟨_, rfl, (e_fr.refl w), by omega, by omega⟩
      · replace h9 : (z8 : Int) ≠ x := by have q : ¬ ((z8 : Int) = x) := h9; omega
        refine e_Ok.run (t' := (148, [(4, (0, 0)), (3, (0, w 276 (4 * p + 20576))), (0, (1, 275)), (1, (0, p)), (2, (0, x))], [(0, x), (0, 0)], w)) 5 rfl ?_
        refine e_Ok.if1 rfl (fun h30 => ?_) (fun h30 => ?_)
        · replace h30 : (x : Int) ≠ 0 := h30
          refine e_Ok.run (t' := (161, [(4, (0, 0)), (3, (0, w 276 (4 * p + 20576))), (0, (1, 275)), (1, (0, p)), (2, (0, x))], [(1, 275), (0, 0)], w)) 1 rfl ?_
          refine e_Ok.getr (z := 301) rfl (el_o rfl) rfl rfl (e_Has.eq hT rfl) (by omega) ?_
          refine e_Ok.run (t' := (165, [(4, (0, 0)), (3, (0, w 276 (4 * p + 20576))), (0, (1, 275)), (1, (0, p)), (2, (0, x))], [(0, w 276 (4 * p + 20576)), (1, 301), (0, 0)], w)) 1 rfl ?_
          have h31 := (e_Has.get hT (c := 301) (k := w 276 (4 * p + 20576)) (lo := (-16000)) (hi := 16000) rfl (by decide))
          refine e_Ok.ald (z := w 301 (w 276 (4 * p + 20576))) rfl rfl rfl (by omega) rfl (by omega) ?_
          refine e_Ok.add (z := w 301 (w 276 (4 * p + 20576))) rfl (by omega) (by omega) ?_
          refine e_Ok.rets rfl rfl ?_
          exact ⟨_, rfl, (e_fr.refl w), by omega, by omega⟩
        · replace h30 : (x : Int) = 0 := by have q : ¬ ((x : Int) ≠ 0) := h30; omega
          refine e_Ok.run (t' := (152, [(4, (0, 0)), (3, (0, w 276 (4 * p + 20576))), (0, (1, 275)), (1, (0, p)), (2, (0, x))], [(1, 275), (0, 0)], w)) 1 rfl ?_
          refine e_Ok.getr (z := 300) rfl (el_o rfl) rfl rfl (e_Has.eq hT rfl) (by omega) ?_
          refine e_Ok.run (t' := (156, [(4, (0, 0)), (3, (0, w 276 (4 * p + 20576))), (0, (1, 275)), (1, (0, p)), (2, (0, x))], [(0, w 276 (4 * p + 20576)), (1, 300), (0, 0)], w)) 1 rfl ?_
          have h32 := (e_Has.get hT (c := 300) (k := w 276 (4 * p + 20576)) (lo := (-16000)) (hi := 16000) rfl (by decide))
          refine e_Ok.ald (z := w 300 (w 276 (4 * p + 20576))) rfl rfl rfl (by omega) rfl (by omega) ?_
          refine e_Ok.run (t' := (166, [(4, (0, 0)), (3, (0, w 276 (4 * p + 20576))), (0, (1, 275)), (1, (0, p)), (2, (0, x))], [(0, w 300 (w 276 (4 * p + 20576))), (0, 0)], w)) 1 rfl ?_
          refine e_Ok.add (z := w 300 (w 276 (4 * p + 20576))) rfl (by omega) (by omega) ?_
          refine e_Ok.rets rfl rfl ?_
          exact ⟨_, rfl, (e_fr.refl w), by omega, by omega⟩
    · replace h6 : (w 276 (4 * p + 20576) : Int) ≥ 4 := by have q : ¬ ((w 276 (4 * p + 20576) : Int) < 4) := h6; omega
      refine e_Ok.run (t' := (38, [(3, (0, w 276 (4 * p + 20576))), (0, (1, 275)), (1, (0, p)), (2, (0, x))], [(0, 4), (0, w 276 (4 * p + 20576)), (1, 275)], w)) 3 rfl ?_
      refine e_Ok.sub' (z := w 276 (4 * p + 20576) - 4) rfl (by omega) (by omega) ?_
      refine e_Ok.run (t' := (40, [(3, (0, w 276 (4 * p + 20576))), (0, (1, 275)), (1, (0, p)), (2, (0, x))], [(0, 0), (0, w 276 (4 * p + 20576) - 4), (1, 275)], w)) 1 rfl ?_
      refine e_Ok.callV rfl (by omega) rfl rfl rfl rfl (c_301_0 (by omega) hT (by omega)) (fun r33 w34 h35 => ?_)
      obtain ⟨rfl, q36, q36k⟩ := h35
      have f37 : e_fr mP w w34 := e_fr.trans (e_fr.refl w) (e_fr.mono q36 (fun c k q => by first | exact su_70_11 q | (unfold mPt at q; unfold mP; omega)))
      show e_Ok 20 elay ecode eI (d + 1) 395 (43, [(3, (0, w 276 (4 * p + 20576))), (0, (1, 275)), (1, (0, p)), (2, (0, x))], [], w34) _
      refine e_Ok.run (t' := (44, [(3, (0, w 276 (4 * p + 20576))), (0, (1, 275)), (1, (0, p)), (2, (0, x))], [(0, x)], w34)) 1 rfl ?_
      refine e_Ok.if1 rfl (fun h38 => ?_) (fun h38 => ?_)
      · replace h38 : (x : Int) ≠ 0 := h38
        refine e_Ok.run (t' := (71, [(3, (0, w 276 (4 * p + 20576))), (0, (1, 275)), (1, (0, p)), (2, (0, x))], [(1, 275)], w34)) 1 rfl ?_
        refine e_Ok.getr (z := 322) rfl (el_o rfl) rfl rfl ((q36 275 56 (by first | exact no_70_8 | (unfold mPt; omega))).trans (e_Has.eq hT rfl)) (by omega) ?_
        refine e_Ok.run (t' := (78, [(3, (0, w 276 (4 * p + 20576))), (0, (1, 275)), (1, (0, p)), (2, (0, x))], [(0, 4), (0, w 276 (4 * p + 20576)), (0, 7), (1, 322)], w34)) 3 rfl ?_
        refine e_Ok.sub' (z := w 276 (4 * p + 20576) - 4) rfl (by omega) (by omega) ?_
        refine e_Ok.mul (z := 7 * w 276 (4 * p + 20576) - 28) rfl (by omega) (by omega) ?_
        refine e_Ok.run (t' := (81, [(3, (0, w 276 (4 * p + 20576))), (0, (1, 275)), (1, (0, p)), (2, (0, x))], [(1, 275), (0, 7 * w 276 (4 * p + 20576) - 28), (1, 322)], w34)) 1 rfl ?_
        refine e_Ok.getr (z := 286) rfl (el_o rfl) rfl rfl ((q36 275 15 (by first | exact no_70_8 | (unfold mPt; omega))).trans (e_Has.eq hT rfl)) (by omega) ?_
        refine e_Ok.run (t' := (86, [(3, (0, w 276 (4 * p + 20576))), (0, (1, 275)), (1, (0, p)), (2, (0, x))], [(0, 4), (0, w 276 (4 * p + 20576)), (1, 286), (0, 7 * w 276 (4 * p + 20576) - 28), (1, 322)], w34)) 2 rfl ?_
        refine e_Ok.sub' (z := w 276 (4 * p + 20576) - 4) rfl (by omega) (by omega) ?_
        have h39 := (e_Has.get hT (c := 286) (k := w 276 (4 * p + 20576) - 4) (lo := 0) (hi := 6) rfl (by decide))
        refine e_Ok.ald (z := w 286 (w 276 (4 * p + 20576) - 4)) rfl rfl rfl (by omega) ((q36 286 (w 276 (4 * p + 20576) - 4) (by first | exact no_70_9 | (unfold mPt; omega))).trans rfl) (by omega) ?_
        refine e_Ok.add (z := 7 * w 276 (4 * p + 20576) + w 286 (w 276 (4 * p + 20576) - 4) - 28) rfl (by omega) (by omega) ?_
        have h40 := (q36k.2 (7 * w 276 (4 * p + 20576) + w 286 (w 276 (4 * p + 20576) - 4) - 28) (by omega) (by omega))
        refine e_Ok.ald (z := w34 322 (7 * w 276 (4 * p + 20576) + w 286 (w 276 (4 * p + 20576) - 4) - 28)) rfl rfl rfl (by omega) rfl (by omega) ?_
        refine e_Ok.rets rfl rfl ?_
        exact ⟨_, rfl, f37, by omega, by omega⟩
      · replace h38 : (x : Int) = 0 := by have q : ¬ ((x : Int) ≠ 0) := h38; omega
        refine e_Ok.run (t' := (48, [(3, (0, w 276 (4 * p + 20576))), (0, (1, 275)), (1, (0, p)), (2, (0, x))], [(1, 275)], w34)) 1 rfl ?_
        refine e_Ok.getr (z := 321) rfl (el_o rfl) rfl rfl ((q36 275 55 (by first | exact no_70_8 | (unfold mPt; omega))).trans (e_Has.eq hT rfl)) (by omega) ?_
        refine e_Ok.run (t' := (55, [(3, (0, w 276 (4 * p + 20576))), (0, (1, 275)), (1, (0, p)), (2, (0, x))], [(0, 4), (0, w 276 (4 * p + 20576)), (0, 7), (1, 321)], w34)) 3 rfl ?_
        refine e_Ok.sub' (z := w 276 (4 * p + 20576) - 4) rfl (by omega) (by omega) ?_
        refine e_Ok.mul (z := 7 * w 276 (4 * p + 20576) - 28) rfl (by omega) (by omega) ?_
        refine e_Ok.run (t' := (58, [(3, (0, w 276 (4 * p + 20576))), (0, (1, 275)), (1, (0, p)), (2, (0, x))], [(1, 275), (0, 7 * w 276 (4 * p + 20576) - 28), (1, 321)], w34)) 1 rfl ?_
        refine e_Ok.getr (z := 286) rfl (el_o rfl) rfl rfl ((q36 275 15 (by first | exact no_70_8 | (unfold mPt; omega))).trans (e_Has.eq hT rfl)) (by omega) ?_
        refine e_Ok.run (t' := (63, [(3, (0, w 276 (4 * p + 20576))), (0, (1, 275)), (1, (0, p)), (2, (0, x))], [(0, 4), (0, w 276 (4 * p + 20576)), (1, 286), (0, 7 * w 276 (4 * p + 20576) - 28), (1, 321)], w34)) 2 rfl ?_
        refine e_Ok.sub' (z := w 276 (4 * p + 20576) - 4) rfl (by omega) (by omega) ?_
        have h41 := (e_Has.get hT (c := 286) (k := w 276 (4 * p + 20576) - 4) (lo := 0) (hi := 6) rfl (by decide))
        refine e_Ok.ald (z := w 286 (w 276 (4 * p + 20576) - 4)) rfl rfl rfl (by omega) ((q36 286 (w 276 (4 * p + 20576) - 4) (by first | exact no_70_9 | (unfold mPt; omega))).trans rfl) (by omega) ?_
        refine e_Ok.add (z := 7 * w 276 (4 * p + 20576) + w 286 (w 276 (4 * p + 20576) - 4) - 28) rfl (by omega) (by omega) ?_
        have h42 := (q36k.1 (7 * w 276 (4 * p + 20576) + w 286 (w 276 (4 * p + 20576) - 4) - 28) (by omega) (by omega))
        refine e_Ok.ald (z := w34 321 (7 * w 276 (4 * p + 20576) + w 286 (w 276 (4 * p + 20576) - 4) - 28)) rfl rfl rfl (by omega) rfl (by omega) ?_
        refine e_Ok.run (t' := (90, [(3, (0, w 276 (4 * p + 20576))), (0, (1, 275)), (1, (0, p)), (2, (0, x))], [(0, w34 321 (7 * w 276 (4 * p + 20576) + w 286 (w 276 (4 * p + 20576) - 4) - 28))], w34)) 1 rfl ?_
        refine e_Ok.rets rfl rfl ?_
        exact ⟨_, rfl, f37, by omega, by omega⟩
  · replace h5 : (w 276 (4 * p + 20576) : Int) = 8 := by have q : ¬ ((w 276 (4 * p + 20576) : Int) ≠ 8) := h5; omega
    refine e_Ok.run (t' := (17, [(3, (0, w 276 (4 * p + 20576))), (0, (1, 275)), (1, (0, p)), (2, (0, x))], [(1, 275)], w)) 1 rfl ?_
    refine e_Ok.getr (z := 276) rfl (el_o rfl) rfl rfl (e_Has.eq hT rfl) (by omega) ?_
    refine e_Ok.run (t' := (21, [(3, (0, w 276 (4 * p + 20576))), (0, (1, 275)), (1, (0, p)), (2, (0, x))], [(0, p), (1, 276)], w)) 1 rfl ?_
    refine e_Ok.callS rfl (by omega) rfl rfl (c_392 (by omega)) (fun r43 w44 h45 => ?_)
    obtain ⟨rfl, rfl⟩ := h45
    show e_Ok 20 elay ecode eI (d + 1) 395 (24, [(3, (0, w 276 (4 * p + 20576))), (0, (1, 275)), (1, (0, p)), (2, (0, x))], [(0, 4 * p + 20576), (1, 276)], w) _
    refine e_Ok.run (t' := (25, [(3, (0, w 276 (4 * p + 20576))), (0, (1, 275)), (1, (0, p)), (2, (0, x))], [(0, 1), (0, 4 * p + 20576), (1, 276)], w)) 1 rfl ?_
    refine e_Ok.add (z := 4 * p + 20577) rfl (by omega) (by omega) ?_
    refine e_Ok.run (t' := (27, [(3, (0, w 276 (4 * p + 20576))), (0, (1, 275)), (1, (0, p)), (2, (0, x))], [(0, x), (0, 4 * p + 20577), (1, 276)], w)) 1 rfl ?_
    refine e_Ok.add (z := 4 * p + x + 20577) rfl (by omega) (by omega) ?_
    have h46 := (e_Has.get hT (c := 276) (k := 4 * p + x + 20577) (lo := (-2147483648)) (hi := 2147483647) (nR_PARTg p (x + 1) (by omega) (by omega) (by omega)) (by decide))
    refine e_Ok.ald (z := w 276 (4 * p + x + 20577)) rfl (el_o rfl) rfl (by omega) rfl (by omega) ?_
    refine e_Ok.rets rfl rfl ?_
    exact ⟨_, rfl, (e_fr.refl w), by omega, by omega⟩
end
