noncomputable section
/-! the model: where its tables lie behind resolve -/
/-- where the model's tables lie -/
def mr7 (v v' : eW) : Prop := (mRw v → mRw v') ∧ (v' 275 74 = v 275 74 ∧ v' 275 75 = v 275 75 ∧ v' 275 76 = v 275 76 ∧ v' 275 0 = v 275 0 ∧ v' 275 77 = v 275 77)
theorem mr7.r {v : eW} : mr7 v v := ⟨fun h => h, rfl, rfl, rfl, rfl, rfl⟩
theorem mr7.tr {v v1 v2 : eW} (h : mr7 v v1) (h' : mr7 v1 v2) : mr7 v v2 := ⟨fun g => h'.1 (h.1 g), h'.2.1.trans h.2.1, h'.2.2.1.trans h.2.2.1, h'.2.2.2.1.trans h.2.2.2.1, h'.2.2.2.2.1.trans h.2.2.2.2.1, h'.2.2.2.2.2.trans h.2.2.2.2.2⟩
theorem mr7.rf {v v1 : eW} (h : mr7 v v1) (g : mRw v) : mRw v1 := h.1 g
theorem mr7.up {v v1 v2 : eW} {c k z : Int} (h : mr7 v v1) (hv : e_up v1 c k z = v2) (hc : c = 275 → k = 88 ∨ k = 89) : mr7 v v2 := h.tr (by
  have e : ∀ j, j ≠ 88 → j ≠ 89 → v2 275 j = v1 275 j := fun j g1 g2 => by
    subst hv
    by_cases q : c = 275
    · exact e_up_ne _ _ (Or.inr (by have := hc q; omega))
    · exact e_up_ne _ _ (Or.inl (fun e => q e.symm))
  refine ⟨fun g q hq => ?_, e _ (by decide) (by decide), e _ (by decide) (by decide), e _ (by decide) (by decide), e _ (by decide) (by decide), e _ (by decide) (by decide)⟩
  have d : mRL.all (fun q => decide (q.1 ≠ 88 ∧ q.1 ≠ 89)) = true := by decide +kernel
  have d2 := of_decide_eq_true (List.all_eq_true.mp d q hq)
  exact (e _ d2.1 d2.2).trans (g q hq))
set_option maxHeartbeats 4000000 in
theorem y_354 {n d : Nat} {w : eW} (hR : mRw w) (hV : w 275 76 = 339 ∧ w 275 75 = 338 ∧ w 275 74 = 337) {x : Int} {y : Int} : e_Pn 20 elay ecode eI n d 354 (0, [(0, (1, 275)), (1, (0, x)), (2, (0, y))], [], w) (fun r w' => (∃ z : Int, r = [(0, z)]) ∧ mr7 w w') := by
  refine e_Pn.run (t' := (1, [(0, (1, 275)), (1, (0, x)), (2, (0, y))], [(1, 275)], w)) eAlk 1 rfl ?_
  refine e_Pn.getr (z := 343) eAlk rfl rfl (mr7.r.rf hR (92, 343) (by decide)) (by omega) ?_
  refine e_Pn.run (t' := (5, [(0, (1, 275)), (1, (0, x)), (2, (0, y))], [(0, x), (1, 343)], w)) eAlk 1 rfl ?_
  refine e_Pn.ald (z := w 343 x) eAlk rfl rfl (fun b1 b2 => ?_)
  refine e_Pn.run (t' := (7, [(0, (1, 275)), (1, (0, x)), (2, (0, y))], [(1, 275), (0, w 343 x)], w)) eAlk 1 rfl ?_
  refine e_Pn.getr (z := 343) eAlk rfl rfl (mr7.r.rf hR (92, 343) (by decide)) (by omega) ?_
  refine e_Pn.run (t' := (11, [(0, (1, 275)), (1, (0, x)), (2, (0, y))], [(0, y), (1, 343), (0, w 343 x)], w)) eAlk 1 rfl ?_
  refine e_Pn.ald (z := w 343 y) eAlk rfl rfl (fun b3 b4 => ?_)
  refine e_Pn.if2 eAlk rfl (fun h5 => ?_) (fun h5 => ?_)
  · show e_Pn 20 elay ecode eI n d 354 (19, [(0, (1, 275)), (1, (0, x)), (2, (0, y))], [], w) _
    refine e_Pn.run (t' := (24, [(4, (0, 0)), (3, (0, 0)), (0, (1, 275)), (1, (0, x)), (2, (0, y))], [], w)) eAlk 4 rfl ?_
    have hL6 : ∀ nn8 : Nat, nn8 ≤ n → ∀ (tl9 : eL) (y12 : Int) (y13 : Int) (y14 : Int) (y15 : Int) (w10 : eW), mr7 w w10 → e_Pn 20 elay ecode eI nn8 d 354 (24, (0, (1, 275)) :: (1, (0, y12)) :: (2, (0, y13)) :: (3, (0, y14)) :: (4, (0, y15)) :: tl9, [], w10) (fun r w' => (∃ z : Int, r = [(0, z)]) ∧ mr7 w w') := by
      intro nn8
      induction nn8 with
      | zero => intro _ tl9 y12 y13 y14 y15 w10 _; exact e_Pn.zero
      | succ nn8 ih7 =>
        intro hnnn8 tl9 y12 y13 y14 y15 w10 q11
        refine e_Pn.runS (t' := (27, (0, (1, 275)) :: (1, (0, y12)) :: (2, (0, y13)) :: (3, (0, y14)) :: (4, (0, y15)) :: tl9, [(1, 275), (0, y15)], w10)) eAlk 1 rfl ?_
        refine e_Pn.getr (z := 343) eAlk rfl rfl (q11.rf hR (92, 343) (by decide)) (by omega) ?_
        refine e_Pn.run (t' := (31, (0, (1, 275)) :: (1, (0, y12)) :: (2, (0, y13)) :: (3, (0, y14)) :: (4, (0, y15)) :: tl9, [(0, y12), (1, 343), (0, y15)], w10)) eAlk 1 rfl ?_
        refine e_Pn.ald (z := w10 343 y12) eAlk rfl rfl (fun b16 b17 => ?_)
        refine e_Pn.if2 eAlk rfl (fun h18 => ?_) (fun h18 => ?_)
        · show e_Pn 20 elay ecode eI nn8 d 354 (82, (0, (1, 275)) :: (1, (0, y12)) :: (2, (0, y13)) :: (3, (0, y14)) :: (4, (0, y15)) :: tl9, [], w10) _
          refine e_Pn.run (t' := (83, (0, (1, 275)) :: (1, (0, y12)) :: (2, (0, y13)) :: (3, (0, y14)) :: (4, (0, y15)) :: tl9, [(0, y14)], w10)) eAlk 1 rfl ?_
          exact e_Pn.ret4 rfl ⟨⟨_, rfl⟩, q11⟩
        · show e_Pn 20 elay ecode eI nn8 d 354 (35, (0, (1, 275)) :: (1, (0, y12)) :: (2, (0, y13)) :: (3, (0, y14)) :: (4, (0, y15)) :: tl9, [], w10) _
          refine e_Pn.run (t' := (36, (0, (1, 275)) :: (1, (0, y12)) :: (2, (0, y13)) :: (3, (0, y14)) :: (4, (0, y15)) :: tl9, [(0, y14)], w10)) eAlk 1 rfl ?_
          refine e_Pn.if1 eAlk rfl (fun h19 => ?_) (fun h19 => ?_)
          · show e_Pn 20 elay ecode eI nn8 d 354 (82, (0, (1, 275)) :: (1, (0, y12)) :: (2, (0, y13)) :: (3, (0, y14)) :: (4, (0, y15)) :: tl9, [], w10) _
            refine e_Pn.run (t' := (83, (0, (1, 275)) :: (1, (0, y12)) :: (2, (0, y13)) :: (3, (0, y14)) :: (4, (0, y15)) :: tl9, [(0, y14)], w10)) eAlk 1 rfl ?_
            exact e_Pn.ret4 rfl ⟨⟨_, rfl⟩, q11⟩
          · show e_Pn 20 elay ecode eI nn8 d 354 (39, (0, (1, 275)) :: (1, (0, y12)) :: (2, (0, y13)) :: (3, (0, y14)) :: (4, (0, y15)) :: tl9, [], w10) _
            refine e_Pn.run (t' := (40, (0, (1, 275)) :: (1, (0, y12)) :: (2, (0, y13)) :: (3, (0, y14)) :: (4, (0, y15)) :: tl9, [(1, 275)], w10)) eAlk 1 rfl ?_
            refine e_Pn.getr (z := 281) eAlk rfl rfl (q11.rf hR (8, 281) (by decide)) (by omega) ?_
            refine e_Pn.run (t' := (44, (0, (1, 275)) :: (1, (0, y12)) :: (2, (0, y13)) :: (3, (0, y14)) :: (4, (0, y15)) :: tl9, [(1, 275), (1, 281)], w10)) eAlk 1 rfl ?_
            refine e_Pn.getr (z := 342) eAlk rfl rfl (q11.rf hR (91, 342) (by decide)) (by omega) ?_
            refine e_Pn.run (t' := (48, (0, (1, 275)) :: (1, (0, y12)) :: (2, (0, y13)) :: (3, (0, y14)) :: (4, (0, y15)) :: tl9, [(0, y12), (1, 342), (1, 281)], w10)) eAlk 1 rfl ?_
            refine e_Pn.ald (z := w10 342 y12) eAlk rfl rfl (fun b20 b21 => ?_)
            refine e_Pn.run (t' := (51, (0, (1, 275)) :: (1, (0, y12)) :: (2, (0, y13)) :: (3, (0, y14)) :: (4, (0, y15)) :: tl9, [(0, y15), (0, w10 342 y12), (1, 281)], w10)) eAlk 1 rfl ?_
            refine e_Pn.bin0 eAlk rfl (fun z22 hz22 => ?_)
            refine e_Pn.ald (z := w10 281 z22) eAlk rfl rfl (fun b23 b24 => ?_)
            refine e_Pn.run (t' := (54, (0, (1, 275)) :: (1, (0, y12)) :: (2, (0, y13)) :: (3, (0, y14)) :: (4, (0, y15)) :: tl9, [(1, 275), (0, w10 281 z22)], w10)) eAlk 1 rfl ?_
            refine e_Pn.getr (z := 281) eAlk rfl rfl (q11.rf hR (8, 281) (by decide)) (by omega) ?_
            refine e_Pn.run (t' := (58, (0, (1, 275)) :: (1, (0, y12)) :: (2, (0, y13)) :: (3, (0, y14)) :: (4, (0, y15)) :: tl9, [(1, 275), (1, 281), (0, w10 281 z22)], w10)) eAlk 1 rfl ?_
            refine e_Pn.getr (z := 342) eAlk rfl rfl (q11.rf hR (91, 342) (by decide)) (by omega) ?_
            refine e_Pn.run (t' := (62, (0, (1, 275)) :: (1, (0, y12)) :: (2, (0, y13)) :: (3, (0, y14)) :: (4, (0, y15)) :: tl9, [(0, y13), (1, 342), (1, 281), (0, w10 281 z22)], w10)) eAlk 1 rfl ?_
            refine e_Pn.ald (z := w10 342 y13) eAlk rfl rfl (fun b25 b26 => ?_)
            refine e_Pn.run (t' := (65, (0, (1, 275)) :: (1, (0, y12)) :: (2, (0, y13)) :: (3, (0, y14)) :: (4, (0, y15)) :: tl9, [(0, y15), (0, w10 342 y13), (1, 281), (0, w10 281 z22)], w10)) eAlk 1 rfl ?_
            refine e_Pn.bin0 eAlk rfl (fun z27 hz27 => ?_)
            refine e_Pn.ald (z := w10 281 z27) eAlk rfl rfl (fun b28 b29 => ?_)
            refine e_Pn.if2 eAlk rfl (fun h30 => ?_) (fun h30 => ?_)
            · show e_Pn 20 elay ecode eI nn8 d 354 (74, (0, (1, 275)) :: (1, (0, y12)) :: (2, (0, y13)) :: (3, (0, y14)) :: (4, (0, y15)) :: tl9, [], w10) _
              refine e_Pn.run (t' := (76, (3, (0, 0)) :: (0, (1, 275)) :: (1, (0, y12)) :: (2, (0, y13)) :: (4, (0, y15)) :: List.filter (e_flt 0 3) tl9, [], w10)) eAlk 2 rfl ?_
              refine e_Pn.incU eAlk rfl rfl (fun z31 => ?_)
              show e_Pn 20 elay ecode eI nn8 d 354 (79, (4, (0, z31)) :: (3, (0, 0)) :: (0, (1, 275)) :: (1, (0, y12)) :: (2, (0, y13)) :: List.filter (e_flt 0 4) (List.filter (e_flt 0 3) tl9), [], w10) _
              refine e_Pn.run (t' := (24, (4, (0, z31)) :: (3, (0, 0)) :: (0, (1, 275)) :: (1, (0, y12)) :: (2, (0, y13)) :: List.filter (e_flt 0 4) (List.filter (e_flt 0 3) tl9), [], w10)) eAlk 1 rfl ?_
              exact e_Pn.ord eAlk [0, 1, 2, 3, 4] rfl rfl ((ih7 (by omega) _ y12 y13 0 z31 w10 q11).le (by omega))
            · show e_Pn 20 elay ecode eI nn8 d 354 (70, (0, (1, 275)) :: (1, (0, y12)) :: (2, (0, y13)) :: (3, (0, y14)) :: (4, (0, y15)) :: tl9, [], w10) _
              refine e_Pn.run (t' := (76, (3, (0, 1)) :: (0, (1, 275)) :: (1, (0, y12)) :: (2, (0, y13)) :: (4, (0, y15)) :: List.filter (e_flt 0 3) tl9, [], w10)) eAlk 3 rfl ?_
              refine e_Pn.incU eAlk rfl rfl (fun z32 => ?_)
              show e_Pn 20 elay ecode eI nn8 d 354 (79, (4, (0, z32)) :: (3, (0, 1)) :: (0, (1, 275)) :: (1, (0, y12)) :: (2, (0, y13)) :: List.filter (e_flt 0 4) (List.filter (e_flt 0 3) tl9), [], w10) _
              refine e_Pn.run (t' := (24, (4, (0, z32)) :: (3, (0, 1)) :: (0, (1, 275)) :: (1, (0, y12)) :: (2, (0, y13)) :: List.filter (e_flt 0 4) (List.filter (e_flt 0 3) tl9), [], w10)) eAlk 1 rfl ?_
              exact e_Pn.ord eAlk [0, 1, 2, 3, 4] rfl rfl ((ih7 (by omega) _ y12 y13 1 z32 w10 q11).le (by omega))
    exact e_Pn.ord eAlk [0, 1, 2, 3, 4] rfl rfl (hL6 n (Nat.le_refl _) _ x y 0 0 w mr7.r)
  · show e_Pn 20 elay ecode eI n d 354 (15, [(0, (1, 275)), (1, (0, x)), (2, (0, y))], [], w) _
    refine e_Pn.run (t' := (24, [(4, (0, 0)), (3, (0, 1)), (0, (1, 275)), (1, (0, x)), (2, (0, y))], [], w)) eAlk 5 rfl ?_
    have hL33 : ∀ nn35 : Nat, nn35 ≤ n → ∀ (tl36 : eL) (y39 : Int) (y40 : Int) (y41 : Int) (y42 : Int) (w37 : eW), mr7 w w37 → e_Pn 20 elay ecode eI nn35 d 354 (24, (0, (1, 275)) :: (1, (0, y39)) :: (2, (0, y40)) :: (3, (0, y41)) :: (4, (0, y42)) :: tl36, [], w37) (fun r w' => (∃ z : Int, r = [(0, z)]) ∧ mr7 w w') := by
      intro nn35
      induction nn35 with
      | zero => intro _ tl36 y39 y40 y41 y42 w37 _; exact e_Pn.zero
      | succ nn35 ih34 =>
        intro hnnn35 tl36 y39 y40 y41 y42 w37 q38
        refine e_Pn.runS (t' := (27, (0, (1, 275)) :: (1, (0, y39)) :: (2, (0, y40)) :: (3, (0, y41)) :: (4, (0, y42)) :: tl36, [(1, 275), (0, y42)], w37)) eAlk 1 rfl ?_
        refine e_Pn.getr (z := 343) eAlk rfl rfl (q38.rf hR (92, 343) (by decide)) (by omega) ?_
        refine e_Pn.run (t' := (31, (0, (1, 275)) :: (1, (0, y39)) :: (2, (0, y40)) :: (3, (0, y41)) :: (4, (0, y42)) :: tl36, [(0, y39), (1, 343), (0, y42)], w37)) eAlk 1 rfl ?_
        refine e_Pn.ald (z := w37 343 y39) eAlk rfl rfl (fun b43 b44 => ?_)
        refine e_Pn.if2 eAlk rfl (fun h45 => ?_) (fun h45 => ?_)
        · show e_Pn 20 elay ecode eI nn35 d 354 (82, (0, (1, 275)) :: (1, (0, y39)) :: (2, (0, y40)) :: (3, (0, y41)) :: (4, (0, y42)) :: tl36, [], w37) _
          refine e_Pn.run (t' := (83, (0, (1, 275)) :: (1, (0, y39)) :: (2, (0, y40)) :: (3, (0, y41)) :: (4, (0, y42)) :: tl36, [(0, y41)], w37)) eAlk 1 rfl ?_
          exact e_Pn.ret4 rfl ⟨⟨_, rfl⟩, q38⟩
        · show e_Pn 20 elay ecode eI nn35 d 354 (35, (0, (1, 275)) :: (1, (0, y39)) :: (2, (0, y40)) :: (3, (0, y41)) :: (4, (0, y42)) :: tl36, [], w37) _
          refine e_Pn.run (t' := (36, (0, (1, 275)) :: (1, (0, y39)) :: (2, (0, y40)) :: (3, (0, y41)) :: (4, (0, y42)) :: tl36, [(0, y41)], w37)) eAlk 1 rfl ?_
          refine e_Pn.if1 eAlk rfl (fun h46 => ?_) (fun h46 => ?_)
          · show e_Pn 20 elay ecode eI nn35 d 354 (82, (0, (1, 275)) :: (1, (0, y39)) :: (2, (0, y40)) :: (3, (0, y41)) :: (4, (0, y42)) :: tl36, [], w37) _
            refine e_Pn.run (t' := (83, (0, (1, 275)) :: (1, (0, y39)) :: (2, (0, y40)) :: (3, (0, y41)) :: (4, (0, y42)) :: tl36, [(0, y41)], w37)) eAlk 1 rfl ?_
            exact e_Pn.ret4 rfl ⟨⟨_, rfl⟩, q38⟩
          · show e_Pn 20 elay ecode eI nn35 d 354 (39, (0, (1, 275)) :: (1, (0, y39)) :: (2, (0, y40)) :: (3, (0, y41)) :: (4, (0, y42)) :: tl36, [], w37) _
            refine e_Pn.run (t' := (40, (0, (1, 275)) :: (1, (0, y39)) :: (2, (0, y40)) :: (3, (0, y41)) :: (4, (0, y42)) :: tl36, [(1, 275)], w37)) eAlk 1 rfl ?_
            refine e_Pn.getr (z := 281) eAlk rfl rfl (q38.rf hR (8, 281) (by decide)) (by omega) ?_
            refine e_Pn.run (t' := (44, (0, (1, 275)) :: (1, (0, y39)) :: (2, (0, y40)) :: (3, (0, y41)) :: (4, (0, y42)) :: tl36, [(1, 275), (1, 281)], w37)) eAlk 1 rfl ?_
            refine e_Pn.getr (z := 342) eAlk rfl rfl (q38.rf hR (91, 342) (by decide)) (by omega) ?_
            refine e_Pn.run (t' := (48, (0, (1, 275)) :: (1, (0, y39)) :: (2, (0, y40)) :: (3, (0, y41)) :: (4, (0, y42)) :: tl36, [(0, y39), (1, 342), (1, 281)], w37)) eAlk 1 rfl ?_
            refine e_Pn.ald (z := w37 342 y39) eAlk rfl rfl (fun b47 b48 => ?_)
            refine e_Pn.run (t' := (51, (0, (1, 275)) :: (1, (0, y39)) :: (2, (0, y40)) :: (3, (0, y41)) :: (4, (0, y42)) :: tl36, [(0, y42), (0, w37 342 y39), (1, 281)], w37)) eAlk 1 rfl ?_
            refine e_Pn.bin0 eAlk rfl (fun z49 hz49 => ?_)
            refine e_Pn.ald (z := w37 281 z49) eAlk rfl rfl (fun b50 b51 => ?_)
            refine e_Pn.run (t' := (54, (0, (1, 275)) :: (1, (0, y39)) :: (2, (0, y40)) :: (3, (0, y41)) :: (4, (0, y42)) :: tl36, [(1, 275), (0, w37 281 z49)], w37)) eAlk 1 rfl ?_
            refine e_Pn.getr (z := 281) eAlk rfl rfl (q38.rf hR (8, 281) (by decide)) (by omega) ?_
            refine e_Pn.run (t' := (58, (0, (1, 275)) :: (1, (0, y39)) :: (2, (0, y40)) :: (3, (0, y41)) :: (4, (0, y42)) :: tl36, [(1, 275), (1, 281), (0, w37 281 z49)], w37)) eAlk 1 rfl ?_
            refine e_Pn.getr (z := 342) eAlk rfl rfl (q38.rf hR (91, 342) (by decide)) (by omega) ?_
            refine e_Pn.run (t' := (62, (0, (1, 275)) :: (1, (0, y39)) :: (2, (0, y40)) :: (3, (0, y41)) :: (4, (0, y42)) :: tl36, [(0, y40), (1, 342), (1, 281), (0, w37 281 z49)], w37)) eAlk 1 rfl ?_
            refine e_Pn.ald (z := w37 342 y40) eAlk rfl rfl (fun b52 b53 => ?_)
            refine e_Pn.run (t' := (65, (0, (1, 275)) :: (1, (0, y39)) :: (2, (0, y40)) :: (3, (0, y41)) :: (4, (0, y42)) :: tl36, [(0, y42), (0, w37 342 y40), (1, 281), (0, w37 281 z49)], w37)) eAlk 1 rfl ?_
            refine e_Pn.bin0 eAlk rfl (fun z54 hz54 => ?_)
            refine e_Pn.ald (z := w37 281 z54) eAlk rfl rfl (fun b55 b56 => ?_)
            refine e_Pn.if2 eAlk rfl (fun h57 => ?_) (fun h57 => ?_)
            · show e_Pn 20 elay ecode eI nn35 d 354 (74, (0, (1, 275)) :: (1, (0, y39)) :: (2, (0, y40)) :: (3, (0, y41)) :: (4, (0, y42)) :: tl36, [], w37) _
              refine e_Pn.run (t' := (76, (3, (0, 0)) :: (0, (1, 275)) :: (1, (0, y39)) :: (2, (0, y40)) :: (4, (0, y42)) :: List.filter (e_flt 0 3) tl36, [], w37)) eAlk 2 rfl ?_
              refine e_Pn.incU eAlk rfl rfl (fun z58 => ?_)
              show e_Pn 20 elay ecode eI nn35 d 354 (79, (4, (0, z58)) :: (3, (0, 0)) :: (0, (1, 275)) :: (1, (0, y39)) :: (2, (0, y40)) :: List.filter (e_flt 0 4) (List.filter (e_flt 0 3) tl36), [], w37) _
              refine e_Pn.run (t' := (24, (4, (0, z58)) :: (3, (0, 0)) :: (0, (1, 275)) :: (1, (0, y39)) :: (2, (0, y40)) :: List.filter (e_flt 0 4) (List.filter (e_flt 0 3) tl36), [], w37)) eAlk 1 rfl ?_
              exact e_Pn.ord eAlk [0, 1, 2, 3, 4] rfl rfl ((ih34 (by omega) _ y39 y40 0 z58 w37 q38).le (by omega))
            · show e_Pn 20 elay ecode eI nn35 d 354 (70, (0, (1, 275)) :: (1, (0, y39)) :: (2, (0, y40)) :: (3, (0, y41)) :: (4, (0, y42)) :: tl36, [], w37) _
              refine e_Pn.run (t' := (76, (3, (0, 1)) :: (0, (1, 275)) :: (1, (0, y39)) :: (2, (0, y40)) :: (4, (0, y42)) :: List.filter (e_flt 0 3) tl36, [], w37)) eAlk 3 rfl ?_
              refine e_Pn.incU eAlk rfl rfl (fun z59 => ?_)
              show e_Pn 20 elay ecode eI nn35 d 354 (79, (4, (0, z59)) :: (3, (0, 1)) :: (0, (1, 275)) :: (1, (0, y39)) :: (2, (0, y40)) :: List.filter (e_flt 0 4) (List.filter (e_flt 0 3) tl36), [], w37) _
              refine e_Pn.run (t' := (24, (4, (0, z59)) :: (3, (0, 1)) :: (0, (1, 275)) :: (1, (0, y39)) :: (2, (0, y40)) :: List.filter (e_flt 0 4) (List.filter (e_flt 0 3) tl36), [], w37)) eAlk 1 rfl ?_
              exact e_Pn.ord eAlk [0, 1, 2, 3, 4] rfl rfl ((ih34 (by omega) _ y39 y40 1 z59 w37 q38).le (by omega))
    exact e_Pn.ord eAlk [0, 1, 2, 3, 4] rfl rfl (hL33 n (Nat.le_refl _) _ x y 1 0 w mr7.r)
set_option maxHeartbeats 4000000 in
theorem y_355 {n d : Nat} {w : eW} (hR : mRw w) (hV : w 275 76 = 339 ∧ w 275 75 = 338 ∧ w 275 74 = 337) {x : Int} {y : Int} {z : Int} : e_Pn 20 elay ecode eI n d 355 (0, [(0, (1, 275)), (1, (0, x)), (2, (0, y)), (3, (0, z))], [], w) (fun r w' => (∃ z : Int, r = [(0, z)]) ∧ mr7 w w') := by
  refine e_Pn.run (t' := (6, [(5, (0, 0)), (4, (0, 0)), (0, (1, 275)), (1, (0, x)), (2, (0, y)), (3, (0, z))], [], w)) eAlk 4 rfl ?_
  have hL1 : ∀ nn3 : Nat, nn3 ≤ n → ∀ (tl4 : eL) (y7 : Int) (y8 : Int) (y9 : Int) (y10 : Int) (y11 : Int) (w5 : eW), mr7 w w5 → e_Pn 20 elay ecode eI nn3 d 355 (6, (0, (1, 275)) :: (1, (0, y7)) :: (2, (0, y8)) :: (3, (0, y9)) :: (4, (0, y10)) :: (5, (0, y11)) :: tl4, [], w5) (fun r w' => (∃ z : Int, r = [(0, z)]) ∧ mr7 w w') := by
    intro nn3
    induction nn3 with
    | zero => intro _ tl4 y7 y8 y9 y10 y11 w5 _; exact e_Pn.zero
    | succ nn3 ih2 =>
      intro hnnn3 tl4 y7 y8 y9 y10 y11 w5 q6
      refine e_Pn.runS (t' := (9, (0, (1, 275)) :: (1, (0, y7)) :: (2, (0, y8)) :: (3, (0, y9)) :: (4, (0, y10)) :: (5, (0, y11)) :: tl4, [(0, y9), (0, y11)], w5)) eAlk 1 rfl ?_
      refine e_Pn.if2 eAlk rfl (fun h12 => ?_) (fun h12 => ?_)
      · show e_Pn 20 elay ecode eI nn3 d 355 (45, (0, (1, 275)) :: (1, (0, y7)) :: (2, (0, y8)) :: (3, (0, y9)) :: (4, (0, y10)) :: (5, (0, y11)) :: tl4, [], w5) _
        refine e_Pn.run (t' := (46, (0, (1, 275)) :: (1, (0, y7)) :: (2, (0, y8)) :: (3, (0, y9)) :: (4, (0, y10)) :: (5, (0, y11)) :: tl4, [(0, (-1))], w5)) eAlk 1 rfl ?_
        exact e_Pn.ret1 rfl ⟨⟨_, rfl⟩, q6⟩
      · show e_Pn 20 elay ecode eI nn3 d 355 (12, (0, (1, 275)) :: (1, (0, y7)) :: (2, (0, y8)) :: (3, (0, y9)) :: (4, (0, y10)) :: (5, (0, y11)) :: tl4, [], w5) _
        refine e_Pn.run (t' := (13, (0, (1, 275)) :: (1, (0, y7)) :: (2, (0, y8)) :: (3, (0, y9)) :: (4, (0, y10)) :: (5, (0, y11)) :: tl4, [(1, 275)], w5)) eAlk 1 rfl ?_
        refine e_Pn.getr (z := 341) eAlk rfl rfl (q6.rf hR (90, 341) (by decide)) (by omega) ?_
        refine e_Pn.run (t' := (18, (0, (1, 275)) :: (1, (0, y7)) :: (2, (0, y8)) :: (3, (0, y9)) :: (4, (0, y10)) :: (5, (0, y11)) :: tl4, [(0, y11), (1, 341)], w5)) eAlk 1 rfl ?_
        refine e_Pn.ald (z := w5 341 y11) eAlk rfl rfl (fun b13 b14 => ?_)
        refine e_Pn.run (t' := (20, (0, (1, 275)) :: (1, (0, y7)) :: (2, (0, y8)) :: (3, (0, y9)) :: (4, (0, y10)) :: (5, (0, y11)) :: tl4, [(0, y7), (0, w5 341 y11)], w5)) eAlk 1 rfl ?_
        refine e_Pn.if2 eAlk rfl (fun h15 => ?_) (fun h15 => ?_)
        · show e_Pn 20 elay ecode eI nn3 d 355 (39, (0, (1, 275)) :: (1, (0, y7)) :: (2, (0, y8)) :: (3, (0, y9)) :: (4, (0, y10)) :: (5, (0, y11)) :: tl4, [], w5) _
          refine e_Pn.incU eAlk rfl rfl (fun z16 => ?_)
          show e_Pn 20 elay ecode eI nn3 d 355 (42, (5, (0, z16)) :: (0, (1, 275)) :: (1, (0, y7)) :: (2, (0, y8)) :: (3, (0, y9)) :: (4, (0, y10)) :: List.filter (e_flt 0 5) tl4, [], w5) _
          refine e_Pn.run (t' := (6, (5, (0, z16)) :: (0, (1, 275)) :: (1, (0, y7)) :: (2, (0, y8)) :: (3, (0, y9)) :: (4, (0, y10)) :: List.filter (e_flt 0 5) tl4, [], w5)) eAlk 1 rfl ?_
          exact e_Pn.ord eAlk [0, 1, 2, 3, 4, 5] rfl rfl ((ih2 (by omega) _ y7 y8 y9 y10 z16 w5 q6).le (by omega))
        · show e_Pn 20 elay ecode eI nn3 d 355 (23, (0, (1, 275)) :: (1, (0, y7)) :: (2, (0, y8)) :: (3, (0, y9)) :: (4, (0, y10)) :: (5, (0, y11)) :: tl4, [], w5) _
          refine e_Pn.run (t' := (27, (0, (1, 275)) :: (1, (0, y7)) :: (2, (0, y8)) :: (3, (0, y9)) :: (4, (0, y10)) :: (5, (0, y11)) :: tl4, [(0, y8), (0, y11), (1, 275)], w5)) eAlk 3 rfl ?_
          refine e_Pn.callA rfl (fun n9 d9 => y_354 (q6.rf hR) ⟨q6.2.2.2.1.trans hV.1, q6.2.2.1.trans hV.2.1, q6.2.1.trans hV.2.2⟩) (fun r18 w19 h17 => ?_)
          obtain ⟨⟨z20, rfl⟩, h17⟩ := h17
          have q21 := q6.tr h17
          show e_Pn 20 elay ecode eI nn3 d 355 (30, (0, (1, 275)) :: (1, (0, y7)) :: (2, (0, y8)) :: (3, (0, y9)) :: (4, (0, y10)) :: (5, (0, y11)) :: tl4, [(0, z20)], w19) _
          refine e_Pn.if1 eAlk rfl (fun h22 => ?_) (fun h22 => ?_)
          · show e_Pn 20 elay ecode eI nn3 d 355 (36, (0, (1, 275)) :: (1, (0, y7)) :: (2, (0, y8)) :: (3, (0, y9)) :: (4, (0, y10)) :: (5, (0, y11)) :: tl4, [], w19) _
            refine e_Pn.incU eAlk rfl rfl (fun z23 => ?_)
            show e_Pn 20 elay ecode eI nn3 d 355 (39, (4, (0, z23)) :: (0, (1, 275)) :: (1, (0, y7)) :: (2, (0, y8)) :: (3, (0, y9)) :: (5, (0, y11)) :: List.filter (e_flt 0 4) tl4, [], w19) _
            refine e_Pn.incU eAlk rfl rfl (fun z24 => ?_)
            show e_Pn 20 elay ecode eI nn3 d 355 (42, (5, (0, z24)) :: (4, (0, z23)) :: (0, (1, 275)) :: (1, (0, y7)) :: (2, (0, y8)) :: (3, (0, y9)) :: List.filter (e_flt 0 5) (List.filter (e_flt 0 4) tl4), [], w19) _
            refine e_Pn.run (t' := (6, (5, (0, z24)) :: (4, (0, z23)) :: (0, (1, 275)) :: (1, (0, y7)) :: (2, (0, y8)) :: (3, (0, y9)) :: List.filter (e_flt 0 5) (List.filter (e_flt 0 4) tl4), [], w19)) eAlk 1 rfl ?_
            exact e_Pn.ord eAlk [0, 1, 2, 3, 4, 5] rfl rfl ((ih2 (by omega) _ y7 y8 y9 z23 z24 w19 q21).le (by omega))
          · show e_Pn 20 elay ecode eI nn3 d 355 (33, (0, (1, 275)) :: (1, (0, y7)) :: (2, (0, y8)) :: (3, (0, y9)) :: (4, (0, y10)) :: (5, (0, y11)) :: tl4, [], w19) _
            refine e_Pn.run (t' := (35, (0, (1, 275)) :: (1, (0, y7)) :: (2, (0, y8)) :: (3, (0, y9)) :: (4, (0, y10)) :: (5, (0, y11)) :: tl4, [(0, y10)], w19)) eAlk 1 rfl ?_
            exact e_Pn.ret1 rfl ⟨⟨_, rfl⟩, q21⟩
  exact e_Pn.ord eAlk [0, 1, 2, 3, 4, 5] rfl rfl (hL1 n (Nat.le_refl _) _ x y z 0 0 w mr7.r)
set_option maxHeartbeats 4000000 in
theorem y_356 {n d : Nat} {w : eW} (hR : mRw w) (hV : w 275 76 = 339 ∧ w 275 75 = 338 ∧ w 275 74 = 337) : e_Pn 20 elay ecode eI n d 356 (0, [(0, (1, 275))], [], w) (fun r w' => r = [] ∧ mr7 w w') := by
  refine e_Pn.run (t' := (2, [(1, (0, 0)), (0, (1, 275))], [], w)) eAlk 2 rfl ?_
  have hL1 : ∀ nn3 : Nat, nn3 ≤ n → ∀ (tl4 : eL) (y7 : Int) (w5 : eW), mr7 w w5 → e_Pn 20 elay ecode eI nn3 d 356 (2, (0, (1, 275)) :: (1, (0, y7)) :: tl4, [], w5) (fun r w' => r = [] ∧ mr7 w w') := by
    intro nn3
    induction nn3 with
    | zero => intro _ tl4 y7 w5 _; exact e_Pn.zero
    | succ nn3 ih2 =>
      intro hnnn3 tl4 y7 w5 q6
      refine e_Pn.runS (t' := (4, (0, (1, 275)) :: (1, (0, y7)) :: tl4, [(1, 275), (0, y7)], w5)) eAlk 1 rfl ?_
      refine e_Pn.getf (z := w5 275 94) eAlk rfl rfl rfl (fun b8 => ?_)
      refine e_Pn.if2 eAlk rfl (fun h9 => ?_) (fun h9 => ?_)
      · show e_Pn 20 elay ecode eI nn3 d 356 (223, (0, (1, 275)) :: (1, (0, y7)) :: tl4, [], w5) _
        exact e_Pn.ret0 rfl ⟨rfl, q6⟩
      · show e_Pn 20 elay ecode eI nn3 d 356 (10, (0, (1, 275)) :: (1, (0, y7)) :: tl4, [], w5) _
        refine e_Pn.run (t' := (11, (0, (1, 275)) :: (1, (0, y7)) :: tl4, [(1, 275)], w5)) eAlk 1 rfl ?_
        refine e_Pn.getf (z := w5 275 88) eAlk rfl rfl rfl (fun b10 => ?_)
        refine e_Pn.if1 eAlk rfl (fun h11 => ?_) (fun h11 => ?_)
        · show e_Pn 20 elay ecode eI nn3 d 356 (223, (0, (1, 275)) :: (1, (0, y7)) :: tl4, [], w5) _
          exact e_Pn.ret0 rfl ⟨rfl, q6⟩
        · show e_Pn 20 elay ecode eI nn3 d 356 (17, (0, (1, 275)) :: (1, (0, y7)) :: tl4, [], w5) _
          refine e_Pn.run (t' := (18, (0, (1, 275)) :: (1, (0, y7)) :: tl4, [(1, 275)], w5)) eAlk 1 rfl ?_
          refine e_Pn.getr (z := 341) eAlk rfl rfl (q6.rf hR (90, 341) (by decide)) (by omega) ?_
          refine e_Pn.run (t' := (22, (0, (1, 275)) :: (1, (0, y7)) :: tl4, [(0, y7), (1, 341)], w5)) eAlk 1 rfl ?_
          refine e_Pn.ald (z := w5 341 y7) eAlk rfl rfl (fun b12 b13 => ?_)
          refine e_Pn.run (t' := (28, (3, (0, 0)) :: (2, (0, w5 341 y7)) :: (0, (1, 275)) :: (1, (0, y7)) :: List.filter (e_flt 0 3) (List.filter (e_flt 0 2) tl4), [(0, 2), (0, w5 341 y7)], w5)) eAlk 5 rfl ?_
          refine e_Pn.if2 eAlk rfl (fun h14 => ?_) (fun h14 => ?_)
          · show e_Pn 20 elay ecode eI nn3 d 356 (145, (3, (0, 0)) :: (2, (0, w5 341 y7)) :: (0, (1, 275)) :: (1, (0, y7)) :: List.filter (e_flt 0 3) (List.filter (e_flt 0 2) tl4), [], w5) _
            refine e_Pn.run (t' := (147, (3, (0, 0)) :: (2, (0, w5 341 y7)) :: (0, (1, 275)) :: (1, (0, y7)) :: List.filter (e_flt 0 3) (List.filter (e_flt 0 2) tl4), [(0, 4), (0, w5 341 y7)], w5)) eAlk 2 rfl ?_
            refine e_Pn.if2 eAlk rfl (fun h15 => ?_) (fun h15 => ?_)
            · show e_Pn 20 elay ecode eI nn3 d 356 (156, (3, (0, 0)) :: (2, (0, w5 341 y7)) :: (0, (1, 275)) :: (1, (0, y7)) :: List.filter (e_flt 0 3) (List.filter (e_flt 0 2) tl4), [], w5) _
              refine e_Pn.run (t' := (159, (3, (0, 0)) :: (2, (0, w5 341 y7)) :: (0, (1, 275)) :: (1, (0, y7)) :: List.filter (e_flt 0 3) (List.filter (e_flt 0 2) tl4), [(0, 2), (0, w5 341 y7), (1, 275)], w5)) eAlk 3 rfl ?_
              refine e_Pn.bin0 eAlk rfl (fun z16 hz16 => ?_)
              refine e_Pn.run (t' := (162, (3, (0, 0)) :: (2, (0, w5 341 y7)) :: (0, (1, 275)) :: (1, (0, y7)) :: List.filter (e_flt 0 3) (List.filter (e_flt 0 2) tl4), [(1, 275), (0, y7), (0, z16), (1, 275)], w5)) eAlk 2 rfl ?_
              refine e_Pn.getf (z := w5 275 94) eAlk rfl rfl rfl (fun b17 => ?_)
              refine e_Pn.callA rfl (fun n9 d9 => y_355 (q6.rf hR) ⟨q6.2.2.2.1.trans hV.1, q6.2.2.1.trans hV.2.1, q6.2.1.trans hV.2.2⟩) (fun r19 w20 h18 => ?_)
              obtain ⟨⟨z21, rfl⟩, h18⟩ := h18
              have q22 := q6.tr h18
              show e_Pn 20 elay ecode eI nn3 d 356 (168, (3, (0, 0)) :: (2, (0, w5 341 y7)) :: (0, (1, 275)) :: (1, (0, y7)) :: List.filter (e_flt 0 3) (List.filter (e_flt 0 2) tl4), [(0, z21)], w20) _
              refine e_Pn.run (t' := (172, (4, (0, z21)) :: (3, (0, 0)) :: (2, (0, w5 341 y7)) :: (0, (1, 275)) :: (1, (0, y7)) :: List.filter (e_flt 0 4) (List.filter (e_flt 0 3) (List.filter (e_flt 0 2) tl4)), [(0, z21)], w20)) eAlk 2 rfl ?_
              refine e_Pn.if1 eAlk rfl (fun h23 => ?_) (fun h23 => ?_)
              · show e_Pn 20 elay ecode eI nn3 d 356 (179, (4, (0, z21)) :: (3, (0, 0)) :: (2, (0, w5 341 y7)) :: (0, (1, 275)) :: (1, (0, y7)) :: List.filter (e_flt 0 4) (List.filter (e_flt 0 3) (List.filter (e_flt 0 2) tl4)), [], w20) _
                refine e_Pn.run (t' := (182, (3, (0, 0)) :: (4, (0, z21)) :: (2, (0, w5 341 y7)) :: (0, (1, 275)) :: (1, (0, y7)) :: List.filter (e_flt 0 3) (List.filter (e_flt 0 4) (List.filter (e_flt 0 3) (List.filter (e_flt 0 2) tl4))), [(1, 275)], w20)) eAlk 3 rfl ?_
                refine e_Pn.getr (z := 329) eAlk rfl rfl (q22.rf hR (66, 329) (by decide)) (by omega) ?_
                refine e_Pn.run (t' := (189, (3, (0, 0)) :: (4, (0, z21)) :: (2, (0, w5 341 y7)) :: (0, (1, 275)) :: (1, (0, y7)) :: List.filter (e_flt 0 3) (List.filter (e_flt 0 4) (List.filter (e_flt 0 3) (List.filter (e_flt 0 2) tl4))), [(1, 275), (0, 40000), (1, 329)], w20)) eAlk 2 rfl ?_
                refine e_Pn.getr (z := 344) eAlk rfl rfl (q22.rf hR (93, 344) (by decide)) (by omega) ?_
                refine e_Pn.run (t' := (193, (3, (0, 0)) :: (4, (0, z21)) :: (2, (0, w5 341 y7)) :: (0, (1, 275)) :: (1, (0, y7)) :: List.filter (e_flt 0 3) (List.filter (e_flt 0 4) (List.filter (e_flt 0 3) (List.filter (e_flt 0 2) tl4))), [(0, y7), (1, 344), (0, 40000), (1, 329)], w20)) eAlk 1 rfl ?_
                refine e_Pn.ald (z := w20 344 y7) eAlk rfl rfl (fun b24 b25 => ?_)
                refine e_Pn.bin0 eAlk rfl (fun z26 hz26 => ?_)
                refine e_Pn.run (t' := (197, (3, (0, 0)) :: (4, (0, z21)) :: (2, (0, w5 341 y7)) :: (0, (1, 275)) :: (1, (0, y7)) :: List.filter (e_flt 0 3) (List.filter (e_flt 0 4) (List.filter (e_flt 0 3) (List.filter (e_flt 0 2) tl4))), [(0, z21), (0, z26), (1, 329)], w20)) eAlk 1 rfl ?_
                refine e_Pn.ast eAlk rfl rfl rfl (fun b27 b28 => ?_)
                generalize hw29 : e_up w20 329 z26 z21 = w29
                have q30 : mr7 w w29 := mr7.up q22 hw29 (fun g => by exact absurd g (by decide))
                refine e_Pn.run (t' := (199, (3, (0, 0)) :: (4, (0, z21)) :: (2, (0, w5 341 y7)) :: (0, (1, 275)) :: (1, (0, y7)) :: List.filter (e_flt 0 3) (List.filter (e_flt 0 4) (List.filter (e_flt 0 3) (List.filter (e_flt 0 2) tl4))), [(0, 0)], w29)) eAlk 1 rfl ?_
                refine e_Pn.if1 eAlk rfl (fun h31 => ?_) (fun h31 => ?_)
                rotate_left
                · exfalso; have q9 : ¬ ((0 : Int) = 0) := h31; omega
                show e_Pn 20 elay ecode eI nn3 d 356 (217, (3, (0, 0)) :: (4, (0, z21)) :: (2, (0, w5 341 y7)) :: (0, (1, 275)) :: (1, (0, y7)) :: List.filter (e_flt 0 3) (List.filter (e_flt 0 4) (List.filter (e_flt 0 3) (List.filter (e_flt 0 2) tl4))), [], w29) _
                refine e_Pn.incU eAlk rfl rfl (fun z32 => ?_)
                show e_Pn 20 elay ecode eI nn3 d 356 (220, (1, (0, z32)) :: (3, (0, 0)) :: (4, (0, z21)) :: (2, (0, w5 341 y7)) :: (0, (1, 275)) :: List.filter (e_flt 0 1) (List.filter (e_flt 0 3) (List.filter (e_flt 0 4) (List.filter (e_flt 0 3) (List.filter (e_flt 0 2) tl4)))), [], w29) _
                refine e_Pn.run (t' := (2, (1, (0, z32)) :: (3, (0, 0)) :: (4, (0, z21)) :: (2, (0, w5 341 y7)) :: (0, (1, 275)) :: List.filter (e_flt 0 1) (List.filter (e_flt 0 3) (List.filter (e_flt 0 4) (List.filter (e_flt 0 3) (List.filter (e_flt 0 2) tl4)))), [], w29)) eAlk 1 rfl ?_
                exact e_Pn.ord eAlk [0, 1] rfl rfl ((ih2 (by omega) _ z32 w29 q30).le (by omega))
              · show e_Pn 20 elay ecode eI nn3 d 356 (175, (4, (0, z21)) :: (3, (0, 0)) :: (2, (0, w5 341 y7)) :: (0, (1, 275)) :: (1, (0, y7)) :: List.filter (e_flt 0 4) (List.filter (e_flt 0 3) (List.filter (e_flt 0 2) tl4)), [], w20) _
                refine e_Pn.run (t' := (182, (3, (0, 5)) :: (4, (0, z21)) :: (2, (0, w5 341 y7)) :: (0, (1, 275)) :: (1, (0, y7)) :: List.filter (e_flt 0 3) (List.filter (e_flt 0 4) (List.filter (e_flt 0 3) (List.filter (e_flt 0 2) tl4))), [(1, 275)], w20)) eAlk 4 rfl ?_
                refine e_Pn.getr (z := 329) eAlk rfl rfl (q22.rf hR (66, 329) (by decide)) (by omega) ?_
                refine e_Pn.run (t' := (189, (3, (0, 5)) :: (4, (0, z21)) :: (2, (0, w5 341 y7)) :: (0, (1, 275)) :: (1, (0, y7)) :: List.filter (e_flt 0 3) (List.filter (e_flt 0 4) (List.filter (e_flt 0 3) (List.filter (e_flt 0 2) tl4))), [(1, 275), (0, 40000), (1, 329)], w20)) eAlk 2 rfl ?_
                refine e_Pn.getr (z := 344) eAlk rfl rfl (q22.rf hR (93, 344) (by decide)) (by omega) ?_
                refine e_Pn.run (t' := (193, (3, (0, 5)) :: (4, (0, z21)) :: (2, (0, w5 341 y7)) :: (0, (1, 275)) :: (1, (0, y7)) :: List.filter (e_flt 0 3) (List.filter (e_flt 0 4) (List.filter (e_flt 0 3) (List.filter (e_flt 0 2) tl4))), [(0, y7), (1, 344), (0, 40000), (1, 329)], w20)) eAlk 1 rfl ?_
                refine e_Pn.ald (z := w20 344 y7) eAlk rfl rfl (fun b33 b34 => ?_)
                refine e_Pn.bin0 eAlk rfl (fun z35 hz35 => ?_)
                refine e_Pn.run (t' := (197, (3, (0, 5)) :: (4, (0, z21)) :: (2, (0, w5 341 y7)) :: (0, (1, 275)) :: (1, (0, y7)) :: List.filter (e_flt 0 3) (List.filter (e_flt 0 4) (List.filter (e_flt 0 3) (List.filter (e_flt 0 2) tl4))), [(0, z21), (0, z35), (1, 329)], w20)) eAlk 1 rfl ?_
                refine e_Pn.ast eAlk rfl rfl rfl (fun b36 b37 => ?_)
                generalize hw38 : e_up w20 329 z35 z21 = w38
                have q39 : mr7 w w38 := mr7.up q22 hw38 (fun g => by exact absurd g (by decide))
                refine e_Pn.run (t' := (199, (3, (0, 5)) :: (4, (0, z21)) :: (2, (0, w5 341 y7)) :: (0, (1, 275)) :: (1, (0, y7)) :: List.filter (e_flt 0 3) (List.filter (e_flt 0 4) (List.filter (e_flt 0 3) (List.filter (e_flt 0 2) tl4))), [(0, 5)], w38)) eAlk 1 rfl ?_
                refine e_Pn.if1 eAlk rfl (fun h40 => ?_) (fun h40 => ?_)
                · exfalso; replace h40 : (5 : Int) = 0 := h40; omega
                show e_Pn 20 elay ecode eI nn3 d 356 (202, (3, (0, 5)) :: (4, (0, z21)) :: (2, (0, w5 341 y7)) :: (0, (1, 275)) :: (1, (0, y7)) :: List.filter (e_flt 0 3) (List.filter (e_flt 0 4) (List.filter (e_flt 0 3) (List.filter (e_flt 0 2) tl4))), [], w38) _
                refine e_Pn.run (t' := (204, (3, (0, 5)) :: (4, (0, z21)) :: (2, (0, w5 341 y7)) :: (0, (1, 275)) :: (1, (0, y7)) :: List.filter (e_flt 0 3) (List.filter (e_flt 0 4) (List.filter (e_flt 0 3) (List.filter (e_flt 0 2) tl4))), [(0, 5), (1, 275)], w38)) eAlk 2 rfl ?_
                refine e_Pn.putf eAlk rfl rfl ?_
                generalize hw41 : e_up w38 275 88 5 = w41
                have q42 : mr7 w w41 := mr7.up q39 hw41 (fun g => by decide)
                refine e_Pn.run (t' := (209, (3, (0, 5)) :: (4, (0, z21)) :: (2, (0, w5 341 y7)) :: (0, (1, 275)) :: (1, (0, y7)) :: List.filter (e_flt 0 3) (List.filter (e_flt 0 4) (List.filter (e_flt 0 3) (List.filter (e_flt 0 2) tl4))), [(1, 275), (1, 275)], w41)) eAlk 2 rfl ?_
                refine e_Pn.getr (z := 342) eAlk rfl rfl (q42.rf hR (91, 342) (by decide)) (by omega) ?_
                refine e_Pn.run (t' := (213, (3, (0, 5)) :: (4, (0, z21)) :: (2, (0, w5 341 y7)) :: (0, (1, 275)) :: (1, (0, y7)) :: List.filter (e_flt 0 3) (List.filter (e_flt 0 4) (List.filter (e_flt 0 3) (List.filter (e_flt 0 2) tl4))), [(0, y7), (1, 342), (1, 275)], w41)) eAlk 1 rfl ?_
                refine e_Pn.ald (z := w41 342 y7) eAlk rfl rfl (fun b43 b44 => ?_)
                refine e_Pn.putf eAlk rfl rfl ?_
                generalize hw45 : e_up w41 275 89 (w41 342 y7) = w45
                have q46 : mr7 w w45 := mr7.up q42 hw45 (fun g => by decide)
                refine e_Pn.incU eAlk rfl rfl (fun z47 => ?_)
                show e_Pn 20 elay ecode eI nn3 d 356 (220, (1, (0, z47)) :: (3, (0, 5)) :: (4, (0, z21)) :: (2, (0, w5 341 y7)) :: (0, (1, 275)) :: List.filter (e_flt 0 1) (List.filter (e_flt 0 3) (List.filter (e_flt 0 4) (List.filter (e_flt 0 3) (List.filter (e_flt 0 2) tl4)))), [], w45) _
                refine e_Pn.run (t' := (2, (1, (0, z47)) :: (3, (0, 5)) :: (4, (0, z21)) :: (2, (0, w5 341 y7)) :: (0, (1, 275)) :: List.filter (e_flt 0 1) (List.filter (e_flt 0 3) (List.filter (e_flt 0 4) (List.filter (e_flt 0 3) (List.filter (e_flt 0 2) tl4)))), [], w45)) eAlk 1 rfl ?_
                exact e_Pn.ord eAlk [0, 1] rfl rfl ((ih2 (by omega) _ z47 w45 q46).le (by omega))
            · show e_Pn 20 elay ecode eI nn3 d 356 (150, (3, (0, 0)) :: (2, (0, w5 341 y7)) :: (0, (1, 275)) :: (1, (0, y7)) :: List.filter (e_flt 0 3) (List.filter (e_flt 0 2) tl4), [], w5) _
              refine e_Pn.run (t' := (199, (3, (0, 6)) :: (2, (0, w5 341 y7)) :: (0, (1, 275)) :: (1, (0, y7)) :: List.filter (e_flt 0 3) (List.filter (e_flt 0 3) (List.filter (e_flt 0 2) tl4)), [(0, 6)], w5)) eAlk 4 rfl ?_
              refine e_Pn.if1 eAlk rfl (fun h48 => ?_) (fun h48 => ?_)
              · exfalso; replace h48 : (6 : Int) = 0 := h48; omega
              show e_Pn 20 elay ecode eI nn3 d 356 (202, (3, (0, 6)) :: (2, (0, w5 341 y7)) :: (0, (1, 275)) :: (1, (0, y7)) :: List.filter (e_flt 0 3) (List.filter (e_flt 0 3) (List.filter (e_flt 0 2) tl4)), [], w5) _
              refine e_Pn.run (t' := (204, (3, (0, 6)) :: (2, (0, w5 341 y7)) :: (0, (1, 275)) :: (1, (0, y7)) :: List.filter (e_flt 0 3) (List.filter (e_flt 0 3) (List.filter (e_flt 0 2) tl4)), [(0, 6), (1, 275)], w5)) eAlk 2 rfl ?_
              refine e_Pn.putf eAlk rfl rfl ?_
              generalize hw49 : e_up w5 275 88 6 = w49
              have q50 : mr7 w w49 := mr7.up q6 hw49 (fun g => by decide)
              refine e_Pn.run (t' := (209, (3, (0, 6)) :: (2, (0, w5 341 y7)) :: (0, (1, 275)) :: (1, (0, y7)) :: List.filter (e_flt 0 3) (List.filter (e_flt 0 3) (List.filter (e_flt 0 2) tl4)), [(1, 275), (1, 275)], w49)) eAlk 2 rfl ?_
              refine e_Pn.getr (z := 342) eAlk rfl rfl (q50.rf hR (91, 342) (by decide)) (by omega) ?_
              refine e_Pn.run (t' := (213, (3, (0, 6)) :: (2, (0, w5 341 y7)) :: (0, (1, 275)) :: (1, (0, y7)) :: List.filter (e_flt 0 3) (List.filter (e_flt 0 3) (List.filter (e_flt 0 2) tl4)), [(0, y7), (1, 342), (1, 275)], w49)) eAlk 1 rfl ?_
              refine e_Pn.ald (z := w49 342 y7) eAlk rfl rfl (fun b51 b52 => ?_)
              refine e_Pn.putf eAlk rfl rfl ?_
              generalize hw53 : e_up w49 275 89 (w49 342 y7) = w53
              have q54 : mr7 w w53 := mr7.up q50 hw53 (fun g => by decide)
              refine e_Pn.incU eAlk rfl rfl (fun z55 => ?_)
              show e_Pn 20 elay ecode eI nn3 d 356 (220, (1, (0, z55)) :: (3, (0, 6)) :: (2, (0, w5 341 y7)) :: (0, (1, 275)) :: List.filter (e_flt 0 1) (List.filter (e_flt 0 3) (List.filter (e_flt 0 3) (List.filter (e_flt 0 2) tl4))), [], w53) _
              refine e_Pn.run (t' := (2, (1, (0, z55)) :: (3, (0, 6)) :: (2, (0, w5 341 y7)) :: (0, (1, 275)) :: List.filter (e_flt 0 1) (List.filter (e_flt 0 3) (List.filter (e_flt 0 3) (List.filter (e_flt 0 2) tl4))), [], w53)) eAlk 1 rfl ?_
              exact e_Pn.ord eAlk [0, 1] rfl rfl ((ih2 (by omega) _ z55 w53 q54).le (by omega))
          · show e_Pn 20 elay ecode eI nn3 d 356 (31, (3, (0, 0)) :: (2, (0, w5 341 y7)) :: (0, (1, 275)) :: (1, (0, y7)) :: List.filter (e_flt 0 3) (List.filter (e_flt 0 2) tl4), [], w5) _
            refine e_Pn.run (t' := (35, (3, (0, 0)) :: (2, (0, w5 341 y7)) :: (0, (1, 275)) :: (1, (0, y7)) :: List.filter (e_flt 0 3) (List.filter (e_flt 0 2) tl4), [(0, y7), (0, y7), (0, 0), (1, 275)], w5)) eAlk 4 rfl ?_
            refine e_Pn.callA rfl (fun n9 d9 => y_355 (q6.rf hR) ⟨q6.2.2.2.1.trans hV.1, q6.2.2.1.trans hV.2.1, q6.2.1.trans hV.2.2⟩) (fun r57 w58 h56 => ?_)
            obtain ⟨⟨z59, rfl⟩, h56⟩ := h56
            have q60 := q6.tr h56
            show e_Pn 20 elay ecode eI nn3 d 356 (38, (3, (0, 0)) :: (2, (0, w5 341 y7)) :: (0, (1, 275)) :: (1, (0, y7)) :: List.filter (e_flt 0 3) (List.filter (e_flt 0 2) tl4), [(0, z59)], w58) _
            refine e_Pn.if1 eAlk rfl (fun h61 => ?_) (fun h61 => ?_)
            · show e_Pn 20 elay ecode eI nn3 d 356 (51, (3, (0, 0)) :: (2, (0, w5 341 y7)) :: (0, (1, 275)) :: (1, (0, y7)) :: List.filter (e_flt 0 3) (List.filter (e_flt 0 2) tl4), [], w58) _
              refine e_Pn.run (t' := (87, (3, (0, 4)) :: (2, (0, w5 341 y7)) :: (0, (1, 275)) :: (1, (0, y7)) :: List.filter (e_flt 0 3) (List.filter (e_flt 0 3) (List.filter (e_flt 0 2) tl4)), [(0, 4)], w58)) eAlk 4 rfl ?_
              refine e_Pn.if1 eAlk rfl (fun h62 => ?_) (fun h62 => ?_)
              rotate_left
              · exfalso; have q9 : ¬ ((4 : Int) ≠ 0) := h62; omega
              show e_Pn 20 elay ecode eI nn3 d 356 (107, (3, (0, 4)) :: (2, (0, w5 341 y7)) :: (0, (1, 275)) :: (1, (0, y7)) :: List.filter (e_flt 0 3) (List.filter (e_flt 0 3) (List.filter (e_flt 0 2) tl4)), [], w58) _
              refine e_Pn.run (t' := (108, (3, (0, 4)) :: (2, (0, w5 341 y7)) :: (0, (1, 275)) :: (1, (0, y7)) :: List.filter (e_flt 0 3) (List.filter (e_flt 0 3) (List.filter (e_flt 0 2) tl4)), [(0, 4)], w58)) eAlk 1 rfl ?_
              refine e_Pn.if1 eAlk rfl (fun h63 => ?_) (fun h63 => ?_)
              rotate_left
              · exfalso; have q9 : ¬ ((4 : Int) ≠ 0) := h63; omega
              show e_Pn 20 elay ecode eI nn3 d 356 (198, (3, (0, 4)) :: (2, (0, w5 341 y7)) :: (0, (1, 275)) :: (1, (0, y7)) :: List.filter (e_flt 0 3) (List.filter (e_flt 0 3) (List.filter (e_flt 0 2) tl4)), [], w58) _
              refine e_Pn.run (t' := (199, (3, (0, 4)) :: (2, (0, w5 341 y7)) :: (0, (1, 275)) :: (1, (0, y7)) :: List.filter (e_flt 0 3) (List.filter (e_flt 0 3) (List.filter (e_flt 0 2) tl4)), [(0, 4)], w58)) eAlk 1 rfl ?_
              refine e_Pn.if1 eAlk rfl (fun h64 => ?_) (fun h64 => ?_)
              · exfalso; replace h64 : (4 : Int) = 0 := h64; omega
              show e_Pn 20 elay ecode eI nn3 d 356 (202, (3, (0, 4)) :: (2, (0, w5 341 y7)) :: (0, (1, 275)) :: (1, (0, y7)) :: List.filter (e_flt 0 3) (List.filter (e_flt 0 3) (List.filter (e_flt 0 2) tl4)), [], w58) _
              refine e_Pn.run (t' := (204, (3, (0, 4)) :: (2, (0, w5 341 y7)) :: (0, (1, 275)) :: (1, (0, y7)) :: List.filter (e_flt 0 3) (List.filter (e_flt 0 3) (List.filter (e_flt 0 2) tl4)), [(0, 4), (1, 275)], w58)) eAlk 2 rfl ?_
              refine e_Pn.putf eAlk rfl rfl ?_
              generalize hw65 : e_up w58 275 88 4 = w65
              have q66 : mr7 w w65 := mr7.up q60 hw65 (fun g => by decide)
              refine e_Pn.run (t' := (209, (3, (0, 4)) :: (2, (0, w5 341 y7)) :: (0, (1, 275)) :: (1, (0, y7)) :: List.filter (e_flt 0 3) (List.filter (e_flt 0 3) (List.filter (e_flt 0 2) tl4)), [(1, 275), (1, 275)], w65)) eAlk 2 rfl ?_
              refine e_Pn.getr (z := 342) eAlk rfl rfl (q66.rf hR (91, 342) (by decide)) (by omega) ?_
              refine e_Pn.run (t' := (213, (3, (0, 4)) :: (2, (0, w5 341 y7)) :: (0, (1, 275)) :: (1, (0, y7)) :: List.filter (e_flt 0 3) (List.filter (e_flt 0 3) (List.filter (e_flt 0 2) tl4)), [(0, y7), (1, 342), (1, 275)], w65)) eAlk 1 rfl ?_
              refine e_Pn.ald (z := w65 342 y7) eAlk rfl rfl (fun b67 b68 => ?_)
              refine e_Pn.putf eAlk rfl rfl ?_
              generalize hw69 : e_up w65 275 89 (w65 342 y7) = w69
              have q70 : mr7 w w69 := mr7.up q66 hw69 (fun g => by decide)
              refine e_Pn.incU eAlk rfl rfl (fun z71 => ?_)
              show e_Pn 20 elay ecode eI nn3 d 356 (220, (1, (0, z71)) :: (3, (0, 4)) :: (2, (0, w5 341 y7)) :: (0, (1, 275)) :: List.filter (e_flt 0 1) (List.filter (e_flt 0 3) (List.filter (e_flt 0 3) (List.filter (e_flt 0 2) tl4))), [], w69) _
              refine e_Pn.run (t' := (2, (1, (0, z71)) :: (3, (0, 4)) :: (2, (0, w5 341 y7)) :: (0, (1, 275)) :: List.filter (e_flt 0 1) (List.filter (e_flt 0 3) (List.filter (e_flt 0 3) (List.filter (e_flt 0 2) tl4))), [], w69)) eAlk 1 rfl ?_
              exact e_Pn.ord eAlk [0, 1] rfl rfl ((ih2 (by omega) _ z71 w69 q70).le (by omega))
            · show e_Pn 20 elay ecode eI nn3 d 356 (41, (3, (0, 0)) :: (2, (0, w5 341 y7)) :: (0, (1, 275)) :: (1, (0, y7)) :: List.filter (e_flt 0 3) (List.filter (e_flt 0 2) tl4), [], w58) _
              refine e_Pn.run (t' := (45, (3, (0, 0)) :: (2, (0, w5 341 y7)) :: (0, (1, 275)) :: (1, (0, y7)) :: List.filter (e_flt 0 3) (List.filter (e_flt 0 2) tl4), [(0, y7), (0, y7), (0, 1), (1, 275)], w58)) eAlk 4 rfl ?_
              refine e_Pn.callA rfl (fun n9 d9 => y_355 (q60.rf hR) ⟨q60.2.2.2.1.trans hV.1, q60.2.2.1.trans hV.2.1, q60.2.1.trans hV.2.2⟩) (fun r73 w74 h72 => ?_)
              obtain ⟨⟨z75, rfl⟩, h72⟩ := h72
              have q76 := q60.tr h72
              show e_Pn 20 elay ecode eI nn3 d 356 (48, (3, (0, 0)) :: (2, (0, w5 341 y7)) :: (0, (1, 275)) :: (1, (0, y7)) :: List.filter (e_flt 0 3) (List.filter (e_flt 0 2) tl4), [(0, z75)], w74) _
              refine e_Pn.if1 eAlk rfl (fun h77 => ?_) (fun h77 => ?_)
              · show e_Pn 20 elay ecode eI nn3 d 356 (55, (3, (0, 0)) :: (2, (0, w5 341 y7)) :: (0, (1, 275)) :: (1, (0, y7)) :: List.filter (e_flt 0 3) (List.filter (e_flt 0 2) tl4), [], w74) _
                refine e_Pn.run (t' := (56, (3, (0, 0)) :: (2, (0, w5 341 y7)) :: (0, (1, 275)) :: (1, (0, y7)) :: List.filter (e_flt 0 3) (List.filter (e_flt 0 2) tl4), [(0, w5 341 y7)], w74)) eAlk 1 rfl ?_
                refine e_Pn.if1 eAlk rfl (fun h78 => ?_) (fun h78 => ?_)
                · show e_Pn 20 elay ecode eI nn3 d 356 (68, (3, (0, 0)) :: (2, (0, w5 341 y7)) :: (0, (1, 275)) :: (1, (0, y7)) :: List.filter (e_flt 0 3) (List.filter (e_flt 0 2) tl4), [], w74) _
                  refine e_Pn.run (t' := (69, (3, (0, 0)) :: (2, (0, w5 341 y7)) :: (0, (1, 275)) :: (1, (0, y7)) :: List.filter (e_flt 0 3) (List.filter (e_flt 0 2) tl4), [(1, 275)], w74)) eAlk 1 rfl ?_
                  refine e_Pn.getr (z := 338) eAlk rfl rfl (q76.2.2.1.trans hV.2.1) (by omega) ?_
                  refine e_Pn.run (t' := (73, (3, (0, 0)) :: (2, (0, w5 341 y7)) :: (0, (1, 275)) :: (1, (0, y7)) :: List.filter (e_flt 0 3) (List.filter (e_flt 0 2) tl4), [(0, 4), (1, 338)], w74)) eAlk 1 rfl ?_
                  refine e_Pn.ald (z := w74 338 4) eAlk rfl rfl (fun b79 b80 => ?_)
                  refine e_Pn.run (t' := (76, (3, (0, 0)) :: (2, (0, w5 341 y7)) :: (0, (1, 275)) :: (1, (0, y7)) :: List.filter (e_flt 0 3) (List.filter (e_flt 0 2) tl4), [(0, 32), (0, w74 338 4)], w74)) eAlk 1 rfl ?_
                  refine e_Pn.if2 eAlk rfl (fun h81 => ?_) (fun h81 => ?_)
                  · show e_Pn 20 elay ecode eI nn3 d 356 (84, (3, (0, 0)) :: (2, (0, w5 341 y7)) :: (0, (1, 275)) :: (1, (0, y7)) :: List.filter (e_flt 0 3) (List.filter (e_flt 0 2) tl4), [], w74) _
                    refine e_Pn.run (t' := (87, (3, (0, 0)) :: (2, (0, w5 341 y7)) :: (0, (1, 275)) :: (1, (0, y7)) :: List.filter (e_flt 0 3) (List.filter (e_flt 0 3) (List.filter (e_flt 0 2) tl4)), [(0, 0)], w74)) eAlk 3 rfl ?_
                    refine e_Pn.if1 eAlk rfl (fun h82 => ?_) (fun h82 => ?_)
                    · exfalso; replace h82 : (0 : Int) ≠ 0 := h82; omega
                    show e_Pn 20 elay ecode eI nn3 d 356 (90, (3, (0, 0)) :: (2, (0, w5 341 y7)) :: (0, (1, 275)) :: (1, (0, y7)) :: List.filter (e_flt 0 3) (List.filter (e_flt 0 3) (List.filter (e_flt 0 2) tl4)), [], w74) _
                    refine e_Pn.run (t' := (91, (3, (0, 0)) :: (2, (0, w5 341 y7)) :: (0, (1, 275)) :: (1, (0, y7)) :: List.filter (e_flt 0 3) (List.filter (e_flt 0 3) (List.filter (e_flt 0 2) tl4)), [(0, w5 341 y7)], w74)) eAlk 1 rfl ?_
                    refine e_Pn.if1 eAlk rfl (fun h83 => ?_) (fun h83 => ?_)
                    · show e_Pn 20 elay ecode eI nn3 d 356 (107, (3, (0, 0)) :: (2, (0, w5 341 y7)) :: (0, (1, 275)) :: (1, (0, y7)) :: List.filter (e_flt 0 3) (List.filter (e_flt 0 3) (List.filter (e_flt 0 2) tl4)), [], w74) _
                      refine e_Pn.run (t' := (108, (3, (0, 0)) :: (2, (0, w5 341 y7)) :: (0, (1, 275)) :: (1, (0, y7)) :: List.filter (e_flt 0 3) (List.filter (e_flt 0 3) (List.filter (e_flt 0 2) tl4)), [(0, 0)], w74)) eAlk 1 rfl ?_
                      refine e_Pn.if1 eAlk rfl (fun h84 => ?_) (fun h84 => ?_)
                      · exfalso; replace h84 : (0 : Int) ≠ 0 := h84; omega
                      show e_Pn 20 elay ecode eI nn3 d 356 (111, (3, (0, 0)) :: (2, (0, w5 341 y7)) :: (0, (1, 275)) :: (1, (0, y7)) :: List.filter (e_flt 0 3) (List.filter (e_flt 0 3) (List.filter (e_flt 0 2) tl4)), [], w74) _
                      refine e_Pn.run (t' := (112, (3, (0, 0)) :: (2, (0, w5 341 y7)) :: (0, (1, 275)) :: (1, (0, y7)) :: List.filter (e_flt 0 3) (List.filter (e_flt 0 3) (List.filter (e_flt 0 2) tl4)), [(1, 275)], w74)) eAlk 1 rfl ?_
                      refine e_Pn.getr (z := 337) eAlk rfl rfl (q76.2.1.trans hV.2.2) (by omega) ?_
                      refine e_Pn.run (t' := (119, (3, (0, 0)) :: (2, (0, w5 341 y7)) :: (0, (1, 275)) :: (1, (0, y7)) :: List.filter (e_flt 0 3) (List.filter (e_flt 0 3) (List.filter (e_flt 0 2) tl4)), [(1, 275), (0, 128), (1, 337)], w74)) eAlk 2 rfl ?_
                      refine e_Pn.getr (z := 338) eAlk rfl rfl (q76.2.2.1.trans hV.2.1) (by omega) ?_
                      refine e_Pn.run (t' := (123, (3, (0, 0)) :: (2, (0, w5 341 y7)) :: (0, (1, 275)) :: (1, (0, y7)) :: List.filter (e_flt 0 3) (List.filter (e_flt 0 3) (List.filter (e_flt 0 2) tl4)), [(0, 4), (1, 338), (0, 128), (1, 337)], w74)) eAlk 1 rfl ?_
                      refine e_Pn.ald (z := w74 338 4) eAlk rfl rfl (fun b85 b86 => ?_)
                      refine e_Pn.bin0 eAlk rfl (fun z87 hz87 => ?_)
                      refine e_Pn.run (t' := (126, (3, (0, 0)) :: (2, (0, w5 341 y7)) :: (0, (1, 275)) :: (1, (0, y7)) :: List.filter (e_flt 0 3) (List.filter (e_flt 0 3) (List.filter (e_flt 0 2) tl4)), [(1, 275), (0, z87), (1, 337)], w74)) eAlk 1 rfl ?_
                      refine e_Pn.getr (z := 344) eAlk rfl rfl (q76.rf hR (93, 344) (by decide)) (by omega) ?_
                      refine e_Pn.run (t' := (130, (3, (0, 0)) :: (2, (0, w5 341 y7)) :: (0, (1, 275)) :: (1, (0, y7)) :: List.filter (e_flt 0 3) (List.filter (e_flt 0 3) (List.filter (e_flt 0 2) tl4)), [(0, y7), (1, 344), (0, z87), (1, 337)], w74)) eAlk 1 rfl ?_
                      refine e_Pn.ald (z := w74 344 y7) eAlk rfl rfl (fun b88 b89 => ?_)
                      refine e_Pn.ast eAlk rfl rfl rfl (fun b90 b91 => ?_)
                      generalize hw92 : e_up w74 337 z87 (w74 344 y7) = w92
                      have q93 : mr7 w w92 := mr7.up q76 hw92 (fun g => by exact absurd g (by decide))
                      refine e_Pn.run (t' := (133, (3, (0, 0)) :: (2, (0, w5 341 y7)) :: (0, (1, 275)) :: (1, (0, y7)) :: List.filter (e_flt 0 3) (List.filter (e_flt 0 3) (List.filter (e_flt 0 2) tl4)), [(1, 275)], w92)) eAlk 1 rfl ?_
                      refine e_Pn.getr (z := 338) eAlk rfl rfl (q93.2.2.1.trans hV.2.1) (by omega) ?_
                      refine e_Pn.run (t' := (138, (3, (0, 0)) :: (2, (0, w5 341 y7)) :: (0, (1, 275)) :: (1, (0, y7)) :: List.filter (e_flt 0 3) (List.filter (e_flt 0 3) (List.filter (e_flt 0 2) tl4)), [(0, 4), (1, 338), (0, 4), (1, 338)], w92)) eAlk 2 rfl ?_
                      refine e_Pn.ald (z := w92 338 4) eAlk rfl rfl (fun b94 b95 => ?_)
                      refine e_Pn.run (t' := (140, (3, (0, 0)) :: (2, (0, w5 341 y7)) :: (0, (1, 275)) :: (1, (0, y7)) :: List.filter (e_flt 0 3) (List.filter (e_flt 0 3) (List.filter (e_flt 0 2) tl4)), [(0, 1), (0, w92 338 4), (0, 4), (1, 338)], w92)) eAlk 1 rfl ?_
                      refine e_Pn.bin0 eAlk rfl (fun z96 hz96 => ?_)
                      refine e_Pn.ast eAlk rfl rfl rfl (fun b97 b98 => ?_)
                      generalize hw99 : e_up w92 338 4 z96 = w99
                      have q100 : mr7 w w99 := mr7.up q93 hw99 (fun g => by exact absurd g (by decide))
                      refine e_Pn.run (t' := (199, (3, (0, 0)) :: (2, (0, w5 341 y7)) :: (0, (1, 275)) :: (1, (0, y7)) :: List.filter (e_flt 0 3) (List.filter (e_flt 0 3) (List.filter (e_flt 0 2) tl4)), [(0, 0)], w99)) eAlk 2 rfl ?_
                      refine e_Pn.if1 eAlk rfl (fun h101 => ?_) (fun h101 => ?_)
                      rotate_left
                      · exfalso; have q9 : ¬ ((0 : Int) = 0) := h101; omega
                      show e_Pn 20 elay ecode eI nn3 d 356 (217, (3, (0, 0)) :: (2, (0, w5 341 y7)) :: (0, (1, 275)) :: (1, (0, y7)) :: List.filter (e_flt 0 3) (List.filter (e_flt 0 3) (List.filter (e_flt 0 2) tl4)), [], w99) _
                      refine e_Pn.incU eAlk rfl rfl (fun z102 => ?_)
                      show e_Pn 20 elay ecode eI nn3 d 356 (220, (1, (0, z102)) :: (3, (0, 0)) :: (2, (0, w5 341 y7)) :: (0, (1, 275)) :: List.filter (e_flt 0 1) (List.filter (e_flt 0 3) (List.filter (e_flt 0 3) (List.filter (e_flt 0 2) tl4))), [], w99) _
                      refine e_Pn.run (t' := (2, (1, (0, z102)) :: (3, (0, 0)) :: (2, (0, w5 341 y7)) :: (0, (1, 275)) :: List.filter (e_flt 0 1) (List.filter (e_flt 0 3) (List.filter (e_flt 0 3) (List.filter (e_flt 0 2) tl4))), [], w99)) eAlk 1 rfl ?_
                      exact e_Pn.ord eAlk [0, 1] rfl rfl ((ih2 (by omega) _ z102 w99 q100).le (by omega))
                    · show e_Pn 20 elay ecode eI nn3 d 356 (94, (3, (0, 0)) :: (2, (0, w5 341 y7)) :: (0, (1, 275)) :: (1, (0, y7)) :: List.filter (e_flt 0 3) (List.filter (e_flt 0 3) (List.filter (e_flt 0 2) tl4)), [], w74) _
                      refine e_Pn.run (t' := (95, (3, (0, 0)) :: (2, (0, w5 341 y7)) :: (0, (1, 275)) :: (1, (0, y7)) :: List.filter (e_flt 0 3) (List.filter (e_flt 0 3) (List.filter (e_flt 0 2) tl4)), [(1, 275)], w74)) eAlk 1 rfl ?_
                      refine e_Pn.getr (z := 339) eAlk rfl rfl (q76.2.2.2.1.trans hV.1) (by omega) ?_
                      refine e_Pn.run (t' := (100, (3, (0, 0)) :: (2, (0, w5 341 y7)) :: (0, (1, 275)) :: (1, (0, y7)) :: List.filter (e_flt 0 3) (List.filter (e_flt 0 3) (List.filter (e_flt 0 2) tl4)), [(0, 4), (1, 339), (0, 4), (1, 339)], w74)) eAlk 2 rfl ?_
                      refine e_Pn.ald (z := w74 339 4) eAlk rfl rfl (fun b103 b104 => ?_)
                      refine e_Pn.run (t' := (102, (3, (0, 0)) :: (2, (0, w5 341 y7)) :: (0, (1, 275)) :: (1, (0, y7)) :: List.filter (e_flt 0 3) (List.filter (e_flt 0 3) (List.filter (e_flt 0 2) tl4)), [(0, 1), (0, w74 339 4), (0, 4), (1, 339)], w74)) eAlk 1 rfl ?_
                      refine e_Pn.bin0 eAlk rfl (fun z105 hz105 => ?_)
                      refine e_Pn.ast eAlk rfl rfl rfl (fun b106 b107 => ?_)
                      generalize hw108 : e_up w74 339 4 z105 = w108
                      have q109 : mr7 w w108 := mr7.up q76 hw108 (fun g => by exact absurd g (by decide))
                      refine e_Pn.run (t' := (199, (3, (0, 0)) :: (2, (0, w5 341 y7)) :: (0, (1, 275)) :: (1, (0, y7)) :: List.filter (e_flt 0 3) (List.filter (e_flt 0 3) (List.filter (e_flt 0 2) tl4)), [(0, 0)], w108)) eAlk 2 rfl ?_
                      refine e_Pn.if1 eAlk rfl (fun h110 => ?_) (fun h110 => ?_)
                      rotate_left
                      · exfalso; have q9 : ¬ ((0 : Int) = 0) := h110; omega
                      show e_Pn 20 elay ecode eI nn3 d 356 (217, (3, (0, 0)) :: (2, (0, w5 341 y7)) :: (0, (1, 275)) :: (1, (0, y7)) :: List.filter (e_flt 0 3) (List.filter (e_flt 0 3) (List.filter (e_flt 0 2) tl4)), [], w108) _
                      refine e_Pn.incU eAlk rfl rfl (fun z111 => ?_)
                      show e_Pn 20 elay ecode eI nn3 d 356 (220, (1, (0, z111)) :: (3, (0, 0)) :: (2, (0, w5 341 y7)) :: (0, (1, 275)) :: List.filter (e_flt 0 1) (List.filter (e_flt 0 3) (List.filter (e_flt 0 3) (List.filter (e_flt 0 2) tl4))), [], w108) _
                      refine e_Pn.run (t' := (2, (1, (0, z111)) :: (3, (0, 0)) :: (2, (0, w5 341 y7)) :: (0, (1, 275)) :: List.filter (e_flt 0 1) (List.filter (e_flt 0 3) (List.filter (e_flt 0 3) (List.filter (e_flt 0 2) tl4))), [], w108)) eAlk 1 rfl ?_
                      exact e_Pn.ord eAlk [0, 1] rfl rfl ((ih2 (by omega) _ z111 w108 q109).le (by omega))
                  · show e_Pn 20 elay ecode eI nn3 d 356 (79, (3, (0, 0)) :: (2, (0, w5 341 y7)) :: (0, (1, 275)) :: (1, (0, y7)) :: List.filter (e_flt 0 3) (List.filter (e_flt 0 2) tl4), [], w74) _
                    refine e_Pn.run (t' := (87, (3, (0, 7)) :: (2, (0, w5 341 y7)) :: (0, (1, 275)) :: (1, (0, y7)) :: List.filter (e_flt 0 3) (List.filter (e_flt 0 3) (List.filter (e_flt 0 2) tl4)), [(0, 7)], w74)) eAlk 4 rfl ?_
                    refine e_Pn.if1 eAlk rfl (fun h112 => ?_) (fun h112 => ?_)
                    rotate_left
                    · exfalso; have q9 : ¬ ((7 : Int) ≠ 0) := h112; omega
                    show e_Pn 20 elay ecode eI nn3 d 356 (107, (3, (0, 7)) :: (2, (0, w5 341 y7)) :: (0, (1, 275)) :: (1, (0, y7)) :: List.filter (e_flt 0 3) (List.filter (e_flt 0 3) (List.filter (e_flt 0 2) tl4)), [], w74) _
                    refine e_Pn.run (t' := (108, (3, (0, 7)) :: (2, (0, w5 341 y7)) :: (0, (1, 275)) :: (1, (0, y7)) :: List.filter (e_flt 0 3) (List.filter (e_flt 0 3) (List.filter (e_flt 0 2) tl4)), [(0, 7)], w74)) eAlk 1 rfl ?_
                    refine e_Pn.if1 eAlk rfl (fun h113 => ?_) (fun h113 => ?_)
                    rotate_left
                    · exfalso; have q9 : ¬ ((7 : Int) ≠ 0) := h113; omega
                    show e_Pn 20 elay ecode eI nn3 d 356 (198, (3, (0, 7)) :: (2, (0, w5 341 y7)) :: (0, (1, 275)) :: (1, (0, y7)) :: List.filter (e_flt 0 3) (List.filter (e_flt 0 3) (List.filter (e_flt 0 2) tl4)), [], w74) _
                    refine e_Pn.run (t' := (199, (3, (0, 7)) :: (2, (0, w5 341 y7)) :: (0, (1, 275)) :: (1, (0, y7)) :: List.filter (e_flt 0 3) (List.filter (e_flt 0 3) (List.filter (e_flt 0 2) tl4)), [(0, 7)], w74)) eAlk 1 rfl ?_
                    refine e_Pn.if1 eAlk rfl (fun h114 => ?_) (fun h114 => ?_)
                    · exfalso; replace h114 : (7 : Int) = 0 := h114; omega
                    show e_Pn 20 elay ecode eI nn3 d 356 (202, (3, (0, 7)) :: (2, (0, w5 341 y7)) :: (0, (1, 275)) :: (1, (0, y7)) :: List.filter (e_flt 0 3) (List.filter (e_flt 0 3) (List.filter (e_flt 0 2) tl4)), [], w74) _
                    refine e_Pn.run (t' := (204, (3, (0, 7)) :: (2, (0, w5 341 y7)) :: (0, (1, 275)) :: (1, (0, y7)) :: List.filter (e_flt 0 3) (List.filter (e_flt 0 3) (List.filter (e_flt 0 2) tl4)), [(0, 7), (1, 275)], w74)) eAlk 2 rfl ?_
                    refine e_Pn.putf eAlk rfl rfl ?_
                    generalize hw115 : e_up w74 275 88 7 = w115
                    have q116 : mr7 w w115 := mr7.up q76 hw115 (fun g => by decide)
                    refine e_Pn.run (t' := (209, (3, (0, 7)) :: (2, (0, w5 341 y7)) :: (0, (1, 275)) :: (1, (0, y7)) :: List.filter (e_flt 0 3) (List.filter (e_flt 0 3) (List.filter (e_flt 0 2) tl4)), [(1, 275), (1, 275)], w115)) eAlk 2 rfl ?_
                    refine e_Pn.getr (z := 342) eAlk rfl rfl (q116.rf hR (91, 342) (by decide)) (by omega) ?_
                    refine e_Pn.run (t' := (213, (3, (0, 7)) :: (2, (0, w5 341 y7)) :: (0, (1, 275)) :: (1, (0, y7)) :: List.filter (e_flt 0 3) (List.filter (e_flt 0 3) (List.filter (e_flt 0 2) tl4)), [(0, y7), (1, 342), (1, 275)], w115)) eAlk 1 rfl ?_
                    refine e_Pn.ald (z := w115 342 y7) eAlk rfl rfl (fun b117 b118 => ?_)
                    refine e_Pn.putf eAlk rfl rfl ?_
                    generalize hw119 : e_up w115 275 89 (w115 342 y7) = w119
                    have q120 : mr7 w w119 := mr7.up q116 hw119 (fun g => by decide)
                    refine e_Pn.incU eAlk rfl rfl (fun z121 => ?_)
                    show e_Pn 20 elay ecode eI nn3 d 356 (220, (1, (0, z121)) :: (3, (0, 7)) :: (2, (0, w5 341 y7)) :: (0, (1, 275)) :: List.filter (e_flt 0 1) (List.filter (e_flt 0 3) (List.filter (e_flt 0 3) (List.filter (e_flt 0 2) tl4))), [], w119) _
                    refine e_Pn.run (t' := (2, (1, (0, z121)) :: (3, (0, 7)) :: (2, (0, w5 341 y7)) :: (0, (1, 275)) :: List.filter (e_flt 0 1) (List.filter (e_flt 0 3) (List.filter (e_flt 0 3) (List.filter (e_flt 0 2) tl4))), [], w119)) eAlk 1 rfl ?_
                    exact e_Pn.ord eAlk [0, 1] rfl rfl ((ih2 (by omega) _ z121 w119 q120).le (by omega))
                · show e_Pn 20 elay ecode eI nn3 d 356 (59, (3, (0, 0)) :: (2, (0, w5 341 y7)) :: (0, (1, 275)) :: (1, (0, y7)) :: List.filter (e_flt 0 3) (List.filter (e_flt 0 2) tl4), [], w74) _
                  refine e_Pn.run (t' := (60, (3, (0, 0)) :: (2, (0, w5 341 y7)) :: (0, (1, 275)) :: (1, (0, y7)) :: List.filter (e_flt 0 3) (List.filter (e_flt 0 2) tl4), [(1, 275)], w74)) eAlk 1 rfl ?_
                  refine e_Pn.getr (z := 339) eAlk rfl rfl (q76.2.2.2.1.trans hV.1) (by omega) ?_
                  refine e_Pn.run (t' := (64, (3, (0, 0)) :: (2, (0, w5 341 y7)) :: (0, (1, 275)) :: (1, (0, y7)) :: List.filter (e_flt 0 3) (List.filter (e_flt 0 2) tl4), [(0, 4), (1, 339)], w74)) eAlk 1 rfl ?_
                  refine e_Pn.ald (z := w74 339 4) eAlk rfl rfl (fun b122 b123 => ?_)
                  refine e_Pn.run (t' := (76, (3, (0, 0)) :: (2, (0, w5 341 y7)) :: (0, (1, 275)) :: (1, (0, y7)) :: List.filter (e_flt 0 3) (List.filter (e_flt 0 2) tl4), [(0, 32), (0, w74 339 4)], w74)) eAlk 2 rfl ?_
                  refine e_Pn.if2 eAlk rfl (fun h124 => ?_) (fun h124 => ?_)
                  · show e_Pn 20 elay ecode eI nn3 d 356 (84, (3, (0, 0)) :: (2, (0, w5 341 y7)) :: (0, (1, 275)) :: (1, (0, y7)) :: List.filter (e_flt 0 3) (List.filter (e_flt 0 2) tl4), [], w74) _
                    refine e_Pn.run (t' := (87, (3, (0, 0)) :: (2, (0, w5 341 y7)) :: (0, (1, 275)) :: (1, (0, y7)) :: List.filter (e_flt 0 3) (List.filter (e_flt 0 3) (List.filter (e_flt 0 2) tl4)), [(0, 0)], w74)) eAlk 3 rfl ?_
                    refine e_Pn.if1 eAlk rfl (fun h125 => ?_) (fun h125 => ?_)
                    · exfalso; replace h125 : (0 : Int) ≠ 0 := h125; omega
                    show e_Pn 20 elay ecode eI nn3 d 356 (90, (3, (0, 0)) :: (2, (0, w5 341 y7)) :: (0, (1, 275)) :: (1, (0, y7)) :: List.filter (e_flt 0 3) (List.filter (e_flt 0 3) (List.filter (e_flt 0 2) tl4)), [], w74) _
                    refine e_Pn.run (t' := (91, (3, (0, 0)) :: (2, (0, w5 341 y7)) :: (0, (1, 275)) :: (1, (0, y7)) :: List.filter (e_flt 0 3) (List.filter (e_flt 0 3) (List.filter (e_flt 0 2) tl4)), [(0, w5 341 y7)], w74)) eAlk 1 rfl ?_
                    refine e_Pn.if1 eAlk rfl (fun h126 => ?_) (fun h126 => ?_)
                    · show e_Pn 20 elay ecode eI nn3 d 356 (107, (3, (0, 0)) :: (2, (0, w5 341 y7)) :: (0, (1, 275)) :: (1, (0, y7)) :: List.filter (e_flt 0 3) (List.filter (e_flt 0 3) (List.filter (e_flt 0 2) tl4)), [], w74) _
                      refine e_Pn.run (t' := (108, (3, (0, 0)) :: (2, (0, w5 341 y7)) :: (0, (1, 275)) :: (1, (0, y7)) :: List.filter (e_flt 0 3) (List.filter (e_flt 0 3) (List.filter (e_flt 0 2) tl4)), [(0, 0)], w74)) eAlk 1 rfl ?_
                      refine e_Pn.if1 eAlk rfl (fun h127 => ?_) (fun h127 => ?_)
                      · exfalso; replace h127 : (0 : Int) ≠ 0 := h127; omega
                      show e_Pn 20 elay ecode eI nn3 d 356 (111, (3, (0, 0)) :: (2, (0, w5 341 y7)) :: (0, (1, 275)) :: (1, (0, y7)) :: List.filter (e_flt 0 3) (List.filter (e_flt 0 3) (List.filter (e_flt 0 2) tl4)), [], w74) _
                      refine e_Pn.run (t' := (112, (3, (0, 0)) :: (2, (0, w5 341 y7)) :: (0, (1, 275)) :: (1, (0, y7)) :: List.filter (e_flt 0 3) (List.filter (e_flt 0 3) (List.filter (e_flt 0 2) tl4)), [(1, 275)], w74)) eAlk 1 rfl ?_
                      refine e_Pn.getr (z := 337) eAlk rfl rfl (q76.2.1.trans hV.2.2) (by omega) ?_
                      refine e_Pn.run (t' := (119, (3, (0, 0)) :: (2, (0, w5 341 y7)) :: (0, (1, 275)) :: (1, (0, y7)) :: List.filter (e_flt 0 3) (List.filter (e_flt 0 3) (List.filter (e_flt 0 2) tl4)), [(1, 275), (0, 128), (1, 337)], w74)) eAlk 2 rfl ?_
                      refine e_Pn.getr (z := 338) eAlk rfl rfl (q76.2.2.1.trans hV.2.1) (by omega) ?_
                      refine e_Pn.run (t' := (123, (3, (0, 0)) :: (2, (0, w5 341 y7)) :: (0, (1, 275)) :: (1, (0, y7)) :: List.filter (e_flt 0 3) (List.filter (e_flt 0 3) (List.filter (e_flt 0 2) tl4)), [(0, 4), (1, 338), (0, 128), (1, 337)], w74)) eAlk 1 rfl ?_
                      refine e_Pn.ald (z := w74 338 4) eAlk rfl rfl (fun b128 b129 => ?_)
                      refine e_Pn.bin0 eAlk rfl (fun z130 hz130 => ?_)
                      refine e_Pn.run (t' := (126, (3, (0, 0)) :: (2, (0, w5 341 y7)) :: (0, (1, 275)) :: (1, (0, y7)) :: List.filter (e_flt 0 3) (List.filter (e_flt 0 3) (List.filter (e_flt 0 2) tl4)), [(1, 275), (0, z130), (1, 337)], w74)) eAlk 1 rfl ?_
                      refine e_Pn.getr (z := 344) eAlk rfl rfl (q76.rf hR (93, 344) (by decide)) (by omega) ?_
                      refine e_Pn.run (t' := (130, (3, (0, 0)) :: (2, (0, w5 341 y7)) :: (0, (1, 275)) :: (1, (0, y7)) :: List.filter (e_flt 0 3) (List.filter (e_flt 0 3) (List.filter (e_flt 0 2) tl4)), [(0, y7), (1, 344), (0, z130), (1, 337)], w74)) eAlk 1 rfl ?_
                      refine e_Pn.ald (z := w74 344 y7) eAlk rfl rfl (fun b131 b132 => ?_)
                      refine e_Pn.ast eAlk rfl rfl rfl (fun b133 b134 => ?_)
                      generalize hw135 : e_up w74 337 z130 (w74 344 y7) = w135
                      have q136 : mr7 w w135 := mr7.up q76 hw135 (fun g => by exact absurd g (by decide))
                      refine e_Pn.run (t' := (133, (3, (0, 0)) :: (2, (0, w5 341 y7)) :: (0, (1, 275)) :: (1, (0, y7)) :: List.filter (e_flt 0 3) (List.filter (e_flt 0 3) (List.filter (e_flt 0 2) tl4)), [(1, 275)], w135)) eAlk 1 rfl ?_
                      refine e_Pn.getr (z := 338) eAlk rfl rfl (q136.2.2.1.trans hV.2.1) (by omega) ?_
                      refine e_Pn.run (t' := (138, (3, (0, 0)) :: (2, (0, w5 341 y7)) :: (0, (1, 275)) :: (1, (0, y7)) :: List.filter (e_flt 0 3) (List.filter (e_flt 0 3) (List.filter (e_flt 0 2) tl4)), [(0, 4), (1, 338), (0, 4), (1, 338)], w135)) eAlk 2 rfl ?_
                      refine e_Pn.ald (z := w135 338 4) eAlk rfl rfl (fun b137 b138 => ?_)
                      refine e_Pn.run (t' := (140, (3, (0, 0)) :: (2, (0, w5 341 y7)) :: (0, (1, 275)) :: (1, (0, y7)) :: List.filter (e_flt 0 3) (List.filter (e_flt 0 3) (List.filter (e_flt 0 2) tl4)), [(0, 1), (0, w135 338 4), (0, 4), (1, 338)], w135)) eAlk 1 rfl ?_
                      refine e_Pn.bin0 eAlk rfl (fun z139 hz139 => ?_)
                      refine e_Pn.ast eAlk rfl rfl rfl (fun b140 b141 => ?_)
                      generalize hw142 : e_up w135 338 4 z139 = w142
                      have q143 : mr7 w w142 := mr7.up q136 hw142 (fun g => by exact absurd g (by decide))
                      refine e_Pn.run (t' := (199, (3, (0, 0)) :: (2, (0, w5 341 y7)) :: (0, (1, 275)) :: (1, (0, y7)) :: List.filter (e_flt 0 3) (List.filter (e_flt 0 3) (List.filter (e_flt 0 2) tl4)), [(0, 0)], w142)) eAlk 2 rfl ?_
                      refine e_Pn.if1 eAlk rfl (fun h144 => ?_) (fun h144 => ?_)
                      rotate_left
                      · exfalso; have q9 : ¬ ((0 : Int) = 0) := h144; omega
                      show e_Pn 20 elay ecode eI nn3 d 356 (217, (3, (0, 0)) :: (2, (0, w5 341 y7)) :: (0, (1, 275)) :: (1, (0, y7)) :: List.filter (e_flt 0 3) (List.filter (e_flt 0 3) (List.filter (e_flt 0 2) tl4)), [], w142) _
                      refine e_Pn.incU eAlk rfl rfl (fun z145 => ?_)
                      show e_Pn 20 elay ecode eI nn3 d 356 (220, (1, (0, z145)) :: (3, (0, 0)) :: (2, (0, w5 341 y7)) :: (0, (1, 275)) :: List.filter (e_flt 0 1) (List.filter (e_flt 0 3) (List.filter (e_flt 0 3) (List.filter (e_flt 0 2) tl4))), [], w142) _
                      refine e_Pn.run (t' := (2, (1, (0, z145)) :: (3, (0, 0)) :: (2, (0, w5 341 y7)) :: (0, (1, 275)) :: List.filter (e_flt 0 1) (List.filter (e_flt 0 3) (List.filter (e_flt 0 3) (List.filter (e_flt 0 2) tl4))), [], w142)) eAlk 1 rfl ?_
                      exact e_Pn.ord eAlk [0, 1] rfl rfl ((ih2 (by omega) _ z145 w142 q143).le (by omega))
                    · show e_Pn 20 elay ecode eI nn3 d 356 (94, (3, (0, 0)) :: (2, (0, w5 341 y7)) :: (0, (1, 275)) :: (1, (0, y7)) :: List.filter (e_flt 0 3) (List.filter (e_flt 0 3) (List.filter (e_flt 0 2) tl4)), [], w74) _
                      refine e_Pn.run (t' := (95, (3, (0, 0)) :: (2, (0, w5 341 y7)) :: (0, (1, 275)) :: (1, (0, y7)) :: List.filter (e_flt 0 3) (List.filter (e_flt 0 3) (List.filter (e_flt 0 2) tl4)), [(1, 275)], w74)) eAlk 1 rfl ?_
                      refine e_Pn.getr (z := 339) eAlk rfl rfl (q76.2.2.2.1.trans hV.1) (by omega) ?_
                      refine e_Pn.run (t' := (100, (3, (0, 0)) :: (2, (0, w5 341 y7)) :: (0, (1, 275)) :: (1, (0, y7)) :: List.filter (e_flt 0 3) (List.filter (e_flt 0 3) (List.filter (e_flt 0 2) tl4)), [(0, 4), (1, 339), (0, 4), (1, 339)], w74)) eAlk 2 rfl ?_
                      refine e_Pn.ald (z := w74 339 4) eAlk rfl rfl (fun b146 b147 => ?_)
                      refine e_Pn.run (t' := (102, (3, (0, 0)) :: (2, (0, w5 341 y7)) :: (0, (1, 275)) :: (1, (0, y7)) :: List.filter (e_flt 0 3) (List.filter (e_flt 0 3) (List.filter (e_flt 0 2) tl4)), [(0, 1), (0, w74 339 4), (0, 4), (1, 339)], w74)) eAlk 1 rfl ?_
                      refine e_Pn.bin0 eAlk rfl (fun z148 hz148 => ?_)
                      refine e_Pn.ast eAlk rfl rfl rfl (fun b149 b150 => ?_)
                      generalize hw151 : e_up w74 339 4 z148 = w151
                      have q152 : mr7 w w151 := mr7.up q76 hw151 (fun g => by exact absurd g (by decide))
                      refine e_Pn.run (t' := (199, (3, (0, 0)) :: (2, (0, w5 341 y7)) :: (0, (1, 275)) :: (1, (0, y7)) :: List.filter (e_flt 0 3) (List.filter (e_flt 0 3) (List.filter (e_flt 0 2) tl4)), [(0, 0)], w151)) eAlk 2 rfl ?_
                      refine e_Pn.if1 eAlk rfl (fun h153 => ?_) (fun h153 => ?_)
                      rotate_left
                      · exfalso; have q9 : ¬ ((0 : Int) = 0) := h153; omega
                      show e_Pn 20 elay ecode eI nn3 d 356 (217, (3, (0, 0)) :: (2, (0, w5 341 y7)) :: (0, (1, 275)) :: (1, (0, y7)) :: List.filter (e_flt 0 3) (List.filter (e_flt 0 3) (List.filter (e_flt 0 2) tl4)), [], w151) _
                      refine e_Pn.incU eAlk rfl rfl (fun z154 => ?_)
                      show e_Pn 20 elay ecode eI nn3 d 356 (220, (1, (0, z154)) :: (3, (0, 0)) :: (2, (0, w5 341 y7)) :: (0, (1, 275)) :: List.filter (e_flt 0 1) (List.filter (e_flt 0 3) (List.filter (e_flt 0 3) (List.filter (e_flt 0 2) tl4))), [], w151) _
                      refine e_Pn.run (t' := (2, (1, (0, z154)) :: (3, (0, 0)) :: (2, (0, w5 341 y7)) :: (0, (1, 275)) :: List.filter (e_flt 0 1) (List.filter (e_flt 0 3) (List.filter (e_flt 0 3) (List.filter (e_flt 0 2) tl4))), [], w151)) eAlk 1 rfl ?_
                      exact e_Pn.ord eAlk [0, 1] rfl rfl ((ih2 (by omega) _ z154 w151 q152).le (by omega))
                  · show e_Pn 20 elay ecode eI nn3 d 356 (79, (3, (0, 0)) :: (2, (0, w5 341 y7)) :: (0, (1, 275)) :: (1, (0, y7)) :: List.filter (e_flt 0 3) (List.filter (e_flt 0 2) tl4), [], w74) _
                    refine e_Pn.run (t' := (87, (3, (0, 7)) :: (2, (0, w5 341 y7)) :: (0, (1, 275)) :: (1, (0, y7)) :: List.filter (e_flt 0 3) (List.filter (e_flt 0 3) (List.filter (e_flt 0 2) tl4)), [(0, 7)], w74)) eAlk 4 rfl ?_
                    refine e_Pn.if1 eAlk rfl (fun h155 => ?_) (fun h155 => ?_)
                    rotate_left
                    · exfalso; have q9 : ¬ ((7 : Int) ≠ 0) := h155; omega
                    show e_Pn 20 elay ecode eI nn3 d 356 (107, (3, (0, 7)) :: (2, (0, w5 341 y7)) :: (0, (1, 275)) :: (1, (0, y7)) :: List.filter (e_flt 0 3) (List.filter (e_flt 0 3) (List.filter (e_flt 0 2) tl4)), [], w74) _
                    refine e_Pn.run (t' := (108, (3, (0, 7)) :: (2, (0, w5 341 y7)) :: (0, (1, 275)) :: (1, (0, y7)) :: List.filter (e_flt 0 3) (List.filter (e_flt 0 3) (List.filter (e_flt 0 2) tl4)), [(0, 7)], w74)) eAlk 1 rfl ?_
                    refine e_Pn.if1 eAlk rfl (fun h156 => ?_) (fun h156 => ?_)
                    rotate_left
                    · exfalso; have q9 : ¬ ((7 : Int) ≠ 0) := h156; omega
                    show e_Pn 20 elay ecode eI nn3 d 356 (198, (3, (0, 7)) :: (2, (0, w5 341 y7)) :: (0, (1, 275)) :: (1, (0, y7)) :: List.filter (e_flt 0 3) (List.filter (e_flt 0 3) (List.filter (e_flt 0 2) tl4)), [], w74) _
                    refine e_Pn.run (t' := (199, (3, (0, 7)) :: (2, (0, w5 341 y7)) :: (0, (1, 275)) :: (1, (0, y7)) :: List.filter (e_flt 0 3) (List.filter (e_flt 0 3) (List.filter (e_flt 0 2) tl4)), [(0, 7)], w74)) eAlk 1 rfl ?_
                    refine e_Pn.if1 eAlk rfl (fun h157 => ?_) (fun h157 => ?_)
                    · exfalso; replace h157 : (7 : Int) = 0 := h157; omega
                    show e_Pn 20 elay ecode eI nn3 d 356 (202, (3, (0, 7)) :: (2, (0, w5 341 y7)) :: (0, (1, 275)) :: (1, (0, y7)) :: List.filter (e_flt 0 3) (List.filter (e_flt 0 3) (List.filter (e_flt 0 2) tl4)), [], w74) _
                    refine e_Pn.run (t' := (204, (3, (0, 7)) :: (2, (0, w5 341 y7)) :: (0, (1, 275)) :: (1, (0, y7)) :: List.filter (e_flt 0 3) (List.filter (e_flt 0 3) (List.filter (e_flt 0 2) tl4)), [(0, 7), (1, 275)], w74)) eAlk 2 rfl ?_
                    refine e_Pn.putf eAlk rfl rfl ?_
                    generalize hw158 : e_up w74 275 88 7 = w158
                    have q159 : mr7 w w158 := mr7.up q76 hw158 (fun g => by decide)
                    refine e_Pn.run (t' := (209, (3, (0, 7)) :: (2, (0, w5 341 y7)) :: (0, (1, 275)) :: (1, (0, y7)) :: List.filter (e_flt 0 3) (List.filter (e_flt 0 3) (List.filter (e_flt 0 2) tl4)), [(1, 275), (1, 275)], w158)) eAlk 2 rfl ?_
                    refine e_Pn.getr (z := 342) eAlk rfl rfl (q159.rf hR (91, 342) (by decide)) (by omega) ?_
                    refine e_Pn.run (t' := (213, (3, (0, 7)) :: (2, (0, w5 341 y7)) :: (0, (1, 275)) :: (1, (0, y7)) :: List.filter (e_flt 0 3) (List.filter (e_flt 0 3) (List.filter (e_flt 0 2) tl4)), [(0, y7), (1, 342), (1, 275)], w158)) eAlk 1 rfl ?_
                    refine e_Pn.ald (z := w158 342 y7) eAlk rfl rfl (fun b160 b161 => ?_)
                    refine e_Pn.putf eAlk rfl rfl ?_
                    generalize hw162 : e_up w158 275 89 (w158 342 y7) = w162
                    have q163 : mr7 w w162 := mr7.up q159 hw162 (fun g => by decide)
                    refine e_Pn.incU eAlk rfl rfl (fun z164 => ?_)
                    show e_Pn 20 elay ecode eI nn3 d 356 (220, (1, (0, z164)) :: (3, (0, 7)) :: (2, (0, w5 341 y7)) :: (0, (1, 275)) :: List.filter (e_flt 0 1) (List.filter (e_flt 0 3) (List.filter (e_flt 0 3) (List.filter (e_flt 0 2) tl4))), [], w162) _
                    refine e_Pn.run (t' := (2, (1, (0, z164)) :: (3, (0, 7)) :: (2, (0, w5 341 y7)) :: (0, (1, 275)) :: List.filter (e_flt 0 1) (List.filter (e_flt 0 3) (List.filter (e_flt 0 3) (List.filter (e_flt 0 2) tl4))), [], w162)) eAlk 1 rfl ?_
                    exact e_Pn.ord eAlk [0, 1] rfl rfl ((ih2 (by omega) _ z164 w162 q163).le (by omega))
              · show e_Pn 20 elay ecode eI nn3 d 356 (51, (3, (0, 0)) :: (2, (0, w5 341 y7)) :: (0, (1, 275)) :: (1, (0, y7)) :: List.filter (e_flt 0 3) (List.filter (e_flt 0 2) tl4), [], w74) _
                refine e_Pn.run (t' := (87, (3, (0, 4)) :: (2, (0, w5 341 y7)) :: (0, (1, 275)) :: (1, (0, y7)) :: List.filter (e_flt 0 3) (List.filter (e_flt 0 3) (List.filter (e_flt 0 2) tl4)), [(0, 4)], w74)) eAlk 4 rfl ?_
                refine e_Pn.if1 eAlk rfl (fun h165 => ?_) (fun h165 => ?_)
                rotate_left
                · exfalso; have q9 : ¬ ((4 : Int) ≠ 0) := h165; omega
                show e_Pn 20 elay ecode eI nn3 d 356 (107, (3, (0, 4)) :: (2, (0, w5 341 y7)) :: (0, (1, 275)) :: (1, (0, y7)) :: List.filter (e_flt 0 3) (List.filter (e_flt 0 3) (List.filter (e_flt 0 2) tl4)), [], w74) _
                refine e_Pn.run (t' := (108, (3, (0, 4)) :: (2, (0, w5 341 y7)) :: (0, (1, 275)) :: (1, (0, y7)) :: List.filter (e_flt 0 3) (List.filter (e_flt 0 3) (List.filter (e_flt 0 2) tl4)), [(0, 4)], w74)) eAlk 1 rfl ?_
                refine e_Pn.if1 eAlk rfl (fun h166 => ?_) (fun h166 => ?_)
                rotate_left
                · exfalso; have q9 : ¬ ((4 : Int) ≠ 0) := h166; omega
                show e_Pn 20 elay ecode eI nn3 d 356 (198, (3, (0, 4)) :: (2, (0, w5 341 y7)) :: (0, (1, 275)) :: (1, (0, y7)) :: List.filter (e_flt 0 3) (List.filter (e_flt 0 3) (List.filter (e_flt 0 2) tl4)), [], w74) _
                refine e_Pn.run (t' := (199, (3, (0, 4)) :: (2, (0, w5 341 y7)) :: (0, (1, 275)) :: (1, (0, y7)) :: List.filter (e_flt 0 3) (List.filter (e_flt 0 3) (List.filter (e_flt 0 2) tl4)), [(0, 4)], w74)) eAlk 1 rfl ?_
                refine e_Pn.if1 eAlk rfl (fun h167 => ?_) (fun h167 => ?_)
                · exfalso; replace h167 : (4 : Int) = 0 := h167; omega
                show e_Pn 20 elay ecode eI nn3 d 356 (202, (3, (0, 4)) :: (2, (0, w5 341 y7)) :: (0, (1, 275)) :: (1, (0, y7)) :: List.filter (e_flt 0 3) (List.filter (e_flt 0 3) (List.filter (e_flt 0 2) tl4)), [], w74) _
                refine e_Pn.run (t' := (204, (3, (0, 4)) :: (2, (0, w5 341 y7)) :: (0, (1, 275)) :: (1, (0, y7)) :: List.filter (e_flt 0 3) (List.filter (e_flt 0 3) (List.filter (e_flt 0 2) tl4)), [(0, 4), (1, 275)], w74)) eAlk 2 rfl ?_
                refine e_Pn.putf eAlk rfl rfl ?_
                generalize hw168 : e_up w74 275 88 4 = w168
                have q169 : mr7 w w168 := mr7.up q76 hw168 (fun g => by decide)
                refine e_Pn.run (t' := (209, (3, (0, 4)) :: (2, (0, w5 341 y7)) :: (0, (1, 275)) :: (1, (0, y7)) :: List.filter (e_flt 0 3) (List.filter (e_flt 0 3) (List.filter (e_flt 0 2) tl4)), [(1, 275), (1, 275)], w168)) eAlk 2 rfl ?_
                refine e_Pn.getr (z := 342) eAlk rfl rfl (q169.rf hR (91, 342) (by decide)) (by omega) ?_
                refine e_Pn.run (t' := (213, (3, (0, 4)) :: (2, (0, w5 341 y7)) :: (0, (1, 275)) :: (1, (0, y7)) :: List.filter (e_flt 0 3) (List.filter (e_flt 0 3) (List.filter (e_flt 0 2) tl4)), [(0, y7), (1, 342), (1, 275)], w168)) eAlk 1 rfl ?_
                refine e_Pn.ald (z := w168 342 y7) eAlk rfl rfl (fun b170 b171 => ?_)
                refine e_Pn.putf eAlk rfl rfl ?_
                generalize hw172 : e_up w168 275 89 (w168 342 y7) = w172
                have q173 : mr7 w w172 := mr7.up q169 hw172 (fun g => by decide)
                refine e_Pn.incU eAlk rfl rfl (fun z174 => ?_)
                show e_Pn 20 elay ecode eI nn3 d 356 (220, (1, (0, z174)) :: (3, (0, 4)) :: (2, (0, w5 341 y7)) :: (0, (1, 275)) :: List.filter (e_flt 0 1) (List.filter (e_flt 0 3) (List.filter (e_flt 0 3) (List.filter (e_flt 0 2) tl4))), [], w172) _
                refine e_Pn.run (t' := (2, (1, (0, z174)) :: (3, (0, 4)) :: (2, (0, w5 341 y7)) :: (0, (1, 275)) :: List.filter (e_flt 0 1) (List.filter (e_flt 0 3) (List.filter (e_flt 0 3) (List.filter (e_flt 0 2) tl4))), [], w172)) eAlk 1 rfl ?_
                exact e_Pn.ord eAlk [0, 1] rfl rfl ((ih2 (by omega) _ z174 w172 q173).le (by omega))
  exact e_Pn.ord eAlk [0, 1] rfl rfl (hL1 n (Nat.le_refl _) _ 0 w mr7.r)
end
