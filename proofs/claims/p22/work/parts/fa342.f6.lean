noncomputable section
/-! the model: the tape behind build -/
/-- the model's tape and where its tables lie -/
def mBL : List Int := [0, 7, 15, 29, 37, 51, 52, 75, 76, 77]
def mb (v v' : eW) : Prop := (∀ i, v' 281 i = v 281 i) ∧ ∀ k ∈ mBL, v' 275 k = v 275 k
theorem mb.r {v : eW} : mb v v := ⟨fun _ => rfl, fun _ _ => rfl⟩
theorem mb.tr {v v1 v2 : eW} (h : mb v v1) (h' : mb v1 v2) : mb v v2 := ⟨fun i => (h'.1 i).trans (h.1 i), fun k q => (h'.2 k q).trans (h.2 k q)⟩
theorem mb.up {v v1 v2 : eW} {c k z : Int} (h : mb v v1) (hv : e_up v1 c k z = v2) (hc : c ≠ 281) (hk : c = 275 → k ∉ mBL) : mb v v2 := h.tr (by
  subst hv
  refine ⟨fun i => e_up_ne _ _ (Or.inl (fun e => hc e.symm)), fun j hj => ?_⟩
  by_cases q : c = 275
  · exact e_up_ne _ _ (Or.inr (fun e => hk q (e ▸ hj)))
  · exact e_up_ne _ _ (Or.inl (fun e => q e.symm)))
set_option maxHeartbeats 4000000 in
theorem bu_266 {n d : Nat} {w : eW} {x : Int} {y : Int} {z : Int} : e_Pn 20 elay ecode eI n d 266 (0, [(0, (4, x)), (2, (4, y)), (4, (4, z))], [], w) (fun r w' => (∃ z : Int, r = [(0, z)]) ∧ mb w w') := by
  refine e_Pn.run (t' := (2, [(0, (4, x)), (2, (4, y)), (4, (4, z))], [(4, y), (4, x)], w)) eAlk 2 rfl ?_
  refine e_Pn.binLU eAlk 0 (fun _ _ _ h => by cases h; rfl) rfl (fun z1 => ?_)
  refine e_Pn.if1 eAlk rfl (fun h2 => ?_) (fun h2 => ?_)
  · show e_Pn 20 elay ecode eI n d 266 (17, [(0, (4, x)), (2, (4, y)), (4, (4, z))], [], w) _
    refine e_Pn.run (t' := (18, [(0, (4, x)), (2, (4, y)), (4, (4, z))], [(0, 0)], w)) eAlk 1 rfl ?_
    exact e_Pn.ret4 rfl ⟨⟨_, rfl⟩, mb.r⟩
  · show e_Pn 20 elay ecode eI n d 266 (6, [(0, (4, x)), (2, (4, y)), (4, (4, z))], [], w) _
    refine e_Pn.run (t' := (9, [(0, (4, x)), (2, (4, y)), (4, (4, z))], [(4, z), (4, x)], w)) eAlk 2 rfl ?_
    refine e_Pn.binLU eAlk 0 (fun _ _ _ h => by cases h; rfl) rfl (fun z3 => ?_)
    refine e_Pn.if1 eAlk rfl (fun h4 => ?_) (fun h4 => ?_)
    · show e_Pn 20 elay ecode eI n d 266 (17, [(0, (4, x)), (2, (4, y)), (4, (4, z))], [], w) _
      refine e_Pn.run (t' := (18, [(0, (4, x)), (2, (4, y)), (4, (4, z))], [(0, 0)], w)) eAlk 1 rfl ?_
      exact e_Pn.ret4 rfl ⟨⟨_, rfl⟩, mb.r⟩
    · show e_Pn 20 elay ecode eI n d 266 (13, [(0, (4, x)), (2, (4, y)), (4, (4, z))], [], w) _
      refine e_Pn.run (t' := (18, [(0, (4, x)), (2, (4, y)), (4, (4, z))], [(0, 1)], w)) eAlk 2 rfl ?_
      exact e_Pn.ret4 rfl ⟨⟨_, rfl⟩, mb.r⟩
set_option maxHeartbeats 4000000 in
theorem bu_276 {n d : Nat} {w : eW} (hT : e_Has mTy w) {x : Int} : e_Pn 20 elay ecode eI n d 276 (0, [(0, (1, 275)), (1, (0, x))], [], w) (fun r w' => (∃ z : Int, r = [(0, z)]) ∧ mb w w') := by
  refine e_Pn.run (t' := (4, [(0, (1, 275)), (1, (0, x))], [(1, 275), (4, 0), (4, x)], w)) eAlk 4 rfl ?_
  refine e_Pn.getf (z := w 275 9) eAlk rfl rfl rfl (fun b1 => ?_)
  refine e_Pn.run (t' := (8, [(0, (1, 275)), (1, (0, x))], [(4, w 275 9), (4, 0), (4, x)], w)) eAlk 1 rfl ?_
  refine e_Pn.callA rfl (fun n9 d9 => bu_266 (w := w)) (fun r3 w4 h2 => ?_)
  obtain ⟨⟨z5, rfl⟩, h2⟩ := h2
  have q6 := mb.r.tr h2
  show e_Pn 20 elay ecode eI n d 276 (11, [(0, (1, 275)), (1, (0, x))], [(0, z5)], w4) _
  refine e_Pn.if1 eAlk rfl (fun h7 => ?_) (fun h7 => ?_)
  · show e_Pn 20 elay ecode eI n d 276 (16, [(0, (1, 275)), (1, (0, x))], [], w4) _
    refine e_Pn.run (t' := (18, [(0, (1, 275)), (1, (0, x))], [(1, 275), (1, 275)], w4)) eAlk 2 rfl ?_
    refine e_Pn.getf (z := w4 275 9) eAlk rfl rfl rfl (fun b8 => ?_)
    refine e_Pn.run (t' := (22, [(0, (1, 275)), (1, (0, x))], [(0, x), (0, w4 275 9), (1, 275)], w4)) eAlk 1 rfl ?_
    refine e_Pn.bin0 eAlk rfl (fun z9 hz9 => ?_)
    refine e_Pn.putf eAlk rfl rfl ?_
    generalize hw10 : e_up w4 275 9 z9 = w10
    have q11 : mb w w10 := mb.up q6 hw10 (by decide) (fun g => by decide)
    refine e_Pn.run (t' := (27, [(0, (1, 275)), (1, (0, x))], [(1, 275)], w10)) eAlk 1 rfl ?_
    refine e_Pn.getf (z := w10 275 9) eAlk rfl rfl rfl (fun b12 => ?_)
    exact e_Pn.ret1 rfl ⟨⟨_, rfl⟩, q11⟩
  · show e_Pn 20 elay ecode eI n d 276 (14, [(0, (1, 275)), (1, (0, x))], [], w4) _
    refine e_Pn.run (t' := (15, [(0, (1, 275)), (1, (0, x))], [(0, (-1))], w4)) eAlk 1 rfl ?_
    exact e_Pn.ret1 rfl ⟨⟨_, rfl⟩, q6⟩
set_option maxHeartbeats 4000000 in
theorem bu_268 {n d : Nat} {w : eW} {x : Int} : e_Pn 20 elay ecode eI n d 268 (0, [(0, (0, x))], [], w) (fun r w' => (∃ z : Int, r = [(0, z)]) ∧ mb w w') := by
  refine e_Pn.run (t' := (5, [(0, (0, x))], [(0, x), (0, 36), (0, 16)], w)) eAlk 3 rfl ?_
  refine e_Pn.bin0 eAlk rfl (fun z1 hz1 => ?_)
  refine e_Pn.bin0 eAlk rfl (fun z2 hz2 => ?_)
  exact e_Pn.ret1 rfl ⟨⟨_, rfl⟩, mb.r⟩
set_option maxHeartbeats 4000000 in
theorem bu_269 {n d : Nat} {w : eW} {x : Int} : e_Pn 20 elay ecode eI n d 269 (0, [(0, (0, x))], [], w) (fun r w' => (∃ z : Int, r = [(0, z)]) ∧ mb w w') := by
  refine e_Pn.run (t' := (7, [(0, (0, x))], [(0, x), (0, 1260), (0, 416)], w)) eAlk 3 rfl ?_
  refine e_Pn.bin0 eAlk rfl (fun z1 hz1 => ?_)
  refine e_Pn.bin0 eAlk rfl (fun z2 hz2 => ?_)
  exact e_Pn.ret1 rfl ⟨⟨_, rfl⟩, mb.r⟩
set_option maxHeartbeats 4000000 in
theorem bu_267 {n d : Nat} {w : eW} (hT : e_Has mTy w) : e_Pn 20 elay ecode eI n d 267 (0, [(0, (1, 275))], [], w) (fun r w' => r = [] ∧ mb w w') := by
  refine e_Pn.run (t' := (2, [(0, (1, 275))], [(0, 0), (1, 275)], w)) eAlk 2 rfl ?_
  refine e_Pn.putf eAlk rfl rfl ?_
  generalize hw1 : e_up w 275 3 0 = w1
  have q2 : mb w w1 := mb.up mb.r hw1 (by decide) (fun g => by decide)
  refine e_Pn.run (t' := (7, [(0, (1, 275))], [(0, 0), (1, 275)], w1)) eAlk 2 rfl ?_
  refine e_Pn.putf eAlk rfl rfl ?_
  generalize hw3 : e_up w1 275 10 0 = w3
  have q4 : mb w w3 := mb.up q2 hw3 (by decide) (fun g => by decide)
  refine e_Pn.run (t' := (12, [(0, (1, 275))], [(0, 0), (1, 275)], w3)) eAlk 2 rfl ?_
  refine e_Pn.putf eAlk rfl rfl ?_
  generalize hw5 : e_up w3 275 23 0 = w5
  have q6 : mb w w5 := mb.up q4 hw5 (by decide) (fun g => by decide)
  refine e_Pn.run (t' := (17, [(0, (1, 275))], [(0, 0), (1, 275)], w5)) eAlk 2 rfl ?_
  refine e_Pn.putf eAlk rfl rfl ?_
  generalize hw7 : e_up w5 275 30 0 = w7
  have q8 : mb w w7 := mb.up q6 hw7 (by decide) (fun g => by decide)
  refine e_Pn.run (t' := (22, [(0, (1, 275))], [(0, 0), (1, 275)], w7)) eAlk 2 rfl ?_
  refine e_Pn.putf eAlk rfl rfl ?_
  generalize hw9 : e_up w7 275 40 0 = w9
  have q10 : mb w w9 := mb.up q8 hw9 (by decide) (fun g => by decide)
  refine e_Pn.run (t' := (27, [(0, (1, 275))], [(0, 0), (1, 275)], w9)) eAlk 2 rfl ?_
  refine e_Pn.putf eAlk rfl rfl ?_
  generalize hw11 : e_up w9 275 42 0 = w11
  have q12 : mb w w11 := mb.up q10 hw11 (by decide) (fun g => by decide)
  refine e_Pn.run (t' := (32, [(0, (1, 275))], [(0, 0), (1, 275)], w11)) eAlk 2 rfl ?_
  refine e_Pn.putf eAlk rfl rfl ?_
  generalize hw13 : e_up w11 275 49 0 = w13
  have q14 : mb w w13 := mb.up q12 hw13 (by decide) (fun g => by decide)
  refine e_Pn.run (t' := (37, [(0, (1, 275))], [(0, 0), (1, 275)], w13)) eAlk 2 rfl ?_
  refine e_Pn.putf eAlk rfl rfl ?_
  generalize hw15 : e_up w13 275 5 0 = w15
  have q16 : mb w w15 := mb.up q14 hw15 (by decide) (fun g => by decide)
  refine e_Pn.run (t' := (42, [(0, (1, 275))], [(0, 0), (1, 275)], w15)) eAlk 2 rfl ?_
  refine e_Pn.putf eAlk rfl rfl ?_
  generalize hw17 : e_up w15 275 118 0 = w17
  have q18 : mb w w17 := mb.up q16 hw17 (by decide) (fun g => by decide)
  refine e_Pn.run (t' := (47, [(1, (0, 0)), (0, (1, 275))], [], w17)) eAlk 2 rfl ?_
  have hL19 : ∀ nn21 : Nat, nn21 ≤ n → ∀ (tl22 : eL) (y25 : Int) (w23 : eW), mb w w23 → e_Pn 20 elay ecode eI nn21 d 267 (47, (0, (1, 275)) :: (1, (0, y25)) :: tl22, [], w23) (fun r w' => r = [] ∧ mb w w') := by
    intro nn21
    induction nn21 with
    | zero => intro _ tl22 y25 w23 _; exact e_Pn.zero
    | succ nn21 ih20 =>
      intro hnnn21 tl22 y25 w23 q24
      refine e_Pn.runS (t' := (50, (0, (1, 275)) :: (1, (0, y25)) :: tl22, [(0, 33060), (0, y25)], w23)) eAlk 1 rfl ?_
      refine e_Pn.if2 eAlk rfl (fun h26 => ?_) (fun h26 => ?_)
      · show e_Pn 20 elay ecode eI nn21 d 267 (66, (0, (1, 275)) :: (1, (0, y25)) :: tl22, [], w23) _
        refine e_Pn.run (t' := (68, (1, (0, 0)) :: (0, (1, 275)) :: List.filter (e_flt 0 1) tl22, [], w23)) eAlk 2 rfl ?_
        have hL27 : ∀ nn29 : Nat, nn29 ≤ nn21 → ∀ (tl30 : eL) (y33 : Int) (w31 : eW), mb w w31 → e_Pn 20 elay ecode eI nn29 d 267 (68, (0, (1, 275)) :: (1, (0, y33)) :: tl30, [], w31) (fun r w' => r = [] ∧ mb w w') := by
          intro nn29
          induction nn29 with
          | zero => intro _ tl30 y33 w31 _; exact e_Pn.zero
          | succ nn29 ih28 =>
            intro hnnn29 tl30 y33 w31 q32
            refine e_Pn.runS (t' := (70, (0, (1, 275)) :: (1, (0, y33)) :: tl30, [(0, 4), (0, y33)], w31)) eAlk 1 rfl ?_
            refine e_Pn.if2 eAlk rfl (fun h34 => ?_) (fun h34 => ?_)
            · show e_Pn 20 elay ecode eI nn29 d 267 (170, (0, (1, 275)) :: (1, (0, y33)) :: tl30, [], w31) _
              refine e_Pn.run (t' := (172, (1, (0, 0)) :: (0, (1, 275)) :: List.filter (e_flt 0 1) tl30, [], w31)) eAlk 2 rfl ?_
              have hL35 : ∀ nn37 : Nat, nn37 ≤ nn29 → ∀ (tl38 : eL) (y41 : Int) (w39 : eW), mb w w39 → e_Pn 20 elay ecode eI nn37 d 267 (172, (0, (1, 275)) :: (1, (0, y41)) :: tl38, [], w39) (fun r w' => r = [] ∧ mb w w') := by
                intro nn37
                induction nn37 with
                | zero => intro _ tl38 y41 w39 _; exact e_Pn.zero
                | succ nn37 ih36 =>
                  intro hnnn37 tl38 y41 w39 q40
                  refine e_Pn.runS (t' := (175, (0, (1, 275)) :: (1, (0, y41)) :: tl38, [(0, 16), (0, y41)], w39)) eAlk 1 rfl ?_
                  refine e_Pn.if2 eAlk rfl (fun h42 => ?_) (fun h42 => ?_)
                  · show e_Pn 20 elay ecode eI nn37 d 267 (196, (0, (1, 275)) :: (1, (0, y41)) :: tl38, [], w39) _
                    refine e_Pn.run (t' := (198, (1, (0, 0)) :: (0, (1, 275)) :: List.filter (e_flt 0 1) tl38, [], w39)) eAlk 2 rfl ?_
                    have hL43 : ∀ nn45 : Nat, nn45 ≤ nn37 → ∀ (tl46 : eL) (y49 : Int) (w47 : eW), mb w w47 → e_Pn 20 elay ecode eI nn45 d 267 (198, (0, (1, 275)) :: (1, (0, y49)) :: tl46, [], w47) (fun r w' => r = [] ∧ mb w w') := by
                      intro nn45
                      induction nn45 with
                      | zero => intro _ tl46 y49 w47 _; exact e_Pn.zero
                      | succ nn45 ih44 =>
                        intro hnnn45 tl46 y49 w47 q48
                        refine e_Pn.runS (t' := (201, (0, (1, 275)) :: (1, (0, y49)) :: tl46, [(0, 8), (0, y49)], w47)) eAlk 1 rfl ?_
                        refine e_Pn.if2 eAlk rfl (fun h50 => ?_) (fun h50 => ?_)
                        · show e_Pn 20 elay ecode eI nn45 d 267 (256, (0, (1, 275)) :: (1, (0, y49)) :: tl46, [], w47) _
                          refine e_Pn.run (t' := (258, (1, (0, 0)) :: (0, (1, 275)) :: List.filter (e_flt 0 1) tl46, [], w47)) eAlk 2 rfl ?_
                          have hL51 : ∀ nn53 : Nat, nn53 ≤ nn45 → ∀ (tl54 : eL) (y57 : Int) (w55 : eW), mb w w55 → e_Pn 20 elay ecode eI nn53 d 267 (258, (0, (1, 275)) :: (1, (0, y57)) :: tl54, [], w55) (fun r w' => r = [] ∧ mb w w') := by
                            intro nn53
                            induction nn53 with
                            | zero => intro _ tl54 y57 w55 _; exact e_Pn.zero
                            | succ nn53 ih52 =>
                              intro hnnn53 tl54 y57 w55 q56
                              refine e_Pn.runS (t' := (261, (0, (1, 275)) :: (1, (0, y57)) :: tl54, [(0, 64), (0, y57)], w55)) eAlk 1 rfl ?_
                              refine e_Pn.if2 eAlk rfl (fun h58 => ?_) (fun h58 => ?_)
                              · show e_Pn 20 elay ecode eI nn53 d 267 (277, (0, (1, 275)) :: (1, (0, y57)) :: tl54, [], w55) _
                                refine e_Pn.run (t' := (279, (1, (0, 0)) :: (0, (1, 275)) :: List.filter (e_flt 0 1) tl54, [], w55)) eAlk 2 rfl ?_
                                have hL59 : ∀ nn61 : Nat, nn61 ≤ nn53 → ∀ (tl62 : eL) (y65 : Int) (w63 : eW), mb w w63 → e_Pn 20 elay ecode eI nn61 d 267 (279, (0, (1, 275)) :: (1, (0, y65)) :: tl62, [], w63) (fun r w' => r = [] ∧ mb w w') := by
                                  intro nn61
                                  induction nn61 with
                                  | zero => intro _ tl62 y65 w63 _; exact e_Pn.zero
                                  | succ nn61 ih60 =>
                                    intro hnnn61 tl62 y65 w63 q64
                                    refine e_Pn.runS (t' := (283, (0, (1, 275)) :: (1, (0, y65)) :: tl62, [(0, 448), (0, y65)], w63)) eAlk 1 rfl ?_
                                    refine e_Pn.if2 eAlk rfl (fun h66 => ?_) (fun h66 => ?_)
                                    · show e_Pn 20 elay ecode eI nn61 d 267 (299, (0, (1, 275)) :: (1, (0, y65)) :: tl62, [], w63) _
                                      exact e_Pn.ret0 rfl ⟨rfl, q64⟩
                                    · show e_Pn 20 elay ecode eI nn61 d 267 (286, (0, (1, 275)) :: (1, (0, y65)) :: tl62, [], w63) _
                                      refine e_Pn.run (t' := (287, (0, (1, 275)) :: (1, (0, y65)) :: tl62, [(1, 275)], w63)) eAlk 1 rfl ?_
                                      refine e_Pn.getr (z := 299) eAlk rfl rfl ((q64.2 29 (by decide)).trans (e_Has.eq hT (c := 275) (k := 29) (v := 299) rfl)) (by omega) ?_
                                      refine e_Pn.run (t' := (292, (0, (1, 275)) :: (1, (0, y65)) :: tl62, [(0, 0), (0, y65), (1, 299)], w63)) eAlk 2 rfl ?_
                                      refine e_Pn.ast eAlk rfl rfl (e_nar_b (by omega)) (fun b67 b68 => ?_)
                                      generalize hw69 : e_up w63 299 y65 0 = w69
                                      have q70 : mb w w69 := mb.up q64 hw69 (by decide) (fun g => by exact absurd g (by decide))
                                      refine e_Pn.incU eAlk rfl rfl (fun z71 => ?_)
                                      show e_Pn 20 elay ecode eI nn61 d 267 (296, (1, (0, z71)) :: (0, (1, 275)) :: List.filter (e_flt 0 1) tl62, [], w69) _
                                      refine e_Pn.run (t' := (279, (1, (0, z71)) :: (0, (1, 275)) :: List.filter (e_flt 0 1) tl62, [], w69)) eAlk 1 rfl ?_
                                      exact e_Pn.ord eAlk [0, 1] rfl rfl ((ih60 (by omega) _ z71 w69 q70).le (by omega))
                                exact e_Pn.ord eAlk [0, 1] rfl rfl (hL59 nn53 (Nat.le_refl _) _ 0 w55 q56)
                              · show e_Pn 20 elay ecode eI nn53 d 267 (264, (0, (1, 275)) :: (1, (0, y57)) :: tl54, [], w55) _
                                refine e_Pn.run (t' := (265, (0, (1, 275)) :: (1, (0, y57)) :: tl54, [(1, 275)], w55)) eAlk 1 rfl ?_
                                refine e_Pn.getr (z := 318) eAlk rfl rfl ((q56.2 52 (by decide)).trans (e_Has.eq hT (c := 275) (k := 52) (v := 318) rfl)) (by omega) ?_
                                refine e_Pn.run (t' := (270, (0, (1, 275)) :: (1, (0, y57)) :: tl54, [(0, (-1)), (0, y57), (1, 318)], w55)) eAlk 2 rfl ?_
                                refine e_Pn.ast eAlk rfl rfl rfl (fun b72 b73 => ?_)
                                generalize hw74 : e_up w55 318 y57 (-1) = w74
                                have q75 : mb w w74 := mb.up q56 hw74 (by decide) (fun g => by exact absurd g (by decide))
                                refine e_Pn.incU eAlk rfl rfl (fun z76 => ?_)
                                show e_Pn 20 elay ecode eI nn53 d 267 (274, (1, (0, z76)) :: (0, (1, 275)) :: List.filter (e_flt 0 1) tl54, [], w74) _
                                refine e_Pn.run (t' := (258, (1, (0, z76)) :: (0, (1, 275)) :: List.filter (e_flt 0 1) tl54, [], w74)) eAlk 1 rfl ?_
                                exact e_Pn.ord eAlk [0, 1] rfl rfl ((ih52 (by omega) _ z76 w74 q75).le (by omega))
                          exact e_Pn.ord eAlk [0, 1] rfl rfl (hL51 nn45 (Nat.le_refl _) _ 0 w47 q48)
                        · show e_Pn 20 elay ecode eI nn45 d 267 (204, (0, (1, 275)) :: (1, (0, y49)) :: tl46, [], w47) _
                          refine e_Pn.run (t' := (205, (0, (1, 275)) :: (1, (0, y49)) :: tl46, [(1, 275)], w47)) eAlk 1 rfl ?_
                          refine e_Pn.getr (z := 276) eAlk rfl rfl ((q48.2 0 (by decide)).trans (e_Has.eq hT (c := 275) (k := 0) (v := 276) rfl)) (by omega) ?_
                          refine e_Pn.run (t' := (212, (0, (1, 275)) :: (1, (0, y49)) :: tl46, [(0, y49), (0, 20868), (1, 276)], w47)) eAlk 2 rfl ?_
                          refine e_Pn.bin0 eAlk rfl (fun z77 hz77 => ?_)
                          refine e_Pn.run (t' := (214, (0, (1, 275)) :: (1, (0, y49)) :: tl46, [(0, (-1)), (0, z77), (1, 276)], w47)) eAlk 1 rfl ?_
                          refine e_Pn.ast eAlk rfl rfl rfl (fun b78 b79 => ?_)
                          generalize hw80 : e_up w47 276 z77 (-1) = w80
                          have q81 : mb w w80 := mb.up q48 hw80 (by decide) (fun g => by exact absurd g (by decide))
                          refine e_Pn.run (t' := (216, (0, (1, 275)) :: (1, (0, y49)) :: tl46, [(1, 275)], w80)) eAlk 1 rfl ?_
                          refine e_Pn.getr (z := 276) eAlk rfl rfl ((q81.2 0 (by decide)).trans (e_Has.eq hT (c := 275) (k := 0) (v := 276) rfl)) (by omega) ?_
                          refine e_Pn.run (t' := (224, (0, (1, 275)) :: (1, (0, y49)) :: tl46, [(0, y49), (0, 4), (0, 20836), (1, 276)], w80)) eAlk 3 rfl ?_
                          refine e_Pn.bin0 eAlk rfl (fun z82 hz82 => ?_)
                          refine e_Pn.bin0 eAlk rfl (fun z83 hz83 => ?_)
                          refine e_Pn.run (t' := (227, (0, (1, 275)) :: (1, (0, y49)) :: tl46, [(0, 1), (0, z83), (1, 276)], w80)) eAlk 1 rfl ?_
                          refine e_Pn.ast eAlk rfl rfl rfl (fun b84 b85 => ?_)
                          generalize hw86 : e_up w80 276 z83 1 = w86
                          have q87 : mb w w86 := mb.up q81 hw86 (by decide) (fun g => by exact absurd g (by decide))
                          refine e_Pn.run (t' := (229, (0, (1, 275)) :: (1, (0, y49)) :: tl46, [(1, 275)], w86)) eAlk 1 rfl ?_
                          refine e_Pn.getr (z := 276) eAlk rfl rfl ((q87.2 0 (by decide)).trans (e_Has.eq hT (c := 275) (k := 0) (v := 276) rfl)) (by omega) ?_
                          refine e_Pn.run (t' := (237, (0, (1, 275)) :: (1, (0, y49)) :: tl46, [(0, y49), (0, 4), (0, 20836), (1, 276)], w86)) eAlk 3 rfl ?_
                          refine e_Pn.bin0 eAlk rfl (fun z88 hz88 => ?_)
                          refine e_Pn.bin0 eAlk rfl (fun z89 hz89 => ?_)
                          refine e_Pn.run (t' := (240, (0, (1, 275)) :: (1, (0, y49)) :: tl46, [(0, 1), (0, z89), (1, 276)], w86)) eAlk 1 rfl ?_
                          refine e_Pn.bin0 eAlk rfl (fun z90 hz90 => ?_)
                          refine e_Pn.run (t' := (242, (0, (1, 275)) :: (1, (0, y49)) :: tl46, [(0, 1), (0, z90), (1, 276)], w86)) eAlk 1 rfl ?_
                          refine e_Pn.ast eAlk rfl rfl rfl (fun b91 b92 => ?_)
                          generalize hw93 : e_up w86 276 z90 1 = w93
                          have q94 : mb w w93 := mb.up q87 hw93 (by decide) (fun g => by exact absurd g (by decide))
                          refine e_Pn.run (t' := (244, (0, (1, 275)) :: (1, (0, y49)) :: tl46, [(1, 275)], w93)) eAlk 1 rfl ?_
                          refine e_Pn.getr (z := 317) eAlk rfl rfl ((q94.2 51 (by decide)).trans (e_Has.eq hT (c := 275) (k := 51) (v := 317) rfl)) (by omega) ?_
                          refine e_Pn.run (t' := (249, (0, (1, 275)) :: (1, (0, y49)) :: tl46, [(0, 0), (0, y49), (1, 317)], w93)) eAlk 2 rfl ?_
                          refine e_Pn.ast eAlk rfl rfl (e_nar_b (by omega)) (fun b95 b96 => ?_)
                          generalize hw97 : e_up w93 317 y49 0 = w97
                          have q98 : mb w w97 := mb.up q94 hw97 (by decide) (fun g => by exact absurd g (by decide))
                          refine e_Pn.incU eAlk rfl rfl (fun z99 => ?_)
                          show e_Pn 20 elay ecode eI nn45 d 267 (253, (1, (0, z99)) :: (0, (1, 275)) :: List.filter (e_flt 0 1) tl46, [], w97) _
                          refine e_Pn.run (t' := (198, (1, (0, z99)) :: (0, (1, 275)) :: List.filter (e_flt 0 1) tl46, [], w97)) eAlk 1 rfl ?_
                          exact e_Pn.ord eAlk [0, 1] rfl rfl ((ih44 (by omega) _ z99 w97 q98).le (by omega))
                    exact e_Pn.ord eAlk [0, 1] rfl rfl (hL43 nn37 (Nat.le_refl _) _ 0 w39 q40)
                  · show e_Pn 20 elay ecode eI nn37 d 267 (178, (0, (1, 275)) :: (1, (0, y41)) :: tl38, [], w39) _
                    refine e_Pn.run (t' := (179, (0, (1, 275)) :: (1, (0, y41)) :: tl38, [(1, 275)], w39)) eAlk 1 rfl ?_
                    refine e_Pn.getr (z := 276) eAlk rfl rfl ((q40.2 0 (by decide)).trans (e_Has.eq hT (c := 275) (k := 0) (v := 276) rfl)) (by omega) ?_
                    refine e_Pn.run (t' := (183, (0, (1, 275)) :: (1, (0, y41)) :: tl38, [(0, y41), (1, 276)], w39)) eAlk 1 rfl ?_
                    refine e_Pn.callA rfl (fun n9 d9 => bu_269 (w := w39)) (fun r101 w102 h100 => ?_)
                    obtain ⟨⟨z103, rfl⟩, h100⟩ := h100
                    have q104 := q40.tr h100
                    show e_Pn 20 elay ecode eI nn37 d 267 (186, (0, (1, 275)) :: (1, (0, y41)) :: tl38, [(0, z103), (1, 276)], w102) _
                    refine e_Pn.run (t' := (187, (0, (1, 275)) :: (1, (0, y41)) :: tl38, [(0, 1), (0, z103), (1, 276)], w102)) eAlk 1 rfl ?_
                    refine e_Pn.bin0 eAlk rfl (fun z105 hz105 => ?_)
                    refine e_Pn.run (t' := (189, (0, (1, 275)) :: (1, (0, y41)) :: tl38, [(0, (-1)), (0, z105), (1, 276)], w102)) eAlk 1 rfl ?_
                    refine e_Pn.ast eAlk rfl rfl rfl (fun b106 b107 => ?_)
                    generalize hw108 : e_up w102 276 z105 (-1) = w108
                    have q109 : mb w w108 := mb.up q104 hw108 (by decide) (fun g => by exact absurd g (by decide))
                    refine e_Pn.incU eAlk rfl rfl (fun z110 => ?_)
                    show e_Pn 20 elay ecode eI nn37 d 267 (193, (1, (0, z110)) :: (0, (1, 275)) :: List.filter (e_flt 0 1) tl38, [], w108) _
                    refine e_Pn.run (t' := (172, (1, (0, z110)) :: (0, (1, 275)) :: List.filter (e_flt 0 1) tl38, [], w108)) eAlk 1 rfl ?_
                    exact e_Pn.ord eAlk [0, 1] rfl rfl ((ih36 (by omega) _ z110 w108 q109).le (by omega))
              exact e_Pn.ord eAlk [0, 1] rfl rfl (hL35 nn29 (Nat.le_refl _) _ 0 w31 q32)
            · show e_Pn 20 elay ecode eI nn29 d 267 (73, (0, (1, 275)) :: (1, (0, y33)) :: tl30, [], w31) _
              refine e_Pn.run (t' := (74, (0, (1, 275)) :: (1, (0, y33)) :: tl30, [(1, 275)], w31)) eAlk 1 rfl ?_
              refine e_Pn.getr (z := 286) eAlk rfl rfl ((q32.2 15 (by decide)).trans (e_Has.eq hT (c := 275) (k := 15) (v := 286) rfl)) (by omega) ?_
              refine e_Pn.run (t' := (79, (0, (1, 275)) :: (1, (0, y33)) :: tl30, [(0, 0), (0, y33), (1, 286)], w31)) eAlk 2 rfl ?_
              refine e_Pn.ast eAlk rfl rfl rfl (fun b111 b112 => ?_)
              generalize hw113 : e_up w31 286 y33 0 = w113
              have q114 : mb w w113 := mb.up q32 hw113 (by decide) (fun g => by exact absurd g (by decide))
              refine e_Pn.run (t' := (81, (0, (1, 275)) :: (1, (0, y33)) :: tl30, [(1, 275)], w113)) eAlk 1 rfl ?_
              refine e_Pn.getr (z := 276) eAlk rfl rfl ((q114.2 0 (by decide)).trans (e_Has.eq hT (c := 275) (k := 0) (v := 276) rfl)) (by omega) ?_
              refine e_Pn.run (t' := (85, (0, (1, 275)) :: (1, (0, y33)) :: tl30, [(0, y33), (1, 276)], w113)) eAlk 1 rfl ?_
              refine e_Pn.callA rfl (fun n9 d9 => bu_268 (w := w113)) (fun r116 w117 h115 => ?_)
              obtain ⟨⟨z118, rfl⟩, h115⟩ := h115
              have q119 := q114.tr h115
              show e_Pn 20 elay ecode eI nn29 d 267 (88, (0, (1, 275)) :: (1, (0, y33)) :: tl30, [(0, z118), (1, 276)], w117) _
              refine e_Pn.run (t' := (89, (0, (1, 275)) :: (1, (0, y33)) :: tl30, [(0, 1), (0, z118), (1, 276)], w117)) eAlk 1 rfl ?_
              refine e_Pn.bin0 eAlk rfl (fun z120 hz120 => ?_)
              refine e_Pn.run (t' := (91, (0, (1, 275)) :: (1, (0, y33)) :: tl30, [(0, (-1)), (0, z120), (1, 276)], w117)) eAlk 1 rfl ?_
              refine e_Pn.ast eAlk rfl rfl rfl (fun b121 b122 => ?_)
              generalize hw123 : e_up w117 276 z120 (-1) = w123
              have q124 : mb w w123 := mb.up q119 hw123 (by decide) (fun g => by exact absurd g (by decide))
              refine e_Pn.run (t' := (93, (0, (1, 275)) :: (1, (0, y33)) :: tl30, [(1, 275)], w123)) eAlk 1 rfl ?_
              refine e_Pn.getr (z := 276) eAlk rfl rfl ((q124.2 0 (by decide)).trans (e_Has.eq hT (c := 275) (k := 0) (v := 276) rfl)) (by omega) ?_
              refine e_Pn.run (t' := (97, (0, (1, 275)) :: (1, (0, y33)) :: tl30, [(0, y33), (1, 276)], w123)) eAlk 1 rfl ?_
              refine e_Pn.callA rfl (fun n9 d9 => bu_268 (w := w123)) (fun r126 w127 h125 => ?_)
              obtain ⟨⟨z128, rfl⟩, h125⟩ := h125
              have q129 := q124.tr h125
              show e_Pn 20 elay ecode eI nn29 d 267 (100, (0, (1, 275)) :: (1, (0, y33)) :: tl30, [(0, z128), (1, 276)], w127) _
              refine e_Pn.run (t' := (101, (0, (1, 275)) :: (1, (0, y33)) :: tl30, [(0, 2), (0, z128), (1, 276)], w127)) eAlk 1 rfl ?_
              refine e_Pn.bin0 eAlk rfl (fun z130 hz130 => ?_)
              refine e_Pn.run (t' := (103, (0, (1, 275)) :: (1, (0, y33)) :: tl30, [(0, (-1)), (0, z130), (1, 276)], w127)) eAlk 1 rfl ?_
              refine e_Pn.ast eAlk rfl rfl rfl (fun b131 b132 => ?_)
              generalize hw133 : e_up w127 276 z130 (-1) = w133
              have q134 : mb w w133 := mb.up q129 hw133 (by decide) (fun g => by exact absurd g (by decide))
              refine e_Pn.run (t' := (105, (0, (1, 275)) :: (1, (0, y33)) :: tl30, [(1, 275)], w133)) eAlk 1 rfl ?_
              refine e_Pn.getr (z := 276) eAlk rfl rfl ((q134.2 0 (by decide)).trans (e_Has.eq hT (c := 275) (k := 0) (v := 276) rfl)) (by omega) ?_
              refine e_Pn.run (t' := (109, (0, (1, 275)) :: (1, (0, y33)) :: tl30, [(0, y33), (1, 276)], w133)) eAlk 1 rfl ?_
              refine e_Pn.callA rfl (fun n9 d9 => bu_268 (w := w133)) (fun r136 w137 h135 => ?_)
              obtain ⟨⟨z138, rfl⟩, h135⟩ := h135
              have q139 := q134.tr h135
              show e_Pn 20 elay ecode eI nn29 d 267 (112, (0, (1, 275)) :: (1, (0, y33)) :: tl30, [(0, z138), (1, 276)], w137) _
              refine e_Pn.run (t' := (113, (0, (1, 275)) :: (1, (0, y33)) :: tl30, [(0, 3), (0, z138), (1, 276)], w137)) eAlk 1 rfl ?_
              refine e_Pn.bin0 eAlk rfl (fun z140 hz140 => ?_)
              refine e_Pn.run (t' := (115, (0, (1, 275)) :: (1, (0, y33)) :: tl30, [(0, (-1)), (0, z140), (1, 276)], w137)) eAlk 1 rfl ?_
              refine e_Pn.ast eAlk rfl rfl rfl (fun b141 b142 => ?_)
              generalize hw143 : e_up w137 276 z140 (-1) = w143
              have q144 : mb w w143 := mb.up q139 hw143 (by decide) (fun g => by exact absurd g (by decide))
              refine e_Pn.run (t' := (117, (0, (1, 275)) :: (1, (0, y33)) :: tl30, [(1, 275)], w143)) eAlk 1 rfl ?_
              refine e_Pn.getr (z := 276) eAlk rfl rfl ((q144.2 0 (by decide)).trans (e_Has.eq hT (c := 275) (k := 0) (v := 276) rfl)) (by omega) ?_
              refine e_Pn.run (t' := (121, (0, (1, 275)) :: (1, (0, y33)) :: tl30, [(0, y33), (1, 276)], w143)) eAlk 1 rfl ?_
              refine e_Pn.callA rfl (fun n9 d9 => bu_268 (w := w143)) (fun r146 w147 h145 => ?_)
              obtain ⟨⟨z148, rfl⟩, h145⟩ := h145
              have q149 := q144.tr h145
              show e_Pn 20 elay ecode eI nn29 d 267 (124, (0, (1, 275)) :: (1, (0, y33)) :: tl30, [(0, z148), (1, 276)], w147) _
              refine e_Pn.run (t' := (126, (0, (1, 275)) :: (1, (0, y33)) :: tl30, [(0, 9), (0, z148), (1, 276)], w147)) eAlk 1 rfl ?_
              refine e_Pn.bin0 eAlk rfl (fun z150 hz150 => ?_)
              refine e_Pn.run (t' := (128, (0, (1, 275)) :: (1, (0, y33)) :: tl30, [(0, (-1)), (0, z150), (1, 276)], w147)) eAlk 1 rfl ?_
              refine e_Pn.ast eAlk rfl rfl rfl (fun b151 b152 => ?_)
              generalize hw153 : e_up w147 276 z150 (-1) = w153
              have q154 : mb w w153 := mb.up q149 hw153 (by decide) (fun g => by exact absurd g (by decide))
              refine e_Pn.run (t' := (130, (0, (1, 275)) :: (1, (0, y33)) :: tl30, [(1, 275)], w153)) eAlk 1 rfl ?_
              refine e_Pn.getr (z := 306) eAlk rfl rfl ((q154.2 37 (by decide)).trans (e_Has.eq hT (c := 275) (k := 37) (v := 306) rfl)) (by omega) ?_
              refine e_Pn.run (t' := (135, (0, (1, 275)) :: (1, (0, y33)) :: tl30, [(0, (-1)), (0, y33), (1, 306)], w153)) eAlk 2 rfl ?_
              refine e_Pn.ast eAlk rfl rfl rfl (fun b155 b156 => ?_)
              generalize hw157 : e_up w153 306 y33 (-1) = w157
              have q158 : mb w w157 := mb.up q154 hw157 (by decide) (fun g => by exact absurd g (by decide))
              refine e_Pn.run (t' := (137, (0, (1, 275)) :: (1, (0, y33)) :: tl30, [(1, 275)], w157)) eAlk 1 rfl ?_
              refine e_Pn.getr (z := 280) eAlk rfl rfl ((q158.2 7 (by decide)).trans (e_Has.eq hT (c := 275) (k := 7) (v := 280) rfl)) (by omega) ?_
              refine e_Pn.run (t' := (142, (0, (1, 275)) :: (1, (0, y33)) :: tl30, [(0, 0), (0, y33), (1, 280)], w157)) eAlk 2 rfl ?_
              refine e_Pn.ast eAlk rfl rfl rfl (fun b159 b160 => ?_)
              generalize hw161 : e_up w157 280 y33 0 = w161
              have q162 : mb w w161 := mb.up q158 hw161 (by decide) (fun g => by exact absurd g (by decide))
              refine e_Pn.run (t' := (144, (0, (1, 275)) :: (1, (0, y33)) :: tl30, [(1, 275)], w161)) eAlk 1 rfl ?_
              refine e_Pn.getr (z := 338) eAlk rfl rfl ((q162.2 75 (by decide)).trans (e_Has.eq hT (c := 275) (k := 75) (v := 338) rfl)) (by omega) ?_
              refine e_Pn.run (t' := (149, (0, (1, 275)) :: (1, (0, y33)) :: tl30, [(0, 0), (0, y33), (1, 338)], w161)) eAlk 2 rfl ?_
              refine e_Pn.ast eAlk rfl rfl rfl (fun b163 b164 => ?_)
              generalize hw165 : e_up w161 338 y33 0 = w165
              have q166 : mb w w165 := mb.up q162 hw165 (by decide) (fun g => by exact absurd g (by decide))
              refine e_Pn.run (t' := (151, (0, (1, 275)) :: (1, (0, y33)) :: tl30, [(1, 275)], w165)) eAlk 1 rfl ?_
              refine e_Pn.getr (z := 339) eAlk rfl rfl ((q166.2 76 (by decide)).trans (e_Has.eq hT (c := 275) (k := 76) (v := 339) rfl)) (by omega) ?_
              refine e_Pn.run (t' := (156, (0, (1, 275)) :: (1, (0, y33)) :: tl30, [(0, 0), (0, y33), (1, 339)], w165)) eAlk 2 rfl ?_
              refine e_Pn.ast eAlk rfl rfl rfl (fun b167 b168 => ?_)
              generalize hw169 : e_up w165 339 y33 0 = w169
              have q170 : mb w w169 := mb.up q166 hw169 (by decide) (fun g => by exact absurd g (by decide))
              refine e_Pn.run (t' := (158, (0, (1, 275)) :: (1, (0, y33)) :: tl30, [(1, 275)], w169)) eAlk 1 rfl ?_
              refine e_Pn.getr (z := 340) eAlk rfl rfl ((q170.2 77 (by decide)).trans (e_Has.eq hT (c := 275) (k := 77) (v := 340) rfl)) (by omega) ?_
              refine e_Pn.run (t' := (163, (0, (1, 275)) :: (1, (0, y33)) :: tl30, [(0, 0), (0, y33), (1, 340)], w169)) eAlk 2 rfl ?_
              refine e_Pn.ast eAlk rfl rfl (e_nar_b (by omega)) (fun b171 b172 => ?_)
              generalize hw173 : e_up w169 340 y33 0 = w173
              have q174 : mb w w173 := mb.up q170 hw173 (by decide) (fun g => by exact absurd g (by decide))
              refine e_Pn.incU eAlk rfl rfl (fun z175 => ?_)
              show e_Pn 20 elay ecode eI nn29 d 267 (167, (1, (0, z175)) :: (0, (1, 275)) :: List.filter (e_flt 0 1) tl30, [], w173) _
              refine e_Pn.run (t' := (68, (1, (0, z175)) :: (0, (1, 275)) :: List.filter (e_flt 0 1) tl30, [], w173)) eAlk 1 rfl ?_
              exact e_Pn.ord eAlk [0, 1] rfl rfl ((ih28 (by omega) _ z175 w173 q174).le (by omega))
        exact e_Pn.ord eAlk [0, 1] rfl rfl (hL27 nn21 (Nat.le_refl _) _ 0 w23 q24)
      · show e_Pn 20 elay ecode eI nn21 d 267 (53, (0, (1, 275)) :: (1, (0, y25)) :: tl22, [], w23) _
        refine e_Pn.run (t' := (54, (0, (1, 275)) :: (1, (0, y25)) :: tl22, [(1, 275)], w23)) eAlk 1 rfl ?_
        refine e_Pn.getr (z := 276) eAlk rfl rfl ((q24.2 0 (by decide)).trans (e_Has.eq hT (c := 275) (k := 0) (v := 276) rfl)) (by omega) ?_
        refine e_Pn.run (t' := (59, (0, (1, 275)) :: (1, (0, y25)) :: tl22, [(0, 0), (0, y25), (1, 276)], w23)) eAlk 2 rfl ?_
        refine e_Pn.ast eAlk rfl rfl rfl (fun b176 b177 => ?_)
        generalize hw178 : e_up w23 276 y25 0 = w178
        have q179 : mb w w178 := mb.up q24 hw178 (by decide) (fun g => by exact absurd g (by decide))
        refine e_Pn.incU eAlk rfl rfl (fun z180 => ?_)
        show e_Pn 20 elay ecode eI nn21 d 267 (63, (1, (0, z180)) :: (0, (1, 275)) :: List.filter (e_flt 0 1) tl22, [], w178) _
        refine e_Pn.run (t' := (47, (1, (0, z180)) :: (0, (1, 275)) :: List.filter (e_flt 0 1) tl22, [], w178)) eAlk 1 rfl ?_
        exact e_Pn.ord eAlk [0, 1] rfl rfl ((ih20 (by omega) _ z180 w178 q179).le (by omega))
  exact e_Pn.ord eAlk [0, 1] rfl rfl (hL19 n (Nat.le_refl _) _ 0 w17 q18)
set_option maxHeartbeats 4000000 in
theorem bu_277 {n d : Nat} {w : eW} (hT : e_Has mTy w) : e_Pn 20 elay ecode eI n d 277 (0, [(0, (1, 275))], [], w) (fun r w' => (∃ z : Int, r = [(0, z)]) ∧ mb w w') := by
  refine e_Pn.run (t' := (1, [(0, (1, 275))], [(1, 275)], w)) eAlk 1 rfl ?_
  refine e_Pn.getr (z := 276) eAlk rfl rfl ((mb.r.2 0 (by decide)).trans (e_Has.eq hT (c := 275) (k := 0) (v := 276) rfl)) (by omega) ?_
  refine e_Pn.run (t' := (5, [(0, (1, 275))], [(0, 0), (1, 276)], w)) eAlk 1 rfl ?_
  refine e_Pn.ald (z := w 276 0) eAlk rfl rfl (fun b1 b2 => ?_)
  refine e_Pn.run (t' := (8, [(1, (0, w 276 0)), (0, (1, 275))], [(1, 275)], w)) eAlk 2 rfl ?_
  refine e_Pn.callA rfl (fun n9 d9 => bu_267 hT) (fun r4 w5 h3 => ?_)
  obtain ⟨rfl, h3⟩ := h3
  have q6 := mb.r.tr h3
  show e_Pn 20 elay ecode eI n d 277 (11, [(1, (0, w 276 0)), (0, (1, 275))], [], w5) _
  refine e_Pn.run (t' := (12, [(1, (0, w 276 0)), (0, (1, 275))], [(0, w 276 0)], w5)) eAlk 1 rfl ?_
  exact e_Pn.ret1 rfl ⟨⟨_, rfl⟩, q6⟩
end
