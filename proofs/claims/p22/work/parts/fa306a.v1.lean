noncomputable section
/-! the model: the rest of a method -/
theorem v_334_24 {n d : Nat} {w : eW} (hR : mRw w) (tl : eL) (y1 : Int) (w1 : eW) (q : mq w w1) : e_Pn 20 elay ecode eI n d 334 (24, (0, (1, 275)) :: (1, (0, y1)) :: tl, [], w1) (fun r w' => r = [] ∧ mq w w') := by
  exact e_Pn.ret0 rfl ⟨rfl, q⟩
theorem v_334_16 {n d : Nat} {w : eW} (hR : mRw w) (tl : eL) (y1 : Int) (w1 : eW) (q : mq w w1) : e_Pn 20 elay ecode eI n d 334 (16, (0, (1, 275)) :: (1, (0, y1)) :: tl, [], w1) (fun r w' => r = [] ∧ mq w w') := by
  refine e_Pn.run (t' := (24, (0, (1, 275)) :: (1, (0, y1)) :: tl, [], w1)) eAlk 1 rfl ?_
  exact e_Pn.ord eAlk [0, 1] rfl rfl (v_334_24 hR _ y1 w1 q)
theorem v_335_21 {n d : Nat} {w : eW} (hR : mRw w) (tl : eL) (w1 : eW) (q : mq w w1) : e_Pn 20 elay ecode eI n d 335 (21, (0, (1, 275)) :: tl, [], w1) (fun r w' => r = [] ∧ mq w w') := by
  refine e_Pn.run (t' := (23, (0, (1, 275)) :: tl, [(1, 275), (1, 275)], w1)) eAlk 2 rfl ?_
  refine e_Pn.getf (z := w1 275 83) eAlk rfl rfl rfl (fun b1 => ?_)
  refine e_Pn.run (t' := (27, (0, (1, 275)) :: tl, [(0, 1), (0, w1 275 83), (1, 275)], w1)) eAlk 1 rfl ?_
  refine e_Pn.bin0 eAlk rfl (fun z2 hz2 => ?_)
  refine e_Pn.putf eAlk rfl rfl ?_
  generalize hw3 : e_up w1 275 83 z2 = w3
  have q4 : mq w w3 := mq.upF q hw3 (by decide) (by decide +kernel)
  exact e_Pn.ret0 rfl ⟨rfl, q4⟩
theorem v_338_93 {n d : Nat} {w : eW} (hR : mRw w) (tl : eL) (y1 : Int) (y2 : Int) (w1 : eW) (q : mq w w1) : e_Pn 20 elay ecode eI n d 338 (93, (0, (1, 275)) :: (1, (0, y1)) :: (2, (0, y2)) :: tl, [], w1) (fun r w' => r = [] ∧ mq w w') := by
  exact e_Pn.ret0 rfl ⟨rfl, q⟩
set_option maxHeartbeats 4000000 in
theorem v_339_6 {n d : Nat} {w : eW} (hR : mRw w) (tl : eL) (y1 : Int) (w1 : eW) (q : mq w w1) : e_Pn 20 elay ecode eI n d 339 (6, (0, (1, 275)) :: (1, (0, y1)) :: tl, [], w1) (fun r w' => r = [] ∧ mq w w') := by
  have hL1 : ∀ nn3 : Nat, nn3 ≤ n → ∀ (tl4 : eL) (y7 : Int) (w5 : eW), mq w w5 → e_Pn 20 elay ecode eI nn3 d 339 (6, (0, (1, 275)) :: (1, (0, y7)) :: tl4, [], w5) (fun r w' => r = [] ∧ mq w w') := by
    intro nn3
    induction nn3 with
    | zero => intro _ tl4 y7 w5 _; exact e_Pn.zero
    | succ nn3 ih2 =>
      intro hnnn3 tl4 y7 w5 q6
      refine e_Pn.runS (t' := (7, (0, (1, 275)) :: (1, (0, y7)) :: tl4, [(1, 275)], w5)) eAlk 0 rfl ?_
      refine e_Pn.getf (z := w5 275 88) eAlk rfl rfl rfl (fun b8 => ?_)
      refine e_Pn.if1 eAlk rfl (fun h9 => ?_) (fun h9 => ?_)
      · show e_Pn 20 elay ecode eI nn3 d 339 (41, (0, (1, 275)) :: (1, (0, y7)) :: tl4, [], w5) _
        refine e_Pn.run (t' := (43, (0, (1, 275)) :: (1, (0, y7)) :: tl4, [(0, y7), (1, 275)], w5)) eAlk 2 rfl ?_
        refine e_Pn.callA rfl (fun n9 d9 => u_341 (q6.rf hR)) (fun r11 w12 h10 => ?_)
        obtain ⟨rfl, h10⟩ := h10
        have q13 := q6.tr h10
        show e_Pn 20 elay ecode eI nn3 d 339 (46, (0, (1, 275)) :: (1, (0, y7)) :: tl4, [], w12) _
        exact e_Pn.ret0 rfl ⟨rfl, q13⟩
      · show e_Pn 20 elay ecode eI nn3 d 339 (13, (0, (1, 275)) :: (1, (0, y7)) :: tl4, [], w5) _
        refine e_Pn.run (t' := (16, (0, (1, 275)) :: (1, (0, y7)) :: tl4, [(0, 24), (1, 275)], w5)) eAlk 2 rfl ?_
        refine e_Pn.callA rfl (fun n9 d9 => u_332 (q6.rf hR)) (fun r15 w16 h14 => ?_)
        obtain ⟨⟨z17, rfl⟩, h14⟩ := h14
        have q18 := q6.tr h14
        show e_Pn 20 elay ecode eI nn3 d 339 (19, (0, (1, 275)) :: (1, (0, y7)) :: tl4, [(0, z17)], w16) _
        refine e_Pn.if1 eAlk rfl (fun h19 => ?_) (fun h19 => ?_)
        · show e_Pn 20 elay ecode eI nn3 d 339 (41, (0, (1, 275)) :: (1, (0, y7)) :: tl4, [], w16) _
          refine e_Pn.run (t' := (43, (0, (1, 275)) :: (1, (0, y7)) :: tl4, [(0, y7), (1, 275)], w16)) eAlk 2 rfl ?_
          refine e_Pn.callA rfl (fun n9 d9 => u_341 (q18.rf hR)) (fun r21 w22 h20 => ?_)
          obtain ⟨rfl, h20⟩ := h20
          have q23 := q18.tr h20
          show e_Pn 20 elay ecode eI nn3 d 339 (46, (0, (1, 275)) :: (1, (0, y7)) :: tl4, [], w22) _
          exact e_Pn.ret0 rfl ⟨rfl, q23⟩
        · show e_Pn 20 elay ecode eI nn3 d 339 (22, (0, (1, 275)) :: (1, (0, y7)) :: tl4, [], w16) _
          refine e_Pn.run (t' := (26, (0, (1, 275)) :: (1, (0, y7)) :: tl4, [(0, y7), (0, 22), (1, 275)], w16)) eAlk 3 rfl ?_
          refine e_Pn.callA rfl (fun n9 d9 => u_336 (q18.rf hR)) (fun r25 w26 h24 => ?_)
          obtain ⟨⟨z27, rfl⟩, h24⟩ := h24
          have q28 := q18.tr h24
          show e_Pn 20 elay ecode eI nn3 d 339 (29, (0, (1, 275)) :: (1, (0, y7)) :: tl4, [(0, z27)], w26) _
          refine e_Pn.run (t' := (31, (1, (0, z27)) :: (0, (1, 275)) :: List.filter (e_flt 0 1) tl4, [(1, 275)], w26)) eAlk 2 rfl ?_
          refine e_Pn.callA rfl (fun n9 d9 => u_327 (q28.rf hR)) (fun r30 w31 h29 => ?_)
          obtain ⟨rfl, h29⟩ := h29
          have q32 := q28.tr h29
          show e_Pn 20 elay ecode eI nn3 d 339 (34, (1, (0, z27)) :: (0, (1, 275)) :: List.filter (e_flt 0 1) tl4, [], w31) _
          refine e_Pn.run (t' := (35, (1, (0, z27)) :: (0, (1, 275)) :: List.filter (e_flt 0 1) tl4, [(1, 275)], w31)) eAlk 1 rfl ?_
          refine e_Pn.callA rfl (fun n9 d9 => uE_all n9 340 (by decide) d9 _ (q32.rf hR)) (fun r34 w35 h33 => ?_)
          obtain ⟨rfl, h33⟩ := h33
          have q36 := q32.tr h33
          show e_Pn 20 elay ecode eI nn3 d 339 (38, (1, (0, z27)) :: (0, (1, 275)) :: List.filter (e_flt 0 1) tl4, [], w35) _
          refine e_Pn.run (t' := (6, (1, (0, z27)) :: (0, (1, 275)) :: List.filter (e_flt 0 1) tl4, [], w35)) eAlk 1 rfl ?_
          exact e_Pn.ord eAlk [0, 1] rfl rfl ((ih2 (by omega) _ z27 w35 q36).le (by omega))
  exact e_Pn.ord eAlk [0, 1] rfl rfl (hL1 n (Nat.le_refl _) _ y1 w1 q)
set_option maxHeartbeats 4000000 in
theorem v_339_46 {n d : Nat} {w : eW} (hR : mRw w) (tl : eL) (y1 : Int) (w1 : eW) (q : mq w w1) : e_Pn 20 elay ecode eI n d 339 (46, (0, (1, 275)) :: (1, (0, y1)) :: tl, [], w1) (fun r w' => r = [] ∧ mq w w') := by
  exact e_Pn.ret0 rfl ⟨rfl, q⟩
set_option maxHeartbeats 4000000 in
theorem v_339_38 {n d : Nat} {w : eW} (hR : mRw w) (tl : eL) (y1 : Int) (w1 : eW) (q : mq w w1) : e_Pn 20 elay ecode eI n d 339 (38, (0, (1, 275)) :: (1, (0, y1)) :: tl, [], w1) (fun r w' => r = [] ∧ mq w w') := by
  refine e_Pn.run (t' := (6, (0, (1, 275)) :: (1, (0, y1)) :: tl, [], w1)) eAlk 1 rfl ?_
  exact e_Pn.ord eAlk [0, 1] rfl rfl (v_339_6 hR _ y1 w1 q)
set_option maxHeartbeats 4000000 in
theorem v_339_34 {n d : Nat} {w : eW} (hR : mRw w) (tl : eL) (y1 : Int) (w1 : eW) (q : mq w w1) : e_Pn 20 elay ecode eI n d 339 (34, (0, (1, 275)) :: (1, (0, y1)) :: tl, [], w1) (fun r w' => r = [] ∧ mq w w') := by
  refine e_Pn.run (t' := (35, (0, (1, 275)) :: (1, (0, y1)) :: tl, [(1, 275)], w1)) eAlk 1 rfl ?_
  refine e_Pn.callA rfl (fun n9 d9 => uE_all n9 340 (by decide) d9 _ (q.rf hR)) (fun r2 w3 h1 => ?_)
  obtain ⟨rfl, h1⟩ := h1
  have q4 := q.tr h1
  show e_Pn 20 elay ecode eI n d 339 (38, (0, (1, 275)) :: (1, (0, y1)) :: tl, [], w3) _
  exact e_Pn.ord eAlk [0, 1] rfl rfl (v_339_38 hR _ y1 w3 q4)
set_option maxHeartbeats 4000000 in
theorem v_339_29 {n d : Nat} {w : eW} (hR : mRw w) (tl : eL) (y1 : Int) (s0 : Int) (w1 : eW) (q : mq w w1) : e_Pn 20 elay ecode eI n d 339 (29, (0, (1, 275)) :: (1, (0, y1)) :: tl, [(0, s0)], w1) (fun r w' => r = [] ∧ mq w w') := by
  refine e_Pn.run (t' := (31, (1, (0, s0)) :: (0, (1, 275)) :: List.filter (e_flt 0 1) tl, [(1, 275)], w1)) eAlk 2 rfl ?_
  refine e_Pn.callA rfl (fun n9 d9 => u_327 (q.rf hR)) (fun r2 w3 h1 => ?_)
  obtain ⟨rfl, h1⟩ := h1
  have q4 := q.tr h1
  show e_Pn 20 elay ecode eI n d 339 (34, (1, (0, s0)) :: (0, (1, 275)) :: List.filter (e_flt 0 1) tl, [], w3) _
  exact e_Pn.ord eAlk [0, 1] rfl rfl (v_339_34 hR _ s0 w3 q4)
set_option maxHeartbeats 4000000 in
theorem v_339_19 {n d : Nat} {w : eW} (hR : mRw w) (tl : eL) (y1 : Int) (s0 : Int) (w1 : eW) (q : mq w w1) : e_Pn 20 elay ecode eI n d 339 (19, (0, (1, 275)) :: (1, (0, y1)) :: tl, [(0, s0)], w1) (fun r w' => r = [] ∧ mq w w') := by
  refine e_Pn.if1 eAlk rfl (fun h1 => ?_) (fun h1 => ?_)
  · show e_Pn 20 elay ecode eI n d 339 (41, (0, (1, 275)) :: (1, (0, y1)) :: tl, [], w1) _
    refine e_Pn.run (t' := (43, (0, (1, 275)) :: (1, (0, y1)) :: tl, [(0, y1), (1, 275)], w1)) eAlk 2 rfl ?_
    refine e_Pn.callA rfl (fun n9 d9 => u_341 (q.rf hR)) (fun r3 w4 h2 => ?_)
    obtain ⟨rfl, h2⟩ := h2
    have q5 := q.tr h2
    show e_Pn 20 elay ecode eI n d 339 (46, (0, (1, 275)) :: (1, (0, y1)) :: tl, [], w4) _
    exact e_Pn.ord eAlk [0, 1] rfl rfl (v_339_46 hR _ y1 w4 q5)
  · show e_Pn 20 elay ecode eI n d 339 (22, (0, (1, 275)) :: (1, (0, y1)) :: tl, [], w1) _
    refine e_Pn.run (t' := (26, (0, (1, 275)) :: (1, (0, y1)) :: tl, [(0, y1), (0, 22), (1, 275)], w1)) eAlk 3 rfl ?_
    refine e_Pn.callA rfl (fun n9 d9 => u_336 (q.rf hR)) (fun r7 w8 h6 => ?_)
    obtain ⟨⟨z9, rfl⟩, h6⟩ := h6
    have q10 := q.tr h6
    show e_Pn 20 elay ecode eI n d 339 (29, (0, (1, 275)) :: (1, (0, y1)) :: tl, [(0, z9)], w8) _
    exact e_Pn.ord eAlk [0, 1] rfl rfl (v_339_29 hR _ y1 z9 w8 q10)
set_option maxHeartbeats 4000000 in
theorem v_339_4 {n d : Nat} {w : eW} (hR : mRw w) (tl : eL) (w1 : eW) (q : mq w w1) : e_Pn 20 elay ecode eI n d 339 (4, (0, (1, 275)) :: tl, [], w1) (fun r w' => r = [] ∧ mq w w') := by
  refine e_Pn.run (t' := (6, (1, (0, (-1))) :: (0, (1, 275)) :: List.filter (e_flt 0 1) tl, [], w1)) eAlk 2 rfl ?_
  exact e_Pn.ord eAlk [0, 1] rfl rfl (v_339_6 hR _ (-1) w1 q)
set_option maxHeartbeats 4000000 in
theorem v_340_6 {n d : Nat} {w : eW} (hR : mRw w) (tl : eL) (y1 : Int) (w1 : eW) (q : mq w w1) : e_Pn 20 elay ecode eI n d 340 (6, (0, (1, 275)) :: (1, (0, y1)) :: tl, [], w1) (fun r w' => r = [] ∧ mq w w') := by
  have hL1 : ∀ nn3 : Nat, nn3 ≤ n → ∀ (tl4 : eL) (y7 : Int) (w5 : eW), mq w w5 → e_Pn 20 elay ecode eI nn3 d 340 (6, (0, (1, 275)) :: (1, (0, y7)) :: tl4, [], w5) (fun r w' => r = [] ∧ mq w w') := by
    intro nn3
    induction nn3 with
    | zero => intro _ tl4 y7 w5 _; exact e_Pn.zero
    | succ nn3 ih2 =>
      intro hnnn3 tl4 y7 w5 q6
      refine e_Pn.runS (t' := (7, (0, (1, 275)) :: (1, (0, y7)) :: tl4, [(1, 275)], w5)) eAlk 0 rfl ?_
      refine e_Pn.getf (z := w5 275 88) eAlk rfl rfl rfl (fun b8 => ?_)
      refine e_Pn.if1 eAlk rfl (fun h9 => ?_) (fun h9 => ?_)
      · show e_Pn 20 elay ecode eI nn3 d 340 (41, (0, (1, 275)) :: (1, (0, y7)) :: tl4, [], w5) _
        refine e_Pn.run (t' := (43, (0, (1, 275)) :: (1, (0, y7)) :: tl4, [(0, y7), (1, 275)], w5)) eAlk 2 rfl ?_
        refine e_Pn.callA rfl (fun n9 d9 => u_341 (q6.rf hR)) (fun r11 w12 h10 => ?_)
        obtain ⟨rfl, h10⟩ := h10
        have q13 := q6.tr h10
        show e_Pn 20 elay ecode eI nn3 d 340 (46, (0, (1, 275)) :: (1, (0, y7)) :: tl4, [], w12) _
        exact e_Pn.ret0 rfl ⟨rfl, q13⟩
      · show e_Pn 20 elay ecode eI nn3 d 340 (13, (0, (1, 275)) :: (1, (0, y7)) :: tl4, [], w5) _
        refine e_Pn.run (t' := (16, (0, (1, 275)) :: (1, (0, y7)) :: tl4, [(0, 25), (1, 275)], w5)) eAlk 2 rfl ?_
        refine e_Pn.callA rfl (fun n9 d9 => u_332 (q6.rf hR)) (fun r15 w16 h14 => ?_)
        obtain ⟨⟨z17, rfl⟩, h14⟩ := h14
        have q18 := q6.tr h14
        show e_Pn 20 elay ecode eI nn3 d 340 (19, (0, (1, 275)) :: (1, (0, y7)) :: tl4, [(0, z17)], w16) _
        refine e_Pn.if1 eAlk rfl (fun h19 => ?_) (fun h19 => ?_)
        · show e_Pn 20 elay ecode eI nn3 d 340 (41, (0, (1, 275)) :: (1, (0, y7)) :: tl4, [], w16) _
          refine e_Pn.run (t' := (43, (0, (1, 275)) :: (1, (0, y7)) :: tl4, [(0, y7), (1, 275)], w16)) eAlk 2 rfl ?_
          refine e_Pn.callA rfl (fun n9 d9 => u_341 (q18.rf hR)) (fun r21 w22 h20 => ?_)
          obtain ⟨rfl, h20⟩ := h20
          have q23 := q18.tr h20
          show e_Pn 20 elay ecode eI nn3 d 340 (46, (0, (1, 275)) :: (1, (0, y7)) :: tl4, [], w22) _
          exact e_Pn.ret0 rfl ⟨rfl, q23⟩
        · show e_Pn 20 elay ecode eI nn3 d 340 (22, (0, (1, 275)) :: (1, (0, y7)) :: tl4, [], w16) _
          refine e_Pn.run (t' := (26, (0, (1, 275)) :: (1, (0, y7)) :: tl4, [(0, y7), (0, 23), (1, 275)], w16)) eAlk 3 rfl ?_
          refine e_Pn.callA rfl (fun n9 d9 => u_336 (q18.rf hR)) (fun r25 w26 h24 => ?_)
          obtain ⟨⟨z27, rfl⟩, h24⟩ := h24
          have q28 := q18.tr h24
          show e_Pn 20 elay ecode eI nn3 d 340 (29, (0, (1, 275)) :: (1, (0, y7)) :: tl4, [(0, z27)], w26) _
          refine e_Pn.run (t' := (31, (1, (0, z27)) :: (0, (1, 275)) :: List.filter (e_flt 0 1) tl4, [(1, 275)], w26)) eAlk 2 rfl ?_
          refine e_Pn.callA rfl (fun n9 d9 => u_327 (q28.rf hR)) (fun r30 w31 h29 => ?_)
          obtain ⟨rfl, h29⟩ := h29
          have q32 := q28.tr h29
          show e_Pn 20 elay ecode eI nn3 d 340 (34, (1, (0, z27)) :: (0, (1, 275)) :: List.filter (e_flt 0 1) tl4, [], w31) _
          refine e_Pn.run (t' := (35, (1, (0, z27)) :: (0, (1, 275)) :: List.filter (e_flt 0 1) tl4, [(1, 275)], w31)) eAlk 1 rfl ?_
          refine e_Pn.callA rfl (fun n9 d9 => uE_all n9 342 (by decide) d9 _ (q32.rf hR)) (fun r34 w35 h33 => ?_)
          obtain ⟨rfl, h33⟩ := h33
          have q36 := q32.tr h33
          show e_Pn 20 elay ecode eI nn3 d 340 (38, (1, (0, z27)) :: (0, (1, 275)) :: List.filter (e_flt 0 1) tl4, [], w35) _
          refine e_Pn.run (t' := (6, (1, (0, z27)) :: (0, (1, 275)) :: List.filter (e_flt 0 1) tl4, [], w35)) eAlk 1 rfl ?_
          exact e_Pn.ord eAlk [0, 1] rfl rfl ((ih2 (by omega) _ z27 w35 q36).le (by omega))
  exact e_Pn.ord eAlk [0, 1] rfl rfl (hL1 n (Nat.le_refl _) _ y1 w1 q)
set_option maxHeartbeats 4000000 in
theorem v_340_46 {n d : Nat} {w : eW} (hR : mRw w) (tl : eL) (y1 : Int) (w1 : eW) (q : mq w w1) : e_Pn 20 elay ecode eI n d 340 (46, (0, (1, 275)) :: (1, (0, y1)) :: tl, [], w1) (fun r w' => r = [] ∧ mq w w') := by
  exact e_Pn.ret0 rfl ⟨rfl, q⟩
set_option maxHeartbeats 4000000 in
theorem v_340_38 {n d : Nat} {w : eW} (hR : mRw w) (tl : eL) (y1 : Int) (w1 : eW) (q : mq w w1) : e_Pn 20 elay ecode eI n d 340 (38, (0, (1, 275)) :: (1, (0, y1)) :: tl, [], w1) (fun r w' => r = [] ∧ mq w w') := by
  refine e_Pn.run (t' := (6, (0, (1, 275)) :: (1, (0, y1)) :: tl, [], w1)) eAlk 1 rfl ?_
  exact e_Pn.ord eAlk [0, 1] rfl rfl (v_340_6 hR _ y1 w1 q)
set_option maxHeartbeats 4000000 in
theorem v_340_34 {n d : Nat} {w : eW} (hR : mRw w) (tl : eL) (y1 : Int) (w1 : eW) (q : mq w w1) : e_Pn 20 elay ecode eI n d 340 (34, (0, (1, 275)) :: (1, (0, y1)) :: tl, [], w1) (fun r w' => r = [] ∧ mq w w') := by
  refine e_Pn.run (t' := (35, (0, (1, 275)) :: (1, (0, y1)) :: tl, [(1, 275)], w1)) eAlk 1 rfl ?_
  refine e_Pn.callA rfl (fun n9 d9 => uE_all n9 342 (by decide) d9 _ (q.rf hR)) (fun r2 w3 h1 => ?_)
  obtain ⟨rfl, h1⟩ := h1
  have q4 := q.tr h1
  show e_Pn 20 elay ecode eI n d 340 (38, (0, (1, 275)) :: (1, (0, y1)) :: tl, [], w3) _
  exact e_Pn.ord eAlk [0, 1] rfl rfl (v_340_38 hR _ y1 w3 q4)
set_option maxHeartbeats 4000000 in
theorem v_340_29 {n d : Nat} {w : eW} (hR : mRw w) (tl : eL) (y1 : Int) (s0 : Int) (w1 : eW) (q : mq w w1) : e_Pn 20 elay ecode eI n d 340 (29, (0, (1, 275)) :: (1, (0, y1)) :: tl, [(0, s0)], w1) (fun r w' => r = [] ∧ mq w w') := by
  refine e_Pn.run (t' := (31, (1, (0, s0)) :: (0, (1, 275)) :: List.filter (e_flt 0 1) tl, [(1, 275)], w1)) eAlk 2 rfl ?_
  refine e_Pn.callA rfl (fun n9 d9 => u_327 (q.rf hR)) (fun r2 w3 h1 => ?_)
  obtain ⟨rfl, h1⟩ := h1
  have q4 := q.tr h1
  show e_Pn 20 elay ecode eI n d 340 (34, (1, (0, s0)) :: (0, (1, 275)) :: List.filter (e_flt 0 1) tl, [], w3) _
  exact e_Pn.ord eAlk [0, 1] rfl rfl (v_340_34 hR _ s0 w3 q4)
set_option maxHeartbeats 4000000 in
theorem v_340_19 {n d : Nat} {w : eW} (hR : mRw w) (tl : eL) (y1 : Int) (s0 : Int) (w1 : eW) (q : mq w w1) : e_Pn 20 elay ecode eI n d 340 (19, (0, (1, 275)) :: (1, (0, y1)) :: tl, [(0, s0)], w1) (fun r w' => r = [] ∧ mq w w') := by
  refine e_Pn.if1 eAlk rfl (fun h1 => ?_) (fun h1 => ?_)
  · show e_Pn 20 elay ecode eI n d 340 (41, (0, (1, 275)) :: (1, (0, y1)) :: tl, [], w1) _
    refine e_Pn.run (t' := (43, (0, (1, 275)) :: (1, (0, y1)) :: tl, [(0, y1), (1, 275)], w1)) eAlk 2 rfl ?_
    refine e_Pn.callA rfl (fun n9 d9 => u_341 (q.rf hR)) (fun r3 w4 h2 => ?_)
    obtain ⟨rfl, h2⟩ := h2
    have q5 := q.tr h2
    show e_Pn 20 elay ecode eI n d 340 (46, (0, (1, 275)) :: (1, (0, y1)) :: tl, [], w4) _
    exact e_Pn.ord eAlk [0, 1] rfl rfl (v_340_46 hR _ y1 w4 q5)
  · show e_Pn 20 elay ecode eI n d 340 (22, (0, (1, 275)) :: (1, (0, y1)) :: tl, [], w1) _
    refine e_Pn.run (t' := (26, (0, (1, 275)) :: (1, (0, y1)) :: tl, [(0, y1), (0, 23), (1, 275)], w1)) eAlk 3 rfl ?_
    refine e_Pn.callA rfl (fun n9 d9 => u_336 (q.rf hR)) (fun r7 w8 h6 => ?_)
    obtain ⟨⟨z9, rfl⟩, h6⟩ := h6
    have q10 := q.tr h6
    show e_Pn 20 elay ecode eI n d 340 (29, (0, (1, 275)) :: (1, (0, y1)) :: tl, [(0, z9)], w8) _
    exact e_Pn.ord eAlk [0, 1] rfl rfl (v_340_29 hR _ y1 z9 w8 q10)
set_option maxHeartbeats 4000000 in
theorem v_340_4 {n d : Nat} {w : eW} (hR : mRw w) (tl : eL) (w1 : eW) (q : mq w w1) : e_Pn 20 elay ecode eI n d 340 (4, (0, (1, 275)) :: tl, [], w1) (fun r w' => r = [] ∧ mq w w') := by
  refine e_Pn.run (t' := (6, (1, (0, (-1))) :: (0, (1, 275)) :: List.filter (e_flt 0 1) tl, [], w1)) eAlk 2 rfl ?_
  exact e_Pn.ord eAlk [0, 1] rfl rfl (v_340_6 hR _ (-1) w1 q)
set_option maxHeartbeats 4000000 in
theorem v_342_174 {n d : Nat} {w : eW} (hR : mRw w) (tl : eL) (y1 : Int) (s0 : Int) (w1 : eW) (q : mq w w1) : e_Pn 20 elay ecode eI n d 342 (174, (0, (1, 275)) :: (1, (0, y1)) :: tl, [(0, s0)], w1) (fun r w' => r = [] ∧ mq w w') := by
  refine e_Pn.run (t' := (175, (0, (1, 275)) :: (1, (0, y1)) :: tl, [], w1)) eAlk 1 rfl ?_
  exact e_Pn.ret0 rfl ⟨rfl, q⟩
set_option maxHeartbeats 4000000 in
theorem v_342_168 {n d : Nat} {w : eW} (hR : mRw w) (tl : eL) (y1 : Int) (w1 : eW) (q : mq w w1) : e_Pn 20 elay ecode eI n d 342 (168, (0, (1, 275)) :: (1, (0, y1)) :: tl, [], w1) (fun r w' => r = [] ∧ mq w w') := by
  refine e_Pn.run (t' := (171, (0, (1, 275)) :: (1, (0, y1)) :: tl, [(0, 0), (0, y1), (1, 275)], w1)) eAlk 3 rfl ?_
  refine e_Pn.callA rfl (fun n9 d9 => u_336 (q.rf hR)) (fun r2 w3 h1 => ?_)
  obtain ⟨⟨z4, rfl⟩, h1⟩ := h1
  have q5 := q.tr h1
  show e_Pn 20 elay ecode eI n d 342 (174, (0, (1, 275)) :: (1, (0, y1)) :: tl, [(0, z4)], w3) _
  exact e_Pn.ord eAlk [0, 1] rfl rfl (v_342_174 hR _ y1 z4 w3 q5)
set_option maxHeartbeats 4000000 in
theorem v_342_164 {n d : Nat} {w : eW} (hR : mRw w) (tl : eL) (y1 : Int) (w1 : eW) (q : mq w w1) : e_Pn 20 elay ecode eI n d 342 (164, (0, (1, 275)) :: (1, (0, y1)) :: tl, [], w1) (fun r w' => r = [] ∧ mq w w') := by
  refine e_Pn.run (t' := (165, (0, (1, 275)) :: (1, (0, y1)) :: tl, [(1, 275)], w1)) eAlk 1 rfl ?_
  refine e_Pn.callA rfl (fun n9 d9 => uE_all n9 343 (by decide) d9 _ (q.rf hR)) (fun r2 w3 h1 => ?_)
  obtain ⟨rfl, h1⟩ := h1
  have q4 := q.tr h1
  show e_Pn 20 elay ecode eI n d 342 (168, (0, (1, 275)) :: (1, (0, y1)) :: tl, [], w3) _
  exact e_Pn.ord eAlk [0, 1] rfl rfl (v_342_168 hR _ y1 w3 q4)
set_option maxHeartbeats 4000000 in
theorem v_342_51 {n d : Nat} {w : eW} (hR : mRw w) (tl : eL) (w1 : eW) (q : mq w w1) : e_Pn 20 elay ecode eI n d 342 (51, (0, (1, 275)) :: tl, [], w1) (fun r w' => r = [] ∧ mq w w') := by
  refine e_Pn.run (t' := (52, (0, (1, 275)) :: tl, [(1, 275)], w1)) eAlk 1 rfl ?_
  refine e_Pn.getf (z := w1 275 88) eAlk rfl rfl rfl (fun b1 => ?_)
  refine e_Pn.if1 eAlk rfl (fun h2 => ?_) (fun h2 => ?_)
  · show e_Pn 20 elay ecode eI n d 342 (66, (0, (1, 275)) :: tl, [], w1) _
    refine e_Pn.run (t' := (157, (1, (0, 0)) :: (0, (1, 275)) :: List.filter (e_flt 0 1) tl, [(0, 0)], w1)) eAlk 4 rfl ?_
    refine e_Pn.if1 eAlk rfl (fun h3 => ?_) (fun h3 => ?_)
    rotate_left
    · exfalso; have q9 : ¬ ((0 : Int) = 0) := h3; omega
    show e_Pn 20 elay ecode eI n d 342 (175, (1, (0, 0)) :: (0, (1, 275)) :: List.filter (e_flt 0 1) tl, [], w1) _
    exact e_Pn.ret0 rfl ⟨rfl, q⟩
  · show e_Pn 20 elay ecode eI n d 342 (58, (0, (1, 275)) :: tl, [], w1) _
    refine e_Pn.run (t' := (59, (0, (1, 275)) :: tl, [(1, 275)], w1)) eAlk 1 rfl ?_
    refine e_Pn.getf (z := w1 275 84) eAlk rfl rfl rfl (fun b4 => ?_)
    refine e_Pn.run (t' := (63, (0, (1, 275)) :: tl, [(0, 3), (0, w1 275 84)], w1)) eAlk 1 rfl ?_
    refine e_Pn.if2 eAlk rfl (fun h5 => ?_) (fun h5 => ?_)
    · show e_Pn 20 elay ecode eI n d 342 (70, (0, (1, 275)) :: tl, [], w1) _
      refine e_Pn.run (t' := (71, (0, (1, 275)) :: tl, [(1, 275)], w1)) eAlk 1 rfl ?_
      refine e_Pn.getf (z := w1 275 85) eAlk rfl rfl rfl (fun b6 => ?_)
      refine e_Pn.run (t' := (76, (0, (1, 275)) :: tl, [(0, 61), (0, w1 275 85)], w1)) eAlk 1 rfl ?_
      refine e_Pn.if2 eAlk rfl (fun h7 => ?_) (fun h7 => ?_)
      · show e_Pn 20 elay ecode eI n d 342 (84, (0, (1, 275)) :: tl, [], w1) _
        refine e_Pn.run (t' := (85, (0, (1, 275)) :: tl, [(1, 275)], w1)) eAlk 1 rfl ?_
        refine e_Pn.getf (z := w1 275 85) eAlk rfl rfl rfl (fun b8 => ?_)
        refine e_Pn.run (t' := (90, (0, (1, 275)) :: tl, [(0, 110), (0, w1 275 85)], w1)) eAlk 1 rfl ?_
        refine e_Pn.if2 eAlk rfl (fun h9 => ?_) (fun h9 => ?_)
        · show e_Pn 20 elay ecode eI n d 342 (98, (0, (1, 275)) :: tl, [], w1) _
          refine e_Pn.run (t' := (99, (0, (1, 275)) :: tl, [(1, 275)], w1)) eAlk 1 rfl ?_
          refine e_Pn.getf (z := w1 275 85) eAlk rfl rfl rfl (fun b10 => ?_)
          refine e_Pn.run (t' := (104, (0, (1, 275)) :: tl, [(0, 60), (0, w1 275 85)], w1)) eAlk 1 rfl ?_
          refine e_Pn.if2 eAlk rfl (fun h11 => ?_) (fun h11 => ?_)
          · show e_Pn 20 elay ecode eI n d 342 (112, (0, (1, 275)) :: tl, [], w1) _
            refine e_Pn.run (t' := (113, (0, (1, 275)) :: tl, [(1, 275)], w1)) eAlk 1 rfl ?_
            refine e_Pn.getf (z := w1 275 85) eAlk rfl rfl rfl (fun b12 => ?_)
            refine e_Pn.run (t' := (118, (0, (1, 275)) :: tl, [(0, 108), (0, w1 275 85)], w1)) eAlk 1 rfl ?_
            refine e_Pn.if2 eAlk rfl (fun h13 => ?_) (fun h13 => ?_)
            · show e_Pn 20 elay ecode eI n d 342 (126, (0, (1, 275)) :: tl, [], w1) _
              refine e_Pn.run (t' := (127, (0, (1, 275)) :: tl, [(1, 275)], w1)) eAlk 1 rfl ?_
              refine e_Pn.getf (z := w1 275 85) eAlk rfl rfl rfl (fun b14 => ?_)
              refine e_Pn.run (t' := (132, (0, (1, 275)) :: tl, [(0, 62), (0, w1 275 85)], w1)) eAlk 1 rfl ?_
              refine e_Pn.if2 eAlk rfl (fun h15 => ?_) (fun h15 => ?_)
              · show e_Pn 20 elay ecode eI n d 342 (140, (0, (1, 275)) :: tl, [], w1) _
                refine e_Pn.run (t' := (141, (0, (1, 275)) :: tl, [(1, 275)], w1)) eAlk 1 rfl ?_
                refine e_Pn.getf (z := w1 275 85) eAlk rfl rfl rfl (fun b16 => ?_)
                refine e_Pn.run (t' := (146, (0, (1, 275)) :: tl, [(0, 103), (0, w1 275 85)], w1)) eAlk 1 rfl ?_
                refine e_Pn.if2 eAlk rfl (fun h17 => ?_) (fun h17 => ?_)
                · show e_Pn 20 elay ecode eI n d 342 (154, (0, (1, 275)) :: tl, [], w1) _
                  refine e_Pn.run (t' := (157, (1, (0, 0)) :: (0, (1, 275)) :: List.filter (e_flt 0 1) tl, [(0, 0)], w1)) eAlk 3 rfl ?_
                  refine e_Pn.if1 eAlk rfl (fun h18 => ?_) (fun h18 => ?_)
                  rotate_left
                  · exfalso; have q9 : ¬ ((0 : Int) = 0) := h18; omega
                  show e_Pn 20 elay ecode eI n d 342 (175, (1, (0, 0)) :: (0, (1, 275)) :: List.filter (e_flt 0 1) tl, [], w1) _
                  exact e_Pn.ret0 rfl ⟨rfl, q⟩
                · show e_Pn 20 elay ecode eI n d 342 (149, (0, (1, 275)) :: tl, [], w1) _
                  refine e_Pn.run (t' := (157, (1, (0, 20)) :: (0, (1, 275)) :: List.filter (e_flt 0 1) tl, [(0, 20)], w1)) eAlk 4 rfl ?_
                  refine e_Pn.if1 eAlk rfl (fun h19 => ?_) (fun h19 => ?_)
                  · exfalso; replace h19 : (20 : Int) = 0 := h19; omega
                  show e_Pn 20 elay ecode eI n d 342 (160, (1, (0, 20)) :: (0, (1, 275)) :: List.filter (e_flt 0 1) tl, [], w1) _
                  refine e_Pn.run (t' := (161, (1, (0, 20)) :: (0, (1, 275)) :: List.filter (e_flt 0 1) tl, [(1, 275)], w1)) eAlk 1 rfl ?_
                  refine e_Pn.callA rfl (fun n9 d9 => u_327 (q.rf hR)) (fun r21 w22 h20 => ?_)
                  obtain ⟨rfl, h20⟩ := h20
                  have q23 := q.tr h20
                  show e_Pn 20 elay ecode eI n d 342 (164, (1, (0, 20)) :: (0, (1, 275)) :: List.filter (e_flt 0 1) tl, [], w22) _
                  exact e_Pn.ord eAlk [0, 1] rfl rfl (v_342_164 hR _ 20 w22 q23)
              · show e_Pn 20 elay ecode eI n d 342 (135, (0, (1, 275)) :: tl, [], w1) _
                refine e_Pn.run (t' := (157, (1, (0, 19)) :: (0, (1, 275)) :: List.filter (e_flt 0 1) tl, [(0, 19)], w1)) eAlk 4 rfl ?_
                refine e_Pn.if1 eAlk rfl (fun h24 => ?_) (fun h24 => ?_)
                · exfalso; replace h24 : (19 : Int) = 0 := h24; omega
                show e_Pn 20 elay ecode eI n d 342 (160, (1, (0, 19)) :: (0, (1, 275)) :: List.filter (e_flt 0 1) tl, [], w1) _
                refine e_Pn.run (t' := (161, (1, (0, 19)) :: (0, (1, 275)) :: List.filter (e_flt 0 1) tl, [(1, 275)], w1)) eAlk 1 rfl ?_
                refine e_Pn.callA rfl (fun n9 d9 => u_327 (q.rf hR)) (fun r26 w27 h25 => ?_)
                obtain ⟨rfl, h25⟩ := h25
                have q28 := q.tr h25
                show e_Pn 20 elay ecode eI n d 342 (164, (1, (0, 19)) :: (0, (1, 275)) :: List.filter (e_flt 0 1) tl, [], w27) _
                exact e_Pn.ord eAlk [0, 1] rfl rfl (v_342_164 hR _ 19 w27 q28)
            · show e_Pn 20 elay ecode eI n d 342 (121, (0, (1, 275)) :: tl, [], w1) _
              refine e_Pn.run (t' := (157, (1, (0, 18)) :: (0, (1, 275)) :: List.filter (e_flt 0 1) tl, [(0, 18)], w1)) eAlk 4 rfl ?_
              refine e_Pn.if1 eAlk rfl (fun h29 => ?_) (fun h29 => ?_)
              · exfalso; replace h29 : (18 : Int) = 0 := h29; omega
              show e_Pn 20 elay ecode eI n d 342 (160, (1, (0, 18)) :: (0, (1, 275)) :: List.filter (e_flt 0 1) tl, [], w1) _
              refine e_Pn.run (t' := (161, (1, (0, 18)) :: (0, (1, 275)) :: List.filter (e_flt 0 1) tl, [(1, 275)], w1)) eAlk 1 rfl ?_
              refine e_Pn.callA rfl (fun n9 d9 => u_327 (q.rf hR)) (fun r31 w32 h30 => ?_)
              obtain ⟨rfl, h30⟩ := h30
              have q33 := q.tr h30
              show e_Pn 20 elay ecode eI n d 342 (164, (1, (0, 18)) :: (0, (1, 275)) :: List.filter (e_flt 0 1) tl, [], w32) _
              exact e_Pn.ord eAlk [0, 1] rfl rfl (v_342_164 hR _ 18 w32 q33)
          · show e_Pn 20 elay ecode eI n d 342 (107, (0, (1, 275)) :: tl, [], w1) _
            refine e_Pn.run (t' := (157, (1, (0, 17)) :: (0, (1, 275)) :: List.filter (e_flt 0 1) tl, [(0, 17)], w1)) eAlk 4 rfl ?_
            refine e_Pn.if1 eAlk rfl (fun h34 => ?_) (fun h34 => ?_)
            · exfalso; replace h34 : (17 : Int) = 0 := h34; omega
            show e_Pn 20 elay ecode eI n d 342 (160, (1, (0, 17)) :: (0, (1, 275)) :: List.filter (e_flt 0 1) tl, [], w1) _
            refine e_Pn.run (t' := (161, (1, (0, 17)) :: (0, (1, 275)) :: List.filter (e_flt 0 1) tl, [(1, 275)], w1)) eAlk 1 rfl ?_
            refine e_Pn.callA rfl (fun n9 d9 => u_327 (q.rf hR)) (fun r36 w37 h35 => ?_)
            obtain ⟨rfl, h35⟩ := h35
            have q38 := q.tr h35
            show e_Pn 20 elay ecode eI n d 342 (164, (1, (0, 17)) :: (0, (1, 275)) :: List.filter (e_flt 0 1) tl, [], w37) _
            exact e_Pn.ord eAlk [0, 1] rfl rfl (v_342_164 hR _ 17 w37 q38)
        · show e_Pn 20 elay ecode eI n d 342 (93, (0, (1, 275)) :: tl, [], w1) _
          refine e_Pn.run (t' := (157, (1, (0, 16)) :: (0, (1, 275)) :: List.filter (e_flt 0 1) tl, [(0, 16)], w1)) eAlk 4 rfl ?_
          refine e_Pn.if1 eAlk rfl (fun h39 => ?_) (fun h39 => ?_)
          · exfalso; replace h39 : (16 : Int) = 0 := h39; omega
          show e_Pn 20 elay ecode eI n d 342 (160, (1, (0, 16)) :: (0, (1, 275)) :: List.filter (e_flt 0 1) tl, [], w1) _
          refine e_Pn.run (t' := (161, (1, (0, 16)) :: (0, (1, 275)) :: List.filter (e_flt 0 1) tl, [(1, 275)], w1)) eAlk 1 rfl ?_
          refine e_Pn.callA rfl (fun n9 d9 => u_327 (q.rf hR)) (fun r41 w42 h40 => ?_)
          obtain ⟨rfl, h40⟩ := h40
          have q43 := q.tr h40
          show e_Pn 20 elay ecode eI n d 342 (164, (1, (0, 16)) :: (0, (1, 275)) :: List.filter (e_flt 0 1) tl, [], w42) _
          exact e_Pn.ord eAlk [0, 1] rfl rfl (v_342_164 hR _ 16 w42 q43)
      · show e_Pn 20 elay ecode eI n d 342 (79, (0, (1, 275)) :: tl, [], w1) _
        refine e_Pn.run (t' := (157, (1, (0, 15)) :: (0, (1, 275)) :: List.filter (e_flt 0 1) tl, [(0, 15)], w1)) eAlk 4 rfl ?_
        refine e_Pn.if1 eAlk rfl (fun h44 => ?_) (fun h44 => ?_)
        · exfalso; replace h44 : (15 : Int) = 0 := h44; omega
        show e_Pn 20 elay ecode eI n d 342 (160, (1, (0, 15)) :: (0, (1, 275)) :: List.filter (e_flt 0 1) tl, [], w1) _
        refine e_Pn.run (t' := (161, (1, (0, 15)) :: (0, (1, 275)) :: List.filter (e_flt 0 1) tl, [(1, 275)], w1)) eAlk 1 rfl ?_
        refine e_Pn.callA rfl (fun n9 d9 => u_327 (q.rf hR)) (fun r46 w47 h45 => ?_)
        obtain ⟨rfl, h45⟩ := h45
        have q48 := q.tr h45
        show e_Pn 20 elay ecode eI n d 342 (164, (1, (0, 15)) :: (0, (1, 275)) :: List.filter (e_flt 0 1) tl, [], w47) _
        exact e_Pn.ord eAlk [0, 1] rfl rfl (v_342_164 hR _ 15 w47 q48)
    · show e_Pn 20 elay ecode eI n d 342 (66, (0, (1, 275)) :: tl, [], w1) _
      refine e_Pn.run (t' := (157, (1, (0, 0)) :: (0, (1, 275)) :: List.filter (e_flt 0 1) tl, [(0, 0)], w1)) eAlk 4 rfl ?_
      refine e_Pn.if1 eAlk rfl (fun h49 => ?_) (fun h49 => ?_)
      rotate_left
      · exfalso; have q9 : ¬ ((0 : Int) = 0) := h49; omega
      show e_Pn 20 elay ecode eI n d 342 (175, (1, (0, 0)) :: (0, (1, 275)) :: List.filter (e_flt 0 1) tl, [], w1) _
      exact e_Pn.ret0 rfl ⟨rfl, q⟩
set_option maxHeartbeats 4000000 in
theorem v_342_45 {n d : Nat} {w : eW} (hR : mRw w) (tl : eL) (s0 : Int) (w1 : eW) (q : mq w w1) : e_Pn 20 elay ecode eI n d 342 (45, (0, (1, 275)) :: tl, [(0, s0)], w1) (fun r w' => r = [] ∧ mq w w') := by
  refine e_Pn.run (t' := (46, (0, (1, 275)) :: tl, [], w1)) eAlk 1 rfl ?_
  exact e_Pn.ret0 rfl ⟨rfl, q⟩
set_option maxHeartbeats 4000000 in
theorem v_342_28 {n d : Nat} {w : eW} (hR : mRw w) (tl : eL) (w1 : eW) (q : mq w w1) : e_Pn 20 elay ecode eI n d 342 (28, (0, (1, 275)) :: tl, [], w1) (fun r w' => r = [] ∧ mq w w') := by
  refine e_Pn.run (t' := (30, (0, (1, 275)) :: tl, [(1, 275), (1, 275)], w1)) eAlk 2 rfl ?_
  refine e_Pn.getf (z := w1 275 83) eAlk rfl rfl rfl (fun b1 => ?_)
  refine e_Pn.run (t' := (34, (0, (1, 275)) :: tl, [(0, 1), (0, w1 275 83), (1, 275)], w1)) eAlk 1 rfl ?_
  refine e_Pn.bin0 eAlk rfl (fun z2 hz2 => ?_)
  refine e_Pn.putf eAlk rfl rfl ?_
  generalize hw3 : e_up w1 275 83 z2 = w3
  have q4 : mq w w3 := mq.upF q hw3 (by decide) (by decide +kernel)
  refine e_Pn.run (t' := (42, (0, (1, 275)) :: tl, [(0, 0), (0, 21), (1, 275)], w3)) eAlk 3 rfl ?_
  refine e_Pn.callA rfl (fun n9 d9 => u_336 (q4.rf hR)) (fun r6 w7 h5 => ?_)
  obtain ⟨⟨z8, rfl⟩, h5⟩ := h5
  have q9 := q4.tr h5
  show e_Pn 20 elay ecode eI n d 342 (45, (0, (1, 275)) :: tl, [(0, z8)], w7) _
  exact e_Pn.ord eAlk [0] rfl rfl (v_342_45 hR _ z8 w7 q9)
set_option maxHeartbeats 4000000 in
theorem v_342_24 {n d : Nat} {w : eW} (hR : mRw w) (tl : eL) (w1 : eW) (q : mq w w1) : e_Pn 20 elay ecode eI n d 342 (24, (0, (1, 275)) :: tl, [], w1) (fun r w' => r = [] ∧ mq w w') := by
  refine e_Pn.run (t' := (25, (0, (1, 275)) :: tl, [(1, 275)], w1)) eAlk 1 rfl ?_
  refine e_Pn.callA rfl (fun n9 d9 => uE_all n9 342 (by decide) d9 _ (q.rf hR)) (fun r2 w3 h1 => ?_)
  obtain ⟨rfl, h1⟩ := h1
  have q4 := q.tr h1
  show e_Pn 20 elay ecode eI n d 342 (28, (0, (1, 275)) :: tl, [], w3) _
  exact e_Pn.ord eAlk [0] rfl rfl (v_342_28 hR _ w3 q4)
set_option maxHeartbeats 4000000 in
theorem v_342_20 {n d : Nat} {w : eW} (hR : mRw w) (tl : eL) (w1 : eW) (q : mq w w1) : e_Pn 20 elay ecode eI n d 342 (20, (0, (1, 275)) :: tl, [], w1) (fun r w' => r = [] ∧ mq w w') := by
  refine e_Pn.run (t' := (21, (0, (1, 275)) :: tl, [(1, 275)], w1)) eAlk 1 rfl ?_
  refine e_Pn.callA rfl (fun n9 d9 => u_327 (q.rf hR)) (fun r2 w3 h1 => ?_)
  obtain ⟨rfl, h1⟩ := h1
  have q4 := q.tr h1
  show e_Pn 20 elay ecode eI n d 342 (24, (0, (1, 275)) :: tl, [], w3) _
  exact e_Pn.ord eAlk [0] rfl rfl (v_342_24 hR _ w3 q4)
set_option maxHeartbeats 4000000 in
theorem v_342_13 {n d : Nat} {w : eW} (hR : mRw w) (tl : eL) (s0 : Int) (w1 : eW) (q : mq w w1) : e_Pn 20 elay ecode eI n d 342 (13, (0, (1, 275)) :: tl, [(0, s0)], w1) (fun r w' => r = [] ∧ mq w w') := by
  refine e_Pn.if1 eAlk rfl (fun h1 => ?_) (fun h1 => ?_)
  · show e_Pn 20 elay ecode eI n d 342 (47, (0, (1, 275)) :: tl, [], w1) _
    refine e_Pn.run (t' := (48, (0, (1, 275)) :: tl, [(1, 275)], w1)) eAlk 1 rfl ?_
    refine e_Pn.callA rfl (fun n9 d9 => uE_all n9 343 (by decide) d9 _ (q.rf hR)) (fun r3 w4 h2 => ?_)
    obtain ⟨rfl, h2⟩ := h2
    have q5 := q.tr h2
    show e_Pn 20 elay ecode eI n d 342 (51, (0, (1, 275)) :: tl, [], w4) _
    exact e_Pn.ord eAlk [0] rfl rfl (v_342_51 hR _ w4 q5)
  · show e_Pn 20 elay ecode eI n d 342 (16, (0, (1, 275)) :: tl, [], w1) _
    refine e_Pn.run (t' := (17, (0, (1, 275)) :: tl, [(1, 275)], w1)) eAlk 1 rfl ?_
    refine e_Pn.callA rfl (fun n9 d9 => u_335 (q.rf hR)) (fun r7 w8 h6 => ?_)
    obtain ⟨rfl, h6⟩ := h6
    have q9 := q.tr h6
    show e_Pn 20 elay ecode eI n d 342 (20, (0, (1, 275)) :: tl, [], w8) _
    exact e_Pn.ord eAlk [0] rfl rfl (v_342_20 hR _ w8 q9)
set_option maxHeartbeats 4000000 in
theorem v_343_4 {n d : Nat} {w : eW} (hR : mRw w) (tl : eL) (w1 : eW) (q : mq w w1) : e_Pn 20 elay ecode eI n d 343 (4, (0, (1, 275)) :: tl, [], w1) (fun r w' => r = [] ∧ mq w w') := by
  have hL1 : ∀ nn3 : Nat, nn3 ≤ n → ∀ (tl4 : eL) (w5 : eW), mq w w5 → e_Pn 20 elay ecode eI nn3 d 343 (4, (0, (1, 275)) :: tl4, [], w5) (fun r w' => r = [] ∧ mq w w') := by
    intro nn3
    induction nn3 with
    | zero => intro _ tl4 w5 _; exact e_Pn.zero
    | succ nn3 ih2 =>
      intro hnnn3 tl4 w5 q6
      refine e_Pn.runS (t' := (5, (0, (1, 275)) :: tl4, [(1, 275)], w5)) eAlk 0 rfl ?_
      refine e_Pn.getf (z := w5 275 88) eAlk rfl rfl rfl (fun b7 => ?_)
      refine e_Pn.if1 eAlk rfl (fun h8 => ?_) (fun h8 => ?_)
      · show e_Pn 20 elay ecode eI nn3 d 343 (64, (0, (1, 275)) :: tl4, [], w5) _
        exact e_Pn.ret0 rfl ⟨rfl, q6⟩
      · show e_Pn 20 elay ecode eI nn3 d 343 (11, (0, (1, 275)) :: tl4, [], w5) _
        refine e_Pn.run (t' := (14, (0, (1, 275)) :: tl4, [(0, 43), (1, 275)], w5)) eAlk 2 rfl ?_
        refine e_Pn.callA rfl (fun n9 d9 => u_331 (q6.rf hR)) (fun r10 w11 h9 => ?_)
        obtain ⟨⟨z12, rfl⟩, h9⟩ := h9
        have q13 := q6.tr h9
        show e_Pn 20 elay ecode eI nn3 d 343 (17, (0, (1, 275)) :: tl4, [(0, z12)], w11) _
        refine e_Pn.if1 eAlk rfl (fun h14 => ?_) (fun h14 => ?_)
        · show e_Pn 20 elay ecode eI nn3 d 343 (29, (0, (1, 275)) :: tl4, [], w11) _
          refine e_Pn.run (t' := (30, (0, (1, 275)) :: tl4, [(1, 275)], w11)) eAlk 1 rfl ?_
          refine e_Pn.getf (z := w11 275 85) eAlk rfl rfl rfl (fun b15 => ?_)
          refine e_Pn.run (t' := (35, (0, (1, 275)) :: tl4, [(0, 43), (0, w11 275 85)], w11)) eAlk 1 rfl ?_
          refine e_Pn.if2 eAlk rfl (fun h16 => ?_) (fun h16 => ?_)
          · show e_Pn 20 elay ecode eI nn3 d 343 (43, (0, (1, 275)) :: tl4, [], w11) _
            refine e_Pn.run (t' := (47, (1, (0, 11)) :: (0, (1, 275)) :: List.filter (e_flt 0 1) tl4, [(1, 275)], w11)) eAlk 3 rfl ?_
            refine e_Pn.callA rfl (fun n9 d9 => u_327 (q13.rf hR)) (fun r18 w19 h17 => ?_)
            obtain ⟨rfl, h17⟩ := h17
            have q20 := q13.tr h17
            show e_Pn 20 elay ecode eI nn3 d 343 (50, (1, (0, 11)) :: (0, (1, 275)) :: List.filter (e_flt 0 1) tl4, [], w19) _
            refine e_Pn.run (t' := (51, (1, (0, 11)) :: (0, (1, 275)) :: List.filter (e_flt 0 1) tl4, [(1, 275)], w19)) eAlk 1 rfl ?_
            refine e_Pn.callA rfl (fun n9 d9 => uE_all n9 344 (by decide) d9 _ (q20.rf hR)) (fun r22 w23 h21 => ?_)
            obtain ⟨rfl, h21⟩ := h21
            have q24 := q20.tr h21
            show e_Pn 20 elay ecode eI nn3 d 343 (54, (1, (0, 11)) :: (0, (1, 275)) :: List.filter (e_flt 0 1) tl4, [], w23) _
            refine e_Pn.run (t' := (57, (1, (0, 11)) :: (0, (1, 275)) :: List.filter (e_flt 0 1) tl4, [(0, 0), (0, 11), (1, 275)], w23)) eAlk 3 rfl ?_
            refine e_Pn.callA rfl (fun n9 d9 => u_336 (q24.rf hR)) (fun r26 w27 h25 => ?_)
            obtain ⟨⟨z28, rfl⟩, h25⟩ := h25
            have q29 := q24.tr h25
            show e_Pn 20 elay ecode eI nn3 d 343 (60, (1, (0, 11)) :: (0, (1, 275)) :: List.filter (e_flt 0 1) tl4, [(0, z28)], w27) _
            refine e_Pn.run (t' := (4, (1, (0, 11)) :: (0, (1, 275)) :: List.filter (e_flt 0 1) tl4, [], w27)) eAlk 2 rfl ?_
            exact e_Pn.ord eAlk [0] rfl rfl ((ih2 (by omega) _ w27 q29).le (by omega))
          · show e_Pn 20 elay ecode eI nn3 d 343 (38, (0, (1, 275)) :: tl4, [], w11) _
            refine e_Pn.run (t' := (47, (1, (0, 10)) :: (0, (1, 275)) :: List.filter (e_flt 0 1) tl4, [(1, 275)], w11)) eAlk 4 rfl ?_
            refine e_Pn.callA rfl (fun n9 d9 => u_327 (q13.rf hR)) (fun r31 w32 h30 => ?_)
            obtain ⟨rfl, h30⟩ := h30
            have q33 := q13.tr h30
            show e_Pn 20 elay ecode eI nn3 d 343 (50, (1, (0, 10)) :: (0, (1, 275)) :: List.filter (e_flt 0 1) tl4, [], w32) _
            refine e_Pn.run (t' := (51, (1, (0, 10)) :: (0, (1, 275)) :: List.filter (e_flt 0 1) tl4, [(1, 275)], w32)) eAlk 1 rfl ?_
            refine e_Pn.callA rfl (fun n9 d9 => uE_all n9 344 (by decide) d9 _ (q33.rf hR)) (fun r35 w36 h34 => ?_)
            obtain ⟨rfl, h34⟩ := h34
            have q37 := q33.tr h34
            show e_Pn 20 elay ecode eI nn3 d 343 (54, (1, (0, 10)) :: (0, (1, 275)) :: List.filter (e_flt 0 1) tl4, [], w36) _
            refine e_Pn.run (t' := (57, (1, (0, 10)) :: (0, (1, 275)) :: List.filter (e_flt 0 1) tl4, [(0, 0), (0, 10), (1, 275)], w36)) eAlk 3 rfl ?_
            refine e_Pn.callA rfl (fun n9 d9 => u_336 (q37.rf hR)) (fun r39 w40 h38 => ?_)
            obtain ⟨⟨z41, rfl⟩, h38⟩ := h38
            have q42 := q37.tr h38
            show e_Pn 20 elay ecode eI nn3 d 343 (60, (1, (0, 10)) :: (0, (1, 275)) :: List.filter (e_flt 0 1) tl4, [(0, z41)], w40) _
            refine e_Pn.run (t' := (4, (1, (0, 10)) :: (0, (1, 275)) :: List.filter (e_flt 0 1) tl4, [], w40)) eAlk 2 rfl ?_
            exact e_Pn.ord eAlk [0] rfl rfl ((ih2 (by omega) _ w40 q42).le (by omega))
        · show e_Pn 20 elay ecode eI nn3 d 343 (20, (0, (1, 275)) :: tl4, [], w11) _
          refine e_Pn.run (t' := (23, (0, (1, 275)) :: tl4, [(0, 45), (1, 275)], w11)) eAlk 2 rfl ?_
          refine e_Pn.callA rfl (fun n9 d9 => u_331 (q13.rf hR)) (fun r44 w45 h43 => ?_)
          obtain ⟨⟨z46, rfl⟩, h43⟩ := h43
          have q47 := q13.tr h43
          show e_Pn 20 elay ecode eI nn3 d 343 (26, (0, (1, 275)) :: tl4, [(0, z46)], w45) _
          refine e_Pn.if1 eAlk rfl (fun h48 => ?_) (fun h48 => ?_)
          · show e_Pn 20 elay ecode eI nn3 d 343 (64, (0, (1, 275)) :: tl4, [], w45) _
            exact e_Pn.ret0 rfl ⟨rfl, q47⟩
          · show e_Pn 20 elay ecode eI nn3 d 343 (29, (0, (1, 275)) :: tl4, [], w45) _
            refine e_Pn.run (t' := (30, (0, (1, 275)) :: tl4, [(1, 275)], w45)) eAlk 1 rfl ?_
            refine e_Pn.getf (z := w45 275 85) eAlk rfl rfl rfl (fun b49 => ?_)
            refine e_Pn.run (t' := (35, (0, (1, 275)) :: tl4, [(0, 43), (0, w45 275 85)], w45)) eAlk 1 rfl ?_
            refine e_Pn.if2 eAlk rfl (fun h50 => ?_) (fun h50 => ?_)
            · show e_Pn 20 elay ecode eI nn3 d 343 (43, (0, (1, 275)) :: tl4, [], w45) _
              refine e_Pn.run (t' := (47, (1, (0, 11)) :: (0, (1, 275)) :: List.filter (e_flt 0 1) tl4, [(1, 275)], w45)) eAlk 3 rfl ?_
              refine e_Pn.callA rfl (fun n9 d9 => u_327 (q47.rf hR)) (fun r52 w53 h51 => ?_)
              obtain ⟨rfl, h51⟩ := h51
              have q54 := q47.tr h51
              show e_Pn 20 elay ecode eI nn3 d 343 (50, (1, (0, 11)) :: (0, (1, 275)) :: List.filter (e_flt 0 1) tl4, [], w53) _
              refine e_Pn.run (t' := (51, (1, (0, 11)) :: (0, (1, 275)) :: List.filter (e_flt 0 1) tl4, [(1, 275)], w53)) eAlk 1 rfl ?_
              refine e_Pn.callA rfl (fun n9 d9 => uE_all n9 344 (by decide) d9 _ (q54.rf hR)) (fun r56 w57 h55 => ?_)
              obtain ⟨rfl, h55⟩ := h55
              have q58 := q54.tr h55
              show e_Pn 20 elay ecode eI nn3 d 343 (54, (1, (0, 11)) :: (0, (1, 275)) :: List.filter (e_flt 0 1) tl4, [], w57) _
              refine e_Pn.run (t' := (57, (1, (0, 11)) :: (0, (1, 275)) :: List.filter (e_flt 0 1) tl4, [(0, 0), (0, 11), (1, 275)], w57)) eAlk 3 rfl ?_
              refine e_Pn.callA rfl (fun n9 d9 => u_336 (q58.rf hR)) (fun r60 w61 h59 => ?_)
              obtain ⟨⟨z62, rfl⟩, h59⟩ := h59
              have q63 := q58.tr h59
              show e_Pn 20 elay ecode eI nn3 d 343 (60, (1, (0, 11)) :: (0, (1, 275)) :: List.filter (e_flt 0 1) tl4, [(0, z62)], w61) _
              refine e_Pn.run (t' := (4, (1, (0, 11)) :: (0, (1, 275)) :: List.filter (e_flt 0 1) tl4, [], w61)) eAlk 2 rfl ?_
              exact e_Pn.ord eAlk [0] rfl rfl ((ih2 (by omega) _ w61 q63).le (by omega))
            · show e_Pn 20 elay ecode eI nn3 d 343 (38, (0, (1, 275)) :: tl4, [], w45) _
              refine e_Pn.run (t' := (47, (1, (0, 10)) :: (0, (1, 275)) :: List.filter (e_flt 0 1) tl4, [(1, 275)], w45)) eAlk 4 rfl ?_
              refine e_Pn.callA rfl (fun n9 d9 => u_327 (q47.rf hR)) (fun r65 w66 h64 => ?_)
              obtain ⟨rfl, h64⟩ := h64
              have q67 := q47.tr h64
              show e_Pn 20 elay ecode eI nn3 d 343 (50, (1, (0, 10)) :: (0, (1, 275)) :: List.filter (e_flt 0 1) tl4, [], w66) _
              refine e_Pn.run (t' := (51, (1, (0, 10)) :: (0, (1, 275)) :: List.filter (e_flt 0 1) tl4, [(1, 275)], w66)) eAlk 1 rfl ?_
              refine e_Pn.callA rfl (fun n9 d9 => uE_all n9 344 (by decide) d9 _ (q67.rf hR)) (fun r69 w70 h68 => ?_)
              obtain ⟨rfl, h68⟩ := h68
              have q71 := q67.tr h68
              show e_Pn 20 elay ecode eI nn3 d 343 (54, (1, (0, 10)) :: (0, (1, 275)) :: List.filter (e_flt 0 1) tl4, [], w70) _
              refine e_Pn.run (t' := (57, (1, (0, 10)) :: (0, (1, 275)) :: List.filter (e_flt 0 1) tl4, [(0, 0), (0, 10), (1, 275)], w70)) eAlk 3 rfl ?_
              refine e_Pn.callA rfl (fun n9 d9 => u_336 (q71.rf hR)) (fun r73 w74 h72 => ?_)
              obtain ⟨⟨z75, rfl⟩, h72⟩ := h72
              have q76 := q71.tr h72
              show e_Pn 20 elay ecode eI nn3 d 343 (60, (1, (0, 10)) :: (0, (1, 275)) :: List.filter (e_flt 0 1) tl4, [(0, z75)], w74) _
              refine e_Pn.run (t' := (4, (1, (0, 10)) :: (0, (1, 275)) :: List.filter (e_flt 0 1) tl4, [], w74)) eAlk 2 rfl ?_
              exact e_Pn.ord eAlk [0] rfl rfl ((ih2 (by omega) _ w74 q76).le (by omega))
  exact e_Pn.ord eAlk [0] rfl rfl (hL1 n (Nat.le_refl _) _ w1 q)
set_option maxHeartbeats 4000000 in
theorem v_343_60 {n d : Nat} {w : eW} (hR : mRw w) (tl : eL) (y1 : Int) (s0 : Int) (w1 : eW) (q : mq w w1) : e_Pn 20 elay ecode eI n d 343 (60, (0, (1, 275)) :: (1, (0, y1)) :: tl, [(0, s0)], w1) (fun r w' => r = [] ∧ mq w w') := by
  refine e_Pn.run (t' := (4, (0, (1, 275)) :: (1, (0, y1)) :: tl, [], w1)) eAlk 2 rfl ?_
  exact e_Pn.ord eAlk [0] rfl rfl (v_343_4 hR _ w1 q)
set_option maxHeartbeats 4000000 in
theorem v_343_54 {n d : Nat} {w : eW} (hR : mRw w) (tl : eL) (y1 : Int) (w1 : eW) (q : mq w w1) : e_Pn 20 elay ecode eI n d 343 (54, (0, (1, 275)) :: (1, (0, y1)) :: tl, [], w1) (fun r w' => r = [] ∧ mq w w') := by
  refine e_Pn.run (t' := (57, (0, (1, 275)) :: (1, (0, y1)) :: tl, [(0, 0), (0, y1), (1, 275)], w1)) eAlk 3 rfl ?_
  refine e_Pn.callA rfl (fun n9 d9 => u_336 (q.rf hR)) (fun r2 w3 h1 => ?_)
  obtain ⟨⟨z4, rfl⟩, h1⟩ := h1
  have q5 := q.tr h1
  show e_Pn 20 elay ecode eI n d 343 (60, (0, (1, 275)) :: (1, (0, y1)) :: tl, [(0, z4)], w3) _
  exact e_Pn.ord eAlk [0, 1] rfl rfl (v_343_60 hR _ y1 z4 w3 q5)
set_option maxHeartbeats 4000000 in
theorem v_343_50 {n d : Nat} {w : eW} (hR : mRw w) (tl : eL) (y1 : Int) (w1 : eW) (q : mq w w1) : e_Pn 20 elay ecode eI n d 343 (50, (0, (1, 275)) :: (1, (0, y1)) :: tl, [], w1) (fun r w' => r = [] ∧ mq w w') := by
  refine e_Pn.run (t' := (51, (0, (1, 275)) :: (1, (0, y1)) :: tl, [(1, 275)], w1)) eAlk 1 rfl ?_
  refine e_Pn.callA rfl (fun n9 d9 => uE_all n9 344 (by decide) d9 _ (q.rf hR)) (fun r2 w3 h1 => ?_)
  obtain ⟨rfl, h1⟩ := h1
  have q4 := q.tr h1
  show e_Pn 20 elay ecode eI n d 343 (54, (0, (1, 275)) :: (1, (0, y1)) :: tl, [], w3) _
  exact e_Pn.ord eAlk [0, 1] rfl rfl (v_343_54 hR _ y1 w3 q4)
set_option maxHeartbeats 4000000 in
theorem v_343_26 {n d : Nat} {w : eW} (hR : mRw w) (tl : eL) (s0 : Int) (w1 : eW) (q : mq w w1) : e_Pn 20 elay ecode eI n d 343 (26, (0, (1, 275)) :: tl, [(0, s0)], w1) (fun r w' => r = [] ∧ mq w w') := by
  refine e_Pn.if1 eAlk rfl (fun h1 => ?_) (fun h1 => ?_)
  · show e_Pn 20 elay ecode eI n d 343 (64, (0, (1, 275)) :: tl, [], w1) _
    exact e_Pn.ret0 rfl ⟨rfl, q⟩
  · show e_Pn 20 elay ecode eI n d 343 (29, (0, (1, 275)) :: tl, [], w1) _
    refine e_Pn.run (t' := (30, (0, (1, 275)) :: tl, [(1, 275)], w1)) eAlk 1 rfl ?_
    refine e_Pn.getf (z := w1 275 85) eAlk rfl rfl rfl (fun b2 => ?_)
    refine e_Pn.run (t' := (35, (0, (1, 275)) :: tl, [(0, 43), (0, w1 275 85)], w1)) eAlk 1 rfl ?_
    refine e_Pn.if2 eAlk rfl (fun h3 => ?_) (fun h3 => ?_)
    · show e_Pn 20 elay ecode eI n d 343 (43, (0, (1, 275)) :: tl, [], w1) _
      refine e_Pn.run (t' := (47, (1, (0, 11)) :: (0, (1, 275)) :: List.filter (e_flt 0 1) tl, [(1, 275)], w1)) eAlk 3 rfl ?_
      refine e_Pn.callA rfl (fun n9 d9 => u_327 (q.rf hR)) (fun r5 w6 h4 => ?_)
      obtain ⟨rfl, h4⟩ := h4
      have q7 := q.tr h4
      show e_Pn 20 elay ecode eI n d 343 (50, (1, (0, 11)) :: (0, (1, 275)) :: List.filter (e_flt 0 1) tl, [], w6) _
      exact e_Pn.ord eAlk [0, 1] rfl rfl (v_343_50 hR _ 11 w6 q7)
    · show e_Pn 20 elay ecode eI n d 343 (38, (0, (1, 275)) :: tl, [], w1) _
      refine e_Pn.run (t' := (47, (1, (0, 10)) :: (0, (1, 275)) :: List.filter (e_flt 0 1) tl, [(1, 275)], w1)) eAlk 4 rfl ?_
      refine e_Pn.callA rfl (fun n9 d9 => u_327 (q.rf hR)) (fun r9 w10 h8 => ?_)
      obtain ⟨rfl, h8⟩ := h8
      have q11 := q.tr h8
      show e_Pn 20 elay ecode eI n d 343 (50, (1, (0, 10)) :: (0, (1, 275)) :: List.filter (e_flt 0 1) tl, [], w10) _
      exact e_Pn.ord eAlk [0, 1] rfl rfl (v_343_50 hR _ 10 w10 q11)
set_option maxHeartbeats 4000000 in
theorem v_343_17 {n d : Nat} {w : eW} (hR : mRw w) (tl : eL) (s0 : Int) (w1 : eW) (q : mq w w1) : e_Pn 20 elay ecode eI n d 343 (17, (0, (1, 275)) :: tl, [(0, s0)], w1) (fun r w' => r = [] ∧ mq w w') := by
  refine e_Pn.if1 eAlk rfl (fun h1 => ?_) (fun h1 => ?_)
  · show e_Pn 20 elay ecode eI n d 343 (29, (0, (1, 275)) :: tl, [], w1) _
    refine e_Pn.run (t' := (30, (0, (1, 275)) :: tl, [(1, 275)], w1)) eAlk 1 rfl ?_
    refine e_Pn.getf (z := w1 275 85) eAlk rfl rfl rfl (fun b2 => ?_)
    refine e_Pn.run (t' := (35, (0, (1, 275)) :: tl, [(0, 43), (0, w1 275 85)], w1)) eAlk 1 rfl ?_
    refine e_Pn.if2 eAlk rfl (fun h3 => ?_) (fun h3 => ?_)
    · show e_Pn 20 elay ecode eI n d 343 (43, (0, (1, 275)) :: tl, [], w1) _
      refine e_Pn.run (t' := (47, (1, (0, 11)) :: (0, (1, 275)) :: List.filter (e_flt 0 1) tl, [(1, 275)], w1)) eAlk 3 rfl ?_
      refine e_Pn.callA rfl (fun n9 d9 => u_327 (q.rf hR)) (fun r5 w6 h4 => ?_)
      obtain ⟨rfl, h4⟩ := h4
      have q7 := q.tr h4
      show e_Pn 20 elay ecode eI n d 343 (50, (1, (0, 11)) :: (0, (1, 275)) :: List.filter (e_flt 0 1) tl, [], w6) _
      exact e_Pn.ord eAlk [0, 1] rfl rfl (v_343_50 hR _ 11 w6 q7)
    · show e_Pn 20 elay ecode eI n d 343 (38, (0, (1, 275)) :: tl, [], w1) _
      refine e_Pn.run (t' := (47, (1, (0, 10)) :: (0, (1, 275)) :: List.filter (e_flt 0 1) tl, [(1, 275)], w1)) eAlk 4 rfl ?_
      refine e_Pn.callA rfl (fun n9 d9 => u_327 (q.rf hR)) (fun r9 w10 h8 => ?_)
      obtain ⟨rfl, h8⟩ := h8
      have q11 := q.tr h8
      show e_Pn 20 elay ecode eI n d 343 (50, (1, (0, 10)) :: (0, (1, 275)) :: List.filter (e_flt 0 1) tl, [], w10) _
      exact e_Pn.ord eAlk [0, 1] rfl rfl (v_343_50 hR _ 10 w10 q11)
  · show e_Pn 20 elay ecode eI n d 343 (20, (0, (1, 275)) :: tl, [], w1) _
    refine e_Pn.run (t' := (23, (0, (1, 275)) :: tl, [(0, 45), (1, 275)], w1)) eAlk 2 rfl ?_
    refine e_Pn.callA rfl (fun n9 d9 => u_331 (q.rf hR)) (fun r13 w14 h12 => ?_)
    obtain ⟨⟨z15, rfl⟩, h12⟩ := h12
    have q16 := q.tr h12
    show e_Pn 20 elay ecode eI n d 343 (26, (0, (1, 275)) :: tl, [(0, z15)], w14) _
    exact e_Pn.ord eAlk [0] rfl rfl (v_343_26 hR _ z15 w14 q16)
set_option maxHeartbeats 4000000 in
theorem v_344_4 {n d : Nat} {w : eW} (hR : mRw w) (tl : eL) (w1 : eW) (q : mq w w1) : e_Pn 20 elay ecode eI n d 344 (4, (0, (1, 275)) :: tl, [], w1) (fun r w' => r = [] ∧ mq w w') := by
  have hL1 : ∀ nn3 : Nat, nn3 ≤ n → ∀ (tl4 : eL) (w5 : eW), mq w w5 → e_Pn 20 elay ecode eI nn3 d 344 (4, (0, (1, 275)) :: tl4, [], w5) (fun r w' => r = [] ∧ mq w w') := by
    intro nn3
    induction nn3 with
    | zero => intro _ tl4 w5 _; exact e_Pn.zero
    | succ nn3 ih2 =>
      intro hnnn3 tl4 w5 q6
      refine e_Pn.runS (t' := (5, (0, (1, 275)) :: tl4, [(1, 275)], w5)) eAlk 0 rfl ?_
      refine e_Pn.getf (z := w5 275 88) eAlk rfl rfl rfl (fun b7 => ?_)
      refine e_Pn.if1 eAlk rfl (fun h8 => ?_) (fun h8 => ?_)
      · show e_Pn 20 elay ecode eI nn3 d 344 (87, (0, (1, 275)) :: tl4, [], w5) _
        exact e_Pn.ret0 rfl ⟨rfl, q6⟩
      · show e_Pn 20 elay ecode eI nn3 d 344 (11, (0, (1, 275)) :: tl4, [], w5) _
        refine e_Pn.run (t' := (14, (0, (1, 275)) :: tl4, [(0, 42), (1, 275)], w5)) eAlk 2 rfl ?_
        refine e_Pn.callA rfl (fun n9 d9 => u_331 (q6.rf hR)) (fun r10 w11 h9 => ?_)
        obtain ⟨⟨z12, rfl⟩, h9⟩ := h9
        have q13 := q6.tr h9
        show e_Pn 20 elay ecode eI nn3 d 344 (17, (0, (1, 275)) :: tl4, [(0, z12)], w11) _
        refine e_Pn.if1 eAlk rfl (fun h14 => ?_) (fun h14 => ?_)
        · show e_Pn 20 elay ecode eI nn3 d 344 (38, (0, (1, 275)) :: tl4, [], w11) _
          refine e_Pn.run (t' := (39, (0, (1, 275)) :: tl4, [(1, 275)], w11)) eAlk 1 rfl ?_
          refine e_Pn.getf (z := w11 275 85) eAlk rfl rfl rfl (fun b15 => ?_)
          refine e_Pn.run (t' := (44, (0, (1, 275)) :: tl4, [(0, 42), (0, w11 275 85)], w11)) eAlk 1 rfl ?_
          refine e_Pn.if2 eAlk rfl (fun h16 => ?_) (fun h16 => ?_)
          · show e_Pn 20 elay ecode eI nn3 d 344 (52, (0, (1, 275)) :: tl4, [], w11) _
            refine e_Pn.run (t' := (53, (0, (1, 275)) :: tl4, [(1, 275)], w11)) eAlk 1 rfl ?_
            refine e_Pn.getf (z := w11 275 85) eAlk rfl rfl rfl (fun b17 => ?_)
            refine e_Pn.run (t' := (58, (0, (1, 275)) :: tl4, [(0, 47), (0, w11 275 85)], w11)) eAlk 1 rfl ?_
            refine e_Pn.if2 eAlk rfl (fun h18 => ?_) (fun h18 => ?_)
            · show e_Pn 20 elay ecode eI nn3 d 344 (66, (0, (1, 275)) :: tl4, [], w11) _
              refine e_Pn.run (t' := (70, (1, (0, 14)) :: (0, (1, 275)) :: List.filter (e_flt 0 1) tl4, [(1, 275)], w11)) eAlk 3 rfl ?_
              refine e_Pn.callA rfl (fun n9 d9 => u_327 (q13.rf hR)) (fun r20 w21 h19 => ?_)
              obtain ⟨rfl, h19⟩ := h19
              have q22 := q13.tr h19
              show e_Pn 20 elay ecode eI nn3 d 344 (73, (1, (0, 14)) :: (0, (1, 275)) :: List.filter (e_flt 0 1) tl4, [], w21) _
              refine e_Pn.run (t' := (74, (1, (0, 14)) :: (0, (1, 275)) :: List.filter (e_flt 0 1) tl4, [(1, 275)], w21)) eAlk 1 rfl ?_
              refine e_Pn.callA rfl (fun n9 d9 => uE_all n9 346 (by decide) d9 _ (q22.rf hR)) (fun r24 w25 h23 => ?_)
              obtain ⟨rfl, h23⟩ := h23
              have q26 := q22.tr h23
              show e_Pn 20 elay ecode eI nn3 d 344 (77, (1, (0, 14)) :: (0, (1, 275)) :: List.filter (e_flt 0 1) tl4, [], w25) _
              refine e_Pn.run (t' := (80, (1, (0, 14)) :: (0, (1, 275)) :: List.filter (e_flt 0 1) tl4, [(0, 0), (0, 14), (1, 275)], w25)) eAlk 3 rfl ?_
              refine e_Pn.callA rfl (fun n9 d9 => u_336 (q26.rf hR)) (fun r28 w29 h27 => ?_)
              obtain ⟨⟨z30, rfl⟩, h27⟩ := h27
              have q31 := q26.tr h27
              show e_Pn 20 elay ecode eI nn3 d 344 (83, (1, (0, 14)) :: (0, (1, 275)) :: List.filter (e_flt 0 1) tl4, [(0, z30)], w29) _
              refine e_Pn.run (t' := (4, (1, (0, 14)) :: (0, (1, 275)) :: List.filter (e_flt 0 1) tl4, [], w29)) eAlk 2 rfl ?_
              exact e_Pn.ord eAlk [0] rfl rfl ((ih2 (by omega) _ w29 q31).le (by omega))
            · show e_Pn 20 elay ecode eI nn3 d 344 (61, (0, (1, 275)) :: tl4, [], w11) _
              refine e_Pn.run (t' := (70, (1, (0, 13)) :: (0, (1, 275)) :: List.filter (e_flt 0 1) tl4, [(1, 275)], w11)) eAlk 4 rfl ?_
              refine e_Pn.callA rfl (fun n9 d9 => u_327 (q13.rf hR)) (fun r33 w34 h32 => ?_)
              obtain ⟨rfl, h32⟩ := h32
              have q35 := q13.tr h32
              show e_Pn 20 elay ecode eI nn3 d 344 (73, (1, (0, 13)) :: (0, (1, 275)) :: List.filter (e_flt 0 1) tl4, [], w34) _
              refine e_Pn.run (t' := (74, (1, (0, 13)) :: (0, (1, 275)) :: List.filter (e_flt 0 1) tl4, [(1, 275)], w34)) eAlk 1 rfl ?_
              refine e_Pn.callA rfl (fun n9 d9 => uE_all n9 346 (by decide) d9 _ (q35.rf hR)) (fun r37 w38 h36 => ?_)
              obtain ⟨rfl, h36⟩ := h36
              have q39 := q35.tr h36
              show e_Pn 20 elay ecode eI nn3 d 344 (77, (1, (0, 13)) :: (0, (1, 275)) :: List.filter (e_flt 0 1) tl4, [], w38) _
              refine e_Pn.run (t' := (80, (1, (0, 13)) :: (0, (1, 275)) :: List.filter (e_flt 0 1) tl4, [(0, 0), (0, 13), (1, 275)], w38)) eAlk 3 rfl ?_
              refine e_Pn.callA rfl (fun n9 d9 => u_336 (q39.rf hR)) (fun r41 w42 h40 => ?_)
              obtain ⟨⟨z43, rfl⟩, h40⟩ := h40
              have q44 := q39.tr h40
              show e_Pn 20 elay ecode eI nn3 d 344 (83, (1, (0, 13)) :: (0, (1, 275)) :: List.filter (e_flt 0 1) tl4, [(0, z43)], w42) _
              refine e_Pn.run (t' := (4, (1, (0, 13)) :: (0, (1, 275)) :: List.filter (e_flt 0 1) tl4, [], w42)) eAlk 2 rfl ?_
              exact e_Pn.ord eAlk [0] rfl rfl ((ih2 (by omega) _ w42 q44).le (by omega))
          · show e_Pn 20 elay ecode eI nn3 d 344 (47, (0, (1, 275)) :: tl4, [], w11) _
            refine e_Pn.run (t' := (70, (1, (0, 12)) :: (0, (1, 275)) :: List.filter (e_flt 0 1) tl4, [(1, 275)], w11)) eAlk 4 rfl ?_
            refine e_Pn.callA rfl (fun n9 d9 => u_327 (q13.rf hR)) (fun r46 w47 h45 => ?_)
            obtain ⟨rfl, h45⟩ := h45
            have q48 := q13.tr h45
            show e_Pn 20 elay ecode eI nn3 d 344 (73, (1, (0, 12)) :: (0, (1, 275)) :: List.filter (e_flt 0 1) tl4, [], w47) _
            refine e_Pn.run (t' := (74, (1, (0, 12)) :: (0, (1, 275)) :: List.filter (e_flt 0 1) tl4, [(1, 275)], w47)) eAlk 1 rfl ?_
            refine e_Pn.callA rfl (fun n9 d9 => uE_all n9 346 (by decide) d9 _ (q48.rf hR)) (fun r50 w51 h49 => ?_)
            obtain ⟨rfl, h49⟩ := h49
            have q52 := q48.tr h49
            show e_Pn 20 elay ecode eI nn3 d 344 (77, (1, (0, 12)) :: (0, (1, 275)) :: List.filter (e_flt 0 1) tl4, [], w51) _
            refine e_Pn.run (t' := (80, (1, (0, 12)) :: (0, (1, 275)) :: List.filter (e_flt 0 1) tl4, [(0, 0), (0, 12), (1, 275)], w51)) eAlk 3 rfl ?_
            refine e_Pn.callA rfl (fun n9 d9 => u_336 (q52.rf hR)) (fun r54 w55 h53 => ?_)
            obtain ⟨⟨z56, rfl⟩, h53⟩ := h53
            have q57 := q52.tr h53
            show e_Pn 20 elay ecode eI nn3 d 344 (83, (1, (0, 12)) :: (0, (1, 275)) :: List.filter (e_flt 0 1) tl4, [(0, z56)], w55) _
            refine e_Pn.run (t' := (4, (1, (0, 12)) :: (0, (1, 275)) :: List.filter (e_flt 0 1) tl4, [], w55)) eAlk 2 rfl ?_
            exact e_Pn.ord eAlk [0] rfl rfl ((ih2 (by omega) _ w55 q57).le (by omega))
        · show e_Pn 20 elay ecode eI nn3 d 344 (20, (0, (1, 275)) :: tl4, [], w11) _
          refine e_Pn.run (t' := (23, (0, (1, 275)) :: tl4, [(0, 47), (1, 275)], w11)) eAlk 2 rfl ?_
          refine e_Pn.callA rfl (fun n9 d9 => u_331 (q13.rf hR)) (fun r59 w60 h58 => ?_)
          obtain ⟨⟨z61, rfl⟩, h58⟩ := h58
          have q62 := q13.tr h58
          show e_Pn 20 elay ecode eI nn3 d 344 (26, (0, (1, 275)) :: tl4, [(0, z61)], w60) _
          refine e_Pn.if1 eAlk rfl (fun h63 => ?_) (fun h63 => ?_)
          · show e_Pn 20 elay ecode eI nn3 d 344 (38, (0, (1, 275)) :: tl4, [], w60) _
            refine e_Pn.run (t' := (39, (0, (1, 275)) :: tl4, [(1, 275)], w60)) eAlk 1 rfl ?_
            refine e_Pn.getf (z := w60 275 85) eAlk rfl rfl rfl (fun b64 => ?_)
            refine e_Pn.run (t' := (44, (0, (1, 275)) :: tl4, [(0, 42), (0, w60 275 85)], w60)) eAlk 1 rfl ?_
            refine e_Pn.if2 eAlk rfl (fun h65 => ?_) (fun h65 => ?_)
            · show e_Pn 20 elay ecode eI nn3 d 344 (52, (0, (1, 275)) :: tl4, [], w60) _
              refine e_Pn.run (t' := (53, (0, (1, 275)) :: tl4, [(1, 275)], w60)) eAlk 1 rfl ?_
              refine e_Pn.getf (z := w60 275 85) eAlk rfl rfl rfl (fun b66 => ?_)
              refine e_Pn.run (t' := (58, (0, (1, 275)) :: tl4, [(0, 47), (0, w60 275 85)], w60)) eAlk 1 rfl ?_
              refine e_Pn.if2 eAlk rfl (fun h67 => ?_) (fun h67 => ?_)
              · show e_Pn 20 elay ecode eI nn3 d 344 (66, (0, (1, 275)) :: tl4, [], w60) _
                refine e_Pn.run (t' := (70, (1, (0, 14)) :: (0, (1, 275)) :: List.filter (e_flt 0 1) tl4, [(1, 275)], w60)) eAlk 3 rfl ?_
                refine e_Pn.callA rfl (fun n9 d9 => u_327 (q62.rf hR)) (fun r69 w70 h68 => ?_)
                obtain ⟨rfl, h68⟩ := h68
                have q71 := q62.tr h68
                show e_Pn 20 elay ecode eI nn3 d 344 (73, (1, (0, 14)) :: (0, (1, 275)) :: List.filter (e_flt 0 1) tl4, [], w70) _
                refine e_Pn.run (t' := (74, (1, (0, 14)) :: (0, (1, 275)) :: List.filter (e_flt 0 1) tl4, [(1, 275)], w70)) eAlk 1 rfl ?_
                refine e_Pn.callA rfl (fun n9 d9 => uE_all n9 346 (by decide) d9 _ (q71.rf hR)) (fun r73 w74 h72 => ?_)
                obtain ⟨rfl, h72⟩ := h72
                have q75 := q71.tr h72
                show e_Pn 20 elay ecode eI nn3 d 344 (77, (1, (0, 14)) :: (0, (1, 275)) :: List.filter (e_flt 0 1) tl4, [], w74) _
                refine e_Pn.run (t' := (80, (1, (0, 14)) :: (0, (1, 275)) :: List.filter (e_flt 0 1) tl4, [(0, 0), (0, 14), (1, 275)], w74)) eAlk 3 rfl ?_
                refine e_Pn.callA rfl (fun n9 d9 => u_336 (q75.rf hR)) (fun r77 w78 h76 => ?_)
                obtain ⟨⟨z79, rfl⟩, h76⟩ := h76
                have q80 := q75.tr h76
                show e_Pn 20 elay ecode eI nn3 d 344 (83, (1, (0, 14)) :: (0, (1, 275)) :: List.filter (e_flt 0 1) tl4, [(0, z79)], w78) _
                refine e_Pn.run (t' := (4, (1, (0, 14)) :: (0, (1, 275)) :: List.filter (e_flt 0 1) tl4, [], w78)) eAlk 2 rfl ?_
                exact e_Pn.ord eAlk [0] rfl rfl ((ih2 (by omega) _ w78 q80).le (by omega))
              · show e_Pn 20 elay ecode eI nn3 d 344 (61, (0, (1, 275)) :: tl4, [], w60) _
                refine e_Pn.run (t' := (70, (1, (0, 13)) :: (0, (1, 275)) :: List.filter (e_flt 0 1) tl4, [(1, 275)], w60)) eAlk 4 rfl ?_
                refine e_Pn.callA rfl (fun n9 d9 => u_327 (q62.rf hR)) (fun r82 w83 h81 => ?_)
                obtain ⟨rfl, h81⟩ := h81
                have q84 := q62.tr h81
                show e_Pn 20 elay ecode eI nn3 d 344 (73, (1, (0, 13)) :: (0, (1, 275)) :: List.filter (e_flt 0 1) tl4, [], w83) _
                refine e_Pn.run (t' := (74, (1, (0, 13)) :: (0, (1, 275)) :: List.filter (e_flt 0 1) tl4, [(1, 275)], w83)) eAlk 1 rfl ?_
                refine e_Pn.callA rfl (fun n9 d9 => uE_all n9 346 (by decide) d9 _ (q84.rf hR)) (fun r86 w87 h85 => ?_)
                obtain ⟨rfl, h85⟩ := h85
                have q88 := q84.tr h85
                show e_Pn 20 elay ecode eI nn3 d 344 (77, (1, (0, 13)) :: (0, (1, 275)) :: List.filter (e_flt 0 1) tl4, [], w87) _
                refine e_Pn.run (t' := (80, (1, (0, 13)) :: (0, (1, 275)) :: List.filter (e_flt 0 1) tl4, [(0, 0), (0, 13), (1, 275)], w87)) eAlk 3 rfl ?_
                refine e_Pn.callA rfl (fun n9 d9 => u_336 (q88.rf hR)) (fun r90 w91 h89 => ?_)
                obtain ⟨⟨z92, rfl⟩, h89⟩ := h89
                have q93 := q88.tr h89
                show e_Pn 20 elay ecode eI nn3 d 344 (83, (1, (0, 13)) :: (0, (1, 275)) :: List.filter (e_flt 0 1) tl4, [(0, z92)], w91) _
                refine e_Pn.run (t' := (4, (1, (0, 13)) :: (0, (1, 275)) :: List.filter (e_flt 0 1) tl4, [], w91)) eAlk 2 rfl ?_
                exact e_Pn.ord eAlk [0] rfl rfl ((ih2 (by omega) _ w91 q93).le (by omega))
            · show e_Pn 20 elay ecode eI nn3 d 344 (47, (0, (1, 275)) :: tl4, [], w60) _
              refine e_Pn.run (t' := (70, (1, (0, 12)) :: (0, (1, 275)) :: List.filter (e_flt 0 1) tl4, [(1, 275)], w60)) eAlk 4 rfl ?_
              refine e_Pn.callA rfl (fun n9 d9 => u_327 (q62.rf hR)) (fun r95 w96 h94 => ?_)
              obtain ⟨rfl, h94⟩ := h94
              have q97 := q62.tr h94
              show e_Pn 20 elay ecode eI nn3 d 344 (73, (1, (0, 12)) :: (0, (1, 275)) :: List.filter (e_flt 0 1) tl4, [], w96) _
              refine e_Pn.run (t' := (74, (1, (0, 12)) :: (0, (1, 275)) :: List.filter (e_flt 0 1) tl4, [(1, 275)], w96)) eAlk 1 rfl ?_
              refine e_Pn.callA rfl (fun n9 d9 => uE_all n9 346 (by decide) d9 _ (q97.rf hR)) (fun r99 w100 h98 => ?_)
              obtain ⟨rfl, h98⟩ := h98
              have q101 := q97.tr h98
              show e_Pn 20 elay ecode eI nn3 d 344 (77, (1, (0, 12)) :: (0, (1, 275)) :: List.filter (e_flt 0 1) tl4, [], w100) _
              refine e_Pn.run (t' := (80, (1, (0, 12)) :: (0, (1, 275)) :: List.filter (e_flt 0 1) tl4, [(0, 0), (0, 12), (1, 275)], w100)) eAlk 3 rfl ?_
              refine e_Pn.callA rfl (fun n9 d9 => u_336 (q101.rf hR)) (fun r103 w104 h102 => ?_)
              obtain ⟨⟨z105, rfl⟩, h102⟩ := h102
              have q106 := q101.tr h102
              show e_Pn 20 elay ecode eI nn3 d 344 (83, (1, (0, 12)) :: (0, (1, 275)) :: List.filter (e_flt 0 1) tl4, [(0, z105)], w104) _
              refine e_Pn.run (t' := (4, (1, (0, 12)) :: (0, (1, 275)) :: List.filter (e_flt 0 1) tl4, [], w104)) eAlk 2 rfl ?_
              exact e_Pn.ord eAlk [0] rfl rfl ((ih2 (by omega) _ w104 q106).le (by omega))
          · show e_Pn 20 elay ecode eI nn3 d 344 (29, (0, (1, 275)) :: tl4, [], w60) _
            refine e_Pn.run (t' := (32, (0, (1, 275)) :: tl4, [(0, 37), (1, 275)], w60)) eAlk 2 rfl ?_
            refine e_Pn.callA rfl (fun n9 d9 => u_331 (q62.rf hR)) (fun r108 w109 h107 => ?_)
            obtain ⟨⟨z110, rfl⟩, h107⟩ := h107
            have q111 := q62.tr h107
            show e_Pn 20 elay ecode eI nn3 d 344 (35, (0, (1, 275)) :: tl4, [(0, z110)], w109) _
            refine e_Pn.if1 eAlk rfl (fun h112 => ?_) (fun h112 => ?_)
            · show e_Pn 20 elay ecode eI nn3 d 344 (87, (0, (1, 275)) :: tl4, [], w109) _
              exact e_Pn.ret0 rfl ⟨rfl, q111⟩
            · show e_Pn 20 elay ecode eI nn3 d 344 (38, (0, (1, 275)) :: tl4, [], w109) _
              refine e_Pn.run (t' := (39, (0, (1, 275)) :: tl4, [(1, 275)], w109)) eAlk 1 rfl ?_
              refine e_Pn.getf (z := w109 275 85) eAlk rfl rfl rfl (fun b113 => ?_)
              refine e_Pn.run (t' := (44, (0, (1, 275)) :: tl4, [(0, 42), (0, w109 275 85)], w109)) eAlk 1 rfl ?_
              refine e_Pn.if2 eAlk rfl (fun h114 => ?_) (fun h114 => ?_)
              · show e_Pn 20 elay ecode eI nn3 d 344 (52, (0, (1, 275)) :: tl4, [], w109) _
                refine e_Pn.run (t' := (53, (0, (1, 275)) :: tl4, [(1, 275)], w109)) eAlk 1 rfl ?_
                refine e_Pn.getf (z := w109 275 85) eAlk rfl rfl rfl (fun b115 => ?_)
                refine e_Pn.run (t' := (58, (0, (1, 275)) :: tl4, [(0, 47), (0, w109 275 85)], w109)) eAlk 1 rfl ?_
                refine e_Pn.if2 eAlk rfl (fun h116 => ?_) (fun h116 => ?_)
                · show e_Pn 20 elay ecode eI nn3 d 344 (66, (0, (1, 275)) :: tl4, [], w109) _
                  refine e_Pn.run (t' := (70, (1, (0, 14)) :: (0, (1, 275)) :: List.filter (e_flt 0 1) tl4, [(1, 275)], w109)) eAlk 3 rfl ?_
                  refine e_Pn.callA rfl (fun n9 d9 => u_327 (q111.rf hR)) (fun r118 w119 h117 => ?_)
                  obtain ⟨rfl, h117⟩ := h117
                  have q120 := q111.tr h117
                  show e_Pn 20 elay ecode eI nn3 d 344 (73, (1, (0, 14)) :: (0, (1, 275)) :: List.filter (e_flt 0 1) tl4, [], w119) _
                  refine e_Pn.run (t' := (74, (1, (0, 14)) :: (0, (1, 275)) :: List.filter (e_flt 0 1) tl4, [(1, 275)], w119)) eAlk 1 rfl ?_
                  refine e_Pn.callA rfl (fun n9 d9 => uE_all n9 346 (by decide) d9 _ (q120.rf hR)) (fun r122 w123 h121 => ?_)
                  obtain ⟨rfl, h121⟩ := h121
                  have q124 := q120.tr h121
                  show e_Pn 20 elay ecode eI nn3 d 344 (77, (1, (0, 14)) :: (0, (1, 275)) :: List.filter (e_flt 0 1) tl4, [], w123) _
                  refine e_Pn.run (t' := (80, (1, (0, 14)) :: (0, (1, 275)) :: List.filter (e_flt 0 1) tl4, [(0, 0), (0, 14), (1, 275)], w123)) eAlk 3 rfl ?_
                  refine e_Pn.callA rfl (fun n9 d9 => u_336 (q124.rf hR)) (fun r126 w127 h125 => ?_)
                  obtain ⟨⟨z128, rfl⟩, h125⟩ := h125
                  have q129 := q124.tr h125
                  show e_Pn 20 elay ecode eI nn3 d 344 (83, (1, (0, 14)) :: (0, (1, 275)) :: List.filter (e_flt 0 1) tl4, [(0, z128)], w127) _
                  refine e_Pn.run (t' := (4, (1, (0, 14)) :: (0, (1, 275)) :: List.filter (e_flt 0 1) tl4, [], w127)) eAlk 2 rfl ?_
                  exact e_Pn.ord eAlk [0] rfl rfl ((ih2 (by omega) _ w127 q129).le (by omega))
                · show e_Pn 20 elay ecode eI nn3 d 344 (61, (0, (1, 275)) :: tl4, [], w109) _
                  refine e_Pn.run (t' := (70, (1, (0, 13)) :: (0, (1, 275)) :: List.filter (e_flt 0 1) tl4, [(1, 275)], w109)) eAlk 4 rfl ?_
                  refine e_Pn.callA rfl (fun n9 d9 => u_327 (q111.rf hR)) (fun r131 w132 h130 => ?_)
                  obtain ⟨rfl, h130⟩ := h130
                  have q133 := q111.tr h130
                  show e_Pn 20 elay ecode eI nn3 d 344 (73, (1, (0, 13)) :: (0, (1, 275)) :: List.filter (e_flt 0 1) tl4, [], w132) _
                  refine e_Pn.run (t' := (74, (1, (0, 13)) :: (0, (1, 275)) :: List.filter (e_flt 0 1) tl4, [(1, 275)], w132)) eAlk 1 rfl ?_
                  refine e_Pn.callA rfl (fun n9 d9 => uE_all n9 346 (by decide) d9 _ (q133.rf hR)) (fun r135 w136 h134 => ?_)
                  obtain ⟨rfl, h134⟩ := h134
                  have q137 := q133.tr h134
                  show e_Pn 20 elay ecode eI nn3 d 344 (77, (1, (0, 13)) :: (0, (1, 275)) :: List.filter (e_flt 0 1) tl4, [], w136) _
                  refine e_Pn.run (t' := (80, (1, (0, 13)) :: (0, (1, 275)) :: List.filter (e_flt 0 1) tl4, [(0, 0), (0, 13), (1, 275)], w136)) eAlk 3 rfl ?_
                  refine e_Pn.callA rfl (fun n9 d9 => u_336 (q137.rf hR)) (fun r139 w140 h138 => ?_)
                  obtain ⟨⟨z141, rfl⟩, h138⟩ := h138
                  have q142 := q137.tr h138
                  show e_Pn 20 elay ecode eI nn3 d 344 (83, (1, (0, 13)) :: (0, (1, 275)) :: List.filter (e_flt 0 1) tl4, [(0, z141)], w140) _
                  refine e_Pn.run (t' := (4, (1, (0, 13)) :: (0, (1, 275)) :: List.filter (e_flt 0 1) tl4, [], w140)) eAlk 2 rfl ?_
                  exact e_Pn.ord eAlk [0] rfl rfl ((ih2 (by omega) _ w140 q142).le (by omega))
              · show e_Pn 20 elay ecode eI nn3 d 344 (47, (0, (1, 275)) :: tl4, [], w109) _
                refine e_Pn.run (t' := (70, (1, (0, 12)) :: (0, (1, 275)) :: List.filter (e_flt 0 1) tl4, [(1, 275)], w109)) eAlk 4 rfl ?_
                refine e_Pn.callA rfl (fun n9 d9 => u_327 (q111.rf hR)) (fun r144 w145 h143 => ?_)
                obtain ⟨rfl, h143⟩ := h143
                have q146 := q111.tr h143
                show e_Pn 20 elay ecode eI nn3 d 344 (73, (1, (0, 12)) :: (0, (1, 275)) :: List.filter (e_flt 0 1) tl4, [], w145) _
                refine e_Pn.run (t' := (74, (1, (0, 12)) :: (0, (1, 275)) :: List.filter (e_flt 0 1) tl4, [(1, 275)], w145)) eAlk 1 rfl ?_
                refine e_Pn.callA rfl (fun n9 d9 => uE_all n9 346 (by decide) d9 _ (q146.rf hR)) (fun r148 w149 h147 => ?_)
                obtain ⟨rfl, h147⟩ := h147
                have q150 := q146.tr h147
                show e_Pn 20 elay ecode eI nn3 d 344 (77, (1, (0, 12)) :: (0, (1, 275)) :: List.filter (e_flt 0 1) tl4, [], w149) _
                refine e_Pn.run (t' := (80, (1, (0, 12)) :: (0, (1, 275)) :: List.filter (e_flt 0 1) tl4, [(0, 0), (0, 12), (1, 275)], w149)) eAlk 3 rfl ?_
                refine e_Pn.callA rfl (fun n9 d9 => u_336 (q150.rf hR)) (fun r152 w153 h151 => ?_)
                obtain ⟨⟨z154, rfl⟩, h151⟩ := h151
                have q155 := q150.tr h151
                show e_Pn 20 elay ecode eI nn3 d 344 (83, (1, (0, 12)) :: (0, (1, 275)) :: List.filter (e_flt 0 1) tl4, [(0, z154)], w153) _
                refine e_Pn.run (t' := (4, (1, (0, 12)) :: (0, (1, 275)) :: List.filter (e_flt 0 1) tl4, [], w153)) eAlk 2 rfl ?_
                exact e_Pn.ord eAlk [0] rfl rfl ((ih2 (by omega) _ w153 q155).le (by omega))
  exact e_Pn.ord eAlk [0] rfl rfl (hL1 n (Nat.le_refl _) _ w1 q)
set_option maxHeartbeats 4000000 in
theorem v_344_83 {n d : Nat} {w : eW} (hR : mRw w) (tl : eL) (y1 : Int) (s0 : Int) (w1 : eW) (q : mq w w1) : e_Pn 20 elay ecode eI n d 344 (83, (0, (1, 275)) :: (1, (0, y1)) :: tl, [(0, s0)], w1) (fun r w' => r = [] ∧ mq w w') := by
  refine e_Pn.run (t' := (4, (0, (1, 275)) :: (1, (0, y1)) :: tl, [], w1)) eAlk 2 rfl ?_
  exact e_Pn.ord eAlk [0] rfl rfl (v_344_4 hR _ w1 q)
set_option maxHeartbeats 4000000 in
theorem v_344_77 {n d : Nat} {w : eW} (hR : mRw w) (tl : eL) (y1 : Int) (w1 : eW) (q : mq w w1) : e_Pn 20 elay ecode eI n d 344 (77, (0, (1, 275)) :: (1, (0, y1)) :: tl, [], w1) (fun r w' => r = [] ∧ mq w w') := by
  refine e_Pn.run (t' := (80, (0, (1, 275)) :: (1, (0, y1)) :: tl, [(0, 0), (0, y1), (1, 275)], w1)) eAlk 3 rfl ?_
  refine e_Pn.callA rfl (fun n9 d9 => u_336 (q.rf hR)) (fun r2 w3 h1 => ?_)
  obtain ⟨⟨z4, rfl⟩, h1⟩ := h1
  have q5 := q.tr h1
  show e_Pn 20 elay ecode eI n d 344 (83, (0, (1, 275)) :: (1, (0, y1)) :: tl, [(0, z4)], w3) _
  exact e_Pn.ord eAlk [0, 1] rfl rfl (v_344_83 hR _ y1 z4 w3 q5)
set_option maxHeartbeats 4000000 in
theorem v_344_73 {n d : Nat} {w : eW} (hR : mRw w) (tl : eL) (y1 : Int) (w1 : eW) (q : mq w w1) : e_Pn 20 elay ecode eI n d 344 (73, (0, (1, 275)) :: (1, (0, y1)) :: tl, [], w1) (fun r w' => r = [] ∧ mq w w') := by
  refine e_Pn.run (t' := (74, (0, (1, 275)) :: (1, (0, y1)) :: tl, [(1, 275)], w1)) eAlk 1 rfl ?_
  refine e_Pn.callA rfl (fun n9 d9 => uE_all n9 346 (by decide) d9 _ (q.rf hR)) (fun r2 w3 h1 => ?_)
  obtain ⟨rfl, h1⟩ := h1
  have q4 := q.tr h1
  show e_Pn 20 elay ecode eI n d 344 (77, (0, (1, 275)) :: (1, (0, y1)) :: tl, [], w3) _
  exact e_Pn.ord eAlk [0, 1] rfl rfl (v_344_77 hR _ y1 w3 q4)
set_option maxHeartbeats 4000000 in
theorem v_344_35 {n d : Nat} {w : eW} (hR : mRw w) (tl : eL) (s0 : Int) (w1 : eW) (q : mq w w1) : e_Pn 20 elay ecode eI n d 344 (35, (0, (1, 275)) :: tl, [(0, s0)], w1) (fun r w' => r = [] ∧ mq w w') := by
  refine e_Pn.if1 eAlk rfl (fun h1 => ?_) (fun h1 => ?_)
  · show e_Pn 20 elay ecode eI n d 344 (87, (0, (1, 275)) :: tl, [], w1) _
    exact e_Pn.ret0 rfl ⟨rfl, q⟩
  · show e_Pn 20 elay ecode eI n d 344 (38, (0, (1, 275)) :: tl, [], w1) _
    refine e_Pn.run (t' := (39, (0, (1, 275)) :: tl, [(1, 275)], w1)) eAlk 1 rfl ?_
    refine e_Pn.getf (z := w1 275 85) eAlk rfl rfl rfl (fun b2 => ?_)
    refine e_Pn.run (t' := (44, (0, (1, 275)) :: tl, [(0, 42), (0, w1 275 85)], w1)) eAlk 1 rfl ?_
    refine e_Pn.if2 eAlk rfl (fun h3 => ?_) (fun h3 => ?_)
    · show e_Pn 20 elay ecode eI n d 344 (52, (0, (1, 275)) :: tl, [], w1) _
      refine e_Pn.run (t' := (53, (0, (1, 275)) :: tl, [(1, 275)], w1)) eAlk 1 rfl ?_
      refine e_Pn.getf (z := w1 275 85) eAlk rfl rfl rfl (fun b4 => ?_)
      refine e_Pn.run (t' := (58, (0, (1, 275)) :: tl, [(0, 47), (0, w1 275 85)], w1)) eAlk 1 rfl ?_
      refine e_Pn.if2 eAlk rfl (fun h5 => ?_) (fun h5 => ?_)
      · show e_Pn 20 elay ecode eI n d 344 (66, (0, (1, 275)) :: tl, [], w1) _
        refine e_Pn.run (t' := (70, (1, (0, 14)) :: (0, (1, 275)) :: List.filter (e_flt 0 1) tl, [(1, 275)], w1)) eAlk 3 rfl ?_
        refine e_Pn.callA rfl (fun n9 d9 => u_327 (q.rf hR)) (fun r7 w8 h6 => ?_)
        obtain ⟨rfl, h6⟩ := h6
        have q9 := q.tr h6
        show e_Pn 20 elay ecode eI n d 344 (73, (1, (0, 14)) :: (0, (1, 275)) :: List.filter (e_flt 0 1) tl, [], w8) _
        exact e_Pn.ord eAlk [0, 1] rfl rfl (v_344_73 hR _ 14 w8 q9)
      · show e_Pn 20 elay ecode eI n d 344 (61, (0, (1, 275)) :: tl, [], w1) _
        refine e_Pn.run (t' := (70, (1, (0, 13)) :: (0, (1, 275)) :: List.filter (e_flt 0 1) tl, [(1, 275)], w1)) eAlk 4 rfl ?_
        refine e_Pn.callA rfl (fun n9 d9 => u_327 (q.rf hR)) (fun r11 w12 h10 => ?_)
        obtain ⟨rfl, h10⟩ := h10
        have q13 := q.tr h10
        show e_Pn 20 elay ecode eI n d 344 (73, (1, (0, 13)) :: (0, (1, 275)) :: List.filter (e_flt 0 1) tl, [], w12) _
        exact e_Pn.ord eAlk [0, 1] rfl rfl (v_344_73 hR _ 13 w12 q13)
    · show e_Pn 20 elay ecode eI n d 344 (47, (0, (1, 275)) :: tl, [], w1) _
      refine e_Pn.run (t' := (70, (1, (0, 12)) :: (0, (1, 275)) :: List.filter (e_flt 0 1) tl, [(1, 275)], w1)) eAlk 4 rfl ?_
      refine e_Pn.callA rfl (fun n9 d9 => u_327 (q.rf hR)) (fun r15 w16 h14 => ?_)
      obtain ⟨rfl, h14⟩ := h14
      have q17 := q.tr h14
      show e_Pn 20 elay ecode eI n d 344 (73, (1, (0, 12)) :: (0, (1, 275)) :: List.filter (e_flt 0 1) tl, [], w16) _
      exact e_Pn.ord eAlk [0, 1] rfl rfl (v_344_73 hR _ 12 w16 q17)
set_option maxHeartbeats 4000000 in
theorem v_344_26 {n d : Nat} {w : eW} (hR : mRw w) (tl : eL) (s0 : Int) (w1 : eW) (q : mq w w1) : e_Pn 20 elay ecode eI n d 344 (26, (0, (1, 275)) :: tl, [(0, s0)], w1) (fun r w' => r = [] ∧ mq w w') := by
  refine e_Pn.if1 eAlk rfl (fun h1 => ?_) (fun h1 => ?_)
  · show e_Pn 20 elay ecode eI n d 344 (38, (0, (1, 275)) :: tl, [], w1) _
    refine e_Pn.run (t' := (39, (0, (1, 275)) :: tl, [(1, 275)], w1)) eAlk 1 rfl ?_
    refine e_Pn.getf (z := w1 275 85) eAlk rfl rfl rfl (fun b2 => ?_)
    refine e_Pn.run (t' := (44, (0, (1, 275)) :: tl, [(0, 42), (0, w1 275 85)], w1)) eAlk 1 rfl ?_
    refine e_Pn.if2 eAlk rfl (fun h3 => ?_) (fun h3 => ?_)
    · show e_Pn 20 elay ecode eI n d 344 (52, (0, (1, 275)) :: tl, [], w1) _
      refine e_Pn.run (t' := (53, (0, (1, 275)) :: tl, [(1, 275)], w1)) eAlk 1 rfl ?_
      refine e_Pn.getf (z := w1 275 85) eAlk rfl rfl rfl (fun b4 => ?_)
      refine e_Pn.run (t' := (58, (0, (1, 275)) :: tl, [(0, 47), (0, w1 275 85)], w1)) eAlk 1 rfl ?_
      refine e_Pn.if2 eAlk rfl (fun h5 => ?_) (fun h5 => ?_)
      · show e_Pn 20 elay ecode eI n d 344 (66, (0, (1, 275)) :: tl, [], w1) _
        refine e_Pn.run (t' := (70, (1, (0, 14)) :: (0, (1, 275)) :: List.filter (e_flt 0 1) tl, [(1, 275)], w1)) eAlk 3 rfl ?_
        refine e_Pn.callA rfl (fun n9 d9 => u_327 (q.rf hR)) (fun r7 w8 h6 => ?_)
        obtain ⟨rfl, h6⟩ := h6
        have q9 := q.tr h6
        show e_Pn 20 elay ecode eI n d 344 (73, (1, (0, 14)) :: (0, (1, 275)) :: List.filter (e_flt 0 1) tl, [], w8) _
        exact e_Pn.ord eAlk [0, 1] rfl rfl (v_344_73 hR _ 14 w8 q9)
      · show e_Pn 20 elay ecode eI n d 344 (61, (0, (1, 275)) :: tl, [], w1) _
        refine e_Pn.run (t' := (70, (1, (0, 13)) :: (0, (1, 275)) :: List.filter (e_flt 0 1) tl, [(1, 275)], w1)) eAlk 4 rfl ?_
        refine e_Pn.callA rfl (fun n9 d9 => u_327 (q.rf hR)) (fun r11 w12 h10 => ?_)
        obtain ⟨rfl, h10⟩ := h10
        have q13 := q.tr h10
        show e_Pn 20 elay ecode eI n d 344 (73, (1, (0, 13)) :: (0, (1, 275)) :: List.filter (e_flt 0 1) tl, [], w12) _
        exact e_Pn.ord eAlk [0, 1] rfl rfl (v_344_73 hR _ 13 w12 q13)
    · show e_Pn 20 elay ecode eI n d 344 (47, (0, (1, 275)) :: tl, [], w1) _
      refine e_Pn.run (t' := (70, (1, (0, 12)) :: (0, (1, 275)) :: List.filter (e_flt 0 1) tl, [(1, 275)], w1)) eAlk 4 rfl ?_
      refine e_Pn.callA rfl (fun n9 d9 => u_327 (q.rf hR)) (fun r15 w16 h14 => ?_)
      obtain ⟨rfl, h14⟩ := h14
      have q17 := q.tr h14
      show e_Pn 20 elay ecode eI n d 344 (73, (1, (0, 12)) :: (0, (1, 275)) :: List.filter (e_flt 0 1) tl, [], w16) _
      exact e_Pn.ord eAlk [0, 1] rfl rfl (v_344_73 hR _ 12 w16 q17)
  · show e_Pn 20 elay ecode eI n d 344 (29, (0, (1, 275)) :: tl, [], w1) _
    refine e_Pn.run (t' := (32, (0, (1, 275)) :: tl, [(0, 37), (1, 275)], w1)) eAlk 2 rfl ?_
    refine e_Pn.callA rfl (fun n9 d9 => u_331 (q.rf hR)) (fun r19 w20 h18 => ?_)
    obtain ⟨⟨z21, rfl⟩, h18⟩ := h18
    have q22 := q.tr h18
    show e_Pn 20 elay ecode eI n d 344 (35, (0, (1, 275)) :: tl, [(0, z21)], w20) _
    exact e_Pn.ord eAlk [0] rfl rfl (v_344_35 hR _ z21 w20 q22)
set_option maxHeartbeats 4000000 in
theorem v_344_17 {n d : Nat} {w : eW} (hR : mRw w) (tl : eL) (s0 : Int) (w1 : eW) (q : mq w w1) : e_Pn 20 elay ecode eI n d 344 (17, (0, (1, 275)) :: tl, [(0, s0)], w1) (fun r w' => r = [] ∧ mq w w') := by
  refine e_Pn.if1 eAlk rfl (fun h1 => ?_) (fun h1 => ?_)
  · show e_Pn 20 elay ecode eI n d 344 (38, (0, (1, 275)) :: tl, [], w1) _
    refine e_Pn.run (t' := (39, (0, (1, 275)) :: tl, [(1, 275)], w1)) eAlk 1 rfl ?_
    refine e_Pn.getf (z := w1 275 85) eAlk rfl rfl rfl (fun b2 => ?_)
    refine e_Pn.run (t' := (44, (0, (1, 275)) :: tl, [(0, 42), (0, w1 275 85)], w1)) eAlk 1 rfl ?_
    refine e_Pn.if2 eAlk rfl (fun h3 => ?_) (fun h3 => ?_)
    · show e_Pn 20 elay ecode eI n d 344 (52, (0, (1, 275)) :: tl, [], w1) _
      refine e_Pn.run (t' := (53, (0, (1, 275)) :: tl, [(1, 275)], w1)) eAlk 1 rfl ?_
      refine e_Pn.getf (z := w1 275 85) eAlk rfl rfl rfl (fun b4 => ?_)
      refine e_Pn.run (t' := (58, (0, (1, 275)) :: tl, [(0, 47), (0, w1 275 85)], w1)) eAlk 1 rfl ?_
      refine e_Pn.if2 eAlk rfl (fun h5 => ?_) (fun h5 => ?_)
      · show e_Pn 20 elay ecode eI n d 344 (66, (0, (1, 275)) :: tl, [], w1) _
        refine e_Pn.run (t' := (70, (1, (0, 14)) :: (0, (1, 275)) :: List.filter (e_flt 0 1) tl, [(1, 275)], w1)) eAlk 3 rfl ?_
        refine e_Pn.callA rfl (fun n9 d9 => u_327 (q.rf hR)) (fun r7 w8 h6 => ?_)
        obtain ⟨rfl, h6⟩ := h6
        have q9 := q.tr h6
        show e_Pn 20 elay ecode eI n d 344 (73, (1, (0, 14)) :: (0, (1, 275)) :: List.filter (e_flt 0 1) tl, [], w8) _
        exact e_Pn.ord eAlk [0, 1] rfl rfl (v_344_73 hR _ 14 w8 q9)
      · show e_Pn 20 elay ecode eI n d 344 (61, (0, (1, 275)) :: tl, [], w1) _
        refine e_Pn.run (t' := (70, (1, (0, 13)) :: (0, (1, 275)) :: List.filter (e_flt 0 1) tl, [(1, 275)], w1)) eAlk 4 rfl ?_
        refine e_Pn.callA rfl (fun n9 d9 => u_327 (q.rf hR)) (fun r11 w12 h10 => ?_)
        obtain ⟨rfl, h10⟩ := h10
        have q13 := q.tr h10
        show e_Pn 20 elay ecode eI n d 344 (73, (1, (0, 13)) :: (0, (1, 275)) :: List.filter (e_flt 0 1) tl, [], w12) _
        exact e_Pn.ord eAlk [0, 1] rfl rfl (v_344_73 hR _ 13 w12 q13)
    · show e_Pn 20 elay ecode eI n d 344 (47, (0, (1, 275)) :: tl, [], w1) _
      refine e_Pn.run (t' := (70, (1, (0, 12)) :: (0, (1, 275)) :: List.filter (e_flt 0 1) tl, [(1, 275)], w1)) eAlk 4 rfl ?_
      refine e_Pn.callA rfl (fun n9 d9 => u_327 (q.rf hR)) (fun r15 w16 h14 => ?_)
      obtain ⟨rfl, h14⟩ := h14
      have q17 := q.tr h14
      show e_Pn 20 elay ecode eI n d 344 (73, (1, (0, 12)) :: (0, (1, 275)) :: List.filter (e_flt 0 1) tl, [], w16) _
      exact e_Pn.ord eAlk [0, 1] rfl rfl (v_344_73 hR _ 12 w16 q17)
  · show e_Pn 20 elay ecode eI n d 344 (20, (0, (1, 275)) :: tl, [], w1) _
    refine e_Pn.run (t' := (23, (0, (1, 275)) :: tl, [(0, 47), (1, 275)], w1)) eAlk 2 rfl ?_
    refine e_Pn.callA rfl (fun n9 d9 => u_331 (q.rf hR)) (fun r19 w20 h18 => ?_)
    obtain ⟨⟨z21, rfl⟩, h18⟩ := h18
    have q22 := q.tr h18
    show e_Pn 20 elay ecode eI n d 344 (26, (0, (1, 275)) :: tl, [(0, z21)], w20) _
    exact e_Pn.ord eAlk [0] rfl rfl (v_344_26 hR _ z21 w20 q22)
set_option maxHeartbeats 4000000 in
theorem v_345_44 {n d : Nat} {w : eW} (hR : mRw w) (tl : eL) (w1 : eW) (q : mq w w1) : e_Pn 20 elay ecode eI n d 345 (44, (0, (1, 275)) :: tl, [], w1) (fun r w' => r = [] ∧ mq w w') := by
  refine e_Pn.run (t' := (46, (0, (1, 275)) :: tl, [(1, 275), (1, 275)], w1)) eAlk 2 rfl ?_
  refine e_Pn.getf (z := w1 275 83) eAlk rfl rfl rfl (fun b1 => ?_)
  refine e_Pn.run (t' := (50, (0, (1, 275)) :: tl, [(0, 1), (0, w1 275 83), (1, 275)], w1)) eAlk 1 rfl ?_
  refine e_Pn.bin0 eAlk rfl (fun z2 hz2 => ?_)
  refine e_Pn.putf eAlk rfl rfl ?_
  generalize hw3 : e_up w1 275 83 z2 = w3
  have q4 : mq w w3 := mq.upF q hw3 (by decide) (by decide +kernel)
  exact e_Pn.ret0 rfl ⟨rfl, q4⟩
set_option maxHeartbeats 4000000 in
theorem v_345_41 {n d : Nat} {w : eW} (hR : mRw w) (tl : eL) (s0 : Int) (w1 : eW) (q : mq w w1) : e_Pn 20 elay ecode eI n d 345 (41, (0, (1, 275)) :: tl, [(0, s0), (1, 275)], w1) (fun r w' => r = [] ∧ mq w w') := by
  refine e_Pn.callA rfl (fun n9 d9 => u_334 (q.rf hR)) (fun r2 w3 h1 => ?_)
  obtain ⟨rfl, h1⟩ := h1
  have q4 := q.tr h1
  show e_Pn 20 elay ecode eI n d 345 (44, (0, (1, 275)) :: tl, [], w3) _
  exact e_Pn.ord eAlk [0] rfl rfl (v_345_44 hR _ w3 q4)
set_option maxHeartbeats 4000000 in
theorem v_345_34 {n d : Nat} {w : eW} (hR : mRw w) (tl : eL) (w1 : eW) (q : mq w w1) : e_Pn 20 elay ecode eI n d 345 (34, (0, (1, 275)) :: tl, [], w1) (fun r w' => r = [] ∧ mq w w') := by
  refine e_Pn.run (t' := (38, (0, (1, 275)) :: tl, [(0, 41), (1, 275), (1, 275)], w1)) eAlk 3 rfl ?_
  refine e_Pn.callA rfl (fun n9 d9 => u_331 (q.rf hR)) (fun r2 w3 h1 => ?_)
  obtain ⟨⟨z4, rfl⟩, h1⟩ := h1
  have q5 := q.tr h1
  show e_Pn 20 elay ecode eI n d 345 (41, (0, (1, 275)) :: tl, [(0, z4), (1, 275)], w3) _
  exact e_Pn.ord eAlk [0] rfl rfl (v_345_41 hR _ z4 w3 q5)
set_option maxHeartbeats 4000000 in
theorem v_345_30 {n d : Nat} {w : eW} (hR : mRw w) (tl : eL) (w1 : eW) (q : mq w w1) : e_Pn 20 elay ecode eI n d 345 (30, (0, (1, 275)) :: tl, [], w1) (fun r w' => r = [] ∧ mq w w') := by
  refine e_Pn.run (t' := (31, (0, (1, 275)) :: tl, [(1, 275)], w1)) eAlk 1 rfl ?_
  refine e_Pn.callA rfl (fun n9 d9 => uE_all n9 339 (by decide) d9 _ (q.rf hR)) (fun r2 w3 h1 => ?_)
  obtain ⟨rfl, h1⟩ := h1
  have q4 := q.tr h1
  show e_Pn 20 elay ecode eI n d 345 (34, (0, (1, 275)) :: tl, [], w3) _
  exact e_Pn.ord eAlk [0] rfl rfl (v_345_34 hR _ w3 q4)
set_option maxHeartbeats 4000000 in
theorem v_345_27 {n d : Nat} {w : eW} (hR : mRw w) (tl : eL) (s0 : Int) (w1 : eW) (q : mq w w1) : e_Pn 20 elay ecode eI n d 345 (27, (0, (1, 275)) :: tl, [(0, s0), (1, 275)], w1) (fun r w' => r = [] ∧ mq w w') := by
  refine e_Pn.callA rfl (fun n9 d9 => u_334 (q.rf hR)) (fun r2 w3 h1 => ?_)
  obtain ⟨rfl, h1⟩ := h1
  have q4 := q.tr h1
  show e_Pn 20 elay ecode eI n d 345 (30, (0, (1, 275)) :: tl, [], w3) _
  exact e_Pn.ord eAlk [0] rfl rfl (v_345_30 hR _ w3 q4)
set_option maxHeartbeats 4000000 in
theorem v_345_20 {n d : Nat} {w : eW} (hR : mRw w) (tl : eL) (w1 : eW) (q : mq w w1) : e_Pn 20 elay ecode eI n d 345 (20, (0, (1, 275)) :: tl, [], w1) (fun r w' => r = [] ∧ mq w w') := by
  refine e_Pn.run (t' := (24, (0, (1, 275)) :: tl, [(0, 40), (1, 275), (1, 275)], w1)) eAlk 3 rfl ?_
  refine e_Pn.callA rfl (fun n9 d9 => u_331 (q.rf hR)) (fun r2 w3 h1 => ?_)
  obtain ⟨⟨z4, rfl⟩, h1⟩ := h1
  have q5 := q.tr h1
  show e_Pn 20 elay ecode eI n d 345 (27, (0, (1, 275)) :: tl, [(0, z4), (1, 275)], w3) _
  exact e_Pn.ord eAlk [0] rfl rfl (v_345_27 hR _ z4 w3 q5)
set_option maxHeartbeats 4000000 in
theorem v_345_13 {n d : Nat} {w : eW} (hR : mRw w) (tl : eL) (s0 : Int) (w1 : eW) (q : mq w w1) : e_Pn 20 elay ecode eI n d 345 (13, (0, (1, 275)) :: tl, [(0, s0)], w1) (fun r w' => r = [] ∧ mq w w') := by
  refine e_Pn.if1 eAlk rfl (fun h1 => ?_) (fun h1 => ?_)
  · show e_Pn 20 elay ecode eI n d 345 (20, (0, (1, 275)) :: tl, [], w1) _
    refine e_Pn.run (t' := (24, (0, (1, 275)) :: tl, [(0, 40), (1, 275), (1, 275)], w1)) eAlk 3 rfl ?_
    refine e_Pn.callA rfl (fun n9 d9 => u_331 (q.rf hR)) (fun r3 w4 h2 => ?_)
    obtain ⟨⟨z5, rfl⟩, h2⟩ := h2
    have q6 := q.tr h2
    show e_Pn 20 elay ecode eI n d 345 (27, (0, (1, 275)) :: tl, [(0, z5), (1, 275)], w4) _
    exact e_Pn.ord eAlk [0] rfl rfl (v_345_27 hR _ z5 w4 q6)
  · show e_Pn 20 elay ecode eI n d 345 (16, (0, (1, 275)) :: tl, [], w1) _
    refine e_Pn.run (t' := (17, (0, (1, 275)) :: tl, [(1, 275)], w1)) eAlk 1 rfl ?_
    refine e_Pn.callA rfl (fun n9 d9 => u_335 (q.rf hR)) (fun r8 w9 h7 => ?_)
    obtain ⟨rfl, h7⟩ := h7
    have q10 := q.tr h7
    show e_Pn 20 elay ecode eI n d 345 (20, (0, (1, 275)) :: tl, [], w9) _
    exact e_Pn.ord eAlk [0] rfl rfl (v_345_20 hR _ w9 q10)
set_option maxHeartbeats 4000000 in
theorem v_346_242 {n d : Nat} {w : eW} (hR : mRw w) (tl : eL) (w1 : eW) (q : mq w w1) : e_Pn 20 elay ecode eI n d 346 (242, (0, (1, 275)) :: tl, [], w1) (fun r w' => r = [] ∧ mq w w') := by
  exact e_Pn.ret0 rfl ⟨rfl, q⟩
set_option maxHeartbeats 4000000 in
theorem v_346_234 {n d : Nat} {w : eW} (hR : mRw w) (tl : eL) (w1 : eW) (q : mq w w1) : e_Pn 20 elay ecode eI n d 346 (234, (0, (1, 275)) :: tl, [], w1) (fun r w' => r = [] ∧ mq w w') := by
  refine e_Pn.run (t' := (242, (0, (1, 275)) :: tl, [], w1)) eAlk 1 rfl ?_
  exact e_Pn.ord eAlk [0] rfl rfl (v_346_242 hR _ w1 q)
set_option maxHeartbeats 4000000 in
theorem v_346_229 {n d : Nat} {w : eW} (hR : mRw w) (tl : eL) (s0 : Int) (w1 : eW) (q : mq w w1) : e_Pn 20 elay ecode eI n d 346 (229, (0, (1, 275)) :: tl, [(0, s0)], w1) (fun r w' => r = [] ∧ mq w w') := by
  refine e_Pn.run (t' := (231, (0, (1, 275)) :: tl, [(1, 275)], w1)) eAlk 2 rfl ?_
  refine e_Pn.callA rfl (fun n9 d9 => u_327 (q.rf hR)) (fun r2 w3 h1 => ?_)
  obtain ⟨rfl, h1⟩ := h1
  have q4 := q.tr h1
  show e_Pn 20 elay ecode eI n d 346 (234, (0, (1, 275)) :: tl, [], w3) _
  exact e_Pn.ord eAlk [0] rfl rfl (v_346_234 hR _ w3 q4)
set_option maxHeartbeats 4000000 in
theorem v_346_161 {n d : Nat} {w : eW} (hR : mRw w) (tl : eL) (w1 : eW) (q : mq w w1) : e_Pn 20 elay ecode eI n d 346 (161, (0, (1, 275)) :: tl, [], w1) (fun r w' => r = [] ∧ mq w w') := by
  refine e_Pn.run (t' := (242, (0, (1, 275)) :: tl, [], w1)) eAlk 1 rfl ?_
  exact e_Pn.ord eAlk [0] rfl rfl (v_346_242 hR _ w1 q)
set_option maxHeartbeats 4000000 in
theorem v_346_154 {n d : Nat} {w : eW} (hR : mRw w) (tl : eL) (s0 : Int) (w1 : eW) (q : mq w w1) : e_Pn 20 elay ecode eI n d 346 (154, (0, (1, 275)) :: tl, [(0, s0)], w1) (fun r w' => r = [] ∧ mq w w') := by
  refine e_Pn.if1 eAlk rfl (fun h1 => ?_) (fun h1 => ?_)
  · show e_Pn 20 elay ecode eI n d 346 (164, (0, (1, 275)) :: tl, [], w1) _
    refine e_Pn.run (t' := (165, (0, (1, 275)) :: tl, [(1, 275)], w1)) eAlk 1 rfl ?_
    refine e_Pn.getf (z := w1 275 84) eAlk rfl rfl rfl (fun b2 => ?_)
    refine e_Pn.run (t' := (169, (0, (1, 275)) :: tl, [(0, 4), (0, w1 275 84)], w1)) eAlk 1 rfl ?_
    refine e_Pn.if2 eAlk rfl (fun h3 => ?_) (fun h3 => ?_)
    · show e_Pn 20 elay ecode eI n d 346 (237, (0, (1, 275)) :: tl, [], w1) _
      refine e_Pn.run (t' := (239, (0, (1, 275)) :: tl, [(0, 2), (1, 275)], w1)) eAlk 2 rfl ?_
      refine e_Pn.callA rfl (fun n9 d9 => u_333 (q.rf hR)) (fun r5 w6 h4 => ?_)
      obtain ⟨rfl, h4⟩ := h4
      have q7 := q.tr h4
      show e_Pn 20 elay ecode eI n d 346 (242, (0, (1, 275)) :: tl, [], w6) _
      exact e_Pn.ord eAlk [0] rfl rfl (v_346_242 hR _ w6 q7)
    · show e_Pn 20 elay ecode eI n d 346 (172, (0, (1, 275)) :: tl, [], w1) _
      refine e_Pn.run (t' := (173, (0, (1, 275)) :: tl, [(1, 275)], w1)) eAlk 1 rfl ?_
      refine e_Pn.getf (z := w1 275 85) eAlk rfl rfl rfl (fun b8 => ?_)
      refine e_Pn.run (t' := (178, (0, (1, 275)) :: tl, [(0, 29), (0, w1 275 85)], w1)) eAlk 1 rfl ?_
      refine e_Pn.if2 eAlk rfl (fun h9 => ?_) (fun h9 => ?_)
      · show e_Pn 20 elay ecode eI n d 346 (237, (0, (1, 275)) :: tl, [], w1) _
        refine e_Pn.run (t' := (239, (0, (1, 275)) :: tl, [(0, 2), (1, 275)], w1)) eAlk 2 rfl ?_
        refine e_Pn.callA rfl (fun n9 d9 => u_333 (q.rf hR)) (fun r11 w12 h10 => ?_)
        obtain ⟨rfl, h10⟩ := h10
        have q13 := q.tr h10
        show e_Pn 20 elay ecode eI n d 346 (242, (0, (1, 275)) :: tl, [], w12) _
        exact e_Pn.ord eAlk [0] rfl rfl (v_346_242 hR _ w12 q13)
      · show e_Pn 20 elay ecode eI n d 346 (181, (0, (1, 275)) :: tl, [], w1) _
        refine e_Pn.run (t' := (183, (0, (1, 275)) :: tl, [(1, 275), (1, 275)], w1)) eAlk 2 rfl ?_
        refine e_Pn.getf (z := w1 275 85) eAlk rfl rfl rfl (fun b14 => ?_)
        refine e_Pn.run (t' := (188, (0, (1, 275)) :: tl, [(0, 29), (0, w1 275 85), (1, 275)], w1)) eAlk 1 rfl ?_
        refine e_Pn.if2 eAlk rfl (fun h15 => ?_) (fun h15 => ?_)
        · show e_Pn 20 elay ecode eI n d 346 (195, (0, (1, 275)) :: tl, [(1, 275)], w1) _
          refine e_Pn.run (t' := (196, (0, (1, 275)) :: tl, [(1, 275), (1, 275)], w1)) eAlk 1 rfl ?_
          refine e_Pn.getf (z := w1 275 85) eAlk rfl rfl rfl (fun b16 => ?_)
          refine e_Pn.run (t' := (201, (0, (1, 275)) :: tl, [(0, 30), (0, w1 275 85), (1, 275)], w1)) eAlk 1 rfl ?_
          refine e_Pn.if2 eAlk rfl (fun h17 => ?_) (fun h17 => ?_)
          · show e_Pn 20 elay ecode eI n d 346 (209, (0, (1, 275)) :: tl, [(1, 275)], w1) _
            refine e_Pn.run (t' := (210, (0, (1, 275)) :: tl, [(1, 275), (1, 275)], w1)) eAlk 1 rfl ?_
            refine e_Pn.getf (z := w1 275 85) eAlk rfl rfl rfl (fun b18 => ?_)
            refine e_Pn.run (t' := (215, (0, (1, 275)) :: tl, [(0, 31), (0, w1 275 85), (1, 275)], w1)) eAlk 1 rfl ?_
            refine e_Pn.if2 eAlk rfl (fun h19 => ?_) (fun h19 => ?_)
            · show e_Pn 20 elay ecode eI n d 346 (223, (0, (1, 275)) :: tl, [(1, 275)], w1) _
              refine e_Pn.run (t' := (226, (0, (1, 275)) :: tl, [(0, 0), (0, 8), (1, 275)], w1)) eAlk 2 rfl ?_
              refine e_Pn.callA rfl (fun n9 d9 => u_336 (q.rf hR)) (fun r21 w22 h20 => ?_)
              obtain ⟨⟨z23, rfl⟩, h20⟩ := h20
              have q24 := q.tr h20
              show e_Pn 20 elay ecode eI n d 346 (229, (0, (1, 275)) :: tl, [(0, z23)], w22) _
              exact e_Pn.ord eAlk [0] rfl rfl (v_346_229 hR _ z23 w22 q24)
            · show e_Pn 20 elay ecode eI n d 346 (218, (0, (1, 275)) :: tl, [(1, 275)], w1) _
              refine e_Pn.run (t' := (226, (0, (1, 275)) :: tl, [(0, 0), (0, 7), (1, 275)], w1)) eAlk 3 rfl ?_
              refine e_Pn.callA rfl (fun n9 d9 => u_336 (q.rf hR)) (fun r26 w27 h25 => ?_)
              obtain ⟨⟨z28, rfl⟩, h25⟩ := h25
              have q29 := q.tr h25
              show e_Pn 20 elay ecode eI n d 346 (229, (0, (1, 275)) :: tl, [(0, z28)], w27) _
              exact e_Pn.ord eAlk [0] rfl rfl (v_346_229 hR _ z28 w27 q29)
          · show e_Pn 20 elay ecode eI n d 346 (204, (0, (1, 275)) :: tl, [(1, 275)], w1) _
            refine e_Pn.run (t' := (226, (0, (1, 275)) :: tl, [(0, 0), (0, 6), (1, 275)], w1)) eAlk 3 rfl ?_
            refine e_Pn.callA rfl (fun n9 d9 => u_336 (q.rf hR)) (fun r31 w32 h30 => ?_)
            obtain ⟨⟨z33, rfl⟩, h30⟩ := h30
            have q34 := q.tr h30
            show e_Pn 20 elay ecode eI n d 346 (229, (0, (1, 275)) :: tl, [(0, z33)], w32) _
            exact e_Pn.ord eAlk [0] rfl rfl (v_346_229 hR _ z33 w32 q34)
        · show e_Pn 20 elay ecode eI n d 346 (191, (0, (1, 275)) :: tl, [(1, 275)], w1) _
          refine e_Pn.run (t' := (226, (0, (1, 275)) :: tl, [(0, 0), (0, 5), (1, 275)], w1)) eAlk 3 rfl ?_
          refine e_Pn.callA rfl (fun n9 d9 => u_336 (q.rf hR)) (fun r36 w37 h35 => ?_)
          obtain ⟨⟨z38, rfl⟩, h35⟩ := h35
          have q39 := q.tr h35
          show e_Pn 20 elay ecode eI n d 346 (229, (0, (1, 275)) :: tl, [(0, z38)], w37) _
          exact e_Pn.ord eAlk [0] rfl rfl (v_346_229 hR _ z38 w37 q39)
  · show e_Pn 20 elay ecode eI n d 346 (157, (0, (1, 275)) :: tl, [], w1) _
    refine e_Pn.run (t' := (158, (0, (1, 275)) :: tl, [(1, 275)], w1)) eAlk 1 rfl ?_
    refine e_Pn.callA rfl (fun n9 d9 => uE_all n9 345 (by decide) d9 _ (q.rf hR)) (fun r41 w42 h40 => ?_)
    obtain ⟨rfl, h40⟩ := h40
    have q43 := q.tr h40
    show e_Pn 20 elay ecode eI n d 346 (161, (0, (1, 275)) :: tl, [], w42) _
    exact e_Pn.ord eAlk [0] rfl rfl (v_346_161 hR _ w42 q43)
set_option maxHeartbeats 4000000 in
theorem v_346_144 {n d : Nat} {w : eW} (hR : mRw w) (tl : eL) (y1 : Int) (s0 : Int) (w1 : eW) (q : mq w w1) : e_Pn 20 elay ecode eI n d 346 (144, (0, (1, 275)) :: (1, (0, y1)) :: tl, [(0, s0)], w1) (fun r w' => r = [] ∧ mq w w') := by
  refine e_Pn.run (t' := (242, (0, (1, 275)) :: (1, (0, y1)) :: tl, [], w1)) eAlk 2 rfl ?_
  exact e_Pn.ord eAlk [0] rfl rfl (v_346_242 hR _ w1 q)
set_option maxHeartbeats 4000000 in
theorem v_346_138 {n d : Nat} {w : eW} (hR : mRw w) (tl : eL) (y1 : Int) (w1 : eW) (q : mq w w1) : e_Pn 20 elay ecode eI n d 346 (138, (0, (1, 275)) :: (1, (0, y1)) :: tl, [], w1) (fun r w' => r = [] ∧ mq w w') := by
  refine e_Pn.run (t' := (141, (0, (1, 275)) :: (1, (0, y1)) :: tl, [(0, 0), (0, y1), (1, 275)], w1)) eAlk 3 rfl ?_
  refine e_Pn.callA rfl (fun n9 d9 => u_336 (q.rf hR)) (fun r2 w3 h1 => ?_)
  obtain ⟨⟨z4, rfl⟩, h1⟩ := h1
  have q5 := q.tr h1
  show e_Pn 20 elay ecode eI n d 346 (144, (0, (1, 275)) :: (1, (0, y1)) :: tl, [(0, z4)], w3) _
  exact e_Pn.ord eAlk [0, 1] rfl rfl (v_346_144 hR _ y1 z4 w3 q5)
set_option maxHeartbeats 4000000 in
theorem v_346_134 {n d : Nat} {w : eW} (hR : mRw w) (tl : eL) (y1 : Int) (w1 : eW) (q : mq w w1) : e_Pn 20 elay ecode eI n d 346 (134, (0, (1, 275)) :: (1, (0, y1)) :: tl, [], w1) (fun r w' => r = [] ∧ mq w w') := by
  refine e_Pn.run (t' := (135, (0, (1, 275)) :: (1, (0, y1)) :: tl, [(1, 275)], w1)) eAlk 1 rfl ?_
  refine e_Pn.callA rfl (fun n9 d9 => uE_all n9 345 (by decide) d9 _ (q.rf hR)) (fun r2 w3 h1 => ?_)
  obtain ⟨rfl, h1⟩ := h1
  have q4 := q.tr h1
  show e_Pn 20 elay ecode eI n d 346 (138, (0, (1, 275)) :: (1, (0, y1)) :: tl, [], w3) _
  exact e_Pn.ord eAlk [0, 1] rfl rfl (v_346_138 hR _ y1 w3 q4)
set_option maxHeartbeats 4000000 in
theorem v_346_112 {n d : Nat} {w : eW} (hR : mRw w) (tl : eL) (s0 : Int) (w1 : eW) (q : mq w w1) : e_Pn 20 elay ecode eI n d 346 (112, (0, (1, 275)) :: tl, [(0, s0)], w1) (fun r w' => r = [] ∧ mq w w') := by
  refine e_Pn.if1 eAlk rfl (fun h1 => ?_) (fun h1 => ?_)
  · show e_Pn 20 elay ecode eI n d 346 (148, (0, (1, 275)) :: tl, [], w1) _
    refine e_Pn.run (t' := (151, (0, (1, 275)) :: tl, [(0, 40), (1, 275)], w1)) eAlk 2 rfl ?_
    refine e_Pn.callA rfl (fun n9 d9 => u_331 (q.rf hR)) (fun r3 w4 h2 => ?_)
    obtain ⟨⟨z5, rfl⟩, h2⟩ := h2
    have q6 := q.tr h2
    show e_Pn 20 elay ecode eI n d 346 (154, (0, (1, 275)) :: tl, [(0, z5)], w4) _
    exact e_Pn.ord eAlk [0] rfl rfl (v_346_154 hR _ z5 w4 q6)
  · show e_Pn 20 elay ecode eI n d 346 (115, (0, (1, 275)) :: tl, [], w1) _
    refine e_Pn.run (t' := (116, (0, (1, 275)) :: tl, [(1, 275)], w1)) eAlk 1 rfl ?_
    refine e_Pn.getf (z := w1 275 85) eAlk rfl rfl rfl (fun b7 => ?_)
    refine e_Pn.run (t' := (121, (0, (1, 275)) :: tl, [(0, 27), (0, w1 275 85)], w1)) eAlk 1 rfl ?_
    refine e_Pn.if2 eAlk rfl (fun h8 => ?_) (fun h8 => ?_)
    · show e_Pn 20 elay ecode eI n d 346 (128, (0, (1, 275)) :: tl, [], w1) _
      refine e_Pn.run (t' := (131, (1, (0, 4)) :: (0, (1, 275)) :: List.filter (e_flt 0 1) tl, [(1, 275)], w1)) eAlk 3 rfl ?_
      refine e_Pn.callA rfl (fun n9 d9 => u_327 (q.rf hR)) (fun r10 w11 h9 => ?_)
      obtain ⟨rfl, h9⟩ := h9
      have q12 := q.tr h9
      show e_Pn 20 elay ecode eI n d 346 (134, (1, (0, 4)) :: (0, (1, 275)) :: List.filter (e_flt 0 1) tl, [], w11) _
      exact e_Pn.ord eAlk [0, 1] rfl rfl (v_346_134 hR _ 4 w11 q12)
    · show e_Pn 20 elay ecode eI n d 346 (124, (0, (1, 275)) :: tl, [], w1) _
      refine e_Pn.run (t' := (131, (1, (0, 3)) :: (0, (1, 275)) :: List.filter (e_flt 0 1) tl, [(1, 275)], w1)) eAlk 4 rfl ?_
      refine e_Pn.callA rfl (fun n9 d9 => u_327 (q.rf hR)) (fun r14 w15 h13 => ?_)
      obtain ⟨rfl, h13⟩ := h13
      have q16 := q.tr h13
      show e_Pn 20 elay ecode eI n d 346 (134, (1, (0, 3)) :: (0, (1, 275)) :: List.filter (e_flt 0 1) tl, [], w15) _
      exact e_Pn.ord eAlk [0, 1] rfl rfl (v_346_134 hR _ 3 w15 q16)
set_option maxHeartbeats 4000000 in
theorem v_346_103 {n d : Nat} {w : eW} (hR : mRw w) (tl : eL) (s0 : Int) (w1 : eW) (q : mq w w1) : e_Pn 20 elay ecode eI n d 346 (103, (0, (1, 275)) :: tl, [(0, s0)], w1) (fun r w' => r = [] ∧ mq w w') := by
  refine e_Pn.if1 eAlk rfl (fun h1 => ?_) (fun h1 => ?_)
  · show e_Pn 20 elay ecode eI n d 346 (115, (0, (1, 275)) :: tl, [], w1) _
    refine e_Pn.run (t' := (116, (0, (1, 275)) :: tl, [(1, 275)], w1)) eAlk 1 rfl ?_
    refine e_Pn.getf (z := w1 275 85) eAlk rfl rfl rfl (fun b2 => ?_)
    refine e_Pn.run (t' := (121, (0, (1, 275)) :: tl, [(0, 27), (0, w1 275 85)], w1)) eAlk 1 rfl ?_
    refine e_Pn.if2 eAlk rfl (fun h3 => ?_) (fun h3 => ?_)
    · show e_Pn 20 elay ecode eI n d 346 (128, (0, (1, 275)) :: tl, [], w1) _
      refine e_Pn.run (t' := (131, (1, (0, 4)) :: (0, (1, 275)) :: List.filter (e_flt 0 1) tl, [(1, 275)], w1)) eAlk 3 rfl ?_
      refine e_Pn.callA rfl (fun n9 d9 => u_327 (q.rf hR)) (fun r5 w6 h4 => ?_)
      obtain ⟨rfl, h4⟩ := h4
      have q7 := q.tr h4
      show e_Pn 20 elay ecode eI n d 346 (134, (1, (0, 4)) :: (0, (1, 275)) :: List.filter (e_flt 0 1) tl, [], w6) _
      exact e_Pn.ord eAlk [0, 1] rfl rfl (v_346_134 hR _ 4 w6 q7)
    · show e_Pn 20 elay ecode eI n d 346 (124, (0, (1, 275)) :: tl, [], w1) _
      refine e_Pn.run (t' := (131, (1, (0, 3)) :: (0, (1, 275)) :: List.filter (e_flt 0 1) tl, [(1, 275)], w1)) eAlk 4 rfl ?_
      refine e_Pn.callA rfl (fun n9 d9 => u_327 (q.rf hR)) (fun r9 w10 h8 => ?_)
      obtain ⟨rfl, h8⟩ := h8
      have q11 := q.tr h8
      show e_Pn 20 elay ecode eI n d 346 (134, (1, (0, 3)) :: (0, (1, 275)) :: List.filter (e_flt 0 1) tl, [], w10) _
      exact e_Pn.ord eAlk [0, 1] rfl rfl (v_346_134 hR _ 3 w10 q11)
  · show e_Pn 20 elay ecode eI n d 346 (106, (0, (1, 275)) :: tl, [], w1) _
    refine e_Pn.run (t' := (109, (0, (1, 275)) :: tl, [(0, 28), (1, 275)], w1)) eAlk 2 rfl ?_
    refine e_Pn.callA rfl (fun n9 d9 => u_332 (q.rf hR)) (fun r13 w14 h12 => ?_)
    obtain ⟨⟨z15, rfl⟩, h12⟩ := h12
    have q16 := q.tr h12
    show e_Pn 20 elay ecode eI n d 346 (112, (0, (1, 275)) :: tl, [(0, z15)], w14) _
    exact e_Pn.ord eAlk [0] rfl rfl (v_346_112 hR _ z15 w14 q16)
set_option maxHeartbeats 4000000 in
theorem v_346_94 {n d : Nat} {w : eW} (hR : mRw w) (tl : eL) (w1 : eW) (q : mq w w1) : e_Pn 20 elay ecode eI n d 346 (94, (0, (1, 275)) :: tl, [], w1) (fun r w' => r = [] ∧ mq w w') := by
  refine e_Pn.run (t' := (242, (0, (1, 275)) :: tl, [], w1)) eAlk 1 rfl ?_
  exact e_Pn.ord eAlk [0] rfl rfl (v_346_242 hR _ w1 q)
set_option maxHeartbeats 4000000 in
theorem v_346_91 {n d : Nat} {w : eW} (hR : mRw w) (tl : eL) (s0 : Int) (s1 : Int) (w1 : eW) (q : mq w w1) : e_Pn 20 elay ecode eI n d 346 (91, (0, (1, 275)) :: tl, [(0, s0), (0, s1), (1, 275)], w1) (fun r w' => r = [] ∧ mq w w') := by
  refine e_Pn.callA rfl (fun n9 d9 => u_338 (q.rf hR)) (fun r2 w3 h1 => ?_)
  obtain ⟨rfl, h1⟩ := h1
  have q4 := q.tr h1
  show e_Pn 20 elay ecode eI n d 346 (94, (0, (1, 275)) :: tl, [], w3) _
  exact e_Pn.ord eAlk [0] rfl rfl (v_346_94 hR _ w3 q4)
set_option maxHeartbeats 4000000 in
theorem v_346_72 {n d : Nat} {w : eW} (hR : mRw w) (tl : eL) (w1 : eW) (q : mq w w1) : e_Pn 20 elay ecode eI n d 346 (72, (0, (1, 275)) :: tl, [], w1) (fun r w' => r = [] ∧ mq w w') := by
  refine e_Pn.run (t' := (242, (0, (1, 275)) :: tl, [], w1)) eAlk 1 rfl ?_
  exact e_Pn.ord eAlk [0] rfl rfl (v_346_242 hR _ w1 q)
set_option maxHeartbeats 4000000 in
theorem v_346_67 {n d : Nat} {w : eW} (hR : mRw w) (tl : eL) (s0 : Int) (w1 : eW) (q : mq w w1) : e_Pn 20 elay ecode eI n d 346 (67, (0, (1, 275)) :: tl, [(0, s0)], w1) (fun r w' => r = [] ∧ mq w w') := by
  refine e_Pn.run (t' := (69, (0, (1, 275)) :: tl, [(1, 275)], w1)) eAlk 2 rfl ?_
  refine e_Pn.callA rfl (fun n9 d9 => u_327 (q.rf hR)) (fun r2 w3 h1 => ?_)
  obtain ⟨rfl, h1⟩ := h1
  have q4 := q.tr h1
  show e_Pn 20 elay ecode eI n d 346 (72, (0, (1, 275)) :: tl, [], w3) _
  exact e_Pn.ord eAlk [0] rfl rfl (v_346_72 hR _ w3 q4)
set_option maxHeartbeats 4000000 in
theorem v_346_46 {n d : Nat} {w : eW} (hR : mRw w) (tl : eL) (s0 : Int) (w1 : eW) (q : mq w w1) : e_Pn 20 elay ecode eI n d 346 (46, (0, (1, 275)) :: tl, [(0, s0)], w1) (fun r w' => r = [] ∧ mq w w') := by
  refine e_Pn.run (t' := (242, (0, (1, 275)) :: tl, [], w1)) eAlk 2 rfl ?_
  exact e_Pn.ord eAlk [0] rfl rfl (v_346_242 hR _ w1 q)
set_option maxHeartbeats 4000000 in
theorem v_346_29 {n d : Nat} {w : eW} (hR : mRw w) (tl : eL) (w1 : eW) (q : mq w w1) : e_Pn 20 elay ecode eI n d 346 (29, (0, (1, 275)) :: tl, [], w1) (fun r w' => r = [] ∧ mq w w') := by
  refine e_Pn.run (t' := (31, (0, (1, 275)) :: tl, [(1, 275), (1, 275)], w1)) eAlk 2 rfl ?_
  refine e_Pn.getf (z := w1 275 83) eAlk rfl rfl rfl (fun b1 => ?_)
  refine e_Pn.run (t' := (35, (0, (1, 275)) :: tl, [(0, 1), (0, w1 275 83), (1, 275)], w1)) eAlk 1 rfl ?_
  refine e_Pn.bin0 eAlk rfl (fun z2 hz2 => ?_)
  refine e_Pn.putf eAlk rfl rfl ?_
  generalize hw3 : e_up w1 275 83 z2 = w3
  have q4 : mq w w3 := mq.upF q hw3 (by decide) (by decide +kernel)
  refine e_Pn.run (t' := (43, (0, (1, 275)) :: tl, [(0, 0), (0, 9), (1, 275)], w3)) eAlk 3 rfl ?_
  refine e_Pn.callA rfl (fun n9 d9 => u_336 (q4.rf hR)) (fun r6 w7 h5 => ?_)
  obtain ⟨⟨z8, rfl⟩, h5⟩ := h5
  have q9 := q4.tr h5
  show e_Pn 20 elay ecode eI n d 346 (46, (0, (1, 275)) :: tl, [(0, z8)], w7) _
  exact e_Pn.ord eAlk [0] rfl rfl (v_346_46 hR _ z8 w7 q9)
set_option maxHeartbeats 4000000 in
theorem v_346_25 {n d : Nat} {w : eW} (hR : mRw w) (tl : eL) (w1 : eW) (q : mq w w1) : e_Pn 20 elay ecode eI n d 346 (25, (0, (1, 275)) :: tl, [], w1) (fun r w' => r = [] ∧ mq w w') := by
  refine e_Pn.run (t' := (26, (0, (1, 275)) :: tl, [(1, 275)], w1)) eAlk 1 rfl ?_
  refine e_Pn.callA rfl (fun n9 d9 => uE_all n9 346 (by decide) d9 _ (q.rf hR)) (fun r2 w3 h1 => ?_)
  obtain ⟨rfl, h1⟩ := h1
  have q4 := q.tr h1
  show e_Pn 20 elay ecode eI n d 346 (29, (0, (1, 275)) :: tl, [], w3) _
  exact e_Pn.ord eAlk [0] rfl rfl (v_346_29 hR _ w3 q4)
set_option maxHeartbeats 4000000 in
theorem v_346_21 {n d : Nat} {w : eW} (hR : mRw w) (tl : eL) (w1 : eW) (q : mq w w1) : e_Pn 20 elay ecode eI n d 346 (21, (0, (1, 275)) :: tl, [], w1) (fun r w' => r = [] ∧ mq w w') := by
  refine e_Pn.run (t' := (22, (0, (1, 275)) :: tl, [(1, 275)], w1)) eAlk 1 rfl ?_
  refine e_Pn.callA rfl (fun n9 d9 => u_327 (q.rf hR)) (fun r2 w3 h1 => ?_)
  obtain ⟨rfl, h1⟩ := h1
  have q4 := q.tr h1
  show e_Pn 20 elay ecode eI n d 346 (25, (0, (1, 275)) :: tl, [], w3) _
  exact e_Pn.ord eAlk [0] rfl rfl (v_346_25 hR _ w3 q4)
set_option maxHeartbeats 4000000 in
theorem v_346_14 {n d : Nat} {w : eW} (hR : mRw w) (tl : eL) (s0 : Int) (w1 : eW) (q : mq w w1) : e_Pn 20 elay ecode eI n d 346 (14, (0, (1, 275)) :: tl, [(0, s0)], w1) (fun r w' => r = [] ∧ mq w w') := by
  refine e_Pn.if1 eAlk rfl (fun h1 => ?_) (fun h1 => ?_)
  · show e_Pn 20 elay ecode eI n d 346 (50, (0, (1, 275)) :: tl, [], w1) _
    refine e_Pn.run (t' := (51, (0, (1, 275)) :: tl, [(1, 275)], w1)) eAlk 1 rfl ?_
    refine e_Pn.getf (z := w1 275 84) eAlk rfl rfl rfl (fun b2 => ?_)
    refine e_Pn.run (t' := (55, (0, (1, 275)) :: tl, [(0, 2), (0, w1 275 84)], w1)) eAlk 1 rfl ?_
    refine e_Pn.if2 eAlk rfl (fun h3 => ?_) (fun h3 => ?_)
    · show e_Pn 20 elay ecode eI n d 346 (75, (0, (1, 275)) :: tl, [], w1) _
      refine e_Pn.run (t' := (76, (0, (1, 275)) :: tl, [(1, 275)], w1)) eAlk 1 rfl ?_
      refine e_Pn.getf (z := w1 275 84) eAlk rfl rfl rfl (fun b4 => ?_)
      refine e_Pn.run (t' := (80, (0, (1, 275)) :: tl, [(0, 1), (0, w1 275 84)], w1)) eAlk 1 rfl ?_
      refine e_Pn.if2 eAlk rfl (fun h5 => ?_) (fun h5 => ?_)
      · show e_Pn 20 elay ecode eI n d 346 (97, (0, (1, 275)) :: tl, [], w1) _
        refine e_Pn.run (t' := (100, (0, (1, 275)) :: tl, [(0, 27), (1, 275)], w1)) eAlk 2 rfl ?_
        refine e_Pn.callA rfl (fun n9 d9 => u_332 (q.rf hR)) (fun r7 w8 h6 => ?_)
        obtain ⟨⟨z9, rfl⟩, h6⟩ := h6
        have q10 := q.tr h6
        show e_Pn 20 elay ecode eI n d 346 (103, (0, (1, 275)) :: tl, [(0, z9)], w8) _
        exact e_Pn.ord eAlk [0] rfl rfl (v_346_103 hR _ z9 w8 q10)
      · show e_Pn 20 elay ecode eI n d 346 (83, (0, (1, 275)) :: tl, [], w1) _
        refine e_Pn.run (t' := (88, (0, (1, 275)) :: tl, [(0, 0), (0, 2), (1, 275), (0, 2), (1, 275)], w1)) eAlk 5 rfl ?_
        refine e_Pn.callA rfl (fun n9 d9 => u_336 (q.rf hR)) (fun r12 w13 h11 => ?_)
        obtain ⟨⟨z14, rfl⟩, h11⟩ := h11
        have q15 := q.tr h11
        show e_Pn 20 elay ecode eI n d 346 (91, (0, (1, 275)) :: tl, [(0, z14), (0, 2), (1, 275)], w13) _
        exact e_Pn.ord eAlk [0] rfl rfl (v_346_91 hR _ z14 2 w13 q15)
    · show e_Pn 20 elay ecode eI n d 346 (58, (0, (1, 275)) :: tl, [], w1) _
      refine e_Pn.run (t' := (61, (0, (1, 275)) :: tl, [(1, 275), (0, 1), (1, 275)], w1)) eAlk 3 rfl ?_
      refine e_Pn.getf (z := w1 275 85) eAlk rfl rfl rfl (fun b16 => ?_)
      refine e_Pn.callA rfl (fun n9 d9 => u_336 (q.rf hR)) (fun r18 w19 h17 => ?_)
      obtain ⟨⟨z20, rfl⟩, h17⟩ := h17
      have q21 := q.tr h17
      show e_Pn 20 elay ecode eI n d 346 (67, (0, (1, 275)) :: tl, [(0, z20)], w19) _
      exact e_Pn.ord eAlk [0] rfl rfl (v_346_67 hR _ z20 w19 q21)
  · show e_Pn 20 elay ecode eI n d 346 (17, (0, (1, 275)) :: tl, [], w1) _
    refine e_Pn.run (t' := (18, (0, (1, 275)) :: tl, [(1, 275)], w1)) eAlk 1 rfl ?_
    refine e_Pn.callA rfl (fun n9 d9 => u_335 (q.rf hR)) (fun r23 w24 h22 => ?_)
    obtain ⟨rfl, h22⟩ := h22
    have q25 := q.tr h22
    show e_Pn 20 elay ecode eI n d 346 (21, (0, (1, 275)) :: tl, [], w24) _
    exact e_Pn.ord eAlk [0] rfl rfl (v_346_21 hR _ w24 q25)
set_option maxHeartbeats 4000000 in
theorem v_349_154 {n d : Nat} {w : eW} (hR : mRw w) (tl : eL) (y1 : Int) (y2 : Int) (y3 : Int) (w1 : eW) (q : mq w w1) : e_Pn 20 elay ecode eI n d 349 (154, (0, (1, 275)) :: (1, (0, y1)) :: (2, (0, y2)) :: (3, (0, y3)) :: tl, [], w1) (fun r w' => r = [] ∧ mq w w') := by
  have hL1 : ∀ nn3 : Nat, nn3 ≤ n → ∀ (tl4 : eL) (y7 : Int) (y8 : Int) (y9 : Int) (w5 : eW), mq w w5 → e_Pn 20 elay ecode eI nn3 d 349 (154, (0, (1, 275)) :: (1, (0, y7)) :: (2, (0, y8)) :: (3, (0, y9)) :: tl4, [], w5) (fun r w' => r = [] ∧ mq w w') := by
    intro nn3
    induction nn3 with
    | zero => intro _ tl4 y7 y8 y9 w5 _; exact e_Pn.zero
    | succ nn3 ih2 =>
      intro hnnn3 tl4 y7 y8 y9 w5 q6
      refine e_Pn.runS (t' := (155, (0, (1, 275)) :: (1, (0, y7)) :: (2, (0, y8)) :: (3, (0, y9)) :: tl4, [(1, 275)], w5)) eAlk 0 rfl ?_
      refine e_Pn.getf (z := w5 275 88) eAlk rfl rfl rfl (fun b10 => ?_)
      refine e_Pn.if1 eAlk rfl (fun h11 => ?_) (fun h11 => ?_)
      · show e_Pn 20 elay ecode eI nn3 d 349 (184, (0, (1, 275)) :: (1, (0, y7)) :: (2, (0, y8)) :: (3, (0, y9)) :: tl4, [], w5) _
        refine e_Pn.run (t' := (188, (0, (1, 275)) :: (1, (0, y7)) :: (2, (0, y8)) :: (3, (0, y9)) :: tl4, [(0, y9), (0, 32), (1, 275)], w5)) eAlk 3 rfl ?_
        refine e_Pn.callA rfl (fun n9 d9 => u_336 (q6.rf hR)) (fun r13 w14 h12 => ?_)
        obtain ⟨⟨z15, rfl⟩, h12⟩ := h12
        have q16 := q6.tr h12
        show e_Pn 20 elay ecode eI nn3 d 349 (191, (0, (1, 275)) :: (1, (0, y7)) :: (2, (0, y8)) :: (3, (0, y9)) :: tl4, [(0, z15)], w14) _
        refine e_Pn.run (t' := (399, (0, (1, 275)) :: (1, (0, y7)) :: (2, (0, y8)) :: (3, (0, y9)) :: tl4, [(0, 59), (1, 275), (1, 275)], w14)) eAlk 5 rfl ?_
        refine e_Pn.callA rfl (fun n9 d9 => u_331 (q16.rf hR)) (fun r18 w19 h17 => ?_)
        obtain ⟨⟨z20, rfl⟩, h17⟩ := h17
        have q21 := q16.tr h17
        show e_Pn 20 elay ecode eI nn3 d 349 (402, (0, (1, 275)) :: (1, (0, y7)) :: (2, (0, y8)) :: (3, (0, y9)) :: tl4, [(0, z20), (1, 275)], w19) _
        refine e_Pn.callA rfl (fun n9 d9 => u_334 (q21.rf hR)) (fun r23 w24 h22 => ?_)
        obtain ⟨rfl, h22⟩ := h22
        have q25 := q21.tr h22
        show e_Pn 20 elay ecode eI nn3 d 349 (405, (0, (1, 275)) :: (1, (0, y7)) :: (2, (0, y8)) :: (3, (0, y9)) :: tl4, [], w24) _
        exact e_Pn.ret0 rfl ⟨rfl, q25⟩
      · show e_Pn 20 elay ecode eI nn3 d 349 (161, (0, (1, 275)) :: (1, (0, y7)) :: (2, (0, y8)) :: (3, (0, y9)) :: tl4, [], w5) _
        refine e_Pn.run (t' := (164, (0, (1, 275)) :: (1, (0, y7)) :: (2, (0, y8)) :: (3, (0, y9)) :: tl4, [(0, 44), (1, 275)], w5)) eAlk 2 rfl ?_
        refine e_Pn.callA rfl (fun n9 d9 => u_331 (q6.rf hR)) (fun r27 w28 h26 => ?_)
        obtain ⟨⟨z29, rfl⟩, h26⟩ := h26
        have q30 := q6.tr h26
        show e_Pn 20 elay ecode eI nn3 d 349 (167, (0, (1, 275)) :: (1, (0, y7)) :: (2, (0, y8)) :: (3, (0, y9)) :: tl4, [(0, z29)], w28) _
        refine e_Pn.if1 eAlk rfl (fun h31 => ?_) (fun h31 => ?_)
        · show e_Pn 20 elay ecode eI nn3 d 349 (184, (0, (1, 275)) :: (1, (0, y7)) :: (2, (0, y8)) :: (3, (0, y9)) :: tl4, [], w28) _
          refine e_Pn.run (t' := (188, (0, (1, 275)) :: (1, (0, y7)) :: (2, (0, y8)) :: (3, (0, y9)) :: tl4, [(0, y9), (0, 32), (1, 275)], w28)) eAlk 3 rfl ?_
          refine e_Pn.callA rfl (fun n9 d9 => u_336 (q30.rf hR)) (fun r33 w34 h32 => ?_)
          obtain ⟨⟨z35, rfl⟩, h32⟩ := h32
          have q36 := q30.tr h32
          show e_Pn 20 elay ecode eI nn3 d 349 (191, (0, (1, 275)) :: (1, (0, y7)) :: (2, (0, y8)) :: (3, (0, y9)) :: tl4, [(0, z35)], w34) _
          refine e_Pn.run (t' := (399, (0, (1, 275)) :: (1, (0, y7)) :: (2, (0, y8)) :: (3, (0, y9)) :: tl4, [(0, 59), (1, 275), (1, 275)], w34)) eAlk 5 rfl ?_
          refine e_Pn.callA rfl (fun n9 d9 => u_331 (q36.rf hR)) (fun r38 w39 h37 => ?_)
          obtain ⟨⟨z40, rfl⟩, h37⟩ := h37
          have q41 := q36.tr h37
          show e_Pn 20 elay ecode eI nn3 d 349 (402, (0, (1, 275)) :: (1, (0, y7)) :: (2, (0, y8)) :: (3, (0, y9)) :: tl4, [(0, z40), (1, 275)], w39) _
          refine e_Pn.callA rfl (fun n9 d9 => u_334 (q41.rf hR)) (fun r43 w44 h42 => ?_)
          obtain ⟨rfl, h42⟩ := h42
          have q45 := q41.tr h42
          show e_Pn 20 elay ecode eI nn3 d 349 (405, (0, (1, 275)) :: (1, (0, y7)) :: (2, (0, y8)) :: (3, (0, y9)) :: tl4, [], w44) _
          exact e_Pn.ret0 rfl ⟨rfl, q45⟩
        · show e_Pn 20 elay ecode eI nn3 d 349 (170, (0, (1, 275)) :: (1, (0, y7)) :: (2, (0, y8)) :: (3, (0, y9)) :: tl4, [], w28) _
          refine e_Pn.run (t' := (171, (0, (1, 275)) :: (1, (0, y7)) :: (2, (0, y8)) :: (3, (0, y9)) :: tl4, [(1, 275)], w28)) eAlk 1 rfl ?_
          refine e_Pn.callA rfl (fun n9 d9 => u_327 (q30.rf hR)) (fun r47 w48 h46 => ?_)
          obtain ⟨rfl, h46⟩ := h46
          have q49 := q30.tr h46
          show e_Pn 20 elay ecode eI nn3 d 349 (174, (0, (1, 275)) :: (1, (0, y7)) :: (2, (0, y8)) :: (3, (0, y9)) :: tl4, [], w48) _
          refine e_Pn.run (t' := (175, (0, (1, 275)) :: (1, (0, y7)) :: (2, (0, y8)) :: (3, (0, y9)) :: tl4, [(1, 275)], w48)) eAlk 1 rfl ?_
          refine e_Pn.callA rfl (fun n9 d9 => uE_all n9 339 (by decide) d9 _ (q49.rf hR)) (fun r51 w52 h50 => ?_)
          obtain ⟨rfl, h50⟩ := h50
          have q53 := q49.tr h50
          show e_Pn 20 elay ecode eI nn3 d 349 (178, (0, (1, 275)) :: (1, (0, y7)) :: (2, (0, y8)) :: (3, (0, y9)) :: tl4, [], w52) _
          refine e_Pn.incU eAlk rfl rfl (fun z54 => ?_)
          show e_Pn 20 elay ecode eI nn3 d 349 (181, (3, (0, z54)) :: (0, (1, 275)) :: (1, (0, y7)) :: (2, (0, y8)) :: List.filter (e_flt 0 3) tl4, [], w52) _
          refine e_Pn.run (t' := (154, (3, (0, z54)) :: (0, (1, 275)) :: (1, (0, y7)) :: (2, (0, y8)) :: List.filter (e_flt 0 3) tl4, [], w52)) eAlk 1 rfl ?_
          exact e_Pn.ord eAlk [0, 1, 2, 3] rfl rfl ((ih2 (by omega) _ y7 y8 z54 w52 q53).le (by omega))
  exact e_Pn.ord eAlk [0, 1, 2, 3] rfl rfl (hL1 n (Nat.le_refl _) _ y1 y2 y3 w1 q)
set_option maxHeartbeats 4000000 in
theorem v_349_405 {n d : Nat} {w : eW} (hR : mRw w) (tl : eL) (y1 : Int) (y2 : Int) (w1 : eW) (q : mq w w1) : e_Pn 20 elay ecode eI n d 349 (405, (0, (1, 275)) :: (1, (0, y1)) :: (2, (0, y2)) :: tl, [], w1) (fun r w' => r = [] ∧ mq w w') := by
  exact e_Pn.ret0 rfl ⟨rfl, q⟩
set_option maxHeartbeats 4000000 in
theorem v_349_402 {n d : Nat} {w : eW} (hR : mRw w) (tl : eL) (y1 : Int) (y2 : Int) (s0 : Int) (w1 : eW) (q : mq w w1) : e_Pn 20 elay ecode eI n d 349 (402, (0, (1, 275)) :: (1, (0, y1)) :: (2, (0, y2)) :: tl, [(0, s0), (1, 275)], w1) (fun r w' => r = [] ∧ mq w w') := by
  refine e_Pn.callA rfl (fun n9 d9 => u_334 (q.rf hR)) (fun r2 w3 h1 => ?_)
  obtain ⟨rfl, h1⟩ := h1
  have q4 := q.tr h1
  show e_Pn 20 elay ecode eI n d 349 (405, (0, (1, 275)) :: (1, (0, y1)) :: (2, (0, y2)) :: tl, [], w3) _
  exact e_Pn.ord eAlk [0, 1, 2] rfl rfl (v_349_405 hR _ y1 y2 w3 q4)
set_option maxHeartbeats 4000000 in
theorem v_349_394 {n d : Nat} {w : eW} (hR : mRw w) (tl : eL) (y1 : Int) (y2 : Int) (s0 : Int) (w1 : eW) (q : mq w w1) : e_Pn 20 elay ecode eI n d 349 (394, (0, (1, 275)) :: (1, (0, y1)) :: (2, (0, y2)) :: tl, [(0, s0)], w1) (fun r w' => r = [] ∧ mq w w') := by
  refine e_Pn.run (t' := (399, (0, (1, 275)) :: (1, (0, y1)) :: (2, (0, y2)) :: tl, [(0, 59), (1, 275), (1, 275)], w1)) eAlk 4 rfl ?_
  refine e_Pn.callA rfl (fun n9 d9 => u_331 (q.rf hR)) (fun r2 w3 h1 => ?_)
  obtain ⟨⟨z4, rfl⟩, h1⟩ := h1
  have q5 := q.tr h1
  show e_Pn 20 elay ecode eI n d 349 (402, (0, (1, 275)) :: (1, (0, y1)) :: (2, (0, y2)) :: tl, [(0, z4), (1, 275)], w3) _
  exact e_Pn.ord eAlk [0, 1, 2] rfl rfl (v_349_402 hR _ y1 y2 z4 w3 q5)
set_option maxHeartbeats 4000000 in
theorem v_349_334 {n d : Nat} {w : eW} (hR : mRw w) (tl : eL) (y1 : Int) (y2 : Int) (w1 : eW) (q : mq w w1) : e_Pn 20 elay ecode eI n d 349 (334, (0, (1, 275)) :: (1, (0, y1)) :: (2, (0, y2)) :: tl, [], w1) (fun r w' => r = [] ∧ mq w w') := by
  refine e_Pn.run (t' := (337, (0, (1, 275)) :: (1, (0, y1)) :: (2, (0, y2)) :: tl, [(0, 4), (0, y1), (1, 275)], w1)) eAlk 3 rfl ?_
  refine e_Pn.if2 eAlk rfl (fun h1 => ?_) (fun h1 => ?_)
  · show e_Pn 20 elay ecode eI n d 349 (345, (0, (1, 275)) :: (1, (0, y1)) :: (2, (0, y2)) :: tl, [(1, 275)], w1) _
    refine e_Pn.run (t' := (347, (0, (1, 275)) :: (1, (0, y1)) :: (2, (0, y2)) :: tl, [(0, 5), (0, y1), (1, 275)], w1)) eAlk 2 rfl ?_
    refine e_Pn.if2 eAlk rfl (fun h2 => ?_) (fun h2 => ?_)
    · show e_Pn 20 elay ecode eI n d 349 (355, (0, (1, 275)) :: (1, (0, y1)) :: (2, (0, y2)) :: tl, [(1, 275)], w1) _
      refine e_Pn.run (t' := (358, (0, (1, 275)) :: (1, (0, y1)) :: (2, (0, y2)) :: tl, [(0, 7), (0, y1), (1, 275)], w1)) eAlk 2 rfl ?_
      refine e_Pn.if2 eAlk rfl (fun h3 => ?_) (fun h3 => ?_)
      · show e_Pn 20 elay ecode eI n d 349 (366, (0, (1, 275)) :: (1, (0, y1)) :: (2, (0, y2)) :: tl, [(1, 275)], w1) _
        refine e_Pn.run (t' := (369, (0, (1, 275)) :: (1, (0, y1)) :: (2, (0, y2)) :: tl, [(0, 8), (0, y1), (1, 275)], w1)) eAlk 2 rfl ?_
        refine e_Pn.if2 eAlk rfl (fun h4 => ?_) (fun h4 => ?_)
        · show e_Pn 20 elay ecode eI n d 349 (377, (0, (1, 275)) :: (1, (0, y1)) :: (2, (0, y2)) :: tl, [(1, 275)], w1) _
          refine e_Pn.run (t' := (380, (0, (1, 275)) :: (1, (0, y1)) :: (2, (0, y2)) :: tl, [(0, 11), (0, y1), (1, 275)], w1)) eAlk 2 rfl ?_
          refine e_Pn.if2 eAlk rfl (fun h5 => ?_) (fun h5 => ?_)
          · show e_Pn 20 elay ecode eI n d 349 (388, (0, (1, 275)) :: (1, (0, y1)) :: (2, (0, y2)) :: tl, [(1, 275)], w1) _
            refine e_Pn.run (t' := (391, (0, (1, 275)) :: (1, (0, y1)) :: (2, (0, y2)) :: tl, [(0, y2), (0, 41), (1, 275)], w1)) eAlk 2 rfl ?_
            refine e_Pn.callA rfl (fun n9 d9 => u_336 (q.rf hR)) (fun r7 w8 h6 => ?_)
            obtain ⟨⟨z9, rfl⟩, h6⟩ := h6
            have q10 := q.tr h6
            show e_Pn 20 elay ecode eI n d 349 (394, (0, (1, 275)) :: (1, (0, y1)) :: (2, (0, y2)) :: tl, [(0, z9)], w8) _
            exact e_Pn.ord eAlk [0, 1, 2] rfl rfl (v_349_394 hR _ y1 y2 z9 w8 q10)
          · show e_Pn 20 elay ecode eI n d 349 (383, (0, (1, 275)) :: (1, (0, y1)) :: (2, (0, y2)) :: tl, [(1, 275)], w1) _
            refine e_Pn.run (t' := (391, (0, (1, 275)) :: (1, (0, y1)) :: (2, (0, y2)) :: tl, [(0, y2), (0, 40), (1, 275)], w1)) eAlk 3 rfl ?_
            refine e_Pn.callA rfl (fun n9 d9 => u_336 (q.rf hR)) (fun r12 w13 h11 => ?_)
            obtain ⟨⟨z14, rfl⟩, h11⟩ := h11
            have q15 := q.tr h11
            show e_Pn 20 elay ecode eI n d 349 (394, (0, (1, 275)) :: (1, (0, y1)) :: (2, (0, y2)) :: tl, [(0, z14)], w13) _
            exact e_Pn.ord eAlk [0, 1, 2] rfl rfl (v_349_394 hR _ y1 y2 z14 w13 q15)
        · show e_Pn 20 elay ecode eI n d 349 (372, (0, (1, 275)) :: (1, (0, y1)) :: (2, (0, y2)) :: tl, [(1, 275)], w1) _
          refine e_Pn.run (t' := (391, (0, (1, 275)) :: (1, (0, y1)) :: (2, (0, y2)) :: tl, [(0, y2), (0, 37), (1, 275)], w1)) eAlk 3 rfl ?_
          refine e_Pn.callA rfl (fun n9 d9 => u_336 (q.rf hR)) (fun r17 w18 h16 => ?_)
          obtain ⟨⟨z19, rfl⟩, h16⟩ := h16
          have q20 := q.tr h16
          show e_Pn 20 elay ecode eI n d 349 (394, (0, (1, 275)) :: (1, (0, y1)) :: (2, (0, y2)) :: tl, [(0, z19)], w18) _
          exact e_Pn.ord eAlk [0, 1, 2] rfl rfl (v_349_394 hR _ y1 y2 z19 w18 q20)
      · show e_Pn 20 elay ecode eI n d 349 (361, (0, (1, 275)) :: (1, (0, y1)) :: (2, (0, y2)) :: tl, [(1, 275)], w1) _
        refine e_Pn.run (t' := (391, (0, (1, 275)) :: (1, (0, y1)) :: (2, (0, y2)) :: tl, [(0, y2), (0, 36), (1, 275)], w1)) eAlk 3 rfl ?_
        refine e_Pn.callA rfl (fun n9 d9 => u_336 (q.rf hR)) (fun r22 w23 h21 => ?_)
        obtain ⟨⟨z24, rfl⟩, h21⟩ := h21
        have q25 := q.tr h21
        show e_Pn 20 elay ecode eI n d 349 (394, (0, (1, 275)) :: (1, (0, y1)) :: (2, (0, y2)) :: tl, [(0, z24)], w23) _
        exact e_Pn.ord eAlk [0, 1, 2] rfl rfl (v_349_394 hR _ y1 y2 z24 w23 q25)
    · show e_Pn 20 elay ecode eI n d 349 (350, (0, (1, 275)) :: (1, (0, y1)) :: (2, (0, y2)) :: tl, [(1, 275)], w1) _
      refine e_Pn.run (t' := (391, (0, (1, 275)) :: (1, (0, y1)) :: (2, (0, y2)) :: tl, [(0, y2), (0, 34), (1, 275)], w1)) eAlk 3 rfl ?_
      refine e_Pn.callA rfl (fun n9 d9 => u_336 (q.rf hR)) (fun r27 w28 h26 => ?_)
      obtain ⟨⟨z29, rfl⟩, h26⟩ := h26
      have q30 := q.tr h26
      show e_Pn 20 elay ecode eI n d 349 (394, (0, (1, 275)) :: (1, (0, y1)) :: (2, (0, y2)) :: tl, [(0, z29)], w28) _
      exact e_Pn.ord eAlk [0, 1, 2] rfl rfl (v_349_394 hR _ y1 y2 z29 w28 q30)
  · show e_Pn 20 elay ecode eI n d 349 (340, (0, (1, 275)) :: (1, (0, y1)) :: (2, (0, y2)) :: tl, [(1, 275)], w1) _
    refine e_Pn.run (t' := (391, (0, (1, 275)) :: (1, (0, y1)) :: (2, (0, y2)) :: tl, [(0, y2), (0, 33), (1, 275)], w1)) eAlk 3 rfl ?_
    refine e_Pn.callA rfl (fun n9 d9 => u_336 (q.rf hR)) (fun r32 w33 h31 => ?_)
    obtain ⟨⟨z34, rfl⟩, h31⟩ := h31
    have q35 := q.tr h31
    show e_Pn 20 elay ecode eI n d 349 (394, (0, (1, 275)) :: (1, (0, y1)) :: (2, (0, y2)) :: tl, [(0, z34)], w33) _
    exact e_Pn.ord eAlk [0, 1, 2] rfl rfl (v_349_394 hR _ y1 y2 z34 w33 q35)
set_option maxHeartbeats 4000000 in
theorem v_349_326 {n d : Nat} {w : eW} (hR : mRw w) (tl : eL) (y1 : Int) (y2 : Int) (s0 : Int) (w1 : eW) (q : mq w w1) : e_Pn 20 elay ecode eI n d 349 (326, (0, (1, 275)) :: (1, (0, y1)) :: (2, (0, y2)) :: tl, [(0, s0)], w1) (fun r w' => r = [] ∧ mq w w') := by
  refine e_Pn.run (t' := (399, (0, (1, 275)) :: (1, (0, y1)) :: (2, (0, y2)) :: tl, [(0, 59), (1, 275), (1, 275)], w1)) eAlk 5 rfl ?_
  refine e_Pn.callA rfl (fun n9 d9 => u_331 (q.rf hR)) (fun r2 w3 h1 => ?_)
  obtain ⟨⟨z4, rfl⟩, h1⟩ := h1
  have q5 := q.tr h1
  show e_Pn 20 elay ecode eI n d 349 (402, (0, (1, 275)) :: (1, (0, y1)) :: (2, (0, y2)) :: tl, [(0, z4), (1, 275)], w3) _
  exact e_Pn.ord eAlk [0, 1, 2] rfl rfl (v_349_402 hR _ y1 y2 z4 w3 q5)
set_option maxHeartbeats 4000000 in
end
