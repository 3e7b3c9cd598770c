noncomputable section
theorem v_349_312 {n d : Nat} {w : eW} (hR : mRw w) (tl : eL) (y1 : Int) (y2 : Int) (s0 : Int) (w1 : eW) (q : mq w w1) : e_Pn 20 elay ecode eI n d 349 (312, (0, (1, 275)) :: (1, (0, y1)) :: (2, (0, y2)) :: tl, [(0, s0)], w1) (fun r w' => r = [] ∧ mq w w') := by
  refine e_Pn.run (t' := (399, (0, (1, 275)) :: (1, (0, y1)) :: (2, (0, y2)) :: tl, [(0, 59), (1, 275), (1, 275)], w1)) eAlk 5 rfl ?_
  refine e_Pn.callA rfl (fun n9 d9 => u_331 (q.rf hR)) (fun r2 w3 h1 => ?_)
  obtain ⟨⟨z4, rfl⟩, h1⟩ := h1
  have q5 := q.tr h1
  show e_Pn 20 elay ecode eI n d 349 (402, (0, (1, 275)) :: (1, (0, y1)) :: (2, (0, y2)) :: tl, [(0, z4), (1, 275)], w3) _
  exact e_Pn.ord eAlk [0, 1, 2] rfl rfl (v_349_402 hR _ y1 y2 z4 w3 q5)
set_option maxHeartbeats 4000000 in
theorem v_349_301 {n d : Nat} {w : eW} (hR : mRw w) (tl : eL) (y1 : Int) (y2 : Int) (s0 : Int) (w1 : eW) (q : mq w w1) : e_Pn 20 elay ecode eI n d 349 (301, (0, (1, 275)) :: (1, (0, y1)) :: (2, (0, y2)) :: tl, [(0, s0)], w1) (fun r w' => r = [] ∧ mq w w') := by
  refine e_Pn.run (t' := (399, (0, (1, 275)) :: (1, (0, y1)) :: (2, (0, y2)) :: tl, [(0, 59), (1, 275), (1, 275)], w1)) eAlk 5 rfl ?_
  refine e_Pn.callA rfl (fun n9 d9 => u_331 (q.rf hR)) (fun r2 w3 h1 => ?_)
  obtain ⟨⟨z4, rfl⟩, h1⟩ := h1
  have q5 := q.tr h1
  show e_Pn 20 elay ecode eI n d 349 (402, (0, (1, 275)) :: (1, (0, y1)) :: (2, (0, y2)) :: tl, [(0, z4), (1, 275)], w3) _
  exact e_Pn.ord eAlk [0, 1, 2] rfl rfl (v_349_402 hR _ y1 y2 z4 w3 q5)
set_option maxHeartbeats 4000000 in
theorem v_349_290 {n d : Nat} {w : eW} (hR : mRw w) (tl : eL) (y1 : Int) (y2 : Int) (s0 : Int) (w1 : eW) (q : mq w w1) : e_Pn 20 elay ecode eI n d 349 (290, (0, (1, 275)) :: (1, (0, y1)) :: (2, (0, y2)) :: tl, [(0, s0)], w1) (fun r w' => r = [] ∧ mq w w') := by
  refine e_Pn.run (t' := (399, (0, (1, 275)) :: (1, (0, y1)) :: (2, (0, y2)) :: tl, [(0, 59), (1, 275), (1, 275)], w1)) eAlk 5 rfl ?_
  refine e_Pn.callA rfl (fun n9 d9 => u_331 (q.rf hR)) (fun r2 w3 h1 => ?_)
  obtain ⟨⟨z4, rfl⟩, h1⟩ := h1
  have q5 := q.tr h1
  show e_Pn 20 elay ecode eI n d 349 (402, (0, (1, 275)) :: (1, (0, y1)) :: (2, (0, y2)) :: tl, [(0, z4), (1, 275)], w3) _
  exact e_Pn.ord eAlk [0, 1, 2] rfl rfl (v_349_402 hR _ y1 y2 z4 w3 q5)
set_option maxHeartbeats 4000000 in
theorem v_349_280 {n d : Nat} {w : eW} (hR : mRw w) (tl : eL) (y1 : Int) (y2 : Int) (w1 : eW) (q : mq w w1) : e_Pn 20 elay ecode eI n d 349 (280, (0, (1, 275)) :: (1, (0, y1)) :: (2, (0, y2)) :: tl, [], w1) (fun r w' => r = [] ∧ mq w w') := by
  refine e_Pn.run (t' := (399, (0, (1, 275)) :: (1, (0, y1)) :: (2, (0, y2)) :: tl, [(0, 59), (1, 275), (1, 275)], w1)) eAlk 4 rfl ?_
  refine e_Pn.callA rfl (fun n9 d9 => u_331 (q.rf hR)) (fun r2 w3 h1 => ?_)
  obtain ⟨⟨z4, rfl⟩, h1⟩ := h1
  have q5 := q.tr h1
  show e_Pn 20 elay ecode eI n d 349 (402, (0, (1, 275)) :: (1, (0, y1)) :: (2, (0, y2)) :: tl, [(0, z4), (1, 275)], w3) _
  exact e_Pn.ord eAlk [0, 1, 2] rfl rfl (v_349_402 hR _ y1 y2 z4 w3 q5)
set_option maxHeartbeats 4000000 in
theorem v_349_277 {n d : Nat} {w : eW} (hR : mRw w) (tl : eL) (y1 : Int) (y2 : Int) (s0 : Int) (s1 : Int) (w1 : eW) (q : mq w w1) : e_Pn 20 elay ecode eI n d 349 (277, (0, (1, 275)) :: (1, (0, y1)) :: (2, (0, y2)) :: tl, [(0, s0), (0, s1), (1, 275)], w1) (fun r w' => r = [] ∧ mq w w') := by
  refine e_Pn.callA rfl (fun n9 d9 => u_338 (q.rf hR)) (fun r2 w3 h1 => ?_)
  obtain ⟨rfl, h1⟩ := h1
  have q4 := q.tr h1
  show e_Pn 20 elay ecode eI n d 349 (280, (0, (1, 275)) :: (1, (0, y1)) :: (2, (0, y2)) :: tl, [], w3) _
  exact e_Pn.ord eAlk [0, 1, 2] rfl rfl (v_349_280 hR _ y1 y2 w3 q4)
set_option maxHeartbeats 4000000 in
theorem v_349_268 {n d : Nat} {w : eW} (hR : mRw w) (tl : eL) (y1 : Int) (y2 : Int) (w1 : eW) (q : mq w w1) : e_Pn 20 elay ecode eI n d 349 (268, (0, (1, 275)) :: (1, (0, y1)) :: (2, (0, y2)) :: tl, [], w1) (fun r w' => r = [] ∧ mq w w') := by
  refine e_Pn.run (t' := (274, (0, (1, 275)) :: (1, (0, y1)) :: (2, (0, y2)) :: tl, [(0, 0), (0, 44), (1, 275), (0, 3), (1, 275)], w1)) eAlk 5 rfl ?_
  refine e_Pn.callA rfl (fun n9 d9 => u_336 (q.rf hR)) (fun r2 w3 h1 => ?_)
  obtain ⟨⟨z4, rfl⟩, h1⟩ := h1
  have q5 := q.tr h1
  show e_Pn 20 elay ecode eI n d 349 (277, (0, (1, 275)) :: (1, (0, y1)) :: (2, (0, y2)) :: tl, [(0, z4), (0, 3), (1, 275)], w3) _
  exact e_Pn.ord eAlk [0, 1, 2] rfl rfl (v_349_277 hR _ y1 y2 z4 3 w3 q5)
set_option maxHeartbeats 4000000 in
theorem v_349_265 {n d : Nat} {w : eW} (hR : mRw w) (tl : eL) (y1 : Int) (y2 : Int) (s0 : Int) (w1 : eW) (q : mq w w1) : e_Pn 20 elay ecode eI n d 349 (265, (0, (1, 275)) :: (1, (0, y1)) :: (2, (0, y2)) :: tl, [(0, s0), (1, 275)], w1) (fun r w' => r = [] ∧ mq w w') := by
  refine e_Pn.callA rfl (fun n9 d9 => u_334 (q.rf hR)) (fun r2 w3 h1 => ?_)
  obtain ⟨rfl, h1⟩ := h1
  have q4 := q.tr h1
  show e_Pn 20 elay ecode eI n d 349 (268, (0, (1, 275)) :: (1, (0, y1)) :: (2, (0, y2)) :: tl, [], w3) _
  exact e_Pn.ord eAlk [0, 1, 2] rfl rfl (v_349_268 hR _ y1 y2 w3 q4)
set_option maxHeartbeats 4000000 in
theorem v_349_258 {n d : Nat} {w : eW} (hR : mRw w) (tl : eL) (y1 : Int) (y2 : Int) (w1 : eW) (q : mq w w1) : e_Pn 20 elay ecode eI n d 349 (258, (0, (1, 275)) :: (1, (0, y1)) :: (2, (0, y2)) :: tl, [], w1) (fun r w' => r = [] ∧ mq w w') := by
  refine e_Pn.run (t' := (262, (0, (1, 275)) :: (1, (0, y1)) :: (2, (0, y2)) :: tl, [(0, 44), (1, 275), (1, 275)], w1)) eAlk 3 rfl ?_
  refine e_Pn.callA rfl (fun n9 d9 => u_331 (q.rf hR)) (fun r2 w3 h1 => ?_)
  obtain ⟨⟨z4, rfl⟩, h1⟩ := h1
  have q5 := q.tr h1
  show e_Pn 20 elay ecode eI n d 349 (265, (0, (1, 275)) :: (1, (0, y1)) :: (2, (0, y2)) :: tl, [(0, z4), (1, 275)], w3) _
  exact e_Pn.ord eAlk [0, 1, 2] rfl rfl (v_349_265 hR _ y1 y2 z4 w3 q5)
set_option maxHeartbeats 4000000 in
theorem v_349_251 {n d : Nat} {w : eW} (hR : mRw w) (tl : eL) (y1 : Int) (y2 : Int) (w1 : eW) (q : mq w w1) : e_Pn 20 elay ecode eI n d 349 (251, (0, (1, 275)) :: (1, (0, y1)) :: (2, (0, y2)) :: tl, [], w1) (fun r w' => r = [] ∧ mq w w') := by
  refine e_Pn.run (t' := (399, (0, (1, 275)) :: (1, (0, y1)) :: (2, (0, y2)) :: tl, [(0, 59), (1, 275), (1, 275)], w1)) eAlk 4 rfl ?_
  refine e_Pn.callA rfl (fun n9 d9 => u_331 (q.rf hR)) (fun r2 w3 h1 => ?_)
  obtain ⟨⟨z4, rfl⟩, h1⟩ := h1
  have q5 := q.tr h1
  show e_Pn 20 elay ecode eI n d 349 (402, (0, (1, 275)) :: (1, (0, y1)) :: (2, (0, y2)) :: tl, [(0, z4), (1, 275)], w3) _
  exact e_Pn.ord eAlk [0, 1, 2] rfl rfl (v_349_402 hR _ y1 y2 z4 w3 q5)
set_option maxHeartbeats 4000000 in
theorem v_349_248 {n d : Nat} {w : eW} (hR : mRw w) (tl : eL) (y1 : Int) (y2 : Int) (s0 : Int) (s1 : Int) (w1 : eW) (q : mq w w1) : e_Pn 20 elay ecode eI n d 349 (248, (0, (1, 275)) :: (1, (0, y1)) :: (2, (0, y2)) :: tl, [(0, s0), (0, s1), (1, 275)], w1) (fun r w' => r = [] ∧ mq w w') := by
  refine e_Pn.callA rfl (fun n9 d9 => u_338 (q.rf hR)) (fun r2 w3 h1 => ?_)
  obtain ⟨rfl, h1⟩ := h1
  have q4 := q.tr h1
  show e_Pn 20 elay ecode eI n d 349 (251, (0, (1, 275)) :: (1, (0, y1)) :: (2, (0, y2)) :: tl, [], w3) _
  exact e_Pn.ord eAlk [0, 1, 2] rfl rfl (v_349_251 hR _ y1 y2 w3 q4)
set_option maxHeartbeats 4000000 in
theorem v_349_236 {n d : Nat} {w : eW} (hR : mRw w) (tl : eL) (y1 : Int) (y2 : Int) (w1 : eW) (q : mq w w1) : e_Pn 20 elay ecode eI n d 349 (236, (0, (1, 275)) :: (1, (0, y1)) :: (2, (0, y2)) :: tl, [], w1) (fun r w' => r = [] ∧ mq w w') := by
  refine e_Pn.run (t' := (399, (0, (1, 275)) :: (1, (0, y1)) :: (2, (0, y2)) :: tl, [(0, 59), (1, 275), (1, 275)], w1)) eAlk 4 rfl ?_
  refine e_Pn.callA rfl (fun n9 d9 => u_331 (q.rf hR)) (fun r2 w3 h1 => ?_)
  obtain ⟨⟨z4, rfl⟩, h1⟩ := h1
  have q5 := q.tr h1
  show e_Pn 20 elay ecode eI n d 349 (402, (0, (1, 275)) :: (1, (0, y1)) :: (2, (0, y2)) :: tl, [(0, z4), (1, 275)], w3) _
  exact e_Pn.ord eAlk [0, 1, 2] rfl rfl (v_349_402 hR _ y1 y2 z4 w3 q5)
set_option maxHeartbeats 4000000 in
theorem v_349_233 {n d : Nat} {w : eW} (hR : mRw w) (tl : eL) (y1 : Int) (y2 : Int) (s0 : Int) (s1 : Int) (w1 : eW) (q : mq w w1) : e_Pn 20 elay ecode eI n d 349 (233, (0, (1, 275)) :: (1, (0, y1)) :: (2, (0, y2)) :: tl, [(0, s0), (0, s1), (1, 275)], w1) (fun r w' => r = [] ∧ mq w w') := by
  refine e_Pn.callA rfl (fun n9 d9 => u_338 (q.rf hR)) (fun r2 w3 h1 => ?_)
  obtain ⟨rfl, h1⟩ := h1
  have q4 := q.tr h1
  show e_Pn 20 elay ecode eI n d 349 (236, (0, (1, 275)) :: (1, (0, y1)) :: (2, (0, y2)) :: tl, [], w3) _
  exact e_Pn.ord eAlk [0, 1, 2] rfl rfl (v_349_236 hR _ y1 y2 w3 q4)
set_option maxHeartbeats 4000000 in
theorem v_349_220 {n d : Nat} {w : eW} (hR : mRw w) (tl : eL) (y1 : Int) (y2 : Int) (s0 : Int) (w1 : eW) (q : mq w w1) : e_Pn 20 elay ecode eI n d 349 (220, (0, (1, 275)) :: (1, (0, y1)) :: (2, (0, y2)) :: tl, [(0, s0)], w1) (fun r w' => r = [] ∧ mq w w') := by
  refine e_Pn.run (t' := (399, (0, (1, 275)) :: (1, (0, y1)) :: (2, (0, y2)) :: tl, [(0, 59), (1, 275), (1, 275)], w1)) eAlk 5 rfl ?_
  refine e_Pn.callA rfl (fun n9 d9 => u_331 (q.rf hR)) (fun r2 w3 h1 => ?_)
  obtain ⟨⟨z4, rfl⟩, h1⟩ := h1
  have q5 := q.tr h1
  show e_Pn 20 elay ecode eI n d 349 (402, (0, (1, 275)) :: (1, (0, y1)) :: (2, (0, y2)) :: tl, [(0, z4), (1, 275)], w3) _
  exact e_Pn.ord eAlk [0, 1, 2] rfl rfl (v_349_402 hR _ y1 y2 z4 w3 q5)
set_option maxHeartbeats 4000000 in
theorem v_349_213 {n d : Nat} {w : eW} (hR : mRw w) (tl : eL) (y1 : Int) (y2 : Int) (w1 : eW) (q : mq w w1) : e_Pn 20 elay ecode eI n d 349 (213, (0, (1, 275)) :: (1, (0, y1)) :: (2, (0, y2)) :: tl, [], w1) (fun r w' => r = [] ∧ mq w w') := by
  refine e_Pn.run (t' := (217, (0, (1, 275)) :: (1, (0, y1)) :: (2, (0, y2)) :: tl, [(0, 0), (0, 35), (1, 275)], w1)) eAlk 3 rfl ?_
  refine e_Pn.callA rfl (fun n9 d9 => u_336 (q.rf hR)) (fun r2 w3 h1 => ?_)
  obtain ⟨⟨z4, rfl⟩, h1⟩ := h1
  have q5 := q.tr h1
  show e_Pn 20 elay ecode eI n d 349 (220, (0, (1, 275)) :: (1, (0, y1)) :: (2, (0, y2)) :: tl, [(0, z4)], w3) _
  exact e_Pn.ord eAlk [0, 1, 2] rfl rfl (v_349_220 hR _ y1 y2 z4 w3 q5)
set_option maxHeartbeats 4000000 in
theorem v_349_209 {n d : Nat} {w : eW} (hR : mRw w) (tl : eL) (y1 : Int) (y2 : Int) (w1 : eW) (q : mq w w1) : e_Pn 20 elay ecode eI n d 349 (209, (0, (1, 275)) :: (1, (0, y1)) :: (2, (0, y2)) :: tl, [], w1) (fun r w' => r = [] ∧ mq w w') := by
  refine e_Pn.run (t' := (210, (0, (1, 275)) :: (1, (0, y1)) :: (2, (0, y2)) :: tl, [(1, 275)], w1)) eAlk 1 rfl ?_
  refine e_Pn.callA rfl (fun n9 d9 => uE_all n9 339 (by decide) d9 _ (q.rf hR)) (fun r2 w3 h1 => ?_)
  obtain ⟨rfl, h1⟩ := h1
  have q4 := q.tr h1
  show e_Pn 20 elay ecode eI n d 349 (213, (0, (1, 275)) :: (1, (0, y1)) :: (2, (0, y2)) :: tl, [], w3) _
  exact e_Pn.ord eAlk [0, 1, 2] rfl rfl (v_349_213 hR _ y1 y2 w3 q4)
set_option maxHeartbeats 4000000 in
theorem v_349_206 {n d : Nat} {w : eW} (hR : mRw w) (tl : eL) (y1 : Int) (y2 : Int) (s0 : Int) (w1 : eW) (q : mq w w1) : e_Pn 20 elay ecode eI n d 349 (206, (0, (1, 275)) :: (1, (0, y1)) :: (2, (0, y2)) :: tl, [(0, s0), (1, 275)], w1) (fun r w' => r = [] ∧ mq w w') := by
  refine e_Pn.callA rfl (fun n9 d9 => u_334 (q.rf hR)) (fun r2 w3 h1 => ?_)
  obtain ⟨rfl, h1⟩ := h1
  have q4 := q.tr h1
  show e_Pn 20 elay ecode eI n d 349 (209, (0, (1, 275)) :: (1, (0, y1)) :: (2, (0, y2)) :: tl, [], w3) _
  exact e_Pn.ord eAlk [0, 1, 2] rfl rfl (v_349_209 hR _ y1 y2 w3 q4)
set_option maxHeartbeats 4000000 in
theorem v_349_199 {n d : Nat} {w : eW} (hR : mRw w) (tl : eL) (y1 : Int) (y2 : Int) (w1 : eW) (q : mq w w1) : e_Pn 20 elay ecode eI n d 349 (199, (0, (1, 275)) :: (1, (0, y1)) :: (2, (0, y2)) :: tl, [], w1) (fun r w' => r = [] ∧ mq w w') := by
  refine e_Pn.run (t' := (203, (0, (1, 275)) :: (1, (0, y1)) :: (2, (0, y2)) :: tl, [(0, 44), (1, 275), (1, 275)], w1)) eAlk 3 rfl ?_
  refine e_Pn.callA rfl (fun n9 d9 => u_331 (q.rf hR)) (fun r2 w3 h1 => ?_)
  obtain ⟨⟨z4, rfl⟩, h1⟩ := h1
  have q5 := q.tr h1
  show e_Pn 20 elay ecode eI n d 349 (206, (0, (1, 275)) :: (1, (0, y1)) :: (2, (0, y2)) :: tl, [(0, z4), (1, 275)], w3) _
  exact e_Pn.ord eAlk [0, 1, 2] rfl rfl (v_349_206 hR _ y1 y2 z4 w3 q5)
set_option maxHeartbeats 4000000 in
theorem v_349_191 {n d : Nat} {w : eW} (hR : mRw w) (tl : eL) (y1 : Int) (y2 : Int) (y3 : Int) (s0 : Int) (w1 : eW) (q : mq w w1) : e_Pn 20 elay ecode eI n d 349 (191, (0, (1, 275)) :: (1, (0, y1)) :: (2, (0, y2)) :: (3, (0, y3)) :: tl, [(0, s0)], w1) (fun r w' => r = [] ∧ mq w w') := by
  refine e_Pn.run (t' := (399, (0, (1, 275)) :: (1, (0, y1)) :: (2, (0, y2)) :: (3, (0, y3)) :: tl, [(0, 59), (1, 275), (1, 275)], w1)) eAlk 5 rfl ?_
  refine e_Pn.callA rfl (fun n9 d9 => u_331 (q.rf hR)) (fun r2 w3 h1 => ?_)
  obtain ⟨⟨z4, rfl⟩, h1⟩ := h1
  have q5 := q.tr h1
  show e_Pn 20 elay ecode eI n d 349 (402, (0, (1, 275)) :: (1, (0, y1)) :: (2, (0, y2)) :: (3, (0, y3)) :: tl, [(0, z4), (1, 275)], w3) _
  exact e_Pn.ord eAlk [0, 1, 2] rfl rfl (v_349_402 hR _ y1 y2 z4 w3 q5)
set_option maxHeartbeats 4000000 in
theorem v_349_178 {n d : Nat} {w : eW} (hR : mRw w) (tl : eL) (y1 : Int) (y2 : Int) (y3 : Int) (w1 : eW) (q : mq w w1) : e_Pn 20 elay ecode eI n d 349 (178, (0, (1, 275)) :: (1, (0, y1)) :: (2, (0, y2)) :: (3, (0, y3)) :: tl, [], w1) (fun r w' => r = [] ∧ mq w w') := by
  refine e_Pn.incU eAlk rfl rfl (fun z1 => ?_)
  show e_Pn 20 elay ecode eI n d 349 (181, (3, (0, z1)) :: (0, (1, 275)) :: (1, (0, y1)) :: (2, (0, y2)) :: List.filter (e_flt 0 3) tl, [], w1) _
  refine e_Pn.run (t' := (154, (3, (0, z1)) :: (0, (1, 275)) :: (1, (0, y1)) :: (2, (0, y2)) :: List.filter (e_flt 0 3) tl, [], w1)) eAlk 1 rfl ?_
  exact e_Pn.ord eAlk [0, 1, 2, 3] rfl rfl (v_349_154 hR _ y1 y2 z1 w1 q)
set_option maxHeartbeats 4000000 in
theorem v_349_174 {n d : Nat} {w : eW} (hR : mRw w) (tl : eL) (y1 : Int) (y2 : Int) (y3 : Int) (w1 : eW) (q : mq w w1) : e_Pn 20 elay ecode eI n d 349 (174, (0, (1, 275)) :: (1, (0, y1)) :: (2, (0, y2)) :: (3, (0, y3)) :: tl, [], w1) (fun r w' => r = [] ∧ mq w w') := by
  refine e_Pn.run (t' := (175, (0, (1, 275)) :: (1, (0, y1)) :: (2, (0, y2)) :: (3, (0, y3)) :: tl, [(1, 275)], w1)) eAlk 1 rfl ?_
  refine e_Pn.callA rfl (fun n9 d9 => uE_all n9 339 (by decide) d9 _ (q.rf hR)) (fun r2 w3 h1 => ?_)
  obtain ⟨rfl, h1⟩ := h1
  have q4 := q.tr h1
  show e_Pn 20 elay ecode eI n d 349 (178, (0, (1, 275)) :: (1, (0, y1)) :: (2, (0, y2)) :: (3, (0, y3)) :: tl, [], w3) _
  exact e_Pn.ord eAlk [0, 1, 2, 3] rfl rfl (v_349_178 hR _ y1 y2 y3 w3 q4)
set_option maxHeartbeats 4000000 in
theorem v_349_167 {n d : Nat} {w : eW} (hR : mRw w) (tl : eL) (y1 : Int) (y2 : Int) (y3 : Int) (s0 : Int) (w1 : eW) (q : mq w w1) : e_Pn 20 elay ecode eI n d 349 (167, (0, (1, 275)) :: (1, (0, y1)) :: (2, (0, y2)) :: (3, (0, y3)) :: tl, [(0, s0)], w1) (fun r w' => r = [] ∧ mq w w') := by
  refine e_Pn.if1 eAlk rfl (fun h1 => ?_) (fun h1 => ?_)
  · show e_Pn 20 elay ecode eI n d 349 (184, (0, (1, 275)) :: (1, (0, y1)) :: (2, (0, y2)) :: (3, (0, y3)) :: tl, [], w1) _
    refine e_Pn.run (t' := (188, (0, (1, 275)) :: (1, (0, y1)) :: (2, (0, y2)) :: (3, (0, y3)) :: tl, [(0, y3), (0, 32), (1, 275)], w1)) eAlk 3 rfl ?_
    refine e_Pn.callA rfl (fun n9 d9 => u_336 (q.rf hR)) (fun r3 w4 h2 => ?_)
    obtain ⟨⟨z5, rfl⟩, h2⟩ := h2
    have q6 := q.tr h2
    show e_Pn 20 elay ecode eI n d 349 (191, (0, (1, 275)) :: (1, (0, y1)) :: (2, (0, y2)) :: (3, (0, y3)) :: tl, [(0, z5)], w4) _
    exact e_Pn.ord eAlk [0, 1, 2, 3] rfl rfl (v_349_191 hR _ y1 y2 y3 z5 w4 q6)
  · show e_Pn 20 elay ecode eI n d 349 (170, (0, (1, 275)) :: (1, (0, y1)) :: (2, (0, y2)) :: (3, (0, y3)) :: tl, [], w1) _
    refine e_Pn.run (t' := (171, (0, (1, 275)) :: (1, (0, y1)) :: (2, (0, y2)) :: (3, (0, y3)) :: tl, [(1, 275)], w1)) eAlk 1 rfl ?_
    refine e_Pn.callA rfl (fun n9 d9 => u_327 (q.rf hR)) (fun r8 w9 h7 => ?_)
    obtain ⟨rfl, h7⟩ := h7
    have q10 := q.tr h7
    show e_Pn 20 elay ecode eI n d 349 (174, (0, (1, 275)) :: (1, (0, y1)) :: (2, (0, y2)) :: (3, (0, y3)) :: tl, [], w9) _
    exact e_Pn.ord eAlk [0, 1, 2, 3] rfl rfl (v_349_174 hR _ y1 y2 y3 w9 q10)
set_option maxHeartbeats 4000000 in
theorem v_349_152 {n d : Nat} {w : eW} (hR : mRw w) (tl : eL) (y1 : Int) (y2 : Int) (w1 : eW) (q : mq w w1) : e_Pn 20 elay ecode eI n d 349 (152, (0, (1, 275)) :: (1, (0, y1)) :: (2, (0, y2)) :: tl, [], w1) (fun r w' => r = [] ∧ mq w w') := by
  refine e_Pn.run (t' := (154, (3, (0, 1)) :: (0, (1, 275)) :: (1, (0, y1)) :: (2, (0, y2)) :: List.filter (e_flt 0 3) tl, [], w1)) eAlk 2 rfl ?_
  exact e_Pn.ord eAlk [0, 1, 2, 3] rfl rfl (v_349_154 hR _ y1 y2 1 w1 q)
set_option maxHeartbeats 4000000 in
theorem v_349_73 {n d : Nat} {w : eW} (hR : mRw w) (tl : eL) (y1 : Int) (y2 : Int) (w1 : eW) (q : mq w w1) : e_Pn 20 elay ecode eI n d 349 (73, (0, (1, 275)) :: (1, (0, y1)) :: (2, (0, y2)) :: tl, [], w1) (fun r w' => r = [] ∧ mq w w') := by
  refine e_Pn.run (t' := (74, (0, (1, 275)) :: (1, (0, y1)) :: (2, (0, y2)) :: tl, [(0, y1)], w1)) eAlk 1 rfl ?_
  have a148 : e_Pn 20 elay ecode eI n d 349 (148, (0, (1, 275)) :: (1, (0, y1)) :: (2, (0, y2)) :: tl, [], w1) (fun r w' => r = [] ∧ mq w w') := by
    refine e_Pn.run (t' := (149, (0, (1, 275)) :: (1, (0, y1)) :: (2, (0, y2)) :: tl, [(1, 275)], w1)) eAlk 1 rfl ?_
    refine e_Pn.callA rfl (fun n9 d9 => uE_all n9 339 (by decide) d9 _ (q.rf hR)) (fun r2 w3 h1 => ?_)
    obtain ⟨rfl, h1⟩ := h1
    have q4 := q.tr h1
    show e_Pn 20 elay ecode eI n d 349 (152, (0, (1, 275)) :: (1, (0, y1)) :: (2, (0, y2)) :: tl, [], w3) _
    exact e_Pn.ord eAlk [0, 1, 2] rfl rfl (v_349_152 hR _ y1 y2 w3 q4)
  have a195 : e_Pn 20 elay ecode eI n d 349 (195, (0, (1, 275)) :: (1, (0, y1)) :: (2, (0, y2)) :: tl, [], w1) (fun r w' => r = [] ∧ mq w w') := by
    refine e_Pn.run (t' := (196, (0, (1, 275)) :: (1, (0, y1)) :: (2, (0, y2)) :: tl, [(1, 275)], w1)) eAlk 1 rfl ?_
    refine e_Pn.callA rfl (fun n9 d9 => uE_all n9 339 (by decide) d9 _ (q.rf hR)) (fun r6 w7 h5 => ?_)
    obtain ⟨rfl, h5⟩ := h5
    have q8 := q.tr h5
    show e_Pn 20 elay ecode eI n d 349 (199, (0, (1, 275)) :: (1, (0, y1)) :: (2, (0, y2)) :: tl, [], w7) _
    exact e_Pn.ord eAlk [0, 1, 2] rfl rfl (v_349_199 hR _ y1 y2 w7 q8)
  have a224 : e_Pn 20 elay ecode eI n d 349 (224, (0, (1, 275)) :: (1, (0, y1)) :: (2, (0, y2)) :: tl, [], w1) (fun r w' => r = [] ∧ mq w w') := by
    refine e_Pn.run (t' := (230, (0, (1, 275)) :: (1, (0, y1)) :: (2, (0, y2)) :: tl, [(0, 0), (0, 38), (1, 275), (0, 3), (1, 275)], w1)) eAlk 5 rfl ?_
    refine e_Pn.callA rfl (fun n9 d9 => u_336 (q.rf hR)) (fun r10 w11 h9 => ?_)
    obtain ⟨⟨z12, rfl⟩, h9⟩ := h9
    have q13 := q.tr h9
    show e_Pn 20 elay ecode eI n d 349 (233, (0, (1, 275)) :: (1, (0, y1)) :: (2, (0, y2)) :: tl, [(0, z12), (0, 3), (1, 275)], w11) _
    exact e_Pn.ord eAlk [0, 1, 2] rfl rfl (v_349_233 hR _ y1 y2 z12 3 w11 q13)
  have a239 : e_Pn 20 elay ecode eI n d 349 (239, (0, (1, 275)) :: (1, (0, y1)) :: (2, (0, y2)) :: tl, [], w1) (fun r w' => r = [] ∧ mq w w') := by
    refine e_Pn.run (t' := (245, (0, (1, 275)) :: (1, (0, y1)) :: (2, (0, y2)) :: tl, [(0, 0), (0, 39), (1, 275), (0, 3), (1, 275)], w1)) eAlk 5 rfl ?_
    refine e_Pn.callA rfl (fun n9 d9 => u_336 (q.rf hR)) (fun r15 w16 h14 => ?_)
    obtain ⟨⟨z17, rfl⟩, h14⟩ := h14
    have q18 := q.tr h14
    show e_Pn 20 elay ecode eI n d 349 (248, (0, (1, 275)) :: (1, (0, y1)) :: (2, (0, y2)) :: tl, [(0, z17), (0, 3), (1, 275)], w16) _
    exact e_Pn.ord eAlk [0, 1, 2] rfl rfl (v_349_248 hR _ y1 y2 z17 3 w16 q18)
  have a254 : e_Pn 20 elay ecode eI n d 349 (254, (0, (1, 275)) :: (1, (0, y1)) :: (2, (0, y2)) :: tl, [], w1) (fun r w' => r = [] ∧ mq w w') := by
    refine e_Pn.run (t' := (255, (0, (1, 275)) :: (1, (0, y1)) :: (2, (0, y2)) :: tl, [(1, 275)], w1)) eAlk 1 rfl ?_
    refine e_Pn.callA rfl (fun n9 d9 => uE_all n9 339 (by decide) d9 _ (q.rf hR)) (fun r20 w21 h19 => ?_)
    obtain ⟨rfl, h19⟩ := h19
    have q22 := q.tr h19
    show e_Pn 20 elay ecode eI n d 349 (258, (0, (1, 275)) :: (1, (0, y1)) :: (2, (0, y2)) :: tl, [], w21) _
    exact e_Pn.ord eAlk [0, 1, 2] rfl rfl (v_349_258 hR _ y1 y2 w21 q22)
  have a283 : e_Pn 20 elay ecode eI n d 349 (283, (0, (1, 275)) :: (1, (0, y1)) :: (2, (0, y2)) :: tl, [], w1) (fun r w' => r = [] ∧ mq w w') := by
    refine e_Pn.run (t' := (287, (0, (1, 275)) :: (1, (0, y1)) :: (2, (0, y2)) :: tl, [(0, 0), (0, 42), (1, 275)], w1)) eAlk 3 rfl ?_
    refine e_Pn.callA rfl (fun n9 d9 => u_336 (q.rf hR)) (fun r24 w25 h23 => ?_)
    obtain ⟨⟨z26, rfl⟩, h23⟩ := h23
    have q27 := q.tr h23
    show e_Pn 20 elay ecode eI n d 349 (290, (0, (1, 275)) :: (1, (0, y1)) :: (2, (0, y2)) :: tl, [(0, z26)], w25) _
    exact e_Pn.ord eAlk [0, 1, 2] rfl rfl (v_349_290 hR _ y1 y2 z26 w25 q27)
  have a294 : e_Pn 20 elay ecode eI n d 349 (294, (0, (1, 275)) :: (1, (0, y1)) :: (2, (0, y2)) :: tl, [], w1) (fun r w' => r = [] ∧ mq w w') := by
    refine e_Pn.run (t' := (298, (0, (1, 275)) :: (1, (0, y1)) :: (2, (0, y2)) :: tl, [(0, 0), (0, 43), (1, 275)], w1)) eAlk 3 rfl ?_
    refine e_Pn.callA rfl (fun n9 d9 => u_336 (q.rf hR)) (fun r29 w30 h28 => ?_)
    obtain ⟨⟨z31, rfl⟩, h28⟩ := h28
    have q32 := q.tr h28
    show e_Pn 20 elay ecode eI n d 349 (301, (0, (1, 275)) :: (1, (0, y1)) :: (2, (0, y2)) :: tl, [(0, z31)], w30) _
    exact e_Pn.ord eAlk [0, 1, 2] rfl rfl (v_349_301 hR _ y1 y2 z31 w30 q32)
  have a305 : e_Pn 20 elay ecode eI n d 349 (305, (0, (1, 275)) :: (1, (0, y1)) :: (2, (0, y2)) :: tl, [], w1) (fun r w' => r = [] ∧ mq w w') := by
    refine e_Pn.run (t' := (309, (0, (1, 275)) :: (1, (0, y1)) :: (2, (0, y2)) :: tl, [(0, 0), (0, 45), (1, 275)], w1)) eAlk 3 rfl ?_
    refine e_Pn.callA rfl (fun n9 d9 => u_336 (q.rf hR)) (fun r34 w35 h33 => ?_)
    obtain ⟨⟨z36, rfl⟩, h33⟩ := h33
    have q37 := q.tr h33
    show e_Pn 20 elay ecode eI n d 349 (312, (0, (1, 275)) :: (1, (0, y1)) :: (2, (0, y2)) :: tl, [(0, z36)], w35) _
    exact e_Pn.ord eAlk [0, 1, 2] rfl rfl (v_349_312 hR _ y1 y2 z36 w35 q37)
  have a316 : e_Pn 20 elay ecode eI n d 349 (316, (0, (1, 275)) :: (1, (0, y1)) :: (2, (0, y2)) :: tl, [], w1) (fun r w' => r = [] ∧ mq w w') := by
    refine e_Pn.run (t' := (320, (0, (1, 275)) :: (1, (0, y1)) :: (2, (0, y2)) :: tl, [(1, 275), (0, 46), (1, 275)], w1)) eAlk 3 rfl ?_
    refine e_Pn.getf (z := w1 275 82) eAlk rfl rfl rfl (fun b38 => ?_)
    refine e_Pn.callA rfl (fun n9 d9 => u_336 (q.rf hR)) (fun r40 w41 h39 => ?_)
    obtain ⟨⟨z42, rfl⟩, h39⟩ := h39
    have q43 := q.tr h39
    show e_Pn 20 elay ecode eI n d 349 (326, (0, (1, 275)) :: (1, (0, y1)) :: (2, (0, y2)) :: tl, [(0, z42)], w41) _
    exact e_Pn.ord eAlk [0, 1, 2] rfl rfl (v_349_326 hR _ y1 y2 z42 w41 q43)
  have a330 : e_Pn 20 elay ecode eI n d 349 (330, (0, (1, 275)) :: (1, (0, y1)) :: (2, (0, y2)) :: tl, [], w1) (fun r w' => r = [] ∧ mq w w') := by
    refine e_Pn.run (t' := (331, (0, (1, 275)) :: (1, (0, y1)) :: (2, (0, y2)) :: tl, [(1, 275)], w1)) eAlk 1 rfl ?_
    refine e_Pn.callA rfl (fun n9 d9 => uE_all n9 339 (by decide) d9 _ (q.rf hR)) (fun r45 w46 h44 => ?_)
    obtain ⟨rfl, h44⟩ := h44
    have q47 := q.tr h44
    show e_Pn 20 elay ecode eI n d 349 (334, (0, (1, 275)) :: (1, (0, y1)) :: (2, (0, y2)) :: tl, [], w46) _
    exact e_Pn.ord eAlk [0, 1, 2] rfl rfl (v_349_334 hR _ y1 y2 w46 q47)
  exact e_Pn.swU eAlk rfl ⟨a330, a148, a330, a330, a195, a330, a330, a224, a239, a330, a330, a283, a294, a254, a305, a316, a330, trivial⟩
set_option maxHeartbeats 4000000 in
theorem v_349_7 {n d : Nat} {w : eW} (hR : mRw w) (tl : eL) (y1 : Int) (s0 : Int) (w1 : eW) (q : mq w w1) : e_Pn 20 elay ecode eI n d 349 (7, (0, (1, 275)) :: (1, (0, y1)) :: tl, [(0, s0)], w1) (fun r w' => r = [] ∧ mq w w') := by
  refine e_Pn.run (t' := (9, (0, (1, 275)) :: (1, (0, y1)) :: tl, [(1, 275)], w1)) eAlk 2 rfl ?_
  refine e_Pn.getf (z := w1 275 78) eAlk rfl rfl rfl (fun b1 => ?_)
  refine e_Pn.run (t' := (16, (2, (0, w1 275 78)) :: (0, (1, 275)) :: (1, (0, y1)) :: List.filter (e_flt 0 2) tl, [(0, 17), (0, y1)], w1)) eAlk 3 rfl ?_
  refine e_Pn.if2 eAlk rfl (fun h2 => ?_) (fun h2 => ?_)
  · show e_Pn 20 elay ecode eI n d 349 (69, (2, (0, w1 275 78)) :: (0, (1, 275)) :: (1, (0, y1)) :: List.filter (e_flt 0 2) tl, [], w1) _
    refine e_Pn.run (t' := (70, (2, (0, w1 275 78)) :: (0, (1, 275)) :: (1, (0, y1)) :: List.filter (e_flt 0 2) tl, [(1, 275)], w1)) eAlk 1 rfl ?_
    refine e_Pn.callA rfl (fun n9 d9 => u_327 (q.rf hR)) (fun r4 w5 h3 => ?_)
    obtain ⟨rfl, h3⟩ := h3
    have q6 := q.tr h3
    show e_Pn 20 elay ecode eI n d 349 (73, (2, (0, w1 275 78)) :: (0, (1, 275)) :: (1, (0, y1)) :: List.filter (e_flt 0 2) tl, [], w5) _
    exact e_Pn.ord eAlk [0, 1, 2] rfl rfl (v_349_73 hR _ y1 (w1 275 78) w5 q6)
  · show e_Pn 20 elay ecode eI n d 349 (19, (2, (0, w1 275 78)) :: (0, (1, 275)) :: (1, (0, y1)) :: List.filter (e_flt 0 2) tl, [], w1) _
    refine e_Pn.run (t' := (20, (2, (0, w1 275 78)) :: (0, (1, 275)) :: (1, (0, y1)) :: List.filter (e_flt 0 2) tl, [(1, 275)], w1)) eAlk 1 rfl ?_
    refine e_Pn.getf (z := w1 275 82) eAlk rfl rfl rfl (fun b7 => ?_)
    refine e_Pn.if1 eAlk rfl (fun h8 => ?_) (fun h8 => ?_)
    · show e_Pn 20 elay ecode eI n d 349 (69, (2, (0, w1 275 78)) :: (0, (1, 275)) :: (1, (0, y1)) :: List.filter (e_flt 0 2) tl, [], w1) _
      refine e_Pn.run (t' := (70, (2, (0, w1 275 78)) :: (0, (1, 275)) :: (1, (0, y1)) :: List.filter (e_flt 0 2) tl, [(1, 275)], w1)) eAlk 1 rfl ?_
      refine e_Pn.callA rfl (fun n9 d9 => u_327 (q.rf hR)) (fun r10 w11 h9 => ?_)
      obtain ⟨rfl, h9⟩ := h9
      have q12 := q.tr h9
      show e_Pn 20 elay ecode eI n d 349 (73, (2, (0, w1 275 78)) :: (0, (1, 275)) :: (1, (0, y1)) :: List.filter (e_flt 0 2) tl, [], w11) _
      exact e_Pn.ord eAlk [0, 1, 2] rfl rfl (v_349_73 hR _ y1 (w1 275 78) w11 q12)
    · show e_Pn 20 elay ecode eI n d 349 (26, (2, (0, w1 275 78)) :: (0, (1, 275)) :: (1, (0, y1)) :: List.filter (e_flt 0 2) tl, [], w1) _
      refine e_Pn.run (t' := (27, (2, (0, w1 275 78)) :: (0, (1, 275)) :: (1, (0, y1)) :: List.filter (e_flt 0 2) tl, [(1, 275)], w1)) eAlk 1 rfl ?_
      refine e_Pn.getr (z := 341) eAlk rfl rfl (q.rf hR (90, 341) (by decide)) (by omega) ?_
      refine e_Pn.run (t' := (31, (2, (0, w1 275 78)) :: (0, (1, 275)) :: (1, (0, y1)) :: List.filter (e_flt 0 2) tl, [(1, 275), (1, 341)], w1)) eAlk 1 rfl ?_
      refine e_Pn.getf (z := w1 275 94) eAlk rfl rfl rfl (fun b13 => ?_)
      refine e_Pn.run (t' := (35, (2, (0, w1 275 78)) :: (0, (1, 275)) :: (1, (0, y1)) :: List.filter (e_flt 0 2) tl, [(0, 4), (0, w1 275 94), (1, 341)], w1)) eAlk 1 rfl ?_
      refine e_Pn.ast eAlk rfl rfl rfl (fun b14 b15 => ?_)
      generalize hw16 : e_up w1 341 (w1 275 94) 4 = w16
      have q17 : mq w w16 := mq.upA q hw16 (by decide)
      refine e_Pn.run (t' := (37, (2, (0, w1 275 78)) :: (0, (1, 275)) :: (1, (0, y1)) :: List.filter (e_flt 0 2) tl, [(1, 275)], w16)) eAlk 1 rfl ?_
      refine e_Pn.getr (z := 342) eAlk rfl rfl (q17.rf hR (91, 342) (by decide)) (by omega) ?_
      refine e_Pn.run (t' := (41, (2, (0, w1 275 78)) :: (0, (1, 275)) :: (1, (0, y1)) :: List.filter (e_flt 0 2) tl, [(1, 275), (1, 342)], w16)) eAlk 1 rfl ?_
      refine e_Pn.getf (z := w16 275 94) eAlk rfl rfl rfl (fun b18 => ?_)
      refine e_Pn.run (t' := (45, (2, (0, w1 275 78)) :: (0, (1, 275)) :: (1, (0, y1)) :: List.filter (e_flt 0 2) tl, [(1, 275), (0, w16 275 94), (1, 342)], w16)) eAlk 1 rfl ?_
      refine e_Pn.getf (z := w16 275 86) eAlk rfl rfl rfl (fun b19 => ?_)
      refine e_Pn.ast eAlk rfl rfl rfl (fun b20 b21 => ?_)
      generalize hw22 : e_up w16 342 (w16 275 94) (w16 275 86) = w22
      have q23 : mq w w22 := mq.upA q17 hw22 (by decide)
      refine e_Pn.run (t' := (50, (2, (0, w1 275 78)) :: (0, (1, 275)) :: (1, (0, y1)) :: List.filter (e_flt 0 2) tl, [(1, 275)], w22)) eAlk 1 rfl ?_
      refine e_Pn.getr (z := 343) eAlk rfl rfl (q23.rf hR (92, 343) (by decide)) (by omega) ?_
      refine e_Pn.run (t' := (54, (2, (0, w1 275 78)) :: (0, (1, 275)) :: (1, (0, y1)) :: List.filter (e_flt 0 2) tl, [(1, 275), (1, 343)], w22)) eAlk 1 rfl ?_
      refine e_Pn.getf (z := w22 275 94) eAlk rfl rfl rfl (fun b24 => ?_)
      refine e_Pn.run (t' := (58, (2, (0, w1 275 78)) :: (0, (1, 275)) :: (1, (0, y1)) :: List.filter (e_flt 0 2) tl, [(0, 5), (0, w22 275 94), (1, 343)], w22)) eAlk 1 rfl ?_
      refine e_Pn.ast eAlk rfl rfl rfl (fun b25 b26 => ?_)
      generalize hw27 : e_up w22 343 (w22 275 94) 5 = w27
      have q28 : mq w w27 := mq.upA q23 hw27 (by decide)
      refine e_Pn.run (t' := (61, (2, (0, w1 275 78)) :: (0, (1, 275)) :: (1, (0, y1)) :: List.filter (e_flt 0 2) tl, [(1, 275), (1, 275)], w27)) eAlk 2 rfl ?_
      refine e_Pn.getf (z := w27 275 94) eAlk rfl rfl rfl (fun b29 => ?_)
      refine e_Pn.run (t' := (65, (2, (0, w1 275 78)) :: (0, (1, 275)) :: (1, (0, y1)) :: List.filter (e_flt 0 2) tl, [(0, 1), (0, w27 275 94), (1, 275)], w27)) eAlk 1 rfl ?_
      refine e_Pn.bin0 eAlk rfl (fun z30 hz30 => ?_)
      refine e_Pn.putf eAlk rfl rfl ?_
      generalize hw31 : e_up w27 275 94 z30 = w31
      have q32 : mq w w31 := mq.upF q28 hw31 (by decide) (by decide +kernel)
      refine e_Pn.run (t' := (70, (2, (0, w1 275 78)) :: (0, (1, 275)) :: (1, (0, y1)) :: List.filter (e_flt 0 2) tl, [(1, 275)], w31)) eAlk 1 rfl ?_
      refine e_Pn.callA rfl (fun n9 d9 => u_327 (q32.rf hR)) (fun r34 w35 h33 => ?_)
      obtain ⟨rfl, h33⟩ := h33
      have q36 := q32.tr h33
      show e_Pn 20 elay ecode eI n d 349 (73, (2, (0, w1 275 78)) :: (0, (1, 275)) :: (1, (0, y1)) :: List.filter (e_flt 0 2) tl, [], w35) _
      exact e_Pn.ord eAlk [0, 1, 2] rfl rfl (v_349_73 hR _ y1 (w1 275 78) w35 q36)
set_option maxHeartbeats 4000000 in
theorem v_348_0 {n d : Nat} {w : eW} (hR : mRw w) (tl : eL) (w1 : eW) (q : mq w w1) : e_Pn 20 elay ecode eI n d 348 (0, (0, (1, 275)) :: tl, [], w1) (fun r w' => r = [] ∧ mq w w') := by
  have hL1 : ∀ nn3 : Nat, nn3 ≤ n → ∀ (tl4 : eL) (w5 : eW), mq w w5 → e_Pn 20 elay ecode eI nn3 d 348 (0, (0, (1, 275)) :: tl4, [], w5) (fun r w' => r = [] ∧ mq w w') := by
    intro nn3
    induction nn3 with
    | zero => intro _ tl4 w5 _; exact e_Pn.zero
    | succ nn3 ih2 =>
      intro hnnn3 tl4 w5 q6
      refine e_Pn.runS (t' := (1, (0, (1, 275)) :: tl4, [(1, 275)], w5)) eAlk 0 rfl ?_
      refine e_Pn.callA rfl (fun n9 d9 => u_347 (q6.rf hR)) (fun r8 w9 h7 => ?_)
      obtain ⟨⟨z10, rfl⟩, h7⟩ := h7
      have q11 := q6.tr h7
      show e_Pn 20 elay ecode eI nn3 d 348 (4, (0, (1, 275)) :: tl4, [(0, z10)], w9) _
      refine e_Pn.if1 eAlk rfl (fun h12 => ?_) (fun h12 => ?_)
      · show e_Pn 20 elay ecode eI nn3 d 348 (133, (0, (1, 275)) :: tl4, [], w9) _
        exact e_Pn.ret0 rfl ⟨rfl, q11⟩
      · show e_Pn 20 elay ecode eI nn3 d 348 (7, (0, (1, 275)) :: tl4, [], w9) _
        refine e_Pn.run (t' := (8, (0, (1, 275)) :: tl4, [(1, 275)], w9)) eAlk 1 rfl ?_
        refine e_Pn.getf (z := w9 275 84) eAlk rfl rfl rfl (fun b13 => ?_)
        refine e_Pn.run (t' := (12, (0, (1, 275)) :: tl4, [(0, 1), (0, w9 275 84)], w9)) eAlk 1 rfl ?_
        refine e_Pn.if2 eAlk rfl (fun h14 => ?_) (fun h14 => ?_)
        · show e_Pn 20 elay ecode eI nn3 d 348 (74, (0, (1, 275)) :: tl4, [], w9) _
          refine e_Pn.run (t' := (75, (0, (1, 275)) :: tl4, [(1, 275)], w9)) eAlk 1 rfl ?_
          refine e_Pn.getf (z := w9 275 85) eAlk rfl rfl rfl (fun b15 => ?_)
          refine e_Pn.run (t' := (80, (0, (1, 275)) :: tl4, [(0, 18), (0, w9 275 85)], w9)) eAlk 1 rfl ?_
          refine e_Pn.if2 eAlk rfl (fun h16 => ?_) (fun h16 => ?_)
          · show e_Pn 20 elay ecode eI nn3 d 348 (90, (0, (1, 275)) :: tl4, [], w9) _
            refine e_Pn.run (t' := (91, (0, (1, 275)) :: tl4, [(1, 275)], w9)) eAlk 1 rfl ?_
            refine e_Pn.getf (z := w9 275 85) eAlk rfl rfl rfl (fun b17 => ?_)
            refine e_Pn.run (t' := (96, (0, (1, 275)) :: tl4, [(0, 20), (0, w9 275 85)], w9)) eAlk 1 rfl ?_
            refine e_Pn.if2 eAlk rfl (fun h18 => ?_) (fun h18 => ?_)
            · show e_Pn 20 elay ecode eI nn3 d 348 (106, (0, (1, 275)) :: tl4, [], w9) _
              refine e_Pn.run (t' := (107, (0, (1, 275)) :: tl4, [(1, 275)], w9)) eAlk 1 rfl ?_
              refine e_Pn.getf (z := w9 275 85) eAlk rfl rfl rfl (fun b19 => ?_)
              refine e_Pn.run (t' := (112, (0, (1, 275)) :: tl4, [(0, 21), (0, w9 275 85)], w9)) eAlk 1 rfl ?_
              refine e_Pn.if2 eAlk rfl (fun h20 => ?_) (fun h20 => ?_)
              · show e_Pn 20 elay ecode eI nn3 d 348 (122, (0, (1, 275)) :: tl4, [], w9) _
                refine e_Pn.run (t' := (124, (0, (1, 275)) :: tl4, [(1, 275), (1, 275)], w9)) eAlk 2 rfl ?_
                refine e_Pn.getf (z := w9 275 85) eAlk rfl rfl rfl (fun b21 => ?_)
                refine e_Pn.callA rfl (fun n9 d9 => u_349 (q11.rf hR)) (fun r23 w24 h22 => ?_)
                obtain ⟨rfl, h22⟩ := h22
                have q25 := q11.tr h22
                show e_Pn 20 elay ecode eI nn3 d 348 (130, (0, (1, 275)) :: tl4, [], w24) _
                refine e_Pn.run (t' := (0, (0, (1, 275)) :: tl4, [], w24)) eAlk 1 rfl ?_
                exact e_Pn.ord eAlk [0] rfl rfl ((ih2 (by omega) _ w24 q25).le (by omega))
              · show e_Pn 20 elay ecode eI nn3 d 348 (115, (0, (1, 275)) :: tl4, [], w9) _
                refine e_Pn.run (t' := (116, (0, (1, 275)) :: tl4, [(1, 275)], w9)) eAlk 1 rfl ?_
                refine e_Pn.callA rfl (fun n9 d9 => uS_all n9 352 (by decide) d9 _ (q11.rf hR)) (fun r27 w28 h26 => ?_)
                obtain ⟨rfl, h26⟩ := h26
                have q29 := q11.tr h26
                show e_Pn 20 elay ecode eI nn3 d 348 (119, (0, (1, 275)) :: tl4, [], w28) _
                refine e_Pn.run (t' := (0, (0, (1, 275)) :: tl4, [], w28)) eAlk 1 rfl ?_
                exact e_Pn.ord eAlk [0] rfl rfl ((ih2 (by omega) _ w28 q29).le (by omega))
            · show e_Pn 20 elay ecode eI nn3 d 348 (99, (0, (1, 275)) :: tl4, [], w9) _
              refine e_Pn.run (t' := (100, (0, (1, 275)) :: tl4, [(1, 275)], w9)) eAlk 1 rfl ?_
              refine e_Pn.callA rfl (fun n9 d9 => uS_all n9 351 (by decide) d9 _ (q11.rf hR)) (fun r31 w32 h30 => ?_)
              obtain ⟨rfl, h30⟩ := h30
              have q33 := q11.tr h30
              show e_Pn 20 elay ecode eI nn3 d 348 (103, (0, (1, 275)) :: tl4, [], w32) _
              refine e_Pn.run (t' := (0, (0, (1, 275)) :: tl4, [], w32)) eAlk 1 rfl ?_
              exact e_Pn.ord eAlk [0] rfl rfl ((ih2 (by omega) _ w32 q33).le (by omega))
          · show e_Pn 20 elay ecode eI nn3 d 348 (83, (0, (1, 275)) :: tl4, [], w9) _
            refine e_Pn.run (t' := (84, (0, (1, 275)) :: tl4, [(1, 275)], w9)) eAlk 1 rfl ?_
            refine e_Pn.callA rfl (fun n9 d9 => uS_all n9 350 (by decide) d9 _ (q11.rf hR)) (fun r35 w36 h34 => ?_)
            obtain ⟨rfl, h34⟩ := h34
            have q37 := q11.tr h34
            show e_Pn 20 elay ecode eI nn3 d 348 (87, (0, (1, 275)) :: tl4, [], w36) _
            refine e_Pn.run (t' := (0, (0, (1, 275)) :: tl4, [], w36)) eAlk 1 rfl ?_
            exact e_Pn.ord eAlk [0] rfl rfl ((ih2 (by omega) _ w36 q37).le (by omega))
        · show e_Pn 20 elay ecode eI nn3 d 348 (15, (0, (1, 275)) :: tl4, [], w9) _
          refine e_Pn.run (t' := (19, (0, (1, 275)) :: tl4, [(0, 0), (0, 30), (1, 275)], w9)) eAlk 3 rfl ?_
          refine e_Pn.callA rfl (fun n9 d9 => u_336 (q11.rf hR)) (fun r39 w40 h38 => ?_)
          obtain ⟨⟨z41, rfl⟩, h38⟩ := h38
          have q42 := q11.tr h38
          show e_Pn 20 elay ecode eI nn3 d 348 (22, (0, (1, 275)) :: tl4, [(0, z41)], w40) _
          refine e_Pn.run (t' := (24, (0, (1, 275)) :: tl4, [(1, 275)], w40)) eAlk 2 rfl ?_
          refine e_Pn.getf (z := w40 275 94) eAlk rfl rfl rfl (fun b43 => ?_)
          refine e_Pn.run (t' := (31, (1, (0, w40 275 94)) :: (0, (1, 275)) :: List.filter (e_flt 0 1) tl4, [(0, 0), (0, 2), (1, 275)], w40)) eAlk 4 rfl ?_
          refine e_Pn.callA rfl (fun n9 d9 => u_338 (q42.rf hR)) (fun r45 w46 h44 => ?_)
          obtain ⟨rfl, h44⟩ := h44
          have q47 := q42.tr h44
          show e_Pn 20 elay ecode eI nn3 d 348 (34, (1, (0, w40 275 94)) :: (0, (1, 275)) :: List.filter (e_flt 0 1) tl4, [], w46) _
          refine e_Pn.run (t' := (38, (1, (0, w40 275 94)) :: (0, (1, 275)) :: List.filter (e_flt 0 1) tl4, [(0, 61), (1, 275), (1, 275)], w46)) eAlk 3 rfl ?_
          refine e_Pn.callA rfl (fun n9 d9 => u_331 (q47.rf hR)) (fun r49 w50 h48 => ?_)
          obtain ⟨⟨z51, rfl⟩, h48⟩ := h48
          have q52 := q47.tr h48
          show e_Pn 20 elay ecode eI nn3 d 348 (41, (1, (0, w40 275 94)) :: (0, (1, 275)) :: List.filter (e_flt 0 1) tl4, [(0, z51), (1, 275)], w50) _
          refine e_Pn.callA rfl (fun n9 d9 => u_334 (q52.rf hR)) (fun r54 w55 h53 => ?_)
          obtain ⟨rfl, h53⟩ := h53
          have q56 := q52.tr h53
          show e_Pn 20 elay ecode eI nn3 d 348 (44, (1, (0, w40 275 94)) :: (0, (1, 275)) :: List.filter (e_flt 0 1) tl4, [], w55) _
          refine e_Pn.run (t' := (45, (1, (0, w40 275 94)) :: (0, (1, 275)) :: List.filter (e_flt 0 1) tl4, [(1, 275)], w55)) eAlk 1 rfl ?_
          refine e_Pn.callA rfl (fun n9 d9 => uE_all n9 339 (by decide) d9 _ (q56.rf hR)) (fun r58 w59 h57 => ?_)
          obtain ⟨rfl, h57⟩ := h57
          have q60 := q56.tr h57
          show e_Pn 20 elay ecode eI nn3 d 348 (48, (1, (0, w40 275 94)) :: (0, (1, 275)) :: List.filter (e_flt 0 1) tl4, [], w59) _
          refine e_Pn.run (t' := (52, (1, (0, w40 275 94)) :: (0, (1, 275)) :: List.filter (e_flt 0 1) tl4, [(0, 59), (1, 275), (1, 275)], w59)) eAlk 3 rfl ?_
          refine e_Pn.callA rfl (fun n9 d9 => u_331 (q60.rf hR)) (fun r62 w63 h61 => ?_)
          obtain ⟨⟨z64, rfl⟩, h61⟩ := h61
          have q65 := q60.tr h61
          show e_Pn 20 elay ecode eI nn3 d 348 (55, (1, (0, w40 275 94)) :: (0, (1, 275)) :: List.filter (e_flt 0 1) tl4, [(0, z64), (1, 275)], w63) _
          refine e_Pn.callA rfl (fun n9 d9 => u_334 (q65.rf hR)) (fun r67 w68 h66 => ?_)
          obtain ⟨rfl, h66⟩ := h66
          have q69 := q65.tr h66
          show e_Pn 20 elay ecode eI nn3 d 348 (58, (1, (0, w40 275 94)) :: (0, (1, 275)) :: List.filter (e_flt 0 1) tl4, [], w68) _
          refine e_Pn.run (t' := (59, (1, (0, w40 275 94)) :: (0, (1, 275)) :: List.filter (e_flt 0 1) tl4, [(1, 275)], w68)) eAlk 1 rfl ?_
          refine e_Pn.getr (z := 344) eAlk rfl rfl (q69.rf hR (93, 344) (by decide)) (by omega) ?_
          refine e_Pn.run (t' := (67, (1, (0, w40 275 94)) :: (0, (1, 275)) :: List.filter (e_flt 0 1) tl4, [(0, 0), (0, 31), (1, 275), (0, w40 275 94), (1, 344)], w68)) eAlk 4 rfl ?_
          refine e_Pn.callA rfl (fun n9 d9 => u_336 (q69.rf hR)) (fun r71 w72 h70 => ?_)
          obtain ⟨⟨z73, rfl⟩, h70⟩ := h70
          have q74 := q69.tr h70
          show e_Pn 20 elay ecode eI nn3 d 348 (70, (1, (0, w40 275 94)) :: (0, (1, 275)) :: List.filter (e_flt 0 1) tl4, [(0, z73), (0, w40 275 94), (1, 344)], w72) _
          refine e_Pn.ast eAlk rfl rfl rfl (fun b75 b76 => ?_)
          generalize hw77 : e_up w72 344 (w40 275 94) z73 = w77
          have q78 : mq w w77 := mq.upA q74 hw77 (by decide)
          refine e_Pn.run (t' := (0, (1, (0, w40 275 94)) :: (0, (1, 275)) :: List.filter (e_flt 0 1) tl4, [], w77)) eAlk 1 rfl ?_
          exact e_Pn.ord eAlk [0] rfl rfl ((ih2 (by omega) _ w77 q78).le (by omega))
  exact e_Pn.ord eAlk [0] rfl rfl (hL1 n (Nat.le_refl _) _ w1 q)
set_option maxHeartbeats 4000000 in
theorem v_348_130 {n d : Nat} {w : eW} (hR : mRw w) (tl : eL) (w1 : eW) (q : mq w w1) : e_Pn 20 elay ecode eI n d 348 (130, (0, (1, 275)) :: tl, [], w1) (fun r w' => r = [] ∧ mq w w') := by
  refine e_Pn.run (t' := (0, (0, (1, 275)) :: tl, [], w1)) eAlk 1 rfl ?_
  exact e_Pn.ord eAlk [0] rfl rfl (v_348_0 hR _ w1 q)
set_option maxHeartbeats 4000000 in
theorem v_348_119 {n d : Nat} {w : eW} (hR : mRw w) (tl : eL) (w1 : eW) (q : mq w w1) : e_Pn 20 elay ecode eI n d 348 (119, (0, (1, 275)) :: tl, [], w1) (fun r w' => r = [] ∧ mq w w') := by
  refine e_Pn.run (t' := (0, (0, (1, 275)) :: tl, [], w1)) eAlk 1 rfl ?_
  exact e_Pn.ord eAlk [0] rfl rfl (v_348_0 hR _ w1 q)
set_option maxHeartbeats 4000000 in
theorem v_348_103 {n d : Nat} {w : eW} (hR : mRw w) (tl : eL) (w1 : eW) (q : mq w w1) : e_Pn 20 elay ecode eI n d 348 (103, (0, (1, 275)) :: tl, [], w1) (fun r w' => r = [] ∧ mq w w') := by
  refine e_Pn.run (t' := (0, (0, (1, 275)) :: tl, [], w1)) eAlk 1 rfl ?_
  exact e_Pn.ord eAlk [0] rfl rfl (v_348_0 hR _ w1 q)
set_option maxHeartbeats 4000000 in
theorem v_348_87 {n d : Nat} {w : eW} (hR : mRw w) (tl : eL) (w1 : eW) (q : mq w w1) : e_Pn 20 elay ecode eI n d 348 (87, (0, (1, 275)) :: tl, [], w1) (fun r w' => r = [] ∧ mq w w') := by
  refine e_Pn.run (t' := (0, (0, (1, 275)) :: tl, [], w1)) eAlk 1 rfl ?_
  exact e_Pn.ord eAlk [0] rfl rfl (v_348_0 hR _ w1 q)
set_option maxHeartbeats 4000000 in
theorem v_348_70 {n d : Nat} {w : eW} (hR : mRw w) (tl : eL) (y1 : Int) (s0 : Int) (s1 : Int) (w1 : eW) (q : mq w w1) : e_Pn 20 elay ecode eI n d 348 (70, (0, (1, 275)) :: (1, (0, y1)) :: tl, [(0, s0), (0, s1), (1, 344)], w1) (fun r w' => r = [] ∧ mq w w') := by
  refine e_Pn.ast eAlk rfl rfl rfl (fun b1 b2 => ?_)
  generalize hw3 : e_up w1 344 s1 s0 = w3
  have q4 : mq w w3 := mq.upA q hw3 (by decide)
  refine e_Pn.run (t' := (0, (0, (1, 275)) :: (1, (0, y1)) :: tl, [], w3)) eAlk 1 rfl ?_
  exact e_Pn.ord eAlk [0] rfl rfl (v_348_0 hR _ w3 q4)
set_option maxHeartbeats 4000000 in
theorem v_348_58 {n d : Nat} {w : eW} (hR : mRw w) (tl : eL) (y1 : Int) (w1 : eW) (q : mq w w1) : e_Pn 20 elay ecode eI n d 348 (58, (0, (1, 275)) :: (1, (0, y1)) :: tl, [], w1) (fun r w' => r = [] ∧ mq w w') := by
  refine e_Pn.run (t' := (59, (0, (1, 275)) :: (1, (0, y1)) :: tl, [(1, 275)], w1)) eAlk 1 rfl ?_
  refine e_Pn.getr (z := 344) eAlk rfl rfl (q.rf hR (93, 344) (by decide)) (by omega) ?_
  refine e_Pn.run (t' := (67, (0, (1, 275)) :: (1, (0, y1)) :: tl, [(0, 0), (0, 31), (1, 275), (0, y1), (1, 344)], w1)) eAlk 4 rfl ?_
  refine e_Pn.callA rfl (fun n9 d9 => u_336 (q.rf hR)) (fun r2 w3 h1 => ?_)
  obtain ⟨⟨z4, rfl⟩, h1⟩ := h1
  have q5 := q.tr h1
  show e_Pn 20 elay ecode eI n d 348 (70, (0, (1, 275)) :: (1, (0, y1)) :: tl, [(0, z4), (0, y1), (1, 344)], w3) _
  exact e_Pn.ord eAlk [0, 1] rfl rfl (v_348_70 hR _ y1 z4 y1 w3 q5)
set_option maxHeartbeats 4000000 in
theorem v_348_55 {n d : Nat} {w : eW} (hR : mRw w) (tl : eL) (y1 : Int) (s0 : Int) (w1 : eW) (q : mq w w1) : e_Pn 20 elay ecode eI n d 348 (55, (0, (1, 275)) :: (1, (0, y1)) :: tl, [(0, s0), (1, 275)], w1) (fun r w' => r = [] ∧ mq w w') := by
  refine e_Pn.callA rfl (fun n9 d9 => u_334 (q.rf hR)) (fun r2 w3 h1 => ?_)
  obtain ⟨rfl, h1⟩ := h1
  have q4 := q.tr h1
  show e_Pn 20 elay ecode eI n d 348 (58, (0, (1, 275)) :: (1, (0, y1)) :: tl, [], w3) _
  exact e_Pn.ord eAlk [0, 1] rfl rfl (v_348_58 hR _ y1 w3 q4)
set_option maxHeartbeats 4000000 in
theorem v_348_48 {n d : Nat} {w : eW} (hR : mRw w) (tl : eL) (y1 : Int) (w1 : eW) (q : mq w w1) : e_Pn 20 elay ecode eI n d 348 (48, (0, (1, 275)) :: (1, (0, y1)) :: tl, [], w1) (fun r w' => r = [] ∧ mq w w') := by
  refine e_Pn.run (t' := (52, (0, (1, 275)) :: (1, (0, y1)) :: tl, [(0, 59), (1, 275), (1, 275)], w1)) eAlk 3 rfl ?_
  refine e_Pn.callA rfl (fun n9 d9 => u_331 (q.rf hR)) (fun r2 w3 h1 => ?_)
  obtain ⟨⟨z4, rfl⟩, h1⟩ := h1
  have q5 := q.tr h1
  show e_Pn 20 elay ecode eI n d 348 (55, (0, (1, 275)) :: (1, (0, y1)) :: tl, [(0, z4), (1, 275)], w3) _
  exact e_Pn.ord eAlk [0, 1] rfl rfl (v_348_55 hR _ y1 z4 w3 q5)
set_option maxHeartbeats 4000000 in
theorem v_348_44 {n d : Nat} {w : eW} (hR : mRw w) (tl : eL) (y1 : Int) (w1 : eW) (q : mq w w1) : e_Pn 20 elay ecode eI n d 348 (44, (0, (1, 275)) :: (1, (0, y1)) :: tl, [], w1) (fun r w' => r = [] ∧ mq w w') := by
  refine e_Pn.run (t' := (45, (0, (1, 275)) :: (1, (0, y1)) :: tl, [(1, 275)], w1)) eAlk 1 rfl ?_
  refine e_Pn.callA rfl (fun n9 d9 => uE_all n9 339 (by decide) d9 _ (q.rf hR)) (fun r2 w3 h1 => ?_)
  obtain ⟨rfl, h1⟩ := h1
  have q4 := q.tr h1
  show e_Pn 20 elay ecode eI n d 348 (48, (0, (1, 275)) :: (1, (0, y1)) :: tl, [], w3) _
  exact e_Pn.ord eAlk [0, 1] rfl rfl (v_348_48 hR _ y1 w3 q4)
set_option maxHeartbeats 4000000 in
theorem v_348_41 {n d : Nat} {w : eW} (hR : mRw w) (tl : eL) (y1 : Int) (s0 : Int) (w1 : eW) (q : mq w w1) : e_Pn 20 elay ecode eI n d 348 (41, (0, (1, 275)) :: (1, (0, y1)) :: tl, [(0, s0), (1, 275)], w1) (fun r w' => r = [] ∧ mq w w') := by
  refine e_Pn.callA rfl (fun n9 d9 => u_334 (q.rf hR)) (fun r2 w3 h1 => ?_)
  obtain ⟨rfl, h1⟩ := h1
  have q4 := q.tr h1
  show e_Pn 20 elay ecode eI n d 348 (44, (0, (1, 275)) :: (1, (0, y1)) :: tl, [], w3) _
  exact e_Pn.ord eAlk [0, 1] rfl rfl (v_348_44 hR _ y1 w3 q4)
set_option maxHeartbeats 4000000 in
theorem v_348_34 {n d : Nat} {w : eW} (hR : mRw w) (tl : eL) (y1 : Int) (w1 : eW) (q : mq w w1) : e_Pn 20 elay ecode eI n d 348 (34, (0, (1, 275)) :: (1, (0, y1)) :: tl, [], w1) (fun r w' => r = [] ∧ mq w w') := by
  refine e_Pn.run (t' := (38, (0, (1, 275)) :: (1, (0, y1)) :: tl, [(0, 61), (1, 275), (1, 275)], w1)) eAlk 3 rfl ?_
  refine e_Pn.callA rfl (fun n9 d9 => u_331 (q.rf hR)) (fun r2 w3 h1 => ?_)
  obtain ⟨⟨z4, rfl⟩, h1⟩ := h1
  have q5 := q.tr h1
  show e_Pn 20 elay ecode eI n d 348 (41, (0, (1, 275)) :: (1, (0, y1)) :: tl, [(0, z4), (1, 275)], w3) _
  exact e_Pn.ord eAlk [0, 1] rfl rfl (v_348_41 hR _ y1 z4 w3 q5)
set_option maxHeartbeats 4000000 in
theorem v_348_22 {n d : Nat} {w : eW} (hR : mRw w) (tl : eL) (s0 : Int) (w1 : eW) (q : mq w w1) : e_Pn 20 elay ecode eI n d 348 (22, (0, (1, 275)) :: tl, [(0, s0)], w1) (fun r w' => r = [] ∧ mq w w') := by
  refine e_Pn.run (t' := (24, (0, (1, 275)) :: tl, [(1, 275)], w1)) eAlk 2 rfl ?_
  refine e_Pn.getf (z := w1 275 94) eAlk rfl rfl rfl (fun b1 => ?_)
  refine e_Pn.run (t' := (31, (1, (0, w1 275 94)) :: (0, (1, 275)) :: List.filter (e_flt 0 1) tl, [(0, 0), (0, 2), (1, 275)], w1)) eAlk 4 rfl ?_
  refine e_Pn.callA rfl (fun n9 d9 => u_338 (q.rf hR)) (fun r3 w4 h2 => ?_)
  obtain ⟨rfl, h2⟩ := h2
  have q5 := q.tr h2
  show e_Pn 20 elay ecode eI n d 348 (34, (1, (0, w1 275 94)) :: (0, (1, 275)) :: List.filter (e_flt 0 1) tl, [], w4) _
  exact e_Pn.ord eAlk [0, 1] rfl rfl (v_348_34 hR _ (w1 275 94) w4 q5)
set_option maxHeartbeats 4000000 in
theorem v_348_4 {n d : Nat} {w : eW} (hR : mRw w) (tl : eL) (s0 : Int) (w1 : eW) (q : mq w w1) : e_Pn 20 elay ecode eI n d 348 (4, (0, (1, 275)) :: tl, [(0, s0)], w1) (fun r w' => r = [] ∧ mq w w') := by
  refine e_Pn.if1 eAlk rfl (fun h1 => ?_) (fun h1 => ?_)
  · show e_Pn 20 elay ecode eI n d 348 (133, (0, (1, 275)) :: tl, [], w1) _
    exact e_Pn.ret0 rfl ⟨rfl, q⟩
  · show e_Pn 20 elay ecode eI n d 348 (7, (0, (1, 275)) :: tl, [], w1) _
    refine e_Pn.run (t' := (8, (0, (1, 275)) :: tl, [(1, 275)], w1)) eAlk 1 rfl ?_
    refine e_Pn.getf (z := w1 275 84) eAlk rfl rfl rfl (fun b2 => ?_)
    refine e_Pn.run (t' := (12, (0, (1, 275)) :: tl, [(0, 1), (0, w1 275 84)], w1)) eAlk 1 rfl ?_
    refine e_Pn.if2 eAlk rfl (fun h3 => ?_) (fun h3 => ?_)
    · show e_Pn 20 elay ecode eI n d 348 (74, (0, (1, 275)) :: tl, [], w1) _
      refine e_Pn.run (t' := (75, (0, (1, 275)) :: tl, [(1, 275)], w1)) eAlk 1 rfl ?_
      refine e_Pn.getf (z := w1 275 85) eAlk rfl rfl rfl (fun b4 => ?_)
      refine e_Pn.run (t' := (80, (0, (1, 275)) :: tl, [(0, 18), (0, w1 275 85)], w1)) eAlk 1 rfl ?_
      refine e_Pn.if2 eAlk rfl (fun h5 => ?_) (fun h5 => ?_)
      · show e_Pn 20 elay ecode eI n d 348 (90, (0, (1, 275)) :: tl, [], w1) _
        refine e_Pn.run (t' := (91, (0, (1, 275)) :: tl, [(1, 275)], w1)) eAlk 1 rfl ?_
        refine e_Pn.getf (z := w1 275 85) eAlk rfl rfl rfl (fun b6 => ?_)
        refine e_Pn.run (t' := (96, (0, (1, 275)) :: tl, [(0, 20), (0, w1 275 85)], w1)) eAlk 1 rfl ?_
        refine e_Pn.if2 eAlk rfl (fun h7 => ?_) (fun h7 => ?_)
        · show e_Pn 20 elay ecode eI n d 348 (106, (0, (1, 275)) :: tl, [], w1) _
          refine e_Pn.run (t' := (107, (0, (1, 275)) :: tl, [(1, 275)], w1)) eAlk 1 rfl ?_
          refine e_Pn.getf (z := w1 275 85) eAlk rfl rfl rfl (fun b8 => ?_)
          refine e_Pn.run (t' := (112, (0, (1, 275)) :: tl, [(0, 21), (0, w1 275 85)], w1)) eAlk 1 rfl ?_
          refine e_Pn.if2 eAlk rfl (fun h9 => ?_) (fun h9 => ?_)
          · show e_Pn 20 elay ecode eI n d 348 (122, (0, (1, 275)) :: tl, [], w1) _
            refine e_Pn.run (t' := (124, (0, (1, 275)) :: tl, [(1, 275), (1, 275)], w1)) eAlk 2 rfl ?_
            refine e_Pn.getf (z := w1 275 85) eAlk rfl rfl rfl (fun b10 => ?_)
            refine e_Pn.callA rfl (fun n9 d9 => u_349 (q.rf hR)) (fun r12 w13 h11 => ?_)
            obtain ⟨rfl, h11⟩ := h11
            have q14 := q.tr h11
            show e_Pn 20 elay ecode eI n d 348 (130, (0, (1, 275)) :: tl, [], w13) _
            exact e_Pn.ord eAlk [0] rfl rfl (v_348_130 hR _ w13 q14)
          · show e_Pn 20 elay ecode eI n d 348 (115, (0, (1, 275)) :: tl, [], w1) _
            refine e_Pn.run (t' := (116, (0, (1, 275)) :: tl, [(1, 275)], w1)) eAlk 1 rfl ?_
            refine e_Pn.callA rfl (fun n9 d9 => uS_all n9 352 (by decide) d9 _ (q.rf hR)) (fun r16 w17 h15 => ?_)
            obtain ⟨rfl, h15⟩ := h15
            have q18 := q.tr h15
            show e_Pn 20 elay ecode eI n d 348 (119, (0, (1, 275)) :: tl, [], w17) _
            exact e_Pn.ord eAlk [0] rfl rfl (v_348_119 hR _ w17 q18)
        · show e_Pn 20 elay ecode eI n d 348 (99, (0, (1, 275)) :: tl, [], w1) _
          refine e_Pn.run (t' := (100, (0, (1, 275)) :: tl, [(1, 275)], w1)) eAlk 1 rfl ?_
          refine e_Pn.callA rfl (fun n9 d9 => uS_all n9 351 (by decide) d9 _ (q.rf hR)) (fun r20 w21 h19 => ?_)
          obtain ⟨rfl, h19⟩ := h19
          have q22 := q.tr h19
          show e_Pn 20 elay ecode eI n d 348 (103, (0, (1, 275)) :: tl, [], w21) _
          exact e_Pn.ord eAlk [0] rfl rfl (v_348_103 hR _ w21 q22)
      · show e_Pn 20 elay ecode eI n d 348 (83, (0, (1, 275)) :: tl, [], w1) _
        refine e_Pn.run (t' := (84, (0, (1, 275)) :: tl, [(1, 275)], w1)) eAlk 1 rfl ?_
        refine e_Pn.callA rfl (fun n9 d9 => uS_all n9 350 (by decide) d9 _ (q.rf hR)) (fun r24 w25 h23 => ?_)
        obtain ⟨rfl, h23⟩ := h23
        have q26 := q.tr h23
        show e_Pn 20 elay ecode eI n d 348 (87, (0, (1, 275)) :: tl, [], w25) _
        exact e_Pn.ord eAlk [0] rfl rfl (v_348_87 hR _ w25 q26)
    · show e_Pn 20 elay ecode eI n d 348 (15, (0, (1, 275)) :: tl, [], w1) _
      refine e_Pn.run (t' := (19, (0, (1, 275)) :: tl, [(0, 0), (0, 30), (1, 275)], w1)) eAlk 3 rfl ?_
      refine e_Pn.callA rfl (fun n9 d9 => u_336 (q.rf hR)) (fun r28 w29 h27 => ?_)
      obtain ⟨⟨z30, rfl⟩, h27⟩ := h27
      have q31 := q.tr h27
      show e_Pn 20 elay ecode eI n d 348 (22, (0, (1, 275)) :: tl, [(0, z30)], w29) _
      exact e_Pn.ord eAlk [0] rfl rfl (v_348_22 hR _ z30 w29 q31)
set_option maxHeartbeats 4000000 in
theorem v_350_117 {n d : Nat} {w : eW} (hR : mRw w) (tl : eL) (y1 : Int) (w1 : eW) (q : mq w w1) : e_Pn 20 elay ecode eI n d 350 (117, (0, (1, 275)) :: (1, (0, y1)) :: tl, [], w1) (fun r w' => r = [] ∧ mq w w') := by
  refine e_Pn.run (t' := (119, (0, (1, 275)) :: (1, (0, y1)) :: tl, [(1, 275), (1, 275)], w1)) eAlk 2 rfl ?_
  refine e_Pn.getf (z := w1 275 83) eAlk rfl rfl rfl (fun b1 => ?_)
  refine e_Pn.run (t' := (123, (0, (1, 275)) :: (1, (0, y1)) :: tl, [(0, 1), (0, w1 275 83), (1, 275)], w1)) eAlk 1 rfl ?_
  refine e_Pn.bin0 eAlk rfl (fun z2 hz2 => ?_)
  refine e_Pn.putf eAlk rfl rfl ?_
  generalize hw3 : e_up w1 275 83 z2 = w3
  have q4 : mq w w3 := mq.upF q hw3 (by decide) (by decide +kernel)
  exact e_Pn.ret0 rfl ⟨rfl, q4⟩
set_option maxHeartbeats 4000000 in
theorem v_350_114 {n d : Nat} {w : eW} (hR : mRw w) (tl : eL) (y1 : Int) (s0 : Int) (w1 : eW) (q : mq w w1) : e_Pn 20 elay ecode eI n d 350 (114, (0, (1, 275)) :: (1, (0, y1)) :: tl, [(0, s0), (1, 275)], w1) (fun r w' => r = [] ∧ mq w w') := by
  refine e_Pn.callA rfl (fun n9 d9 => u_334 (q.rf hR)) (fun r2 w3 h1 => ?_)
  obtain ⟨rfl, h1⟩ := h1
  have q4 := q.tr h1
  show e_Pn 20 elay ecode eI n d 350 (117, (0, (1, 275)) :: (1, (0, y1)) :: tl, [], w3) _
  exact e_Pn.ord eAlk [0, 1] rfl rfl (v_350_117 hR _ y1 w3 q4)
set_option maxHeartbeats 4000000 in
theorem v_350_108 {n d : Nat} {w : eW} (hR : mRw w) (tl : eL) (y1 : Int) (w1 : eW) (q : mq w w1) : e_Pn 20 elay ecode eI n d 350 (108, (0, (1, 275)) :: (1, (0, y1)) :: tl, [], w1) (fun r w' => r = [] ∧ mq w w') := by
  refine e_Pn.run (t' := (111, (0, (1, 275)) :: (1, (0, y1)) :: tl, [(0, 2), (1, 275), (1, 275)], w1)) eAlk 3 rfl ?_
  refine e_Pn.callA rfl (fun n9 d9 => u_332 (q.rf hR)) (fun r2 w3 h1 => ?_)
  obtain ⟨⟨z4, rfl⟩, h1⟩ := h1
  have q5 := q.tr h1
  show e_Pn 20 elay ecode eI n d 350 (114, (0, (1, 275)) :: (1, (0, y1)) :: tl, [(0, z4), (1, 275)], w3) _
  exact e_Pn.ord eAlk [0, 1] rfl rfl (v_350_114 hR _ y1 z4 w3 q5)
set_option maxHeartbeats 4000000 in
theorem v_350_100 {n d : Nat} {w : eW} (hR : mRw w) (tl : eL) (y1 : Int) (y2 : Int) (w1 : eW) (q : mq w w1) : e_Pn 20 elay ecode eI n d 350 (100, (0, (1, 275)) :: (1, (0, y1)) :: (2, (0, y2)) :: tl, [], w1) (fun r w' => r = [] ∧ mq w w') := by
  refine e_Pn.run (t' := (108, (0, (1, 275)) :: (1, (0, y1)) :: (2, (0, y2)) :: tl, [], w1)) eAlk 1 rfl ?_
  exact e_Pn.ord eAlk [0, 1] rfl rfl (v_350_108 hR _ y1 w1 q)
set_option maxHeartbeats 4000000 in
theorem v_350_95 {n d : Nat} {w : eW} (hR : mRw w) (tl : eL) (y1 : Int) (y2 : Int) (w1 : eW) (q : mq w w1) : e_Pn 20 elay ecode eI n d 350 (95, (0, (1, 275)) :: (1, (0, y1)) :: (2, (0, y2)) :: tl, [], w1) (fun r w' => r = [] ∧ mq w w') := by
  refine e_Pn.run (t' := (97, (0, (1, 275)) :: (1, (0, y1)) :: (2, (0, y2)) :: tl, [(0, y2), (1, 275)], w1)) eAlk 2 rfl ?_
  refine e_Pn.callA rfl (fun n9 d9 => u_337 (q.rf hR)) (fun r2 w3 h1 => ?_)
  obtain ⟨rfl, h1⟩ := h1
  have q4 := q.tr h1
  show e_Pn 20 elay ecode eI n d 350 (100, (0, (1, 275)) :: (1, (0, y1)) :: (2, (0, y2)) :: tl, [], w3) _
  exact e_Pn.ord eAlk [0, 1, 2] rfl rfl (v_350_100 hR _ y1 y2 w3 q4)
set_option maxHeartbeats 4000000 in
theorem v_350_91 {n d : Nat} {w : eW} (hR : mRw w) (tl : eL) (y1 : Int) (y2 : Int) (w1 : eW) (q : mq w w1) : e_Pn 20 elay ecode eI n d 350 (91, (0, (1, 275)) :: (1, (0, y1)) :: (2, (0, y2)) :: tl, [], w1) (fun r w' => r = [] ∧ mq w w') := by
  refine e_Pn.run (t' := (92, (0, (1, 275)) :: (1, (0, y1)) :: (2, (0, y2)) :: tl, [(1, 275)], w1)) eAlk 1 rfl ?_
  refine e_Pn.callA rfl (fun n9 d9 => uS_all n9 348 (by decide) d9 _ (q.rf hR)) (fun r2 w3 h1 => ?_)
  obtain ⟨rfl, h1⟩ := h1
  have q4 := q.tr h1
  show e_Pn 20 elay ecode eI n d 350 (95, (0, (1, 275)) :: (1, (0, y1)) :: (2, (0, y2)) :: tl, [], w3) _
  exact e_Pn.ord eAlk [0, 1, 2] rfl rfl (v_350_95 hR _ y1 y2 w3 q4)
set_option maxHeartbeats 4000000 in
theorem v_350_85 {n d : Nat} {w : eW} (hR : mRw w) (tl : eL) (y1 : Int) (s0 : Int) (w1 : eW) (q : mq w w1) : e_Pn 20 elay ecode eI n d 350 (85, (0, (1, 275)) :: (1, (0, y1)) :: tl, [(0, s0)], w1) (fun r w' => r = [] ∧ mq w w') := by
  refine e_Pn.run (t' := (88, (2, (0, s0)) :: (0, (1, 275)) :: (1, (0, y1)) :: List.filter (e_flt 0 2) tl, [(0, y1), (1, 275)], w1)) eAlk 3 rfl ?_
  refine e_Pn.callA rfl (fun n9 d9 => u_337 (q.rf hR)) (fun r2 w3 h1 => ?_)
  obtain ⟨rfl, h1⟩ := h1
  have q4 := q.tr h1
  show e_Pn 20 elay ecode eI n d 350 (91, (2, (0, s0)) :: (0, (1, 275)) :: (1, (0, y1)) :: List.filter (e_flt 0 2) tl, [], w3) _
  exact e_Pn.ord eAlk [0, 1, 2] rfl rfl (v_350_91 hR _ y1 s0 w3 q4)
set_option maxHeartbeats 4000000 in
theorem v_350_78 {n d : Nat} {w : eW} (hR : mRw w) (tl : eL) (y1 : Int) (w1 : eW) (q : mq w w1) : e_Pn 20 elay ecode eI n d 350 (78, (0, (1, 275)) :: (1, (0, y1)) :: tl, [], w1) (fun r w' => r = [] ∧ mq w w') := by
  refine e_Pn.run (t' := (82, (0, (1, 275)) :: (1, (0, y1)) :: tl, [(0, 0), (0, 48), (1, 275)], w1)) eAlk 3 rfl ?_
  refine e_Pn.callA rfl (fun n9 d9 => u_336 (q.rf hR)) (fun r2 w3 h1 => ?_)
  obtain ⟨⟨z4, rfl⟩, h1⟩ := h1
  have q5 := q.tr h1
  show e_Pn 20 elay ecode eI n d 350 (85, (0, (1, 275)) :: (1, (0, y1)) :: tl, [(0, z4)], w3) _
  exact e_Pn.ord eAlk [0, 1] rfl rfl (v_350_85 hR _ y1 z4 w3 q5)
set_option maxHeartbeats 4000000 in
theorem v_350_75 {n d : Nat} {w : eW} (hR : mRw w) (tl : eL) (y1 : Int) (s0 : Int) (w1 : eW) (q : mq w w1) : e_Pn 20 elay ecode eI n d 350 (75, (0, (1, 275)) :: (1, (0, y1)) :: tl, [(0, s0), (1, 275)], w1) (fun r w' => r = [] ∧ mq w w') := by
  refine e_Pn.callA rfl (fun n9 d9 => u_334 (q.rf hR)) (fun r2 w3 h1 => ?_)
  obtain ⟨rfl, h1⟩ := h1
  have q4 := q.tr h1
  show e_Pn 20 elay ecode eI n d 350 (78, (0, (1, 275)) :: (1, (0, y1)) :: tl, [], w3) _
  exact e_Pn.ord eAlk [0, 1] rfl rfl (v_350_78 hR _ y1 w3 q4)
set_option maxHeartbeats 4000000 in
theorem v_350_68 {n d : Nat} {w : eW} (hR : mRw w) (tl : eL) (y1 : Int) (w1 : eW) (q : mq w w1) : e_Pn 20 elay ecode eI n d 350 (68, (0, (1, 275)) :: (1, (0, y1)) :: tl, [], w1) (fun r w' => r = [] ∧ mq w w') := by
  refine e_Pn.run (t' := (72, (0, (1, 275)) :: (1, (0, y1)) :: tl, [(0, 58), (1, 275), (1, 275)], w1)) eAlk 3 rfl ?_
  refine e_Pn.callA rfl (fun n9 d9 => u_331 (q.rf hR)) (fun r2 w3 h1 => ?_)
  obtain ⟨⟨z4, rfl⟩, h1⟩ := h1
  have q5 := q.tr h1
  show e_Pn 20 elay ecode eI n d 350 (75, (0, (1, 275)) :: (1, (0, y1)) :: tl, [(0, z4), (1, 275)], w3) _
  exact e_Pn.ord eAlk [0, 1] rfl rfl (v_350_75 hR _ y1 z4 w3 q5)
set_option maxHeartbeats 4000000 in
theorem v_350_61 {n d : Nat} {w : eW} (hR : mRw w) (tl : eL) (y1 : Int) (s0 : Int) (w1 : eW) (q : mq w w1) : e_Pn 20 elay ecode eI n d 350 (61, (0, (1, 275)) :: (1, (0, y1)) :: tl, [(0, s0)], w1) (fun r w' => r = [] ∧ mq w w') := by
  refine e_Pn.if1 eAlk rfl (fun h1 => ?_) (fun h1 => ?_)
  · show e_Pn 20 elay ecode eI n d 350 (103, (0, (1, 275)) :: (1, (0, y1)) :: tl, [], w1) _
    refine e_Pn.run (t' := (105, (0, (1, 275)) :: (1, (0, y1)) :: tl, [(0, y1), (1, 275)], w1)) eAlk 2 rfl ?_
    refine e_Pn.callA rfl (fun n9 d9 => u_337 (q.rf hR)) (fun r3 w4 h2 => ?_)
    obtain ⟨rfl, h2⟩ := h2
    have q5 := q.tr h2
    show e_Pn 20 elay ecode eI n d 350 (108, (0, (1, 275)) :: (1, (0, y1)) :: tl, [], w4) _
    exact e_Pn.ord eAlk [0, 1] rfl rfl (v_350_108 hR _ y1 w4 q5)
  · show e_Pn 20 elay ecode eI n d 350 (64, (0, (1, 275)) :: (1, (0, y1)) :: tl, [], w1) _
    refine e_Pn.run (t' := (65, (0, (1, 275)) :: (1, (0, y1)) :: tl, [(1, 275)], w1)) eAlk 1 rfl ?_
    refine e_Pn.callA rfl (fun n9 d9 => u_327 (q.rf hR)) (fun r7 w8 h6 => ?_)
    obtain ⟨rfl, h6⟩ := h6
    have q9 := q.tr h6
    show e_Pn 20 elay ecode eI n d 350 (68, (0, (1, 275)) :: (1, (0, y1)) :: tl, [], w8) _
    exact e_Pn.ord eAlk [0, 1] rfl rfl (v_350_68 hR _ y1 w8 q9)
set_option maxHeartbeats 4000000 in
theorem v_350_48 {n d : Nat} {w : eW} (hR : mRw w) (tl : eL) (y1 : Int) (w1 : eW) (q : mq w w1) : e_Pn 20 elay ecode eI n d 350 (48, (0, (1, 275)) :: (1, (0, y1)) :: tl, [], w1) (fun r w' => r = [] ∧ mq w w') := by
  refine e_Pn.run (t' := (49, (0, (1, 275)) :: (1, (0, y1)) :: tl, [(1, 275)], w1)) eAlk 1 rfl ?_
  refine e_Pn.getf (z := w1 275 88) eAlk rfl rfl rfl (fun b1 => ?_)
  refine e_Pn.if1 eAlk rfl (fun h2 => ?_) (fun h2 => ?_)
  · show e_Pn 20 elay ecode eI n d 350 (103, (0, (1, 275)) :: (1, (0, y1)) :: tl, [], w1) _
    refine e_Pn.run (t' := (105, (0, (1, 275)) :: (1, (0, y1)) :: tl, [(0, y1), (1, 275)], w1)) eAlk 2 rfl ?_
    refine e_Pn.callA rfl (fun n9 d9 => u_337 (q.rf hR)) (fun r4 w5 h3 => ?_)
    obtain ⟨rfl, h3⟩ := h3
    have q6 := q.tr h3
    show e_Pn 20 elay ecode eI n d 350 (108, (0, (1, 275)) :: (1, (0, y1)) :: tl, [], w5) _
    exact e_Pn.ord eAlk [0, 1] rfl rfl (v_350_108 hR _ y1 w5 q6)
  · show e_Pn 20 elay ecode eI n d 350 (55, (0, (1, 275)) :: (1, (0, y1)) :: tl, [], w1) _
    refine e_Pn.run (t' := (58, (0, (1, 275)) :: (1, (0, y1)) :: tl, [(0, 19), (1, 275)], w1)) eAlk 2 rfl ?_
    refine e_Pn.callA rfl (fun n9 d9 => u_332 (q.rf hR)) (fun r8 w9 h7 => ?_)
    obtain ⟨⟨z10, rfl⟩, h7⟩ := h7
    have q11 := q.tr h7
    show e_Pn 20 elay ecode eI n d 350 (61, (0, (1, 275)) :: (1, (0, y1)) :: tl, [(0, z10)], w9) _
    exact e_Pn.ord eAlk [0, 1] rfl rfl (v_350_61 hR _ y1 z10 w9 q11)
set_option maxHeartbeats 4000000 in
theorem v_350_43 {n d : Nat} {w : eW} (hR : mRw w) (tl : eL) (s0 : Int) (w1 : eW) (q : mq w w1) : e_Pn 20 elay ecode eI n d 350 (43, (0, (1, 275)) :: tl, [(0, s0)], w1) (fun r w' => r = [] ∧ mq w w') := by
  refine e_Pn.run (t' := (45, (1, (0, s0)) :: (0, (1, 275)) :: List.filter (e_flt 0 1) tl, [(1, 275)], w1)) eAlk 2 rfl ?_
  refine e_Pn.callA rfl (fun n9 d9 => uS_all n9 348 (by decide) d9 _ (q.rf hR)) (fun r2 w3 h1 => ?_)
  obtain ⟨rfl, h1⟩ := h1
  have q4 := q.tr h1
  show e_Pn 20 elay ecode eI n d 350 (48, (1, (0, s0)) :: (0, (1, 275)) :: List.filter (e_flt 0 1) tl, [], w3) _
  exact e_Pn.ord eAlk [0, 1] rfl rfl (v_350_48 hR _ s0 w3 q4)
set_option maxHeartbeats 4000000 in
theorem v_350_36 {n d : Nat} {w : eW} (hR : mRw w) (tl : eL) (w1 : eW) (q : mq w w1) : e_Pn 20 elay ecode eI n d 350 (36, (0, (1, 275)) :: tl, [], w1) (fun r w' => r = [] ∧ mq w w') := by
  refine e_Pn.run (t' := (40, (0, (1, 275)) :: tl, [(0, 0), (0, 47), (1, 275)], w1)) eAlk 3 rfl ?_
  refine e_Pn.callA rfl (fun n9 d9 => u_336 (q.rf hR)) (fun r2 w3 h1 => ?_)
  obtain ⟨⟨z4, rfl⟩, h1⟩ := h1
  have q5 := q.tr h1
  show e_Pn 20 elay ecode eI n d 350 (43, (0, (1, 275)) :: tl, [(0, z4)], w3) _
  exact e_Pn.ord eAlk [0] rfl rfl (v_350_43 hR _ z4 w3 q5)
set_option maxHeartbeats 4000000 in
theorem v_350_33 {n d : Nat} {w : eW} (hR : mRw w) (tl : eL) (s0 : Int) (w1 : eW) (q : mq w w1) : e_Pn 20 elay ecode eI n d 350 (33, (0, (1, 275)) :: tl, [(0, s0), (1, 275)], w1) (fun r w' => r = [] ∧ mq w w') := by
  refine e_Pn.callA rfl (fun n9 d9 => u_334 (q.rf hR)) (fun r2 w3 h1 => ?_)
  obtain ⟨rfl, h1⟩ := h1
  have q4 := q.tr h1
  show e_Pn 20 elay ecode eI n d 350 (36, (0, (1, 275)) :: tl, [], w3) _
  exact e_Pn.ord eAlk [0] rfl rfl (v_350_36 hR _ w3 q4)
set_option maxHeartbeats 4000000 in
theorem v_350_26 {n d : Nat} {w : eW} (hR : mRw w) (tl : eL) (w1 : eW) (q : mq w w1) : e_Pn 20 elay ecode eI n d 350 (26, (0, (1, 275)) :: tl, [], w1) (fun r w' => r = [] ∧ mq w w') := by
  refine e_Pn.run (t' := (30, (0, (1, 275)) :: tl, [(0, 58), (1, 275), (1, 275)], w1)) eAlk 3 rfl ?_
  refine e_Pn.callA rfl (fun n9 d9 => u_331 (q.rf hR)) (fun r2 w3 h1 => ?_)
  obtain ⟨⟨z4, rfl⟩, h1⟩ := h1
  have q5 := q.tr h1
  show e_Pn 20 elay ecode eI n d 350 (33, (0, (1, 275)) :: tl, [(0, z4), (1, 275)], w3) _
  exact e_Pn.ord eAlk [0] rfl rfl (v_350_33 hR _ z4 w3 q5)
set_option maxHeartbeats 4000000 in
theorem v_350_22 {n d : Nat} {w : eW} (hR : mRw w) (tl : eL) (w1 : eW) (q : mq w w1) : e_Pn 20 elay ecode eI n d 350 (22, (0, (1, 275)) :: tl, [], w1) (fun r w' => r = [] ∧ mq w w') := by
  refine e_Pn.run (t' := (23, (0, (1, 275)) :: tl, [(1, 275)], w1)) eAlk 1 rfl ?_
  refine e_Pn.callA rfl (fun n9 d9 => uE_all n9 339 (by decide) d9 _ (q.rf hR)) (fun r2 w3 h1 => ?_)
  obtain ⟨rfl, h1⟩ := h1
  have q4 := q.tr h1
  show e_Pn 20 elay ecode eI n d 350 (26, (0, (1, 275)) :: tl, [], w3) _
  exact e_Pn.ord eAlk [0] rfl rfl (v_350_26 hR _ w3 q4)
set_option maxHeartbeats 4000000 in
theorem v_350_19 {n d : Nat} {w : eW} (hR : mRw w) (tl : eL) (s0 : Int) (w1 : eW) (q : mq w w1) : e_Pn 20 elay ecode eI n d 350 (19, (0, (1, 275)) :: tl, [(0, s0), (1, 275)], w1) (fun r w' => r = [] ∧ mq w w') := by
  refine e_Pn.callA rfl (fun n9 d9 => u_334 (q.rf hR)) (fun r2 w3 h1 => ?_)
  obtain ⟨rfl, h1⟩ := h1
  have q4 := q.tr h1
  show e_Pn 20 elay ecode eI n d 350 (22, (0, (1, 275)) :: tl, [], w3) _
  exact e_Pn.ord eAlk [0] rfl rfl (v_350_22 hR _ w3 q4)
set_option maxHeartbeats 4000000 in
theorem v_350_11 {n d : Nat} {w : eW} (hR : mRw w) (tl : eL) (s0 : Int) (w1 : eW) (q : mq w w1) : e_Pn 20 elay ecode eI n d 350 (11, (0, (1, 275)) :: tl, [(0, s0)], w1) (fun r w' => r = [] ∧ mq w w') := by
  refine e_Pn.run (t' := (16, (0, (1, 275)) :: tl, [(0, 18), (1, 275), (1, 275)], w1)) eAlk 4 rfl ?_
  refine e_Pn.callA rfl (fun n9 d9 => u_332 (q.rf hR)) (fun r2 w3 h1 => ?_)
  obtain ⟨⟨z4, rfl⟩, h1⟩ := h1
  have q5 := q.tr h1
  show e_Pn 20 elay ecode eI n d 350 (19, (0, (1, 275)) :: tl, [(0, z4), (1, 275)], w3) _
  exact e_Pn.ord eAlk [0] rfl rfl (v_350_19 hR _ z4 w3 q5)
set_option maxHeartbeats 4000000 in
theorem v_350_4 {n d : Nat} {w : eW} (hR : mRw w) (tl : eL) (w1 : eW) (q : mq w w1) : e_Pn 20 elay ecode eI n d 350 (4, (0, (1, 275)) :: tl, [], w1) (fun r w' => r = [] ∧ mq w w') := by
  refine e_Pn.run (t' := (8, (0, (1, 275)) :: tl, [(0, 0), (0, 30), (1, 275)], w1)) eAlk 3 rfl ?_
  refine e_Pn.callA rfl (fun n9 d9 => u_336 (q.rf hR)) (fun r2 w3 h1 => ?_)
  obtain ⟨⟨z4, rfl⟩, h1⟩ := h1
  have q5 := q.tr h1
  show e_Pn 20 elay ecode eI n d 350 (11, (0, (1, 275)) :: tl, [(0, z4)], w3) _
  exact e_Pn.ord eAlk [0] rfl rfl (v_350_11 hR _ z4 w3 q5)
set_option maxHeartbeats 4000000 in
theorem v_351_130 {n d : Nat} {w : eW} (hR : mRw w) (tl : eL) (y1 : Int) (y2 : Int) (y3 : Int) (y4 : Int) (w1 : eW) (q : mq w w1) : e_Pn 20 elay ecode eI n d 351 (130, (0, (1, 275)) :: (1, (0, y1)) :: (2, (0, y2)) :: (3, (0, y3)) :: (4, (0, y4)) :: tl, [], w1) (fun r w' => r = [] ∧ mq w w') := by
  refine e_Pn.run (t' := (132, (0, (1, 275)) :: (1, (0, y1)) :: (2, (0, y2)) :: (3, (0, y3)) :: (4, (0, y4)) :: tl, [(1, 275), (1, 275)], w1)) eAlk 2 rfl ?_
  refine e_Pn.getf (z := w1 275 83) eAlk rfl rfl rfl (fun b1 => ?_)
  refine e_Pn.run (t' := (136, (0, (1, 275)) :: (1, (0, y1)) :: (2, (0, y2)) :: (3, (0, y3)) :: (4, (0, y4)) :: tl, [(0, 1), (0, w1 275 83), (1, 275)], w1)) eAlk 1 rfl ?_
  refine e_Pn.bin0 eAlk rfl (fun z2 hz2 => ?_)
  refine e_Pn.putf eAlk rfl rfl ?_
  generalize hw3 : e_up w1 275 83 z2 = w3
  have q4 : mq w w3 := mq.upF q hw3 (by decide) (by decide +kernel)
  exact e_Pn.ret0 rfl ⟨rfl, q4⟩
set_option maxHeartbeats 4000000 in
theorem v_351_127 {n d : Nat} {w : eW} (hR : mRw w) (tl : eL) (y1 : Int) (y2 : Int) (y3 : Int) (y4 : Int) (s0 : Int) (w1 : eW) (q : mq w w1) : e_Pn 20 elay ecode eI n d 351 (127, (0, (1, 275)) :: (1, (0, y1)) :: (2, (0, y2)) :: (3, (0, y3)) :: (4, (0, y4)) :: tl, [(0, s0), (1, 275)], w1) (fun r w' => r = [] ∧ mq w w') := by
  refine e_Pn.callA rfl (fun n9 d9 => u_334 (q.rf hR)) (fun r2 w3 h1 => ?_)
  obtain ⟨rfl, h1⟩ := h1
  have q4 := q.tr h1
  show e_Pn 20 elay ecode eI n d 351 (130, (0, (1, 275)) :: (1, (0, y1)) :: (2, (0, y2)) :: (3, (0, y3)) :: (4, (0, y4)) :: tl, [], w3) _
  exact e_Pn.ord eAlk [0, 1, 2, 3, 4] rfl rfl (v_351_130 hR _ y1 y2 y3 y4 w3 q4)
set_option maxHeartbeats 4000000 in
theorem v_351_107 {n d : Nat} {w : eW} (hR : mRw w) (tl : eL) (y1 : Int) (y2 : Int) (y3 : Int) (y4 : Int) (w1 : eW) (q : mq w w1) : e_Pn 20 elay ecode eI n d 351 (107, (0, (1, 275)) :: (1, (0, y1)) :: (2, (0, y2)) :: (3, (0, y3)) :: (4, (0, y4)) :: tl, [], w1) (fun r w' => r = [] ∧ mq w w') := by
  refine e_Pn.run (t' := (108, (0, (1, 275)) :: (1, (0, y1)) :: (2, (0, y2)) :: (3, (0, y3)) :: (4, (0, y4)) :: tl, [(1, 275)], w1)) eAlk 1 rfl ?_
  refine e_Pn.getr (z := 336) eAlk rfl rfl (q.rf hR (73, 336) (by decide)) (by omega) ?_
  refine e_Pn.run (t' := (115, (0, (1, 275)) :: (1, (0, y1)) :: (2, (0, y2)) :: (3, (0, y3)) :: (4, (0, y4)) :: tl, [(0, y1), (0, 3600), (1, 336)], w1)) eAlk 2 rfl ?_
  refine e_Pn.bin0 eAlk rfl (fun z1 hz1 => ?_)
  refine e_Pn.run (t' := (117, (0, (1, 275)) :: (1, (0, y1)) :: (2, (0, y2)) :: (3, (0, y3)) :: (4, (0, y4)) :: tl, [(1, 275), (0, z1), (1, 336)], w1)) eAlk 1 rfl ?_
  refine e_Pn.getf (z := w1 275 78) eAlk rfl rfl rfl (fun b2 => ?_)
  refine e_Pn.ast eAlk rfl rfl rfl (fun b3 b4 => ?_)
  generalize hw5 : e_up w1 336 z1 (w1 275 78) = w5
  have q6 : mq w w5 := mq.upA q hw5 (by decide)
  refine e_Pn.run (t' := (124, (0, (1, 275)) :: (1, (0, y1)) :: (2, (0, y2)) :: (3, (0, y3)) :: (4, (0, y4)) :: tl, [(0, 2), (1, 275), (1, 275)], w5)) eAlk 3 rfl ?_
  refine e_Pn.callA rfl (fun n9 d9 => u_332 (q6.rf hR)) (fun r8 w9 h7 => ?_)
  obtain ⟨⟨z10, rfl⟩, h7⟩ := h7
  have q11 := q6.tr h7
  show e_Pn 20 elay ecode eI n d 351 (127, (0, (1, 275)) :: (1, (0, y1)) :: (2, (0, y2)) :: (3, (0, y3)) :: (4, (0, y4)) :: tl, [(0, z10), (1, 275)], w9) _
  exact e_Pn.ord eAlk [0, 1, 2, 3, 4] rfl rfl (v_351_127 hR _ y1 y2 y3 y4 z10 w9 q11)
set_option maxHeartbeats 4000000 in
theorem v_351_100 {n d : Nat} {w : eW} (hR : mRw w) (tl : eL) (y1 : Int) (y2 : Int) (y3 : Int) (y4 : Int) (s0 : Int) (w1 : eW) (q : mq w w1) : e_Pn 20 elay ecode eI n d 351 (100, (0, (1, 275)) :: (1, (0, y1)) :: (2, (0, y2)) :: (3, (0, y3)) :: (4, (0, y4)) :: tl, [(0, s0)], w1) (fun r w' => r = [] ∧ mq w w') := by
  refine e_Pn.run (t' := (104, (0, (1, 275)) :: (1, (0, y1)) :: (2, (0, y2)) :: (3, (0, y3)) :: (4, (0, y4)) :: tl, [(0, y4), (1, 275)], w1)) eAlk 3 rfl ?_
  refine e_Pn.callA rfl (fun n9 d9 => u_337 (q.rf hR)) (fun r2 w3 h1 => ?_)
  obtain ⟨rfl, h1⟩ := h1
  have q4 := q.tr h1
  show e_Pn 20 elay ecode eI n d 351 (107, (0, (1, 275)) :: (1, (0, y1)) :: (2, (0, y2)) :: (3, (0, y3)) :: (4, (0, y4)) :: tl, [], w3) _
  exact e_Pn.ord eAlk [0, 1, 2, 3, 4] rfl rfl (v_351_107 hR _ y1 y2 y3 y4 w3 q4)
set_option maxHeartbeats 4000000 in
theorem v_351_88 {n d : Nat} {w : eW} (hR : mRw w) (tl : eL) (y1 : Int) (y2 : Int) (y3 : Int) (y4 : Int) (w1 : eW) (q : mq w w1) : e_Pn 20 elay ecode eI n d 351 (88, (0, (1, 275)) :: (1, (0, y1)) :: (2, (0, y2)) :: (3, (0, y3)) :: (4, (0, y4)) :: tl, [], w1) (fun r w' => r = [] ∧ mq w w') := by
  refine e_Pn.run (t' := (90, (0, (1, 275)) :: (1, (0, y1)) :: (2, (0, y2)) :: (3, (0, y3)) :: (4, (0, y4)) :: tl, [(0, y2), (1, 275)], w1)) eAlk 2 rfl ?_
  refine e_Pn.putf eAlk rfl rfl ?_
  generalize hw1 : e_up w1 275 82 y2 = w1
  have q2 : mq w w1 := mq.upF q hw1 (by decide) (by decide +kernel)
  refine e_Pn.run (t' := (97, (0, (1, 275)) :: (1, (0, y1)) :: (2, (0, y2)) :: (3, (0, y3)) :: (4, (0, y4)) :: tl, [(0, y3), (0, 48), (1, 275)], w1)) eAlk 3 rfl ?_
  refine e_Pn.callA rfl (fun n9 d9 => u_336 (q2.rf hR)) (fun r4 w5 h3 => ?_)
  obtain ⟨⟨z6, rfl⟩, h3⟩ := h3
  have q7 := q2.tr h3
  show e_Pn 20 elay ecode eI n d 351 (100, (0, (1, 275)) :: (1, (0, y1)) :: (2, (0, y2)) :: (3, (0, y3)) :: (4, (0, y4)) :: tl, [(0, z6)], w5) _
  exact e_Pn.ord eAlk [0, 1, 2, 3, 4] rfl rfl (v_351_100 hR _ y1 y2 y3 y4 z6 w5 q7)
set_option maxHeartbeats 4000000 in
theorem v_351_77 {n d : Nat} {w : eW} (hR : mRw w) (tl : eL) (y1 : Int) (y2 : Int) (y3 : Int) (s0 : Int) (w1 : eW) (q : mq w w1) : e_Pn 20 elay ecode eI n d 351 (77, (0, (1, 275)) :: (1, (0, y1)) :: (2, (0, y2)) :: (3, (0, y3)) :: tl, [(0, s0)], w1) (fun r w' => r = [] ∧ mq w w') := by
  refine e_Pn.run (t' := (81, (4, (0, s0)) :: (0, (1, 275)) :: (1, (0, y1)) :: (2, (0, y2)) :: (3, (0, y3)) :: List.filter (e_flt 0 4) tl, [(0, y1), (1, 275)], w1)) eAlk 3 rfl ?_
  refine e_Pn.putf eAlk rfl rfl ?_
  generalize hw1 : e_up w1 275 82 y1 = w1
  have q2 : mq w w1 := mq.upF q hw1 (by decide) (by decide +kernel)
  refine e_Pn.run (t' := (85, (4, (0, s0)) :: (0, (1, 275)) :: (1, (0, y1)) :: (2, (0, y2)) :: (3, (0, y3)) :: List.filter (e_flt 0 4) tl, [(1, 275)], w1)) eAlk 1 rfl ?_
  refine e_Pn.callA rfl (fun n9 d9 => uS_all n9 348 (by decide) d9 _ (q2.rf hR)) (fun r4 w5 h3 => ?_)
  obtain ⟨rfl, h3⟩ := h3
  have q6 := q2.tr h3
  show e_Pn 20 elay ecode eI n d 351 (88, (4, (0, s0)) :: (0, (1, 275)) :: (1, (0, y1)) :: (2, (0, y2)) :: (3, (0, y3)) :: List.filter (e_flt 0 4) tl, [], w5) _
  exact e_Pn.ord eAlk [0, 1, 2, 3, 4] rfl rfl (v_351_88 hR _ y1 y2 y3 s0 w5 q6)
set_option maxHeartbeats 4000000 in
theorem v_351_70 {n d : Nat} {w : eW} (hR : mRw w) (tl : eL) (y1 : Int) (y2 : Int) (y3 : Int) (w1 : eW) (q : mq w w1) : e_Pn 20 elay ecode eI n d 351 (70, (0, (1, 275)) :: (1, (0, y1)) :: (2, (0, y2)) :: (3, (0, y3)) :: tl, [], w1) (fun r w' => r = [] ∧ mq w w') := by
  refine e_Pn.run (t' := (74, (0, (1, 275)) :: (1, (0, y1)) :: (2, (0, y2)) :: (3, (0, y3)) :: tl, [(0, 0), (0, 47), (1, 275)], w1)) eAlk 3 rfl ?_
  refine e_Pn.callA rfl (fun n9 d9 => u_336 (q.rf hR)) (fun r2 w3 h1 => ?_)
  obtain ⟨⟨z4, rfl⟩, h1⟩ := h1
  have q5 := q.tr h1
  show e_Pn 20 elay ecode eI n d 351 (77, (0, (1, 275)) :: (1, (0, y1)) :: (2, (0, y2)) :: (3, (0, y3)) :: tl, [(0, z4)], w3) _
  exact e_Pn.ord eAlk [0, 1, 2, 3] rfl rfl (v_351_77 hR _ y1 y2 y3 z4 w3 q5)
set_option maxHeartbeats 4000000 in
theorem v_351_67 {n d : Nat} {w : eW} (hR : mRw w) (tl : eL) (y1 : Int) (y2 : Int) (y3 : Int) (s0 : Int) (w1 : eW) (q : mq w w1) : e_Pn 20 elay ecode eI n d 351 (67, (0, (1, 275)) :: (1, (0, y1)) :: (2, (0, y2)) :: (3, (0, y3)) :: tl, [(0, s0), (1, 275)], w1) (fun r w' => r = [] ∧ mq w w') := by
  refine e_Pn.callA rfl (fun n9 d9 => u_334 (q.rf hR)) (fun r2 w3 h1 => ?_)
  obtain ⟨rfl, h1⟩ := h1
  have q4 := q.tr h1
  show e_Pn 20 elay ecode eI n d 351 (70, (0, (1, 275)) :: (1, (0, y1)) :: (2, (0, y2)) :: (3, (0, y3)) :: tl, [], w3) _
  exact e_Pn.ord eAlk [0, 1, 2, 3] rfl rfl (v_351_70 hR _ y1 y2 y3 w3 q4)
set_option maxHeartbeats 4000000 in
theorem v_351_60 {n d : Nat} {w : eW} (hR : mRw w) (tl : eL) (y1 : Int) (y2 : Int) (y3 : Int) (w1 : eW) (q : mq w w1) : e_Pn 20 elay ecode eI n d 351 (60, (0, (1, 275)) :: (1, (0, y1)) :: (2, (0, y2)) :: (3, (0, y3)) :: tl, [], w1) (fun r w' => r = [] ∧ mq w w') := by
  refine e_Pn.run (t' := (64, (0, (1, 275)) :: (1, (0, y1)) :: (2, (0, y2)) :: (3, (0, y3)) :: tl, [(0, 58), (1, 275), (1, 275)], w1)) eAlk 3 rfl ?_
  refine e_Pn.callA rfl (fun n9 d9 => u_331 (q.rf hR)) (fun r2 w3 h1 => ?_)
  obtain ⟨⟨z4, rfl⟩, h1⟩ := h1
  have q5 := q.tr h1
  show e_Pn 20 elay ecode eI n d 351 (67, (0, (1, 275)) :: (1, (0, y1)) :: (2, (0, y2)) :: (3, (0, y3)) :: tl, [(0, z4), (1, 275)], w3) _
  exact e_Pn.ord eAlk [0, 1, 2, 3] rfl rfl (v_351_67 hR _ y1 y2 y3 z4 w3 q5)
set_option maxHeartbeats 4000000 in
theorem v_351_56 {n d : Nat} {w : eW} (hR : mRw w) (tl : eL) (y1 : Int) (y2 : Int) (y3 : Int) (w1 : eW) (q : mq w w1) : e_Pn 20 elay ecode eI n d 351 (56, (0, (1, 275)) :: (1, (0, y1)) :: (2, (0, y2)) :: (3, (0, y3)) :: tl, [], w1) (fun r w' => r = [] ∧ mq w w') := by
  refine e_Pn.run (t' := (57, (0, (1, 275)) :: (1, (0, y1)) :: (2, (0, y2)) :: (3, (0, y3)) :: tl, [(1, 275)], w1)) eAlk 1 rfl ?_
  refine e_Pn.callA rfl (fun n9 d9 => uE_all n9 339 (by decide) d9 _ (q.rf hR)) (fun r2 w3 h1 => ?_)
  obtain ⟨rfl, h1⟩ := h1
  have q4 := q.tr h1
  show e_Pn 20 elay ecode eI n d 351 (60, (0, (1, 275)) :: (1, (0, y1)) :: (2, (0, y2)) :: (3, (0, y3)) :: tl, [], w3) _
  exact e_Pn.ord eAlk [0, 1, 2, 3] rfl rfl (v_351_60 hR _ y1 y2 y3 w3 q4)
set_option maxHeartbeats 4000000 in
theorem v_351_53 {n d : Nat} {w : eW} (hR : mRw w) (tl : eL) (y1 : Int) (y2 : Int) (y3 : Int) (s0 : Int) (w1 : eW) (q : mq w w1) : e_Pn 20 elay ecode eI n d 351 (53, (0, (1, 275)) :: (1, (0, y1)) :: (2, (0, y2)) :: (3, (0, y3)) :: tl, [(0, s0), (1, 275)], w1) (fun r w' => r = [] ∧ mq w w') := by
  refine e_Pn.callA rfl (fun n9 d9 => u_334 (q.rf hR)) (fun r2 w3 h1 => ?_)
  obtain ⟨rfl, h1⟩ := h1
  have q4 := q.tr h1
  show e_Pn 20 elay ecode eI n d 351 (56, (0, (1, 275)) :: (1, (0, y1)) :: (2, (0, y2)) :: (3, (0, y3)) :: tl, [], w3) _
  exact e_Pn.ord eAlk [0, 1, 2, 3] rfl rfl (v_351_56 hR _ y1 y2 y3 w3 q4)
set_option maxHeartbeats 4000000 in
theorem v_351_45 {n d : Nat} {w : eW} (hR : mRw w) (tl : eL) (y1 : Int) (y2 : Int) (s0 : Int) (w1 : eW) (q : mq w w1) : e_Pn 20 elay ecode eI n d 351 (45, (0, (1, 275)) :: (1, (0, y1)) :: (2, (0, y2)) :: tl, [(0, s0)], w1) (fun r w' => r = [] ∧ mq w w') := by
  refine e_Pn.run (t' := (50, (3, (0, s0)) :: (0, (1, 275)) :: (1, (0, y1)) :: (2, (0, y2)) :: List.filter (e_flt 0 3) tl, [(0, 20), (1, 275), (1, 275)], w1)) eAlk 4 rfl ?_
  refine e_Pn.callA rfl (fun n9 d9 => u_332 (q.rf hR)) (fun r2 w3 h1 => ?_)
  obtain ⟨⟨z4, rfl⟩, h1⟩ := h1
  have q5 := q.tr h1
  show e_Pn 20 elay ecode eI n d 351 (53, (3, (0, s0)) :: (0, (1, 275)) :: (1, (0, y1)) :: (2, (0, y2)) :: List.filter (e_flt 0 3) tl, [(0, z4), (1, 275)], w3) _
  exact e_Pn.ord eAlk [0, 1, 2, 3] rfl rfl (v_351_53 hR _ y1 y2 s0 z4 w3 q5)
set_option maxHeartbeats 4000000 in
theorem v_351_4 {n d : Nat} {w : eW} (hR : mRw w) (tl : eL) (w1 : eW) (q : mq w w1) : e_Pn 20 elay ecode eI n d 351 (4, (0, (1, 275)) :: tl, [], w1) (fun r w' => r = [] ∧ mq w w') := by
  refine e_Pn.run (t' := (5, (0, (1, 275)) :: tl, [(1, 275)], w1)) eAlk 1 rfl ?_
  refine e_Pn.getf (z := w1 275 80) eAlk rfl rfl rfl (fun b1 => ?_)
  refine e_Pn.run (t' := (11, (1, (0, w1 275 80)) :: (0, (1, 275)) :: List.filter (e_flt 0 1) tl, [(1, 275), (1, 275)], w1)) eAlk 3 rfl ?_
  refine e_Pn.getf (z := w1 275 80) eAlk rfl rfl rfl (fun b2 => ?_)
  refine e_Pn.run (t' := (15, (1, (0, w1 275 80)) :: (0, (1, 275)) :: List.filter (e_flt 0 1) tl, [(0, 1), (0, w1 275 80), (1, 275)], w1)) eAlk 1 rfl ?_
  refine e_Pn.bin0 eAlk rfl (fun z3 hz3 => ?_)
  refine e_Pn.putf eAlk rfl rfl ?_
  generalize hw4 : e_up w1 275 80 z3 = w4
  have q5 : mq w w4 := mq.upF q hw4 (by decide) (by decide +kernel)
  refine e_Pn.run (t' := (20, (1, (0, w1 275 80)) :: (0, (1, 275)) :: List.filter (e_flt 0 1) tl, [(1, 275)], w4)) eAlk 1 rfl ?_
  refine e_Pn.getf (z := w4 275 82) eAlk rfl rfl rfl (fun b6 => ?_)
  refine e_Pn.run (t' := (25, (2, (0, w4 275 82)) :: (1, (0, w1 275 80)) :: (0, (1, 275)) :: List.filter (e_flt 0 2) (List.filter (e_flt 0 1) tl), [(1, 275)], w4)) eAlk 2 rfl ?_
  refine e_Pn.getr (z := 335) eAlk rfl rfl (q5.rf hR (72, 335) (by decide)) (by omega) ?_
  refine e_Pn.run (t' := (32, (2, (0, w4 275 82)) :: (1, (0, w1 275 80)) :: (0, (1, 275)) :: List.filter (e_flt 0 2) (List.filter (e_flt 0 1) tl), [(0, w1 275 80), (0, 3600), (1, 335)], w4)) eAlk 2 rfl ?_
  refine e_Pn.bin0 eAlk rfl (fun z7 hz7 => ?_)
  refine e_Pn.run (t' := (34, (2, (0, w4 275 82)) :: (1, (0, w1 275 80)) :: (0, (1, 275)) :: List.filter (e_flt 0 2) (List.filter (e_flt 0 1) tl), [(1, 275), (0, z7), (1, 335)], w4)) eAlk 1 rfl ?_
  refine e_Pn.getf (z := w4 275 81) eAlk rfl rfl rfl (fun b8 => ?_)
  refine e_Pn.ast eAlk rfl rfl rfl (fun b9 b10 => ?_)
  generalize hw11 : e_up w4 335 z7 (w4 275 81) = w11
  have q12 : mq w w11 := mq.upA q5 hw11 (by decide)
  refine e_Pn.run (t' := (42, (2, (0, w4 275 82)) :: (1, (0, w1 275 80)) :: (0, (1, 275)) :: List.filter (e_flt 0 2) (List.filter (e_flt 0 1) tl), [(0, 0), (0, 30), (1, 275)], w11)) eAlk 3 rfl ?_
  refine e_Pn.callA rfl (fun n9 d9 => u_336 (q12.rf hR)) (fun r14 w15 h13 => ?_)
  obtain ⟨⟨z16, rfl⟩, h13⟩ := h13
  have q17 := q12.tr h13
  show e_Pn 20 elay ecode eI n d 351 (45, (2, (0, w4 275 82)) :: (1, (0, w1 275 80)) :: (0, (1, 275)) :: List.filter (e_flt 0 2) (List.filter (e_flt 0 1) tl), [(0, z16)], w15) _
  exact e_Pn.ord eAlk [0, 1, 2] rfl rfl (v_351_45 hR _ (w1 275 80) (w4 275 82) z16 w15 q17)
set_option maxHeartbeats 4000000 in
theorem v_352_244 {n d : Nat} {w : eW} (hR : mRw w) (tl : eL) (y1 : Int) (y2 : Int) (y3 : Int) (w1 : eW) (q : mq w w1) : e_Pn 20 elay ecode eI n d 352 (244, (0, (1, 275)) :: (1, (0, y1)) :: (2, (0, y2)) :: (3, (0, y3)) :: tl, [], w1) (fun r w' => r = [] ∧ mq w w') := by
  refine e_Pn.run (t' := (246, (0, (1, 275)) :: (1, (0, y1)) :: (2, (0, y2)) :: (3, (0, y3)) :: tl, [(1, 275), (1, 275)], w1)) eAlk 2 rfl ?_
  refine e_Pn.getf (z := w1 275 83) eAlk rfl rfl rfl (fun b1 => ?_)
  refine e_Pn.run (t' := (250, (0, (1, 275)) :: (1, (0, y1)) :: (2, (0, y2)) :: (3, (0, y3)) :: tl, [(0, 1), (0, w1 275 83), (1, 275)], w1)) eAlk 1 rfl ?_
  refine e_Pn.bin0 eAlk rfl (fun z2 hz2 => ?_)
  refine e_Pn.putf eAlk rfl rfl ?_
  generalize hw3 : e_up w1 275 83 z2 = w3
  have q4 : mq w w3 := mq.upF q hw3 (by decide) (by decide +kernel)
  exact e_Pn.ret0 rfl ⟨rfl, q4⟩
set_option maxHeartbeats 4000000 in
theorem v_352_241 {n d : Nat} {w : eW} (hR : mRw w) (tl : eL) (y1 : Int) (y2 : Int) (y3 : Int) (s0 : Int) (w1 : eW) (q : mq w w1) : e_Pn 20 elay ecode eI n d 352 (241, (0, (1, 275)) :: (1, (0, y1)) :: (2, (0, y2)) :: (3, (0, y3)) :: tl, [(0, s0), (1, 275)], w1) (fun r w' => r = [] ∧ mq w w') := by
  refine e_Pn.callA rfl (fun n9 d9 => u_334 (q.rf hR)) (fun r2 w3 h1 => ?_)
  obtain ⟨rfl, h1⟩ := h1
  have q4 := q.tr h1
  show e_Pn 20 elay ecode eI n d 352 (244, (0, (1, 275)) :: (1, (0, y1)) :: (2, (0, y2)) :: (3, (0, y3)) :: tl, [], w3) _
  exact e_Pn.ord eAlk [0, 1, 2, 3] rfl rfl (v_352_244 hR _ y1 y2 y3 w3 q4)
set_option maxHeartbeats 4000000 in
theorem v_352_219 {n d : Nat} {w : eW} (hR : mRw w) (tl : eL) (y1 : Int) (y2 : Int) (y3 : Int) (s0 : Int) (w1 : eW) (q : mq w w1) : e_Pn 20 elay ecode eI n d 352 (219, (0, (1, 275)) :: (1, (0, y1)) :: (2, (0, y2)) :: (3, (0, y3)) :: tl, [(0, s0)], w1) (fun r w' => r = [] ∧ mq w w') := by
  refine e_Pn.run (t' := (222, (0, (1, 275)) :: (1, (0, y1)) :: (2, (0, y2)) :: (3, (0, y3)) :: tl, [(0, y1), (1, 275)], w1)) eAlk 3 rfl ?_
  refine e_Pn.putf eAlk rfl rfl ?_
  generalize hw1 : e_up w1 275 81 y1 = w1
  have q2 : mq w w1 := mq.upF q hw1 (by decide) (by decide +kernel)
  refine e_Pn.run (t' := (226, (0, (1, 275)) :: (1, (0, y1)) :: (2, (0, y2)) :: (3, (0, y3)) :: tl, [(1, 275)], w1)) eAlk 1 rfl ?_
  refine e_Pn.getr (z := 334) eAlk rfl rfl (q2.rf hR (71, 334) (by decide)) (by omega) ?_
  refine e_Pn.run (t' := (231, (0, (1, 275)) :: (1, (0, y1)) :: (2, (0, y2)) :: (3, (0, y3)) :: tl, [(1, 275), (0, y3), (1, 334)], w1)) eAlk 2 rfl ?_
  refine e_Pn.getf (z := w1 275 78) eAlk rfl rfl rfl (fun b3 => ?_)
  refine e_Pn.ast eAlk rfl rfl rfl (fun b4 b5 => ?_)
  generalize hw6 : e_up w1 334 y3 (w1 275 78) = w6
  have q7 : mq w w6 := mq.upA q2 hw6 (by decide)
  refine e_Pn.run (t' := (238, (0, (1, 275)) :: (1, (0, y1)) :: (2, (0, y2)) :: (3, (0, y3)) :: tl, [(0, 2), (1, 275), (1, 275)], w6)) eAlk 3 rfl ?_
  refine e_Pn.callA rfl (fun n9 d9 => u_332 (q7.rf hR)) (fun r9 w10 h8 => ?_)
  obtain ⟨⟨z11, rfl⟩, h8⟩ := h8
  have q12 := q7.tr h8
  show e_Pn 20 elay ecode eI n d 352 (241, (0, (1, 275)) :: (1, (0, y1)) :: (2, (0, y2)) :: (3, (0, y3)) :: tl, [(0, z11), (1, 275)], w10) _
  exact e_Pn.ord eAlk [0, 1, 2, 3] rfl rfl (v_352_241 hR _ y1 y2 y3 z11 w10 q12)
set_option maxHeartbeats 4000000 in
theorem v_352_212 {n d : Nat} {w : eW} (hR : mRw w) (tl : eL) (y1 : Int) (y2 : Int) (y3 : Int) (w1 : eW) (q : mq w w1) : e_Pn 20 elay ecode eI n d 352 (212, (0, (1, 275)) :: (1, (0, y1)) :: (2, (0, y2)) :: (3, (0, y3)) :: tl, [], w1) (fun r w' => r = [] ∧ mq w w') := by
  refine e_Pn.run (t' := (216, (0, (1, 275)) :: (1, (0, y1)) :: (2, (0, y2)) :: (3, (0, y3)) :: tl, [(0, y2), (0, 51), (1, 275)], w1)) eAlk 3 rfl ?_
  refine e_Pn.callA rfl (fun n9 d9 => u_336 (q.rf hR)) (fun r2 w3 h1 => ?_)
  obtain ⟨⟨z4, rfl⟩, h1⟩ := h1
  have q5 := q.tr h1
  show e_Pn 20 elay ecode eI n d 352 (219, (0, (1, 275)) :: (1, (0, y1)) :: (2, (0, y2)) :: (3, (0, y3)) :: tl, [(0, z4)], w3) _
  exact e_Pn.ord eAlk [0, 1, 2, 3] rfl rfl (v_352_219 hR _ y1 y2 y3 z4 w3 q5)
set_option maxHeartbeats 4000000 in
theorem v_352_189 {n d : Nat} {w : eW} (hR : mRw w) (tl : eL) (y1 : Int) (y2 : Int) (y3 : Int) (w1 : eW) (q : mq w w1) : e_Pn 20 elay ecode eI n d 352 (189, (0, (1, 275)) :: (1, (0, y1)) :: (2, (0, y2)) :: (3, (0, y3)) :: tl, [], w1) (fun r w' => r = [] ∧ mq w w') := by
  refine e_Pn.run (t' := (192, (0, (1, 275)) :: (1, (0, y1)) :: (2, (0, y2)) :: (3, (0, y3)) :: tl, [(0, y2), (0, 3), (1, 275)], w1)) eAlk 3 rfl ?_
  refine e_Pn.bin0 eAlk rfl (fun z1 hz1 => ?_)
  refine e_Pn.run (t' := (194, (0, (1, 275)) :: (1, (0, y1)) :: (2, (0, y2)) :: (3, (0, y3)) :: tl, [(0, 2), (0, z1), (1, 275)], w1)) eAlk 1 rfl ?_
  refine e_Pn.bin0 eAlk rfl (fun z2 hz2 => ?_)
  refine e_Pn.putf eAlk rfl rfl ?_
  generalize hw3 : e_up w1 275 81 z2 = w3
  have q4 : mq w w3 := mq.upF q hw3 (by decide) (by decide +kernel)
  refine e_Pn.run (t' := (199, (0, (1, 275)) :: (1, (0, y1)) :: (2, (0, y2)) :: (3, (0, y3)) :: tl, [(1, 275)], w3)) eAlk 1 rfl ?_
  refine e_Pn.getr (z := 333) eAlk rfl rfl (q4.rf hR (70, 333) (by decide)) (by omega) ?_
  refine e_Pn.run (t' := (204, (0, (1, 275)) :: (1, (0, y1)) :: (2, (0, y2)) :: (3, (0, y3)) :: tl, [(1, 275), (0, y3), (1, 333)], w3)) eAlk 2 rfl ?_
  refine e_Pn.getf (z := w3 275 78) eAlk rfl rfl rfl (fun b5 => ?_)
  refine e_Pn.ast eAlk rfl rfl rfl (fun b6 b7 => ?_)
  generalize hw8 : e_up w3 333 y3 (w3 275 78) = w8
  have q9 : mq w w8 := mq.upA q4 hw8 (by decide)
  refine e_Pn.run (t' := (209, (0, (1, 275)) :: (1, (0, y1)) :: (2, (0, y2)) :: (3, (0, y3)) :: tl, [(1, 275)], w8)) eAlk 1 rfl ?_
  refine e_Pn.callA rfl (fun n9 d9 => uS_all n9 348 (by decide) d9 _ (q9.rf hR)) (fun r11 w12 h10 => ?_)
  obtain ⟨rfl, h10⟩ := h10
  have q13 := q9.tr h10
  show e_Pn 20 elay ecode eI n d 352 (212, (0, (1, 275)) :: (1, (0, y1)) :: (2, (0, y2)) :: (3, (0, y3)) :: tl, [], w12) _
  exact e_Pn.ord eAlk [0, 1, 2, 3] rfl rfl (v_352_212 hR _ y1 y2 y3 w12 q13)
set_option maxHeartbeats 4000000 in
theorem v_352_186 {n d : Nat} {w : eW} (hR : mRw w) (tl : eL) (y1 : Int) (y2 : Int) (y3 : Int) (s0 : Int) (w1 : eW) (q : mq w w1) : e_Pn 20 elay ecode eI n d 352 (186, (0, (1, 275)) :: (1, (0, y1)) :: (2, (0, y2)) :: (3, (0, y3)) :: tl, [(0, s0), (1, 275)], w1) (fun r w' => r = [] ∧ mq w w') := by
  refine e_Pn.callA rfl (fun n9 d9 => u_334 (q.rf hR)) (fun r2 w3 h1 => ?_)
  obtain ⟨rfl, h1⟩ := h1
  have q4 := q.tr h1
  show e_Pn 20 elay ecode eI n d 352 (189, (0, (1, 275)) :: (1, (0, y1)) :: (2, (0, y2)) :: (3, (0, y3)) :: tl, [], w3) _
  exact e_Pn.ord eAlk [0, 1, 2, 3] rfl rfl (v_352_189 hR _ y1 y2 y3 w3 q4)
set_option maxHeartbeats 4000000 in
theorem v_352_179 {n d : Nat} {w : eW} (hR : mRw w) (tl : eL) (y1 : Int) (y2 : Int) (y3 : Int) (w1 : eW) (q : mq w w1) : e_Pn 20 elay ecode eI n d 352 (179, (0, (1, 275)) :: (1, (0, y1)) :: (2, (0, y2)) :: (3, (0, y3)) :: tl, [], w1) (fun r w' => r = [] ∧ mq w w') := by
  refine e_Pn.run (t' := (183, (0, (1, 275)) :: (1, (0, y1)) :: (2, (0, y2)) :: (3, (0, y3)) :: tl, [(0, 58), (1, 275), (1, 275)], w1)) eAlk 3 rfl ?_
  refine e_Pn.callA rfl (fun n9 d9 => u_331 (q.rf hR)) (fun r2 w3 h1 => ?_)
  obtain ⟨⟨z4, rfl⟩, h1⟩ := h1
  have q5 := q.tr h1
  show e_Pn 20 elay ecode eI n d 352 (186, (0, (1, 275)) :: (1, (0, y1)) :: (2, (0, y2)) :: (3, (0, y3)) :: tl, [(0, z4), (1, 275)], w3) _
  exact e_Pn.ord eAlk [0, 1, 2, 3] rfl rfl (v_352_186 hR _ y1 y2 y3 z4 w3 q5)
set_option maxHeartbeats 4000000 in
theorem v_352_172 {n d : Nat} {w : eW} (hR : mRw w) (tl : eL) (y1 : Int) (y2 : Int) (y3 : Int) (s0 : Int) (w1 : eW) (q : mq w w1) : e_Pn 20 elay ecode eI n d 352 (172, (0, (1, 275)) :: (1, (0, y1)) :: (2, (0, y2)) :: (3, (0, y3)) :: tl, [(0, s0)], w1) (fun r w' => r = [] ∧ mq w w') := by
  refine e_Pn.if1 eAlk rfl (fun h1 => ?_) (fun h1 => ?_)
  · show e_Pn 20 elay ecode eI n d 352 (220, (0, (1, 275)) :: (1, (0, y1)) :: (2, (0, y2)) :: (3, (0, y3)) :: tl, [], w1) _
    refine e_Pn.run (t' := (222, (0, (1, 275)) :: (1, (0, y1)) :: (2, (0, y2)) :: (3, (0, y3)) :: tl, [(0, y1), (1, 275)], w1)) eAlk 2 rfl ?_
    refine e_Pn.putf eAlk rfl rfl ?_
    generalize hw2 : e_up w1 275 81 y1 = w2
    have q3 : mq w w2 := mq.upF q hw2 (by decide) (by decide +kernel)
    refine e_Pn.run (t' := (226, (0, (1, 275)) :: (1, (0, y1)) :: (2, (0, y2)) :: (3, (0, y3)) :: tl, [(1, 275)], w2)) eAlk 1 rfl ?_
    refine e_Pn.getr (z := 334) eAlk rfl rfl (q3.rf hR (71, 334) (by decide)) (by omega) ?_
    refine e_Pn.run (t' := (231, (0, (1, 275)) :: (1, (0, y1)) :: (2, (0, y2)) :: (3, (0, y3)) :: tl, [(1, 275), (0, y3), (1, 334)], w2)) eAlk 2 rfl ?_
    refine e_Pn.getf (z := w2 275 78) eAlk rfl rfl rfl (fun b4 => ?_)
    refine e_Pn.ast eAlk rfl rfl rfl (fun b5 b6 => ?_)
    generalize hw7 : e_up w2 334 y3 (w2 275 78) = w7
    have q8 : mq w w7 := mq.upA q3 hw7 (by decide)
    refine e_Pn.run (t' := (238, (0, (1, 275)) :: (1, (0, y1)) :: (2, (0, y2)) :: (3, (0, y3)) :: tl, [(0, 2), (1, 275), (1, 275)], w7)) eAlk 3 rfl ?_
    refine e_Pn.callA rfl (fun n9 d9 => u_332 (q8.rf hR)) (fun r10 w11 h9 => ?_)
    obtain ⟨⟨z12, rfl⟩, h9⟩ := h9
    have q13 := q8.tr h9
    show e_Pn 20 elay ecode eI n d 352 (241, (0, (1, 275)) :: (1, (0, y1)) :: (2, (0, y2)) :: (3, (0, y3)) :: tl, [(0, z12), (1, 275)], w11) _
    exact e_Pn.ord eAlk [0, 1, 2, 3] rfl rfl (v_352_241 hR _ y1 y2 y3 z12 w11 q13)
  · show e_Pn 20 elay ecode eI n d 352 (175, (0, (1, 275)) :: (1, (0, y1)) :: (2, (0, y2)) :: (3, (0, y3)) :: tl, [], w1) _
    refine e_Pn.run (t' := (176, (0, (1, 275)) :: (1, (0, y1)) :: (2, (0, y2)) :: (3, (0, y3)) :: tl, [(1, 275)], w1)) eAlk 1 rfl ?_
    refine e_Pn.callA rfl (fun n9 d9 => u_327 (q.rf hR)) (fun r15 w16 h14 => ?_)
    obtain ⟨rfl, h14⟩ := h14
    have q17 := q.tr h14
    show e_Pn 20 elay ecode eI n d 352 (179, (0, (1, 275)) :: (1, (0, y1)) :: (2, (0, y2)) :: (3, (0, y3)) :: tl, [], w16) _
    exact e_Pn.ord eAlk [0, 1, 2, 3] rfl rfl (v_352_179 hR _ y1 y2 y3 w16 q17)
set_option maxHeartbeats 4000000 in
theorem v_352_158 {n d : Nat} {w : eW} (hR : mRw w) (tl : eL) (y1 : Int) (y2 : Int) (y3 : Int) (s0 : Int) (w1 : eW) (q : mq w w1) : e_Pn 20 elay ecode eI n d 352 (158, (0, (1, 275)) :: (1, (0, y1)) :: (2, (0, y2)) :: (3, (0, y3)) :: tl, [(0, s0)], w1) (fun r w' => r = [] ∧ mq w w') := by
  refine e_Pn.run (t' := (160, (0, (1, 275)) :: (1, (0, y1)) :: (2, (0, y2)) :: (3, (0, y3)) :: tl, [(1, 275)], w1)) eAlk 2 rfl ?_
  refine e_Pn.getf (z := w1 275 88) eAlk rfl rfl rfl (fun b1 => ?_)
  refine e_Pn.if1 eAlk rfl (fun h2 => ?_) (fun h2 => ?_)
  · show e_Pn 20 elay ecode eI n d 352 (220, (0, (1, 275)) :: (1, (0, y1)) :: (2, (0, y2)) :: (3, (0, y3)) :: tl, [], w1) _
    refine e_Pn.run (t' := (222, (0, (1, 275)) :: (1, (0, y1)) :: (2, (0, y2)) :: (3, (0, y3)) :: tl, [(0, y1), (1, 275)], w1)) eAlk 2 rfl ?_
    refine e_Pn.putf eAlk rfl rfl ?_
    generalize hw3 : e_up w1 275 81 y1 = w3
    have q4 : mq w w3 := mq.upF q hw3 (by decide) (by decide +kernel)
    refine e_Pn.run (t' := (226, (0, (1, 275)) :: (1, (0, y1)) :: (2, (0, y2)) :: (3, (0, y3)) :: tl, [(1, 275)], w3)) eAlk 1 rfl ?_
    refine e_Pn.getr (z := 334) eAlk rfl rfl (q4.rf hR (71, 334) (by decide)) (by omega) ?_
    refine e_Pn.run (t' := (231, (0, (1, 275)) :: (1, (0, y1)) :: (2, (0, y2)) :: (3, (0, y3)) :: tl, [(1, 275), (0, y3), (1, 334)], w3)) eAlk 2 rfl ?_
    refine e_Pn.getf (z := w3 275 78) eAlk rfl rfl rfl (fun b5 => ?_)
    refine e_Pn.ast eAlk rfl rfl rfl (fun b6 b7 => ?_)
    generalize hw8 : e_up w3 334 y3 (w3 275 78) = w8
    have q9 : mq w w8 := mq.upA q4 hw8 (by decide)
    refine e_Pn.run (t' := (238, (0, (1, 275)) :: (1, (0, y1)) :: (2, (0, y2)) :: (3, (0, y3)) :: tl, [(0, 2), (1, 275), (1, 275)], w8)) eAlk 3 rfl ?_
    refine e_Pn.callA rfl (fun n9 d9 => u_332 (q9.rf hR)) (fun r11 w12 h10 => ?_)
    obtain ⟨⟨z13, rfl⟩, h10⟩ := h10
    have q14 := q9.tr h10
    show e_Pn 20 elay ecode eI n d 352 (241, (0, (1, 275)) :: (1, (0, y1)) :: (2, (0, y2)) :: (3, (0, y3)) :: tl, [(0, z13), (1, 275)], w12) _
    exact e_Pn.ord eAlk [0, 1, 2, 3] rfl rfl (v_352_241 hR _ y1 y2 y3 z13 w12 q14)
  · show e_Pn 20 elay ecode eI n d 352 (166, (0, (1, 275)) :: (1, (0, y1)) :: (2, (0, y2)) :: (3, (0, y3)) :: tl, [], w1) _
    refine e_Pn.run (t' := (169, (0, (1, 275)) :: (1, (0, y1)) :: (2, (0, y2)) :: (3, (0, y3)) :: tl, [(0, 23), (1, 275)], w1)) eAlk 2 rfl ?_
    refine e_Pn.callA rfl (fun n9 d9 => u_332 (q.rf hR)) (fun r16 w17 h15 => ?_)
    obtain ⟨⟨z18, rfl⟩, h15⟩ := h15
    have q19 := q.tr h15
    show e_Pn 20 elay ecode eI n d 352 (172, (0, (1, 275)) :: (1, (0, y1)) :: (2, (0, y2)) :: (3, (0, y3)) :: tl, [(0, z18)], w17) _
    exact e_Pn.ord eAlk [0, 1, 2, 3] rfl rfl (v_352_172 hR _ y1 y2 y3 z18 w17 q19)
set_option maxHeartbeats 4000000 in
theorem v_352_151 {n d : Nat} {w : eW} (hR : mRw w) (tl : eL) (y1 : Int) (y2 : Int) (y3 : Int) (w1 : eW) (q : mq w w1) : e_Pn 20 elay ecode eI n d 352 (151, (0, (1, 275)) :: (1, (0, y1)) :: (2, (0, y2)) :: (3, (0, y3)) :: tl, [], w1) (fun r w' => r = [] ∧ mq w w') := by
  refine e_Pn.run (t' := (155, (0, (1, 275)) :: (1, (0, y1)) :: (2, (0, y2)) :: (3, (0, y3)) :: tl, [(0, y2), (0, 50), (1, 275)], w1)) eAlk 3 rfl ?_
  refine e_Pn.callA rfl (fun n9 d9 => u_336 (q.rf hR)) (fun r2 w3 h1 => ?_)
  obtain ⟨⟨z4, rfl⟩, h1⟩ := h1
  have q5 := q.tr h1
  show e_Pn 20 elay ecode eI n d 352 (158, (0, (1, 275)) :: (1, (0, y1)) :: (2, (0, y2)) :: (3, (0, y3)) :: tl, [(0, z4)], w3) _
  exact e_Pn.ord eAlk [0, 1, 2, 3] rfl rfl (v_352_158 hR _ y1 y2 y3 z4 w3 q5)
set_option maxHeartbeats 4000000 in
theorem v_352_128 {n d : Nat} {w : eW} (hR : mRw w) (tl : eL) (y1 : Int) (y2 : Int) (y3 : Int) (w1 : eW) (q : mq w w1) : e_Pn 20 elay ecode eI n d 352 (128, (0, (1, 275)) :: (1, (0, y1)) :: (2, (0, y2)) :: (3, (0, y3)) :: tl, [], w1) (fun r w' => r = [] ∧ mq w w') := by
  refine e_Pn.run (t' := (131, (0, (1, 275)) :: (1, (0, y1)) :: (2, (0, y2)) :: (3, (0, y3)) :: tl, [(0, y2), (0, 3), (1, 275)], w1)) eAlk 3 rfl ?_
  refine e_Pn.bin0 eAlk rfl (fun z1 hz1 => ?_)
  refine e_Pn.run (t' := (133, (0, (1, 275)) :: (1, (0, y1)) :: (2, (0, y2)) :: (3, (0, y3)) :: tl, [(0, 1), (0, z1), (1, 275)], w1)) eAlk 1 rfl ?_
  refine e_Pn.bin0 eAlk rfl (fun z2 hz2 => ?_)
  refine e_Pn.putf eAlk rfl rfl ?_
  generalize hw3 : e_up w1 275 81 z2 = w3
  have q4 : mq w w3 := mq.upF q hw3 (by decide) (by decide +kernel)
  refine e_Pn.run (t' := (138, (0, (1, 275)) :: (1, (0, y1)) :: (2, (0, y2)) :: (3, (0, y3)) :: tl, [(1, 275)], w3)) eAlk 1 rfl ?_
  refine e_Pn.getr (z := 332) eAlk rfl rfl (q4.rf hR (69, 332) (by decide)) (by omega) ?_
  refine e_Pn.run (t' := (143, (0, (1, 275)) :: (1, (0, y1)) :: (2, (0, y2)) :: (3, (0, y3)) :: tl, [(1, 275), (0, y3), (1, 332)], w3)) eAlk 2 rfl ?_
  refine e_Pn.getf (z := w3 275 78) eAlk rfl rfl rfl (fun b5 => ?_)
  refine e_Pn.ast eAlk rfl rfl rfl (fun b6 b7 => ?_)
  generalize hw8 : e_up w3 332 y3 (w3 275 78) = w8
  have q9 : mq w w8 := mq.upA q4 hw8 (by decide)
  refine e_Pn.run (t' := (148, (0, (1, 275)) :: (1, (0, y1)) :: (2, (0, y2)) :: (3, (0, y3)) :: tl, [(1, 275)], w8)) eAlk 1 rfl ?_
  refine e_Pn.callA rfl (fun n9 d9 => uS_all n9 348 (by decide) d9 _ (q9.rf hR)) (fun r11 w12 h10 => ?_)
  obtain ⟨rfl, h10⟩ := h10
  have q13 := q9.tr h10
  show e_Pn 20 elay ecode eI n d 352 (151, (0, (1, 275)) :: (1, (0, y1)) :: (2, (0, y2)) :: (3, (0, y3)) :: tl, [], w12) _
  exact e_Pn.ord eAlk [0, 1, 2, 3] rfl rfl (v_352_151 hR _ y1 y2 y3 w12 q13)
set_option maxHeartbeats 4000000 in
theorem v_352_125 {n d : Nat} {w : eW} (hR : mRw w) (tl : eL) (y1 : Int) (y2 : Int) (y3 : Int) (s0 : Int) (w1 : eW) (q : mq w w1) : e_Pn 20 elay ecode eI n d 352 (125, (0, (1, 275)) :: (1, (0, y1)) :: (2, (0, y2)) :: (3, (0, y3)) :: tl, [(0, s0), (1, 275)], w1) (fun r w' => r = [] ∧ mq w w') := by
  refine e_Pn.callA rfl (fun n9 d9 => u_334 (q.rf hR)) (fun r2 w3 h1 => ?_)
  obtain ⟨rfl, h1⟩ := h1
  have q4 := q.tr h1
  show e_Pn 20 elay ecode eI n d 352 (128, (0, (1, 275)) :: (1, (0, y1)) :: (2, (0, y2)) :: (3, (0, y3)) :: tl, [], w3) _
  exact e_Pn.ord eAlk [0, 1, 2, 3] rfl rfl (v_352_128 hR _ y1 y2 y3 w3 q4)
set_option maxHeartbeats 4000000 in
theorem v_352_118 {n d : Nat} {w : eW} (hR : mRw w) (tl : eL) (y1 : Int) (y2 : Int) (y3 : Int) (w1 : eW) (q : mq w w1) : e_Pn 20 elay ecode eI n d 352 (118, (0, (1, 275)) :: (1, (0, y1)) :: (2, (0, y2)) :: (3, (0, y3)) :: tl, [], w1) (fun r w' => r = [] ∧ mq w w') := by
  refine e_Pn.run (t' := (122, (0, (1, 275)) :: (1, (0, y1)) :: (2, (0, y2)) :: (3, (0, y3)) :: tl, [(0, 58), (1, 275), (1, 275)], w1)) eAlk 3 rfl ?_
  refine e_Pn.callA rfl (fun n9 d9 => u_331 (q.rf hR)) (fun r2 w3 h1 => ?_)
  obtain ⟨⟨z4, rfl⟩, h1⟩ := h1
  have q5 := q.tr h1
  show e_Pn 20 elay ecode eI n d 352 (125, (0, (1, 275)) :: (1, (0, y1)) :: (2, (0, y2)) :: (3, (0, y3)) :: tl, [(0, z4), (1, 275)], w3) _
  exact e_Pn.ord eAlk [0, 1, 2, 3] rfl rfl (v_352_125 hR _ y1 y2 y3 z4 w3 q5)
set_option maxHeartbeats 4000000 in
theorem v_352_111 {n d : Nat} {w : eW} (hR : mRw w) (tl : eL) (y1 : Int) (y2 : Int) (y3 : Int) (s0 : Int) (w1 : eW) (q : mq w w1) : e_Pn 20 elay ecode eI n d 352 (111, (0, (1, 275)) :: (1, (0, y1)) :: (2, (0, y2)) :: (3, (0, y3)) :: tl, [(0, s0)], w1) (fun r w' => r = [] ∧ mq w w') := by
  refine e_Pn.if1 eAlk rfl (fun h1 => ?_) (fun h1 => ?_)
  · show e_Pn 20 elay ecode eI n d 352 (159, (0, (1, 275)) :: (1, (0, y1)) :: (2, (0, y2)) :: (3, (0, y3)) :: tl, [], w1) _
    refine e_Pn.run (t' := (160, (0, (1, 275)) :: (1, (0, y1)) :: (2, (0, y2)) :: (3, (0, y3)) :: tl, [(1, 275)], w1)) eAlk 1 rfl ?_
    refine e_Pn.getf (z := w1 275 88) eAlk rfl rfl rfl (fun b2 => ?_)
    refine e_Pn.if1 eAlk rfl (fun h3 => ?_) (fun h3 => ?_)
    · show e_Pn 20 elay ecode eI n d 352 (220, (0, (1, 275)) :: (1, (0, y1)) :: (2, (0, y2)) :: (3, (0, y3)) :: tl, [], w1) _
      refine e_Pn.run (t' := (222, (0, (1, 275)) :: (1, (0, y1)) :: (2, (0, y2)) :: (3, (0, y3)) :: tl, [(0, y1), (1, 275)], w1)) eAlk 2 rfl ?_
      refine e_Pn.putf eAlk rfl rfl ?_
      generalize hw4 : e_up w1 275 81 y1 = w4
      have q5 : mq w w4 := mq.upF q hw4 (by decide) (by decide +kernel)
      refine e_Pn.run (t' := (226, (0, (1, 275)) :: (1, (0, y1)) :: (2, (0, y2)) :: (3, (0, y3)) :: tl, [(1, 275)], w4)) eAlk 1 rfl ?_
      refine e_Pn.getr (z := 334) eAlk rfl rfl (q5.rf hR (71, 334) (by decide)) (by omega) ?_
      refine e_Pn.run (t' := (231, (0, (1, 275)) :: (1, (0, y1)) :: (2, (0, y2)) :: (3, (0, y3)) :: tl, [(1, 275), (0, y3), (1, 334)], w4)) eAlk 2 rfl ?_
      refine e_Pn.getf (z := w4 275 78) eAlk rfl rfl rfl (fun b6 => ?_)
      refine e_Pn.ast eAlk rfl rfl rfl (fun b7 b8 => ?_)
      generalize hw9 : e_up w4 334 y3 (w4 275 78) = w9
      have q10 : mq w w9 := mq.upA q5 hw9 (by decide)
      refine e_Pn.run (t' := (238, (0, (1, 275)) :: (1, (0, y1)) :: (2, (0, y2)) :: (3, (0, y3)) :: tl, [(0, 2), (1, 275), (1, 275)], w9)) eAlk 3 rfl ?_
      refine e_Pn.callA rfl (fun n9 d9 => u_332 (q10.rf hR)) (fun r12 w13 h11 => ?_)
      obtain ⟨⟨z14, rfl⟩, h11⟩ := h11
      have q15 := q10.tr h11
      show e_Pn 20 elay ecode eI n d 352 (241, (0, (1, 275)) :: (1, (0, y1)) :: (2, (0, y2)) :: (3, (0, y3)) :: tl, [(0, z14), (1, 275)], w13) _
      exact e_Pn.ord eAlk [0, 1, 2, 3] rfl rfl (v_352_241 hR _ y1 y2 y3 z14 w13 q15)
    · show e_Pn 20 elay ecode eI n d 352 (166, (0, (1, 275)) :: (1, (0, y1)) :: (2, (0, y2)) :: (3, (0, y3)) :: tl, [], w1) _
      refine e_Pn.run (t' := (169, (0, (1, 275)) :: (1, (0, y1)) :: (2, (0, y2)) :: (3, (0, y3)) :: tl, [(0, 23), (1, 275)], w1)) eAlk 2 rfl ?_
      refine e_Pn.callA rfl (fun n9 d9 => u_332 (q.rf hR)) (fun r17 w18 h16 => ?_)
      obtain ⟨⟨z19, rfl⟩, h16⟩ := h16
      have q20 := q.tr h16
      show e_Pn 20 elay ecode eI n d 352 (172, (0, (1, 275)) :: (1, (0, y1)) :: (2, (0, y2)) :: (3, (0, y3)) :: tl, [(0, z19)], w18) _
      exact e_Pn.ord eAlk [0, 1, 2, 3] rfl rfl (v_352_172 hR _ y1 y2 y3 z19 w18 q20)
  · show e_Pn 20 elay ecode eI n d 352 (114, (0, (1, 275)) :: (1, (0, y1)) :: (2, (0, y2)) :: (3, (0, y3)) :: tl, [], w1) _
    refine e_Pn.run (t' := (115, (0, (1, 275)) :: (1, (0, y1)) :: (2, (0, y2)) :: (3, (0, y3)) :: tl, [(1, 275)], w1)) eAlk 1 rfl ?_
    refine e_Pn.callA rfl (fun n9 d9 => u_327 (q.rf hR)) (fun r22 w23 h21 => ?_)
    obtain ⟨rfl, h21⟩ := h21
    have q24 := q.tr h21
    show e_Pn 20 elay ecode eI n d 352 (118, (0, (1, 275)) :: (1, (0, y1)) :: (2, (0, y2)) :: (3, (0, y3)) :: tl, [], w23) _
    exact e_Pn.ord eAlk [0, 1, 2, 3] rfl rfl (v_352_118 hR _ y1 y2 y3 w23 q24)
set_option maxHeartbeats 4000000 in
theorem v_352_97 {n d : Nat} {w : eW} (hR : mRw w) (tl : eL) (y1 : Int) (y2 : Int) (y3 : Int) (s0 : Int) (w1 : eW) (q : mq w w1) : e_Pn 20 elay ecode eI n d 352 (97, (0, (1, 275)) :: (1, (0, y1)) :: (2, (0, y2)) :: (3, (0, y3)) :: tl, [(0, s0)], w1) (fun r w' => r = [] ∧ mq w w') := by
  refine e_Pn.run (t' := (99, (0, (1, 275)) :: (1, (0, y1)) :: (2, (0, y2)) :: (3, (0, y3)) :: tl, [(1, 275)], w1)) eAlk 2 rfl ?_
  refine e_Pn.getf (z := w1 275 88) eAlk rfl rfl rfl (fun b1 => ?_)
  refine e_Pn.if1 eAlk rfl (fun h2 => ?_) (fun h2 => ?_)
  · show e_Pn 20 elay ecode eI n d 352 (159, (0, (1, 275)) :: (1, (0, y1)) :: (2, (0, y2)) :: (3, (0, y3)) :: tl, [], w1) _
    refine e_Pn.run (t' := (160, (0, (1, 275)) :: (1, (0, y1)) :: (2, (0, y2)) :: (3, (0, y3)) :: tl, [(1, 275)], w1)) eAlk 1 rfl ?_
    refine e_Pn.getf (z := w1 275 88) eAlk rfl rfl rfl (fun b3 => ?_)
    refine e_Pn.if1 eAlk rfl (fun h4 => ?_) (fun h4 => ?_)
    · show e_Pn 20 elay ecode eI n d 352 (220, (0, (1, 275)) :: (1, (0, y1)) :: (2, (0, y2)) :: (3, (0, y3)) :: tl, [], w1) _
      refine e_Pn.run (t' := (222, (0, (1, 275)) :: (1, (0, y1)) :: (2, (0, y2)) :: (3, (0, y3)) :: tl, [(0, y1), (1, 275)], w1)) eAlk 2 rfl ?_
      refine e_Pn.putf eAlk rfl rfl ?_
      generalize hw5 : e_up w1 275 81 y1 = w5
      have q6 : mq w w5 := mq.upF q hw5 (by decide) (by decide +kernel)
      refine e_Pn.run (t' := (226, (0, (1, 275)) :: (1, (0, y1)) :: (2, (0, y2)) :: (3, (0, y3)) :: tl, [(1, 275)], w5)) eAlk 1 rfl ?_
      refine e_Pn.getr (z := 334) eAlk rfl rfl (q6.rf hR (71, 334) (by decide)) (by omega) ?_
      refine e_Pn.run (t' := (231, (0, (1, 275)) :: (1, (0, y1)) :: (2, (0, y2)) :: (3, (0, y3)) :: tl, [(1, 275), (0, y3), (1, 334)], w5)) eAlk 2 rfl ?_
      refine e_Pn.getf (z := w5 275 78) eAlk rfl rfl rfl (fun b7 => ?_)
      refine e_Pn.ast eAlk rfl rfl rfl (fun b8 b9 => ?_)
      generalize hw10 : e_up w5 334 y3 (w5 275 78) = w10
      have q11 : mq w w10 := mq.upA q6 hw10 (by decide)
      refine e_Pn.run (t' := (238, (0, (1, 275)) :: (1, (0, y1)) :: (2, (0, y2)) :: (3, (0, y3)) :: tl, [(0, 2), (1, 275), (1, 275)], w10)) eAlk 3 rfl ?_
      refine e_Pn.callA rfl (fun n9 d9 => u_332 (q11.rf hR)) (fun r13 w14 h12 => ?_)
      obtain ⟨⟨z15, rfl⟩, h12⟩ := h12
      have q16 := q11.tr h12
      show e_Pn 20 elay ecode eI n d 352 (241, (0, (1, 275)) :: (1, (0, y1)) :: (2, (0, y2)) :: (3, (0, y3)) :: tl, [(0, z15), (1, 275)], w14) _
      exact e_Pn.ord eAlk [0, 1, 2, 3] rfl rfl (v_352_241 hR _ y1 y2 y3 z15 w14 q16)
    · show e_Pn 20 elay ecode eI n d 352 (166, (0, (1, 275)) :: (1, (0, y1)) :: (2, (0, y2)) :: (3, (0, y3)) :: tl, [], w1) _
      refine e_Pn.run (t' := (169, (0, (1, 275)) :: (1, (0, y1)) :: (2, (0, y2)) :: (3, (0, y3)) :: tl, [(0, 23), (1, 275)], w1)) eAlk 2 rfl ?_
      refine e_Pn.callA rfl (fun n9 d9 => u_332 (q.rf hR)) (fun r18 w19 h17 => ?_)
      obtain ⟨⟨z20, rfl⟩, h17⟩ := h17
      have q21 := q.tr h17
      show e_Pn 20 elay ecode eI n d 352 (172, (0, (1, 275)) :: (1, (0, y1)) :: (2, (0, y2)) :: (3, (0, y3)) :: tl, [(0, z20)], w19) _
      exact e_Pn.ord eAlk [0, 1, 2, 3] rfl rfl (v_352_172 hR _ y1 y2 y3 z20 w19 q21)
  · show e_Pn 20 elay ecode eI n d 352 (105, (0, (1, 275)) :: (1, (0, y1)) :: (2, (0, y2)) :: (3, (0, y3)) :: tl, [], w1) _
    refine e_Pn.run (t' := (108, (0, (1, 275)) :: (1, (0, y1)) :: (2, (0, y2)) :: (3, (0, y3)) :: tl, [(0, 22), (1, 275)], w1)) eAlk 2 rfl ?_
    refine e_Pn.callA rfl (fun n9 d9 => u_332 (q.rf hR)) (fun r23 w24 h22 => ?_)
    obtain ⟨⟨z25, rfl⟩, h22⟩ := h22
    have q26 := q.tr h22
    show e_Pn 20 elay ecode eI n d 352 (111, (0, (1, 275)) :: (1, (0, y1)) :: (2, (0, y2)) :: (3, (0, y3)) :: tl, [(0, z25)], w24) _
    exact e_Pn.ord eAlk [0, 1, 2, 3] rfl rfl (v_352_111 hR _ y1 y2 y3 z25 w24 q26)
set_option maxHeartbeats 4000000 in
theorem v_352_90 {n d : Nat} {w : eW} (hR : mRw w) (tl : eL) (y1 : Int) (y2 : Int) (y3 : Int) (w1 : eW) (q : mq w w1) : e_Pn 20 elay ecode eI n d 352 (90, (0, (1, 275)) :: (1, (0, y1)) :: (2, (0, y2)) :: (3, (0, y3)) :: tl, [], w1) (fun r w' => r = [] ∧ mq w w') := by
  refine e_Pn.run (t' := (94, (0, (1, 275)) :: (1, (0, y1)) :: (2, (0, y2)) :: (3, (0, y3)) :: tl, [(0, y2), (0, 49), (1, 275)], w1)) eAlk 3 rfl ?_
  refine e_Pn.callA rfl (fun n9 d9 => u_336 (q.rf hR)) (fun r2 w3 h1 => ?_)
  obtain ⟨⟨z4, rfl⟩, h1⟩ := h1
  have q5 := q.tr h1
  show e_Pn 20 elay ecode eI n d 352 (97, (0, (1, 275)) :: (1, (0, y1)) :: (2, (0, y2)) :: (3, (0, y3)) :: tl, [(0, z4)], w3) _
  exact e_Pn.ord eAlk [0, 1, 2, 3] rfl rfl (v_352_97 hR _ y1 y2 y3 z4 w3 q5)
set_option maxHeartbeats 4000000 in
theorem v_352_79 {n d : Nat} {w : eW} (hR : mRw w) (tl : eL) (y1 : Int) (y2 : Int) (y3 : Int) (w1 : eW) (q : mq w w1) : e_Pn 20 elay ecode eI n d 352 (79, (0, (1, 275)) :: (1, (0, y1)) :: (2, (0, y2)) :: (3, (0, y3)) :: tl, [], w1) (fun r w' => r = [] ∧ mq w w') := by
  refine e_Pn.run (t' := (82, (0, (1, 275)) :: (1, (0, y1)) :: (2, (0, y2)) :: (3, (0, y3)) :: tl, [(0, y2), (0, 3), (1, 275)], w1)) eAlk 3 rfl ?_
  refine e_Pn.bin0 eAlk rfl (fun z1 hz1 => ?_)
  refine e_Pn.putf eAlk rfl rfl ?_
  generalize hw2 : e_up w1 275 81 z1 = w2
  have q3 : mq w w2 := mq.upF q hw2 (by decide) (by decide +kernel)
  refine e_Pn.run (t' := (87, (0, (1, 275)) :: (1, (0, y1)) :: (2, (0, y2)) :: (3, (0, y3)) :: tl, [(1, 275)], w2)) eAlk 1 rfl ?_
  refine e_Pn.callA rfl (fun n9 d9 => uS_all n9 348 (by decide) d9 _ (q3.rf hR)) (fun r5 w6 h4 => ?_)
  obtain ⟨rfl, h4⟩ := h4
  have q7 := q3.tr h4
  show e_Pn 20 elay ecode eI n d 352 (90, (0, (1, 275)) :: (1, (0, y1)) :: (2, (0, y2)) :: (3, (0, y3)) :: tl, [], w6) _
  exact e_Pn.ord eAlk [0, 1, 2, 3] rfl rfl (v_352_90 hR _ y1 y2 y3 w6 q7)
set_option maxHeartbeats 4000000 in
theorem v_352_76 {n d : Nat} {w : eW} (hR : mRw w) (tl : eL) (y1 : Int) (y2 : Int) (y3 : Int) (s0 : Int) (w1 : eW) (q : mq w w1) : e_Pn 20 elay ecode eI n d 352 (76, (0, (1, 275)) :: (1, (0, y1)) :: (2, (0, y2)) :: (3, (0, y3)) :: tl, [(0, s0), (1, 275)], w1) (fun r w' => r = [] ∧ mq w w') := by
  refine e_Pn.callA rfl (fun n9 d9 => u_334 (q.rf hR)) (fun r2 w3 h1 => ?_)
  obtain ⟨rfl, h1⟩ := h1
  have q4 := q.tr h1
  show e_Pn 20 elay ecode eI n d 352 (79, (0, (1, 275)) :: (1, (0, y1)) :: (2, (0, y2)) :: (3, (0, y3)) :: tl, [], w3) _
  exact e_Pn.ord eAlk [0, 1, 2, 3] rfl rfl (v_352_79 hR _ y1 y2 y3 w3 q4)
set_option maxHeartbeats 4000000 in
theorem v_352_69 {n d : Nat} {w : eW} (hR : mRw w) (tl : eL) (y1 : Int) (y2 : Int) (y3 : Int) (w1 : eW) (q : mq w w1) : e_Pn 20 elay ecode eI n d 352 (69, (0, (1, 275)) :: (1, (0, y1)) :: (2, (0, y2)) :: (3, (0, y3)) :: tl, [], w1) (fun r w' => r = [] ∧ mq w w') := by
  refine e_Pn.run (t' := (73, (0, (1, 275)) :: (1, (0, y1)) :: (2, (0, y2)) :: (3, (0, y3)) :: tl, [(0, 58), (1, 275), (1, 275)], w1)) eAlk 3 rfl ?_
  refine e_Pn.callA rfl (fun n9 d9 => u_331 (q.rf hR)) (fun r2 w3 h1 => ?_)
  obtain ⟨⟨z4, rfl⟩, h1⟩ := h1
  have q5 := q.tr h1
  show e_Pn 20 elay ecode eI n d 352 (76, (0, (1, 275)) :: (1, (0, y1)) :: (2, (0, y2)) :: (3, (0, y3)) :: tl, [(0, z4), (1, 275)], w3) _
  exact e_Pn.ord eAlk [0, 1, 2, 3] rfl rfl (v_352_76 hR _ y1 y2 y3 z4 w3 q5)
set_option maxHeartbeats 4000000 in
theorem v_352_66 {n d : Nat} {w : eW} (hR : mRw w) (tl : eL) (y1 : Int) (y2 : Int) (y3 : Int) (s0 : Int) (w1 : eW) (q : mq w w1) : e_Pn 20 elay ecode eI n d 352 (66, (0, (1, 275)) :: (1, (0, y1)) :: (2, (0, y2)) :: (3, (0, y3)) :: tl, [(0, s0), (1, 275)], w1) (fun r w' => r = [] ∧ mq w w') := by
  refine e_Pn.callA rfl (fun n9 d9 => u_334 (q.rf hR)) (fun r2 w3 h1 => ?_)
  obtain ⟨rfl, h1⟩ := h1
  have q4 := q.tr h1
  show e_Pn 20 elay ecode eI n d 352 (69, (0, (1, 275)) :: (1, (0, y1)) :: (2, (0, y2)) :: (3, (0, y3)) :: tl, [], w3) _
  exact e_Pn.ord eAlk [0, 1, 2, 3] rfl rfl (v_352_69 hR _ y1 y2 y3 w3 q4)
set_option maxHeartbeats 4000000 in
theorem v_352_11 {n d : Nat} {w : eW} (hR : mRw w) (tl : eL) (s0 : Int) (w1 : eW) (q : mq w w1) : e_Pn 20 elay ecode eI n d 352 (11, (0, (1, 275)) :: tl, [(0, s0)], w1) (fun r w' => r = [] ∧ mq w w') := by
  refine e_Pn.run (t' := (13, (0, (1, 275)) :: tl, [(1, 275)], w1)) eAlk 2 rfl ?_
  refine e_Pn.getf (z := w1 275 81) eAlk rfl rfl rfl (fun b1 => ?_)
  refine e_Pn.run (t' := (18, (1, (0, w1 275 81)) :: (0, (1, 275)) :: List.filter (e_flt 0 1) tl, [(1, 275)], w1)) eAlk 2 rfl ?_
  refine e_Pn.getf (z := w1 275 79) eAlk rfl rfl rfl (fun b2 => ?_)
  refine e_Pn.run (t' := (24, (2, (0, w1 275 79)) :: (1, (0, w1 275 81)) :: (0, (1, 275)) :: List.filter (e_flt 0 2) (List.filter (e_flt 0 1) tl), [(1, 275), (1, 275)], w1)) eAlk 3 rfl ?_
  refine e_Pn.getf (z := w1 275 79) eAlk rfl rfl rfl (fun b3 => ?_)
  refine e_Pn.run (t' := (28, (2, (0, w1 275 79)) :: (1, (0, w1 275 81)) :: (0, (1, 275)) :: List.filter (e_flt 0 2) (List.filter (e_flt 0 1) tl), [(0, 1), (0, w1 275 79), (1, 275)], w1)) eAlk 1 rfl ?_
  refine e_Pn.bin0 eAlk rfl (fun z4 hz4 => ?_)
  refine e_Pn.putf eAlk rfl rfl ?_
  generalize hw5 : e_up w1 275 79 z4 = w5
  have q6 : mq w w5 := mq.upF q hw5 (by decide) (by decide +kernel)
  refine e_Pn.run (t' := (36, (2, (0, w1 275 79)) :: (1, (0, w1 275 81)) :: (0, (1, 275)) :: List.filter (e_flt 0 2) (List.filter (e_flt 0 1) tl), [(0, w1 275 79), (0, 3600)], w5)) eAlk 2 rfl ?_
  refine e_Pn.bin0 eAlk rfl (fun z7 hz7 => ?_)
  refine e_Pn.run (t' := (39, (3, (0, z7)) :: (2, (0, w1 275 79)) :: (1, (0, w1 275 81)) :: (0, (1, 275)) :: List.filter (e_flt 0 3) (List.filter (e_flt 0 2) (List.filter (e_flt 0 1) tl)), [(1, 275)], w5)) eAlk 2 rfl ?_
  refine e_Pn.getr (z := 331) eAlk rfl rfl (q6.rf hR (68, 331) (by decide)) (by omega) ?_
  refine e_Pn.run (t' := (44, (3, (0, z7)) :: (2, (0, w1 275 79)) :: (1, (0, w1 275 81)) :: (0, (1, 275)) :: List.filter (e_flt 0 3) (List.filter (e_flt 0 2) (List.filter (e_flt 0 1) tl)), [(0, w1 275 81), (0, z7), (1, 331)], w5)) eAlk 2 rfl ?_
  refine e_Pn.ast eAlk rfl rfl rfl (fun b8 b9 => ?_)
  generalize hw10 : e_up w5 331 z7 (w1 275 81) = w10
  have q11 : mq w w10 := mq.upA q6 hw10 (by decide)
  refine e_Pn.run (t' := (46, (3, (0, z7)) :: (2, (0, w1 275 79)) :: (1, (0, w1 275 81)) :: (0, (1, 275)) :: List.filter (e_flt 0 3) (List.filter (e_flt 0 2) (List.filter (e_flt 0 1) tl)), [(1, 275)], w10)) eAlk 1 rfl ?_
  refine e_Pn.getr (z := 332) eAlk rfl rfl (q11.rf hR (69, 332) (by decide)) (by omega) ?_
  refine e_Pn.run (t' := (51, (3, (0, z7)) :: (2, (0, w1 275 79)) :: (1, (0, w1 275 81)) :: (0, (1, 275)) :: List.filter (e_flt 0 3) (List.filter (e_flt 0 2) (List.filter (e_flt 0 1) tl)), [(0, (-1)), (0, z7), (1, 332)], w10)) eAlk 2 rfl ?_
  refine e_Pn.ast eAlk rfl rfl rfl (fun b12 b13 => ?_)
  generalize hw14 : e_up w10 332 z7 (-1) = w14
  have q15 : mq w w14 := mq.upA q11 hw14 (by decide)
  refine e_Pn.run (t' := (53, (3, (0, z7)) :: (2, (0, w1 275 79)) :: (1, (0, w1 275 81)) :: (0, (1, 275)) :: List.filter (e_flt 0 3) (List.filter (e_flt 0 2) (List.filter (e_flt 0 1) tl)), [(1, 275)], w14)) eAlk 1 rfl ?_
  refine e_Pn.getr (z := 333) eAlk rfl rfl (q15.rf hR (70, 333) (by decide)) (by omega) ?_
  refine e_Pn.run (t' := (58, (3, (0, z7)) :: (2, (0, w1 275 79)) :: (1, (0, w1 275 81)) :: (0, (1, 275)) :: List.filter (e_flt 0 3) (List.filter (e_flt 0 2) (List.filter (e_flt 0 1) tl)), [(0, (-1)), (0, z7), (1, 333)], w14)) eAlk 2 rfl ?_
  refine e_Pn.ast eAlk rfl rfl rfl (fun b16 b17 => ?_)
  generalize hw18 : e_up w14 333 z7 (-1) = w18
  have q19 : mq w w18 := mq.upA q15 hw18 (by decide)
  refine e_Pn.run (t' := (63, (3, (0, z7)) :: (2, (0, w1 275 79)) :: (1, (0, w1 275 81)) :: (0, (1, 275)) :: List.filter (e_flt 0 3) (List.filter (e_flt 0 2) (List.filter (e_flt 0 1) tl)), [(0, 21), (1, 275), (1, 275)], w18)) eAlk 3 rfl ?_
  refine e_Pn.callA rfl (fun n9 d9 => u_332 (q19.rf hR)) (fun r21 w22 h20 => ?_)
  obtain ⟨⟨z23, rfl⟩, h20⟩ := h20
  have q24 := q19.tr h20
  show e_Pn 20 elay ecode eI n d 352 (66, (3, (0, z7)) :: (2, (0, w1 275 79)) :: (1, (0, w1 275 81)) :: (0, (1, 275)) :: List.filter (e_flt 0 3) (List.filter (e_flt 0 2) (List.filter (e_flt 0 1) tl)), [(0, z23), (1, 275)], w22) _
  exact e_Pn.ord eAlk [0, 1, 2, 3] rfl rfl (v_352_66 hR _ (w1 275 81) (w1 275 79) z7 z23 w22 q24)
set_option maxHeartbeats 4000000 in
theorem v_352_4 {n d : Nat} {w : eW} (hR : mRw w) (tl : eL) (w1 : eW) (q : mq w w1) : e_Pn 20 elay ecode eI n d 352 (4, (0, (1, 275)) :: tl, [], w1) (fun r w' => r = [] ∧ mq w w') := by
  refine e_Pn.run (t' := (8, (0, (1, 275)) :: tl, [(0, 0), (0, 30), (1, 275)], w1)) eAlk 3 rfl ?_
  refine e_Pn.callA rfl (fun n9 d9 => u_336 (q.rf hR)) (fun r2 w3 h1 => ?_)
  obtain ⟨⟨z4, rfl⟩, h1⟩ := h1
  have q5 := q.tr h1
  show e_Pn 20 elay ecode eI n d 352 (11, (0, (1, 275)) :: tl, [(0, z4)], w3) _
  exact e_Pn.ord eAlk [0] rfl rfl (v_352_11 hR _ z4 w3 q5)
set_option maxHeartbeats 4000000 in
end
