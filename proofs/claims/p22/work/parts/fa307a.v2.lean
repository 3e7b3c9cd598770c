noncomputable section
/-! the class: the rest of a method -/
theorem v_129_19 {n d : Nat} {w : eW} {cd : Int} (hR : kRw cd w) (tl : eL) (y1 : Int) (w1 : eW) (q : kq cd w w1) : e_Pn 20 elay kcode eI n d 129 (19, (0, (1, 1)) :: (1, (0, y1)) :: tl, [], w1) (fun r w' => r = [] ∧ kq cd w w') := by
  have hn := hR.1.n
  exact e_Pn.ret0 rfl ⟨rfl, q⟩
theorem v_129_12 {n d : Nat} {w : eW} {cd : Int} (hR : kRw cd w) (tl : eL) (y1 : Int) (w1 : eW) (q : kq cd w w1) : e_Pn 20 elay kcode eI n d 129 (12, (0, (1, 1)) :: (1, (0, y1)) :: tl, [], w1) (fun r w' => r = [] ∧ kq cd w w') := by
  have hn := hR.1.n
  refine e_Pn.run (t' := (19, (0, (1, 1)) :: (1, (0, y1)) :: tl, [], w1)) kAlk 1 rfl ?_
  exact e_Pn.ord kAlk [0, 1] rfl rfl (v_129_19 hR _ y1 w1 q)
theorem v_130_17 {n d : Nat} {w : eW} {cd : Int} (hR : kRw cd w) (tl : eL) (w1 : eW) (q : kq cd w w1) : e_Pn 20 elay kcode eI n d 130 (17, (0, (1, 1)) :: tl, [], w1) (fun r w' => r = [] ∧ kq cd w w') := by
  have hn := hR.1.n
  exact e_Pn.ret0 rfl ⟨rfl, q⟩
theorem v_137_22 {n d : Nat} {w : eW} {cd : Int} (hR : kRw cd w) (tl : eL) (y1 : Int) (w1 : eW) (q : kq cd w w1) : e_Pn 20 elay kcode eI n d 137 (22, (0, (1, 1)) :: (1, (0, y1)) :: tl, [], w1) (fun r w' => (∃ z : Int, r = [(0, z)]) ∧ kq cd w w') := by
  have hn := hR.1.n
  refine e_Pn.run (t' := (24, (0, (1, 1)) :: (1, (0, y1)) :: tl, [(0, 0), (0, y1)], w1)) kAlk 2 rfl ?_
  refine e_Pn.m2U kAlk rfl (fun z1 => ?_)
  exact e_Pn.ret1 rfl ⟨⟨_, rfl⟩, q⟩
theorem v_137_8 {n d : Nat} {w : eW} {cd : Int} (hR : kRw cd w) (tl : eL) (s0 : Int) (w1 : eW) (q : kq cd w w1) : e_Pn 20 elay kcode eI n d 137 (8, (0, (1, 1)) :: tl, [(0, s0)], w1) (fun r w' => (∃ z : Int, r = [(0, z)]) ∧ kq cd w w') := by
  have hn := hR.1.n
  refine e_Pn.run (t' := (10, (1, (0, s0)) :: (0, (1, 1)) :: List.filter (e_flt 0 1) tl, [(0, s0)], w1)) kAlk 2 rfl ?_
  refine e_Pn.if1 kAlk rfl (fun h1 => ?_) (fun h1 => ?_)
  · show e_Pn 20 elay kcode eI n d 137 (22, (1, (0, s0)) :: (0, (1, 1)) :: List.filter (e_flt 0 1) tl, [], w1) _
    refine e_Pn.run (t' := (24, (1, (0, s0)) :: (0, (1, 1)) :: List.filter (e_flt 0 1) tl, [(0, 0), (0, s0)], w1)) kAlk 2 rfl ?_
    refine e_Pn.m2U kAlk rfl (fun z2 => ?_)
    exact e_Pn.ret1 rfl ⟨⟨_, rfl⟩, q⟩
  · show e_Pn 20 elay kcode eI n d 137 (13, (1, (0, s0)) :: (0, (1, 1)) :: List.filter (e_flt 0 1) tl, [], w1) _
    refine e_Pn.run (t' := (16, (1, (0, s0)) :: (0, (1, 1)) :: List.filter (e_flt 0 1) tl, [(1, 1), (0, 5), (1, 1)], w1)) kAlk 3 rfl ?_
    refine e_Pn.getf (z := w1 1 6) kAlk rfl rfl rfl (fun b3 => ?_)
    refine e_Pn.callA rfl (fun n9 d9 => u_133 (q.rf hR)) (fun r5 w6 h4 => ?_)
    obtain ⟨rfl, h4⟩ := h4
    have q7 := q.tr h4
    show e_Pn 20 elay kcode eI n d 137 (22, (1, (0, s0)) :: (0, (1, 1)) :: List.filter (e_flt 0 1) tl, [], w6) _
    exact e_Pn.ord kAlk [0, 1] rfl rfl (v_137_22 hR _ s0 w6 q7)
theorem v_139_31 {n d : Nat} {w : eW} {cd : Int} (hR : kRw cd w) (tl : eL) (w1 : eW) (q : kq cd w w1) : e_Pn 20 elay kcode eI n d 139 (31, (0, (1, 1)) :: tl, [], w1) (fun r w' => r = [] ∧ kq cd w w') := by
  have hn := hR.1.n
  exact e_Pn.ret0 rfl ⟨rfl, q⟩
theorem v_139_19 {n d : Nat} {w : eW} {cd : Int} (hR : kRw cd w) (tl : eL) (s0 : Int) (w1 : eW) (q : kq cd w w1) : e_Pn 20 elay kcode eI n d 139 (19, (0, (1, 1)) :: tl, [(0, s0)], w1) (fun r w' => r = [] ∧ kq cd w w') := by
  have hn := hR.1.n
  refine e_Pn.if1 kAlk rfl (fun h1 => ?_) (fun h1 => ?_)
  · show e_Pn 20 elay kcode eI n d 139 (31, (0, (1, 1)) :: tl, [], w1) _
    exact e_Pn.ret0 rfl ⟨rfl, q⟩
  · show e_Pn 20 elay kcode eI n d 139 (22, (0, (1, 1)) :: tl, [], w1) _
    refine e_Pn.run (t' := (25, (0, (1, 1)) :: tl, [(1, 1), (0, 4), (1, 1)], w1)) kAlk 3 rfl ?_
    refine e_Pn.getf (z := w1 1 6) kAlk rfl rfl rfl (fun b2 => ?_)
    refine e_Pn.callA rfl (fun n9 d9 => u_133 (q.rf hR)) (fun r4 w5 h3 => ?_)
    obtain ⟨rfl, h3⟩ := h3
    have q6 := q.tr h3
    show e_Pn 20 elay kcode eI n d 139 (31, (0, (1, 1)) :: tl, [], w5) _
    exact e_Pn.ord kAlk [0] rfl rfl (v_139_31 hR _ w5 q6)
theorem v_139_8 {n d : Nat} {w : eW} {cd : Int} (hR : kRw cd w) (tl : eL) (s0 : Int) (w1 : eW) (q : kq cd w w1) : e_Pn 20 elay kcode eI n d 139 (8, (0, (1, 1)) :: tl, [(0, s0)], w1) (fun r w' => r = [] ∧ kq cd w w') := by
  have hn := hR.1.n
  refine e_Pn.if1 kAlk rfl (fun h1 => ?_) (fun h1 => ?_)
  · show e_Pn 20 elay kcode eI n d 139 (22, (0, (1, 1)) :: tl, [], w1) _
    refine e_Pn.run (t' := (25, (0, (1, 1)) :: tl, [(1, 1), (0, 4), (1, 1)], w1)) kAlk 3 rfl ?_
    refine e_Pn.getf (z := w1 1 6) kAlk rfl rfl rfl (fun b2 => ?_)
    refine e_Pn.callA rfl (fun n9 d9 => u_133 (q.rf hR)) (fun r4 w5 h3 => ?_)
    obtain ⟨rfl, h3⟩ := h3
    have q6 := q.tr h3
    show e_Pn 20 elay kcode eI n d 139 (31, (0, (1, 1)) :: tl, [], w5) _
    exact e_Pn.ord kAlk [0] rfl rfl (v_139_31 hR _ w5 q6)
  · show e_Pn 20 elay kcode eI n d 139 (11, (0, (1, 1)) :: tl, [], w1) _
    refine e_Pn.run (t' := (13, (0, (1, 1)) :: tl, [(1, 1), (1, 1)], w1)) kAlk 2 rfl ?_
    refine e_Pn.getf (z := w1 1 6) kAlk rfl rfl rfl (fun b7 => ?_)
    refine e_Pn.callA rfl (fun n9 d9 => u_136 (q.rf hR)) (fun r9 w10 h8 => ?_)
    obtain ⟨⟨z11, rfl⟩, h8⟩ := h8
    have q12 := q.tr h8
    show e_Pn 20 elay kcode eI n d 139 (19, (0, (1, 1)) :: tl, [(0, z11)], w10) _
    exact e_Pn.ord kAlk [0] rfl rfl (v_139_19 hR _ z11 w10 q12)
set_option maxHeartbeats 4000000 in
theorem v_158_6 {n d : Nat} {w : eW} {cd : Int} (hR : kRw cd w) (tl : eL) (y1 : Int) (w1 : eW) (q : kq cd w w1) : e_Pn 20 elay kcode eI n d 158 (6, (0, (1, 1)) :: (1, (0, y1)) :: tl, [], w1) (fun r w' => r = [] ∧ kq cd w w') := by
  have hn := hR.1.n
  have hL1 : ∀ nn3 : Nat, nn3 ≤ n → ∀ (tl4 : eL) (y7 : Int) (w5 : eW), kq cd w w5 → e_Pn 20 elay kcode eI nn3 d 158 (6, (0, (1, 1)) :: (1, (0, y7)) :: tl4, [], w5) (fun r w' => r = [] ∧ kq cd w w') := by
    intro nn3
    induction nn3 with
    | zero => intro _ tl4 y7 w5 _; exact e_Pn.zero
    | succ nn3 ih2 =>
      intro hnnn3 tl4 y7 w5 q6
      refine e_Pn.runS (t' := (10, (0, (1, 1)) :: (1, (0, y7)) :: tl4, [(0, 4000), (0, y7)], w5)) kAlk 1 rfl ?_
      refine e_Pn.if2 kAlk rfl (fun h8 => ?_) (fun h8 => ?_)
      · show e_Pn 20 elay kcode eI nn3 d 158 (73, (0, (1, 1)) :: (1, (0, y7)) :: tl4, [], w5) _
        exact e_Pn.ret0 rfl ⟨rfl, q6⟩
      · show e_Pn 20 elay kcode eI nn3 d 158 (13, (0, (1, 1)) :: (1, (0, y7)) :: tl4, [], w5) _
        refine e_Pn.run (t' := (14, (0, (1, 1)) :: (1, (0, y7)) :: tl4, [(1, 1)], w5)) kAlk 1 rfl ?_
        refine e_Pn.getf (z := w5 1 5) kAlk rfl rfl rfl (fun b9 => ?_)
        refine e_Pn.run (t' := (19, (0, (1, 1)) :: (1, (0, y7)) :: tl4, [(0, 45), (0, w5 1 5)], w5)) kAlk 1 rfl ?_
        refine e_Pn.if2 kAlk rfl (fun h10 => ?_) (fun h10 => ?_)
        · show e_Pn 20 elay kcode eI nn3 d 158 (73, (0, (1, 1)) :: (1, (0, y7)) :: tl4, [], w5) _
          exact e_Pn.ret0 rfl ⟨rfl, q6⟩
        · show e_Pn 20 elay kcode eI nn3 d 158 (22, (0, (1, 1)) :: (1, (0, y7)) :: tl4, [], w5) _
          refine e_Pn.run (t' := (23, (0, (1, 1)) :: (1, (0, y7)) :: tl4, [(1, 1)], w5)) kAlk 1 rfl ?_
          refine e_Pn.getr (z := cd) kAlk rfl rfl (q6.rf hR).2.1 (by omega) ?_
          refine e_Pn.run (t' := (29, (0, (1, 1)) :: (1, (0, y7)) :: tl4, [(0, 0), (0, 12), (1, cd)], w5)) kAlk 2 rfl ?_
          refine e_Pn.callA rfl (fun n9 d9 => u_21 (q6.rf hR)) (fun r12 w13 h11 => ?_)
          obtain ⟨⟨z14, rfl⟩, h11⟩ := h11
          have q15 := q6.tr h11
          show e_Pn 20 elay kcode eI nn3 d 158 (32, (0, (1, 1)) :: (1, (0, y7)) :: tl4, [(0, z14)], w13) _
          refine e_Pn.run (t' := (34, (2, (0, z14)) :: (0, (1, 1)) :: (1, (0, y7)) :: List.filter (e_flt 0 2) tl4, [(1, 1)], w13)) kAlk 2 rfl ?_
          refine e_Pn.callA rfl (fun n9 d9 => u_123 (q15.rf hR)) (fun r17 w18 h16 => ?_)
          obtain ⟨rfl, h16⟩ := h16
          have q19 := q15.tr h16
          show e_Pn 20 elay kcode eI nn3 d 158 (37, (2, (0, z14)) :: (0, (1, 1)) :: (1, (0, y7)) :: List.filter (e_flt 0 2) tl4, [], w18) _
          refine e_Pn.run (t' := (38, (2, (0, z14)) :: (0, (1, 1)) :: (1, (0, y7)) :: List.filter (e_flt 0 2) tl4, [(1, 1)], w18)) kAlk 1 rfl ?_
          refine e_Pn.callA rfl (fun n9 d9 => kE_all n9 159 (by decide) d9 _ _ (q19.rf hR)) (fun r21 w22 h20 => ?_)
          obtain ⟨rfl, h20⟩ := h20
          have q23 := q19.tr h20
          show e_Pn 20 elay kcode eI nn3 d 158 (41, (2, (0, z14)) :: (0, (1, 1)) :: (1, (0, y7)) :: List.filter (e_flt 0 2) tl4, [], w22) _
          refine e_Pn.run (t' := (42, (2, (0, z14)) :: (0, (1, 1)) :: (1, (0, y7)) :: List.filter (e_flt 0 2) tl4, [(1, 1)], w22)) kAlk 1 rfl ?_
          refine e_Pn.getr (z := cd) kAlk rfl rfl (q23.rf hR).2.1 (by omega) ?_
          refine e_Pn.run (t' := (48, (2, (0, z14)) :: (0, (1, 1)) :: (1, (0, y7)) :: List.filter (e_flt 0 2) tl4, [(0, 0), (0, 11), (1, cd)], w22)) kAlk 2 rfl ?_
          refine e_Pn.callA rfl (fun n9 d9 => u_21 (q23.rf hR)) (fun r25 w26 h24 => ?_)
          obtain ⟨⟨z27, rfl⟩, h24⟩ := h24
          have q28 := q23.tr h24
          show e_Pn 20 elay kcode eI nn3 d 158 (51, (2, (0, z14)) :: (0, (1, 1)) :: (1, (0, y7)) :: List.filter (e_flt 0 2) tl4, [(0, z27)], w26) _
          refine e_Pn.run (t' := (53, (2, (0, z14)) :: (0, (1, 1)) :: (1, (0, y7)) :: List.filter (e_flt 0 2) tl4, [(1, 1)], w26)) kAlk 2 rfl ?_
          refine e_Pn.getr (z := cd) kAlk rfl rfl (q28.rf hR).2.1 (by omega) ?_
          refine e_Pn.run (t' := (58, (2, (0, z14)) :: (0, (1, 1)) :: (1, (0, y7)) :: List.filter (e_flt 0 2) tl4, [(1, 1), (0, z14), (1, cd)], w26)) kAlk 2 rfl ?_
          refine e_Pn.getr (z := cd) kAlk rfl rfl (q28.rf hR).2.1 (by omega) ?_
          refine e_Pn.getf (z := w26 cd 0) kAlk rfl rfl rfl (fun b29 => ?_)
          refine e_Pn.callA rfl (fun n9 d9 => u_22 (q28.rf hR)) (fun r31 w32 h30 => ?_)
          obtain ⟨rfl, h30⟩ := h30
          have q33 := q28.tr h30
          show e_Pn 20 elay kcode eI nn3 d 158 (67, (2, (0, z14)) :: (0, (1, 1)) :: (1, (0, y7)) :: List.filter (e_flt 0 2) tl4, [], w32) _
          refine e_Pn.incU kAlk rfl rfl (fun z34 => ?_)
          show e_Pn 20 elay kcode eI nn3 d 158 (70, (1, (0, z34)) :: (2, (0, z14)) :: (0, (1, 1)) :: List.filter (e_flt 0 1) (List.filter (e_flt 0 2) tl4), [], w32) _
          refine e_Pn.run (t' := (6, (1, (0, z34)) :: (2, (0, z14)) :: (0, (1, 1)) :: List.filter (e_flt 0 1) (List.filter (e_flt 0 2) tl4), [], w32)) kAlk 1 rfl ?_
          exact e_Pn.ord kAlk [0, 1] rfl rfl ((ih2 (by omega) _ z34 w32 q33).le (by omega))
  exact e_Pn.ord kAlk [0, 1] rfl rfl (hL1 n (Nat.le_refl _) _ y1 w1 q)
set_option maxHeartbeats 4000000 in
theorem v_158_67 {n d : Nat} {w : eW} {cd : Int} (hR : kRw cd w) (tl : eL) (y1 : Int) (y2 : Int) (w1 : eW) (q : kq cd w w1) : e_Pn 20 elay kcode eI n d 158 (67, (0, (1, 1)) :: (1, (0, y1)) :: (2, (0, y2)) :: tl, [], w1) (fun r w' => r = [] ∧ kq cd w w') := by
  have hn := hR.1.n
  refine e_Pn.incU kAlk rfl rfl (fun z1 => ?_)
  show e_Pn 20 elay kcode eI n d 158 (70, (1, (0, z1)) :: (0, (1, 1)) :: (2, (0, y2)) :: List.filter (e_flt 0 1) tl, [], w1) _
  refine e_Pn.run (t' := (6, (1, (0, z1)) :: (0, (1, 1)) :: (2, (0, y2)) :: List.filter (e_flt 0 1) tl, [], w1)) kAlk 1 rfl ?_
  exact e_Pn.ord kAlk [0, 1] rfl rfl (v_158_6 hR _ z1 w1 q)
set_option maxHeartbeats 4000000 in
theorem v_158_51 {n d : Nat} {w : eW} {cd : Int} (hR : kRw cd w) (tl : eL) (y1 : Int) (y2 : Int) (s0 : Int) (w1 : eW) (q : kq cd w w1) : e_Pn 20 elay kcode eI n d 158 (51, (0, (1, 1)) :: (1, (0, y1)) :: (2, (0, y2)) :: tl, [(0, s0)], w1) (fun r w' => r = [] ∧ kq cd w w') := by
  have hn := hR.1.n
  refine e_Pn.run (t' := (53, (0, (1, 1)) :: (1, (0, y1)) :: (2, (0, y2)) :: tl, [(1, 1)], w1)) kAlk 2 rfl ?_
  refine e_Pn.getr (z := cd) kAlk rfl rfl (q.rf hR).2.1 (by omega) ?_
  refine e_Pn.run (t' := (58, (0, (1, 1)) :: (1, (0, y1)) :: (2, (0, y2)) :: tl, [(1, 1), (0, y2), (1, cd)], w1)) kAlk 2 rfl ?_
  refine e_Pn.getr (z := cd) kAlk rfl rfl (q.rf hR).2.1 (by omega) ?_
  refine e_Pn.getf (z := w1 cd 0) kAlk rfl rfl rfl (fun b1 => ?_)
  refine e_Pn.callA rfl (fun n9 d9 => u_22 (q.rf hR)) (fun r3 w4 h2 => ?_)
  obtain ⟨rfl, h2⟩ := h2
  have q5 := q.tr h2
  show e_Pn 20 elay kcode eI n d 158 (67, (0, (1, 1)) :: (1, (0, y1)) :: (2, (0, y2)) :: tl, [], w4) _
  exact e_Pn.ord kAlk [0, 1, 2] rfl rfl (v_158_67 hR _ y1 y2 w4 q5)
set_option maxHeartbeats 4000000 in
theorem v_158_41 {n d : Nat} {w : eW} {cd : Int} (hR : kRw cd w) (tl : eL) (y1 : Int) (y2 : Int) (w1 : eW) (q : kq cd w w1) : e_Pn 20 elay kcode eI n d 158 (41, (0, (1, 1)) :: (1, (0, y1)) :: (2, (0, y2)) :: tl, [], w1) (fun r w' => r = [] ∧ kq cd w w') := by
  have hn := hR.1.n
  refine e_Pn.run (t' := (42, (0, (1, 1)) :: (1, (0, y1)) :: (2, (0, y2)) :: tl, [(1, 1)], w1)) kAlk 1 rfl ?_
  refine e_Pn.getr (z := cd) kAlk rfl rfl (q.rf hR).2.1 (by omega) ?_
  refine e_Pn.run (t' := (48, (0, (1, 1)) :: (1, (0, y1)) :: (2, (0, y2)) :: tl, [(0, 0), (0, 11), (1, cd)], w1)) kAlk 2 rfl ?_
  refine e_Pn.callA rfl (fun n9 d9 => u_21 (q.rf hR)) (fun r2 w3 h1 => ?_)
  obtain ⟨⟨z4, rfl⟩, h1⟩ := h1
  have q5 := q.tr h1
  show e_Pn 20 elay kcode eI n d 158 (51, (0, (1, 1)) :: (1, (0, y1)) :: (2, (0, y2)) :: tl, [(0, z4)], w3) _
  exact e_Pn.ord kAlk [0, 1, 2] rfl rfl (v_158_51 hR _ y1 y2 z4 w3 q5)
set_option maxHeartbeats 4000000 in
theorem v_158_37 {n d : Nat} {w : eW} {cd : Int} (hR : kRw cd w) (tl : eL) (y1 : Int) (y2 : Int) (w1 : eW) (q : kq cd w w1) : e_Pn 20 elay kcode eI n d 158 (37, (0, (1, 1)) :: (1, (0, y1)) :: (2, (0, y2)) :: tl, [], w1) (fun r w' => r = [] ∧ kq cd w w') := by
  have hn := hR.1.n
  refine e_Pn.run (t' := (38, (0, (1, 1)) :: (1, (0, y1)) :: (2, (0, y2)) :: tl, [(1, 1)], w1)) kAlk 1 rfl ?_
  refine e_Pn.callA rfl (fun n9 d9 => kE_all n9 159 (by decide) d9 _ _ (q.rf hR)) (fun r2 w3 h1 => ?_)
  obtain ⟨rfl, h1⟩ := h1
  have q4 := q.tr h1
  show e_Pn 20 elay kcode eI n d 158 (41, (0, (1, 1)) :: (1, (0, y1)) :: (2, (0, y2)) :: tl, [], w3) _
  exact e_Pn.ord kAlk [0, 1, 2] rfl rfl (v_158_41 hR _ y1 y2 w3 q4)
set_option maxHeartbeats 4000000 in
theorem v_158_32 {n d : Nat} {w : eW} {cd : Int} (hR : kRw cd w) (tl : eL) (y1 : Int) (s0 : Int) (w1 : eW) (q : kq cd w w1) : e_Pn 20 elay kcode eI n d 158 (32, (0, (1, 1)) :: (1, (0, y1)) :: tl, [(0, s0)], w1) (fun r w' => r = [] ∧ kq cd w w') := by
  have hn := hR.1.n
  refine e_Pn.run (t' := (34, (2, (0, s0)) :: (0, (1, 1)) :: (1, (0, y1)) :: List.filter (e_flt 0 2) tl, [(1, 1)], w1)) kAlk 2 rfl ?_
  refine e_Pn.callA rfl (fun n9 d9 => u_123 (q.rf hR)) (fun r2 w3 h1 => ?_)
  obtain ⟨rfl, h1⟩ := h1
  have q4 := q.tr h1
  show e_Pn 20 elay kcode eI n d 158 (37, (2, (0, s0)) :: (0, (1, 1)) :: (1, (0, y1)) :: List.filter (e_flt 0 2) tl, [], w3) _
  exact e_Pn.ord kAlk [0, 1, 2] rfl rfl (v_158_37 hR _ y1 s0 w3 q4)
set_option maxHeartbeats 4000000 in
theorem v_158_4 {n d : Nat} {w : eW} {cd : Int} (hR : kRw cd w) (tl : eL) (w1 : eW) (q : kq cd w w1) : e_Pn 20 elay kcode eI n d 158 (4, (0, (1, 1)) :: tl, [], w1) (fun r w' => r = [] ∧ kq cd w w') := by
  have hn := hR.1.n
  refine e_Pn.run (t' := (6, (1, (0, 0)) :: (0, (1, 1)) :: List.filter (e_flt 0 1) tl, [], w1)) kAlk 2 rfl ?_
  exact e_Pn.ord kAlk [0, 1] rfl rfl (v_158_6 hR _ 0 w1 q)
set_option maxHeartbeats 4000000 in
theorem v_159_6 {n d : Nat} {w : eW} {cd : Int} (hR : kRw cd w) (tl : eL) (y1 : Int) (w1 : eW) (q : kq cd w w1) : e_Pn 20 elay kcode eI n d 159 (6, (0, (1, 1)) :: (1, (0, y1)) :: tl, [], w1) (fun r w' => r = [] ∧ kq cd w w') := by
  have hn := hR.1.n
  have hL1 : ∀ nn3 : Nat, nn3 ≤ n → ∀ (tl4 : eL) (y7 : Int) (w5 : eW), kq cd w w5 → e_Pn 20 elay kcode eI nn3 d 159 (6, (0, (1, 1)) :: (1, (0, y7)) :: tl4, [], w5) (fun r w' => r = [] ∧ kq cd w w') := by
    intro nn3
    induction nn3 with
    | zero => intro _ tl4 y7 w5 _; exact e_Pn.zero
    | succ nn3 ih2 =>
      intro hnnn3 tl4 y7 w5 q6
      refine e_Pn.runS (t' := (10, (0, (1, 1)) :: (1, (0, y7)) :: tl4, [(0, 4000), (0, y7)], w5)) kAlk 1 rfl ?_
      refine e_Pn.if2 kAlk rfl (fun h8 => ?_) (fun h8 => ?_)
      · show e_Pn 20 elay kcode eI nn3 d 159 (73, (0, (1, 1)) :: (1, (0, y7)) :: tl4, [], w5) _
        exact e_Pn.ret0 rfl ⟨rfl, q6⟩
      · show e_Pn 20 elay kcode eI nn3 d 159 (13, (0, (1, 1)) :: (1, (0, y7)) :: tl4, [], w5) _
        refine e_Pn.run (t' := (14, (0, (1, 1)) :: (1, (0, y7)) :: tl4, [(1, 1)], w5)) kAlk 1 rfl ?_
        refine e_Pn.getf (z := w5 1 5) kAlk rfl rfl rfl (fun b9 => ?_)
        refine e_Pn.run (t' := (19, (0, (1, 1)) :: (1, (0, y7)) :: tl4, [(0, 46), (0, w5 1 5)], w5)) kAlk 1 rfl ?_
        refine e_Pn.if2 kAlk rfl (fun h10 => ?_) (fun h10 => ?_)
        · show e_Pn 20 elay kcode eI nn3 d 159 (73, (0, (1, 1)) :: (1, (0, y7)) :: tl4, [], w5) _
          exact e_Pn.ret0 rfl ⟨rfl, q6⟩
        · show e_Pn 20 elay kcode eI nn3 d 159 (22, (0, (1, 1)) :: (1, (0, y7)) :: tl4, [], w5) _
          refine e_Pn.run (t' := (23, (0, (1, 1)) :: (1, (0, y7)) :: tl4, [(1, 1)], w5)) kAlk 1 rfl ?_
          refine e_Pn.getr (z := cd) kAlk rfl rfl (q6.rf hR).2.1 (by omega) ?_
          refine e_Pn.run (t' := (29, (0, (1, 1)) :: (1, (0, y7)) :: tl4, [(0, 0), (0, 13), (1, cd)], w5)) kAlk 2 rfl ?_
          refine e_Pn.callA rfl (fun n9 d9 => u_21 (q6.rf hR)) (fun r12 w13 h11 => ?_)
          obtain ⟨⟨z14, rfl⟩, h11⟩ := h11
          have q15 := q6.tr h11
          show e_Pn 20 elay kcode eI nn3 d 159 (32, (0, (1, 1)) :: (1, (0, y7)) :: tl4, [(0, z14)], w13) _
          refine e_Pn.run (t' := (34, (2, (0, z14)) :: (0, (1, 1)) :: (1, (0, y7)) :: List.filter (e_flt 0 2) tl4, [(1, 1)], w13)) kAlk 2 rfl ?_
          refine e_Pn.callA rfl (fun n9 d9 => u_123 (q15.rf hR)) (fun r17 w18 h16 => ?_)
          obtain ⟨rfl, h16⟩ := h16
          have q19 := q15.tr h16
          show e_Pn 20 elay kcode eI nn3 d 159 (37, (2, (0, z14)) :: (0, (1, 1)) :: (1, (0, y7)) :: List.filter (e_flt 0 2) tl4, [], w18) _
          refine e_Pn.run (t' := (38, (2, (0, z14)) :: (0, (1, 1)) :: (1, (0, y7)) :: List.filter (e_flt 0 2) tl4, [(1, 1)], w18)) kAlk 1 rfl ?_
          refine e_Pn.callA rfl (fun n9 d9 => kE_all n9 160 (by decide) d9 _ _ (q19.rf hR)) (fun r21 w22 h20 => ?_)
          obtain ⟨rfl, h20⟩ := h20
          have q23 := q19.tr h20
          show e_Pn 20 elay kcode eI nn3 d 159 (41, (2, (0, z14)) :: (0, (1, 1)) :: (1, (0, y7)) :: List.filter (e_flt 0 2) tl4, [], w22) _
          refine e_Pn.run (t' := (42, (2, (0, z14)) :: (0, (1, 1)) :: (1, (0, y7)) :: List.filter (e_flt 0 2) tl4, [(1, 1)], w22)) kAlk 1 rfl ?_
          refine e_Pn.getr (z := cd) kAlk rfl rfl (q23.rf hR).2.1 (by omega) ?_
          refine e_Pn.run (t' := (48, (2, (0, z14)) :: (0, (1, 1)) :: (1, (0, y7)) :: List.filter (e_flt 0 2) tl4, [(0, 0), (0, 11), (1, cd)], w22)) kAlk 2 rfl ?_
          refine e_Pn.callA rfl (fun n9 d9 => u_21 (q23.rf hR)) (fun r25 w26 h24 => ?_)
          obtain ⟨⟨z27, rfl⟩, h24⟩ := h24
          have q28 := q23.tr h24
          show e_Pn 20 elay kcode eI nn3 d 159 (51, (2, (0, z14)) :: (0, (1, 1)) :: (1, (0, y7)) :: List.filter (e_flt 0 2) tl4, [(0, z27)], w26) _
          refine e_Pn.run (t' := (53, (2, (0, z14)) :: (0, (1, 1)) :: (1, (0, y7)) :: List.filter (e_flt 0 2) tl4, [(1, 1)], w26)) kAlk 2 rfl ?_
          refine e_Pn.getr (z := cd) kAlk rfl rfl (q28.rf hR).2.1 (by omega) ?_
          refine e_Pn.run (t' := (58, (2, (0, z14)) :: (0, (1, 1)) :: (1, (0, y7)) :: List.filter (e_flt 0 2) tl4, [(1, 1), (0, z14), (1, cd)], w26)) kAlk 2 rfl ?_
          refine e_Pn.getr (z := cd) kAlk rfl rfl (q28.rf hR).2.1 (by omega) ?_
          refine e_Pn.getf (z := w26 cd 0) kAlk rfl rfl rfl (fun b29 => ?_)
          refine e_Pn.callA rfl (fun n9 d9 => u_22 (q28.rf hR)) (fun r31 w32 h30 => ?_)
          obtain ⟨rfl, h30⟩ := h30
          have q33 := q28.tr h30
          show e_Pn 20 elay kcode eI nn3 d 159 (67, (2, (0, z14)) :: (0, (1, 1)) :: (1, (0, y7)) :: List.filter (e_flt 0 2) tl4, [], w32) _
          refine e_Pn.incU kAlk rfl rfl (fun z34 => ?_)
          show e_Pn 20 elay kcode eI nn3 d 159 (70, (1, (0, z34)) :: (2, (0, z14)) :: (0, (1, 1)) :: List.filter (e_flt 0 1) (List.filter (e_flt 0 2) tl4), [], w32) _
          refine e_Pn.run (t' := (6, (1, (0, z34)) :: (2, (0, z14)) :: (0, (1, 1)) :: List.filter (e_flt 0 1) (List.filter (e_flt 0 2) tl4), [], w32)) kAlk 1 rfl ?_
          exact e_Pn.ord kAlk [0, 1] rfl rfl ((ih2 (by omega) _ z34 w32 q33).le (by omega))
  exact e_Pn.ord kAlk [0, 1] rfl rfl (hL1 n (Nat.le_refl _) _ y1 w1 q)
set_option maxHeartbeats 4000000 in
theorem v_159_67 {n d : Nat} {w : eW} {cd : Int} (hR : kRw cd w) (tl : eL) (y1 : Int) (y2 : Int) (w1 : eW) (q : kq cd w w1) : e_Pn 20 elay kcode eI n d 159 (67, (0, (1, 1)) :: (1, (0, y1)) :: (2, (0, y2)) :: tl, [], w1) (fun r w' => r = [] ∧ kq cd w w') := by
  have hn := hR.1.n
  refine e_Pn.incU kAlk rfl rfl (fun z1 => ?_)
  show e_Pn 20 elay kcode eI n d 159 (70, (1, (0, z1)) :: (0, (1, 1)) :: (2, (0, y2)) :: List.filter (e_flt 0 1) tl, [], w1) _
  refine e_Pn.run (t' := (6, (1, (0, z1)) :: (0, (1, 1)) :: (2, (0, y2)) :: List.filter (e_flt 0 1) tl, [], w1)) kAlk 1 rfl ?_
  exact e_Pn.ord kAlk [0, 1] rfl rfl (v_159_6 hR _ z1 w1 q)
set_option maxHeartbeats 4000000 in
theorem v_159_51 {n d : Nat} {w : eW} {cd : Int} (hR : kRw cd w) (tl : eL) (y1 : Int) (y2 : Int) (s0 : Int) (w1 : eW) (q : kq cd w w1) : e_Pn 20 elay kcode eI n d 159 (51, (0, (1, 1)) :: (1, (0, y1)) :: (2, (0, y2)) :: tl, [(0, s0)], w1) (fun r w' => r = [] ∧ kq cd w w') := by
  have hn := hR.1.n
  refine e_Pn.run (t' := (53, (0, (1, 1)) :: (1, (0, y1)) :: (2, (0, y2)) :: tl, [(1, 1)], w1)) kAlk 2 rfl ?_
  refine e_Pn.getr (z := cd) kAlk rfl rfl (q.rf hR).2.1 (by omega) ?_
  refine e_Pn.run (t' := (58, (0, (1, 1)) :: (1, (0, y1)) :: (2, (0, y2)) :: tl, [(1, 1), (0, y2), (1, cd)], w1)) kAlk 2 rfl ?_
  refine e_Pn.getr (z := cd) kAlk rfl rfl (q.rf hR).2.1 (by omega) ?_
  refine e_Pn.getf (z := w1 cd 0) kAlk rfl rfl rfl (fun b1 => ?_)
  refine e_Pn.callA rfl (fun n9 d9 => u_22 (q.rf hR)) (fun r3 w4 h2 => ?_)
  obtain ⟨rfl, h2⟩ := h2
  have q5 := q.tr h2
  show e_Pn 20 elay kcode eI n d 159 (67, (0, (1, 1)) :: (1, (0, y1)) :: (2, (0, y2)) :: tl, [], w4) _
  exact e_Pn.ord kAlk [0, 1, 2] rfl rfl (v_159_67 hR _ y1 y2 w4 q5)
set_option maxHeartbeats 4000000 in
theorem v_159_41 {n d : Nat} {w : eW} {cd : Int} (hR : kRw cd w) (tl : eL) (y1 : Int) (y2 : Int) (w1 : eW) (q : kq cd w w1) : e_Pn 20 elay kcode eI n d 159 (41, (0, (1, 1)) :: (1, (0, y1)) :: (2, (0, y2)) :: tl, [], w1) (fun r w' => r = [] ∧ kq cd w w') := by
  have hn := hR.1.n
  refine e_Pn.run (t' := (42, (0, (1, 1)) :: (1, (0, y1)) :: (2, (0, y2)) :: tl, [(1, 1)], w1)) kAlk 1 rfl ?_
  refine e_Pn.getr (z := cd) kAlk rfl rfl (q.rf hR).2.1 (by omega) ?_
  refine e_Pn.run (t' := (48, (0, (1, 1)) :: (1, (0, y1)) :: (2, (0, y2)) :: tl, [(0, 0), (0, 11), (1, cd)], w1)) kAlk 2 rfl ?_
  refine e_Pn.callA rfl (fun n9 d9 => u_21 (q.rf hR)) (fun r2 w3 h1 => ?_)
  obtain ⟨⟨z4, rfl⟩, h1⟩ := h1
  have q5 := q.tr h1
  show e_Pn 20 elay kcode eI n d 159 (51, (0, (1, 1)) :: (1, (0, y1)) :: (2, (0, y2)) :: tl, [(0, z4)], w3) _
  exact e_Pn.ord kAlk [0, 1, 2] rfl rfl (v_159_51 hR _ y1 y2 z4 w3 q5)
set_option maxHeartbeats 4000000 in
theorem v_159_37 {n d : Nat} {w : eW} {cd : Int} (hR : kRw cd w) (tl : eL) (y1 : Int) (y2 : Int) (w1 : eW) (q : kq cd w w1) : e_Pn 20 elay kcode eI n d 159 (37, (0, (1, 1)) :: (1, (0, y1)) :: (2, (0, y2)) :: tl, [], w1) (fun r w' => r = [] ∧ kq cd w w') := by
  have hn := hR.1.n
  refine e_Pn.run (t' := (38, (0, (1, 1)) :: (1, (0, y1)) :: (2, (0, y2)) :: tl, [(1, 1)], w1)) kAlk 1 rfl ?_
  refine e_Pn.callA rfl (fun n9 d9 => kE_all n9 160 (by decide) d9 _ _ (q.rf hR)) (fun r2 w3 h1 => ?_)
  obtain ⟨rfl, h1⟩ := h1
  have q4 := q.tr h1
  show e_Pn 20 elay kcode eI n d 159 (41, (0, (1, 1)) :: (1, (0, y1)) :: (2, (0, y2)) :: tl, [], w3) _
  exact e_Pn.ord kAlk [0, 1, 2] rfl rfl (v_159_41 hR _ y1 y2 w3 q4)
set_option maxHeartbeats 4000000 in
theorem v_159_32 {n d : Nat} {w : eW} {cd : Int} (hR : kRw cd w) (tl : eL) (y1 : Int) (s0 : Int) (w1 : eW) (q : kq cd w w1) : e_Pn 20 elay kcode eI n d 159 (32, (0, (1, 1)) :: (1, (0, y1)) :: tl, [(0, s0)], w1) (fun r w' => r = [] ∧ kq cd w w') := by
  have hn := hR.1.n
  refine e_Pn.run (t' := (34, (2, (0, s0)) :: (0, (1, 1)) :: (1, (0, y1)) :: List.filter (e_flt 0 2) tl, [(1, 1)], w1)) kAlk 2 rfl ?_
  refine e_Pn.callA rfl (fun n9 d9 => u_123 (q.rf hR)) (fun r2 w3 h1 => ?_)
  obtain ⟨rfl, h1⟩ := h1
  have q4 := q.tr h1
  show e_Pn 20 elay kcode eI n d 159 (37, (2, (0, s0)) :: (0, (1, 1)) :: (1, (0, y1)) :: List.filter (e_flt 0 2) tl, [], w3) _
  exact e_Pn.ord kAlk [0, 1, 2] rfl rfl (v_159_37 hR _ y1 s0 w3 q4)
set_option maxHeartbeats 4000000 in
theorem v_159_4 {n d : Nat} {w : eW} {cd : Int} (hR : kRw cd w) (tl : eL) (w1 : eW) (q : kq cd w w1) : e_Pn 20 elay kcode eI n d 159 (4, (0, (1, 1)) :: tl, [], w1) (fun r w' => r = [] ∧ kq cd w w') := by
  have hn := hR.1.n
  refine e_Pn.run (t' := (6, (1, (0, 0)) :: (0, (1, 1)) :: List.filter (e_flt 0 1) tl, [], w1)) kAlk 2 rfl ?_
  exact e_Pn.ord kAlk [0, 1] rfl rfl (v_159_6 hR _ 0 w1 q)
set_option maxHeartbeats 4000000 in
theorem v_160_80 {n d : Nat} {w : eW} {cd : Int} (hR : kRw cd w) (tl : eL) (y1 : Int) (s0 : Int) (w1 : eW) (q : kq cd w w1) : e_Pn 20 elay kcode eI n d 160 (80, (0, (1, 1)) :: (1, (0, y1)) :: tl, [(0, s0)], w1) (fun r w' => r = [] ∧ kq cd w w') := by
  have hn := hR.1.n
  refine e_Pn.run (t' := (81, (0, (1, 1)) :: (1, (0, y1)) :: tl, [], w1)) kAlk 1 rfl ?_
  exact e_Pn.ret0 rfl ⟨rfl, q⟩
set_option maxHeartbeats 4000000 in
theorem v_160_71 {n d : Nat} {w : eW} {cd : Int} (hR : kRw cd w) (tl : eL) (y1 : Int) (w1 : eW) (q : kq cd w w1) : e_Pn 20 elay kcode eI n d 160 (71, (0, (1, 1)) :: (1, (0, y1)) :: tl, [], w1) (fun r w' => r = [] ∧ kq cd w w') := by
  have hn := hR.1.n
  refine e_Pn.run (t' := (72, (0, (1, 1)) :: (1, (0, y1)) :: tl, [(1, 1)], w1)) kAlk 1 rfl ?_
  refine e_Pn.getr (z := cd) kAlk rfl rfl (q.rf hR).2.1 (by omega) ?_
  refine e_Pn.run (t' := (77, (0, (1, 1)) :: (1, (0, y1)) :: tl, [(0, 0), (0, y1), (1, cd)], w1)) kAlk 2 rfl ?_
  refine e_Pn.callA rfl (fun n9 d9 => u_21 (q.rf hR)) (fun r2 w3 h1 => ?_)
  obtain ⟨⟨z4, rfl⟩, h1⟩ := h1
  have q5 := q.tr h1
  show e_Pn 20 elay kcode eI n d 160 (80, (0, (1, 1)) :: (1, (0, y1)) :: tl, [(0, z4)], w3) _
  exact e_Pn.ord kAlk [0, 1] rfl rfl (v_160_80 hR _ y1 z4 w3 q5)
set_option maxHeartbeats 4000000 in
theorem v_160_67 {n d : Nat} {w : eW} {cd : Int} (hR : kRw cd w) (tl : eL) (y1 : Int) (w1 : eW) (q : kq cd w w1) : e_Pn 20 elay kcode eI n d 160 (67, (0, (1, 1)) :: (1, (0, y1)) :: tl, [], w1) (fun r w' => r = [] ∧ kq cd w w') := by
  have hn := hR.1.n
  refine e_Pn.run (t' := (68, (0, (1, 1)) :: (1, (0, y1)) :: tl, [(1, 1)], w1)) kAlk 1 rfl ?_
  refine e_Pn.callA rfl (fun n9 d9 => kE_all n9 162 (by decide) d9 _ _ (q.rf hR)) (fun r2 w3 h1 => ?_)
  obtain ⟨rfl, h1⟩ := h1
  have q4 := q.tr h1
  show e_Pn 20 elay kcode eI n d 160 (71, (0, (1, 1)) :: (1, (0, y1)) :: tl, [], w3) _
  exact e_Pn.ord kAlk [0, 1] rfl rfl (v_160_71 hR _ y1 w3 q4)
set_option maxHeartbeats 4000000 in
theorem v_160_55 {n d : Nat} {w : eW} {cd : Int} (hR : kRw cd w) (tl : eL) (s0 : Int) (w1 : eW) (q : kq cd w w1) : e_Pn 20 elay kcode eI n d 160 (55, (0, (1, 1)) :: tl, [(0, s0)], w1) (fun r w' => r = [] ∧ kq cd w w') := by
  have hn := hR.1.n
  refine e_Pn.run (t' := (59, (1, (0, s0)) :: (0, (1, 1)) :: List.filter (e_flt 0 1) tl, [(0, 49), (0, s0)], w1)) kAlk 3 rfl ?_
  refine e_Pn.if2 kAlk rfl (fun h1 => ?_) (fun h1 => ?_)
  · show e_Pn 20 elay kcode eI n d 160 (63, (1, (0, s0)) :: (0, (1, 1)) :: List.filter (e_flt 0 1) tl, [], w1) _
    refine e_Pn.run (t' := (64, (1, (0, s0)) :: (0, (1, 1)) :: List.filter (e_flt 0 1) tl, [(1, 1)], w1)) kAlk 1 rfl ?_
    refine e_Pn.callA rfl (fun n9 d9 => u_123 (q.rf hR)) (fun r3 w4 h2 => ?_)
    obtain ⟨rfl, h2⟩ := h2
    have q5 := q.tr h2
    show e_Pn 20 elay kcode eI n d 160 (67, (1, (0, s0)) :: (0, (1, 1)) :: List.filter (e_flt 0 1) tl, [], w4) _
    exact e_Pn.ord kAlk [0, 1] rfl rfl (v_160_67 hR _ s0 w4 q5)
  · show e_Pn 20 elay kcode eI n d 160 (62, (1, (0, s0)) :: (0, (1, 1)) :: List.filter (e_flt 0 1) tl, [], w1) _
    exact e_Pn.ret0 rfl ⟨rfl, q⟩
set_option maxHeartbeats 4000000 in
theorem v_160_51 {n d : Nat} {w : eW} {cd : Int} (hR : kRw cd w) (tl : eL) (w1 : eW) (q : kq cd w w1) : e_Pn 20 elay kcode eI n d 160 (51, (0, (1, 1)) :: tl, [], w1) (fun r w' => r = [] ∧ kq cd w w') := by
  have hn := hR.1.n
  refine e_Pn.run (t' := (52, (0, (1, 1)) :: tl, [(1, 1)], w1)) kAlk 1 rfl ?_
  refine e_Pn.callA rfl (fun n9 d9 => u_161 (q.rf hR)) (fun r2 w3 h1 => ?_)
  obtain ⟨⟨z4, rfl⟩, h1⟩ := h1
  have q5 := q.tr h1
  show e_Pn 20 elay kcode eI n d 160 (55, (0, (1, 1)) :: tl, [(0, z4)], w3) _
  exact e_Pn.ord kAlk [0] rfl rfl (v_160_55 hR _ z4 w3 q5)
set_option maxHeartbeats 4000000 in
theorem v_160_45 {n d : Nat} {w : eW} {cd : Int} (hR : kRw cd w) (tl : eL) (s0 : Int) (w1 : eW) (q : kq cd w w1) : e_Pn 20 elay kcode eI n d 160 (45, (0, (1, 1)) :: tl, [(0, s0)], w1) (fun r w' => r = [] ∧ kq cd w w') := by
  have hn := hR.1.n
  refine e_Pn.run (t' := (46, (0, (1, 1)) :: tl, [], w1)) kAlk 1 rfl ?_
  exact e_Pn.ret0 rfl ⟨rfl, q⟩
set_option maxHeartbeats 4000000 in
theorem v_160_25 {n d : Nat} {w : eW} {cd : Int} (hR : kRw cd w) (tl : eL) (w1 : eW) (q : kq cd w w1) : e_Pn 20 elay kcode eI n d 160 (25, (0, (1, 1)) :: tl, [], w1) (fun r w' => r = [] ∧ kq cd w w') := by
  have hn := hR.1.n
  refine e_Pn.run (t' := (27, (0, (1, 1)) :: tl, [(1, 1), (1, 1)], w1)) kAlk 2 rfl ?_
  refine e_Pn.getf (z := w1 1 11) kAlk rfl rfl rfl (fun b1 => ?_)
  refine e_Pn.run (t' := (31, (0, (1, 1)) :: tl, [(0, 1), (0, w1 1 11), (1, 1)], w1)) kAlk 1 rfl ?_
  refine e_Pn.bin0 kAlk rfl (fun z2 hz2 => ?_)
  refine e_Pn.putf kAlk rfl rfl ?_
  generalize hw3 : e_up w1 1 11 z2 = w3
  have q4 : kq cd w w3 := kq.up q hR.1 hw3 (by decide) (fun _ => by decide) (fun g => absurd g.symm hn.1)
  refine e_Pn.run (t' := (36, (0, (1, 1)) :: tl, [(1, 1)], w3)) kAlk 1 rfl ?_
  refine e_Pn.getr (z := cd) kAlk rfl rfl (q4.rf hR).2.1 (by omega) ?_
  refine e_Pn.run (t' := (42, (0, (1, 1)) :: tl, [(0, 0), (0, 10), (1, cd)], w3)) kAlk 2 rfl ?_
  refine e_Pn.callA rfl (fun n9 d9 => u_21 (q4.rf hR)) (fun r6 w7 h5 => ?_)
  obtain ⟨⟨z8, rfl⟩, h5⟩ := h5
  have q9 := q4.tr h5
  show e_Pn 20 elay kcode eI n d 160 (45, (0, (1, 1)) :: tl, [(0, z8)], w7) _
  exact e_Pn.ord kAlk [0] rfl rfl (v_160_45 hR _ z8 w7 q9)
set_option maxHeartbeats 4000000 in
theorem v_160_21 {n d : Nat} {w : eW} {cd : Int} (hR : kRw cd w) (tl : eL) (w1 : eW) (q : kq cd w w1) : e_Pn 20 elay kcode eI n d 160 (21, (0, (1, 1)) :: tl, [], w1) (fun r w' => r = [] ∧ kq cd w w') := by
  have hn := hR.1.n
  refine e_Pn.run (t' := (22, (0, (1, 1)) :: tl, [(1, 1)], w1)) kAlk 1 rfl ?_
  refine e_Pn.callA rfl (fun n9 d9 => kE_all n9 160 (by decide) d9 _ _ (q.rf hR)) (fun r2 w3 h1 => ?_)
  obtain ⟨rfl, h1⟩ := h1
  have q4 := q.tr h1
  show e_Pn 20 elay kcode eI n d 160 (25, (0, (1, 1)) :: tl, [], w3) _
  exact e_Pn.ord kAlk [0] rfl rfl (v_160_25 hR _ w3 q4)
set_option maxHeartbeats 4000000 in
theorem v_160_13 {n d : Nat} {w : eW} {cd : Int} (hR : kRw cd w) (tl : eL) (s0 : Int) (w1 : eW) (q : kq cd w w1) : e_Pn 20 elay kcode eI n d 160 (13, (0, (1, 1)) :: tl, [(0, s0)], w1) (fun r w' => r = [] ∧ kq cd w w') := by
  have hn := hR.1.n
  refine e_Pn.if1 kAlk rfl (fun h1 => ?_) (fun h1 => ?_)
  · show e_Pn 20 elay kcode eI n d 160 (17, (0, (1, 1)) :: tl, [], w1) _
    refine e_Pn.run (t' := (18, (0, (1, 1)) :: tl, [(1, 1)], w1)) kAlk 1 rfl ?_
    refine e_Pn.callA rfl (fun n9 d9 => u_123 (q.rf hR)) (fun r3 w4 h2 => ?_)
    obtain ⟨rfl, h2⟩ := h2
    have q5 := q.tr h2
    show e_Pn 20 elay kcode eI n d 160 (21, (0, (1, 1)) :: tl, [], w4) _
    exact e_Pn.ord kAlk [0] rfl rfl (v_160_21 hR _ w4 q5)
  · show e_Pn 20 elay kcode eI n d 160 (16, (0, (1, 1)) :: tl, [], w1) _
    exact e_Pn.ret0 rfl ⟨rfl, q⟩
set_option maxHeartbeats 4000000 in
theorem v_162_6 {n d : Nat} {w : eW} {cd : Int} (hR : kRw cd w) (tl : eL) (y1 : Int) (w1 : eW) (q : kq cd w w1) : e_Pn 20 elay kcode eI n d 162 (6, (0, (1, 1)) :: (1, (0, y1)) :: tl, [], w1) (fun r w' => r = [] ∧ kq cd w w') := by
  have hn := hR.1.n
  have hL1 : ∀ nn3 : Nat, nn3 ≤ n → ∀ (tl4 : eL) (y7 : Int) (w5 : eW), kq cd w w5 → e_Pn 20 elay kcode eI nn3 d 162 (6, (0, (1, 1)) :: (1, (0, y7)) :: tl4, [], w5) (fun r w' => r = [] ∧ kq cd w w') := by
    intro nn3
    induction nn3 with
    | zero => intro _ tl4 y7 w5 _; exact e_Pn.zero
    | succ nn3 ih2 =>
      intro hnnn3 tl4 y7 w5 q6
      refine e_Pn.runS (t' := (10, (0, (1, 1)) :: (1, (0, y7)) :: tl4, [(0, 4000), (0, y7)], w5)) kAlk 1 rfl ?_
      refine e_Pn.if2 kAlk rfl (fun h8 => ?_) (fun h8 => ?_)
      · show e_Pn 20 elay kcode eI nn3 d 162 (68, (0, (1, 1)) :: (1, (0, y7)) :: tl4, [], w5) _
        exact e_Pn.ret0 rfl ⟨rfl, q6⟩
      · show e_Pn 20 elay kcode eI nn3 d 162 (13, (0, (1, 1)) :: (1, (0, y7)) :: tl4, [], w5) _
        refine e_Pn.run (t' := (14, (0, (1, 1)) :: (1, (0, y7)) :: tl4, [(1, 1)], w5)) kAlk 1 rfl ?_
        refine e_Pn.getf (z := w5 1 5) kAlk rfl rfl rfl (fun b9 => ?_)
        refine e_Pn.run (t' := (21, (0, (1, 1)) :: (1, (0, y7)) :: tl4, [(0, 9), (0, 8), (0, w5 1 5)], w5)) kAlk 2 rfl ?_
        refine e_Pn.callA rfl (fun n9 d9 => u_242 (q6.rf hR)) (fun r11 w12 h10 => ?_)
        obtain ⟨⟨z13, rfl⟩, h10⟩ := h10
        have q14 := q6.tr h10
        show e_Pn 20 elay kcode eI nn3 d 162 (24, (0, (1, 1)) :: (1, (0, y7)) :: tl4, [(0, z13)], w12) _
        refine e_Pn.if1 kAlk rfl (fun h15 => ?_) (fun h15 => ?_)
        · show e_Pn 20 elay kcode eI nn3 d 162 (68, (0, (1, 1)) :: (1, (0, y7)) :: tl4, [], w12) _
          exact e_Pn.ret0 rfl ⟨rfl, q14⟩
        · show e_Pn 20 elay kcode eI nn3 d 162 (27, (0, (1, 1)) :: (1, (0, y7)) :: tl4, [], w12) _
          refine e_Pn.run (t' := (28, (0, (1, 1)) :: (1, (0, y7)) :: tl4, [(1, 1)], w12)) kAlk 1 rfl ?_
          refine e_Pn.getf (z := w12 1 5) kAlk rfl rfl rfl (fun b16 => ?_)
          refine e_Pn.run (t' := (33, (0, (1, 1)) :: (1, (0, y7)) :: tl4, [(0, 8), (0, w12 1 5)], w12)) kAlk 1 rfl ?_
          refine e_Pn.if2 kAlk rfl (fun h17 => ?_) (fun h17 => ?_)
          · show e_Pn 20 elay kcode eI nn3 d 162 (41, (0, (1, 1)) :: (1, (0, y7)) :: tl4, [], w12) _
            refine e_Pn.run (t' := (45, (2, (0, 15)) :: (0, (1, 1)) :: (1, (0, y7)) :: List.filter (e_flt 0 2) tl4, [(1, 1)], w12)) kAlk 3 rfl ?_
            refine e_Pn.callA rfl (fun n9 d9 => u_123 (q14.rf hR)) (fun r19 w20 h18 => ?_)
            obtain ⟨rfl, h18⟩ := h18
            have q21 := q14.tr h18
            show e_Pn 20 elay kcode eI nn3 d 162 (48, (2, (0, 15)) :: (0, (1, 1)) :: (1, (0, y7)) :: List.filter (e_flt 0 2) tl4, [], w20) _
            refine e_Pn.run (t' := (49, (2, (0, 15)) :: (0, (1, 1)) :: (1, (0, y7)) :: List.filter (e_flt 0 2) tl4, [(1, 1)], w20)) kAlk 1 rfl ?_
            refine e_Pn.callA rfl (fun n9 d9 => kE_all n9 163 (by decide) d9 _ _ (q21.rf hR)) (fun r23 w24 h22 => ?_)
            obtain ⟨rfl, h22⟩ := h22
            have q25 := q21.tr h22
            show e_Pn 20 elay kcode eI nn3 d 162 (52, (2, (0, 15)) :: (0, (1, 1)) :: (1, (0, y7)) :: List.filter (e_flt 0 2) tl4, [], w24) _
            refine e_Pn.run (t' := (53, (2, (0, 15)) :: (0, (1, 1)) :: (1, (0, y7)) :: List.filter (e_flt 0 2) tl4, [(1, 1)], w24)) kAlk 1 rfl ?_
            refine e_Pn.getr (z := cd) kAlk rfl rfl (q25.rf hR).2.1 (by omega) ?_
            refine e_Pn.run (t' := (58, (2, (0, 15)) :: (0, (1, 1)) :: (1, (0, y7)) :: List.filter (e_flt 0 2) tl4, [(0, 0), (0, 15), (1, cd)], w24)) kAlk 2 rfl ?_
            refine e_Pn.callA rfl (fun n9 d9 => u_21 (q25.rf hR)) (fun r27 w28 h26 => ?_)
            obtain ⟨⟨z29, rfl⟩, h26⟩ := h26
            have q30 := q25.tr h26
            show e_Pn 20 elay kcode eI nn3 d 162 (61, (2, (0, 15)) :: (0, (1, 1)) :: (1, (0, y7)) :: List.filter (e_flt 0 2) tl4, [(0, z29)], w28) _
            refine e_Pn.run (t' := (62, (2, (0, 15)) :: (0, (1, 1)) :: (1, (0, y7)) :: List.filter (e_flt 0 2) tl4, [], w28)) kAlk 1 rfl ?_
            refine e_Pn.incU kAlk rfl rfl (fun z31 => ?_)
            show e_Pn 20 elay kcode eI nn3 d 162 (65, (1, (0, z31)) :: (2, (0, 15)) :: (0, (1, 1)) :: List.filter (e_flt 0 1) (List.filter (e_flt 0 2) tl4), [], w28) _
            refine e_Pn.run (t' := (6, (1, (0, z31)) :: (2, (0, 15)) :: (0, (1, 1)) :: List.filter (e_flt 0 1) (List.filter (e_flt 0 2) tl4), [], w28)) kAlk 1 rfl ?_
            exact e_Pn.ord kAlk [0, 1] rfl rfl ((ih2 (by omega) _ z31 w28 q30).le (by omega))
          · show e_Pn 20 elay kcode eI nn3 d 162 (36, (0, (1, 1)) :: (1, (0, y7)) :: tl4, [], w12) _
            refine e_Pn.run (t' := (45, (2, (0, 14)) :: (0, (1, 1)) :: (1, (0, y7)) :: List.filter (e_flt 0 2) tl4, [(1, 1)], w12)) kAlk 4 rfl ?_
            refine e_Pn.callA rfl (fun n9 d9 => u_123 (q14.rf hR)) (fun r33 w34 h32 => ?_)
            obtain ⟨rfl, h32⟩ := h32
            have q35 := q14.tr h32
            show e_Pn 20 elay kcode eI nn3 d 162 (48, (2, (0, 14)) :: (0, (1, 1)) :: (1, (0, y7)) :: List.filter (e_flt 0 2) tl4, [], w34) _
            refine e_Pn.run (t' := (49, (2, (0, 14)) :: (0, (1, 1)) :: (1, (0, y7)) :: List.filter (e_flt 0 2) tl4, [(1, 1)], w34)) kAlk 1 rfl ?_
            refine e_Pn.callA rfl (fun n9 d9 => kE_all n9 163 (by decide) d9 _ _ (q35.rf hR)) (fun r37 w38 h36 => ?_)
            obtain ⟨rfl, h36⟩ := h36
            have q39 := q35.tr h36
            show e_Pn 20 elay kcode eI nn3 d 162 (52, (2, (0, 14)) :: (0, (1, 1)) :: (1, (0, y7)) :: List.filter (e_flt 0 2) tl4, [], w38) _
            refine e_Pn.run (t' := (53, (2, (0, 14)) :: (0, (1, 1)) :: (1, (0, y7)) :: List.filter (e_flt 0 2) tl4, [(1, 1)], w38)) kAlk 1 rfl ?_
            refine e_Pn.getr (z := cd) kAlk rfl rfl (q39.rf hR).2.1 (by omega) ?_
            refine e_Pn.run (t' := (58, (2, (0, 14)) :: (0, (1, 1)) :: (1, (0, y7)) :: List.filter (e_flt 0 2) tl4, [(0, 0), (0, 14), (1, cd)], w38)) kAlk 2 rfl ?_
            refine e_Pn.callA rfl (fun n9 d9 => u_21 (q39.rf hR)) (fun r41 w42 h40 => ?_)
            obtain ⟨⟨z43, rfl⟩, h40⟩ := h40
            have q44 := q39.tr h40
            show e_Pn 20 elay kcode eI nn3 d 162 (61, (2, (0, 14)) :: (0, (1, 1)) :: (1, (0, y7)) :: List.filter (e_flt 0 2) tl4, [(0, z43)], w42) _
            refine e_Pn.run (t' := (62, (2, (0, 14)) :: (0, (1, 1)) :: (1, (0, y7)) :: List.filter (e_flt 0 2) tl4, [], w42)) kAlk 1 rfl ?_
            refine e_Pn.incU kAlk rfl rfl (fun z45 => ?_)
            show e_Pn 20 elay kcode eI nn3 d 162 (65, (1, (0, z45)) :: (2, (0, 14)) :: (0, (1, 1)) :: List.filter (e_flt 0 1) (List.filter (e_flt 0 2) tl4), [], w42) _
            refine e_Pn.run (t' := (6, (1, (0, z45)) :: (2, (0, 14)) :: (0, (1, 1)) :: List.filter (e_flt 0 1) (List.filter (e_flt 0 2) tl4), [], w42)) kAlk 1 rfl ?_
            exact e_Pn.ord kAlk [0, 1] rfl rfl ((ih2 (by omega) _ z45 w42 q44).le (by omega))
  exact e_Pn.ord kAlk [0, 1] rfl rfl (hL1 n (Nat.le_refl _) _ y1 w1 q)
set_option maxHeartbeats 4000000 in
theorem v_162_61 {n d : Nat} {w : eW} {cd : Int} (hR : kRw cd w) (tl : eL) (y1 : Int) (y2 : Int) (s0 : Int) (w1 : eW) (q : kq cd w w1) : e_Pn 20 elay kcode eI n d 162 (61, (0, (1, 1)) :: (1, (0, y1)) :: (2, (0, y2)) :: tl, [(0, s0)], w1) (fun r w' => r = [] ∧ kq cd w w') := by
  have hn := hR.1.n
  refine e_Pn.run (t' := (62, (0, (1, 1)) :: (1, (0, y1)) :: (2, (0, y2)) :: tl, [], w1)) kAlk 1 rfl ?_
  refine e_Pn.incU kAlk rfl rfl (fun z1 => ?_)
  show e_Pn 20 elay kcode eI n d 162 (65, (1, (0, z1)) :: (0, (1, 1)) :: (2, (0, y2)) :: List.filter (e_flt 0 1) tl, [], w1) _
  refine e_Pn.run (t' := (6, (1, (0, z1)) :: (0, (1, 1)) :: (2, (0, y2)) :: List.filter (e_flt 0 1) tl, [], w1)) kAlk 1 rfl ?_
  exact e_Pn.ord kAlk [0, 1] rfl rfl (v_162_6 hR _ z1 w1 q)
set_option maxHeartbeats 4000000 in
theorem v_162_52 {n d : Nat} {w : eW} {cd : Int} (hR : kRw cd w) (tl : eL) (y1 : Int) (y2 : Int) (w1 : eW) (q : kq cd w w1) : e_Pn 20 elay kcode eI n d 162 (52, (0, (1, 1)) :: (1, (0, y1)) :: (2, (0, y2)) :: tl, [], w1) (fun r w' => r = [] ∧ kq cd w w') := by
  have hn := hR.1.n
  refine e_Pn.run (t' := (53, (0, (1, 1)) :: (1, (0, y1)) :: (2, (0, y2)) :: tl, [(1, 1)], w1)) kAlk 1 rfl ?_
  refine e_Pn.getr (z := cd) kAlk rfl rfl (q.rf hR).2.1 (by omega) ?_
  refine e_Pn.run (t' := (58, (0, (1, 1)) :: (1, (0, y1)) :: (2, (0, y2)) :: tl, [(0, 0), (0, y2), (1, cd)], w1)) kAlk 2 rfl ?_
  refine e_Pn.callA rfl (fun n9 d9 => u_21 (q.rf hR)) (fun r2 w3 h1 => ?_)
  obtain ⟨⟨z4, rfl⟩, h1⟩ := h1
  have q5 := q.tr h1
  show e_Pn 20 elay kcode eI n d 162 (61, (0, (1, 1)) :: (1, (0, y1)) :: (2, (0, y2)) :: tl, [(0, z4)], w3) _
  exact e_Pn.ord kAlk [0, 1, 2] rfl rfl (v_162_61 hR _ y1 y2 z4 w3 q5)
set_option maxHeartbeats 4000000 in
theorem v_162_48 {n d : Nat} {w : eW} {cd : Int} (hR : kRw cd w) (tl : eL) (y1 : Int) (y2 : Int) (w1 : eW) (q : kq cd w w1) : e_Pn 20 elay kcode eI n d 162 (48, (0, (1, 1)) :: (1, (0, y1)) :: (2, (0, y2)) :: tl, [], w1) (fun r w' => r = [] ∧ kq cd w w') := by
  have hn := hR.1.n
  refine e_Pn.run (t' := (49, (0, (1, 1)) :: (1, (0, y1)) :: (2, (0, y2)) :: tl, [(1, 1)], w1)) kAlk 1 rfl ?_
  refine e_Pn.callA rfl (fun n9 d9 => kE_all n9 163 (by decide) d9 _ _ (q.rf hR)) (fun r2 w3 h1 => ?_)
  obtain ⟨rfl, h1⟩ := h1
  have q4 := q.tr h1
  show e_Pn 20 elay kcode eI n d 162 (52, (0, (1, 1)) :: (1, (0, y1)) :: (2, (0, y2)) :: tl, [], w3) _
  exact e_Pn.ord kAlk [0, 1, 2] rfl rfl (v_162_52 hR _ y1 y2 w3 q4)
set_option maxHeartbeats 4000000 in
theorem v_162_24 {n d : Nat} {w : eW} {cd : Int} (hR : kRw cd w) (tl : eL) (y1 : Int) (s0 : Int) (w1 : eW) (q : kq cd w w1) : e_Pn 20 elay kcode eI n d 162 (24, (0, (1, 1)) :: (1, (0, y1)) :: tl, [(0, s0)], w1) (fun r w' => r = [] ∧ kq cd w w') := by
  have hn := hR.1.n
  refine e_Pn.if1 kAlk rfl (fun h1 => ?_) (fun h1 => ?_)
  · show e_Pn 20 elay kcode eI n d 162 (68, (0, (1, 1)) :: (1, (0, y1)) :: tl, [], w1) _
    exact e_Pn.ret0 rfl ⟨rfl, q⟩
  · show e_Pn 20 elay kcode eI n d 162 (27, (0, (1, 1)) :: (1, (0, y1)) :: tl, [], w1) _
    refine e_Pn.run (t' := (28, (0, (1, 1)) :: (1, (0, y1)) :: tl, [(1, 1)], w1)) kAlk 1 rfl ?_
    refine e_Pn.getf (z := w1 1 5) kAlk rfl rfl rfl (fun b2 => ?_)
    refine e_Pn.run (t' := (33, (0, (1, 1)) :: (1, (0, y1)) :: tl, [(0, 8), (0, w1 1 5)], w1)) kAlk 1 rfl ?_
    refine e_Pn.if2 kAlk rfl (fun h3 => ?_) (fun h3 => ?_)
    · show e_Pn 20 elay kcode eI n d 162 (41, (0, (1, 1)) :: (1, (0, y1)) :: tl, [], w1) _
      refine e_Pn.run (t' := (45, (2, (0, 15)) :: (0, (1, 1)) :: (1, (0, y1)) :: List.filter (e_flt 0 2) tl, [(1, 1)], w1)) kAlk 3 rfl ?_
      refine e_Pn.callA rfl (fun n9 d9 => u_123 (q.rf hR)) (fun r5 w6 h4 => ?_)
      obtain ⟨rfl, h4⟩ := h4
      have q7 := q.tr h4
      show e_Pn 20 elay kcode eI n d 162 (48, (2, (0, 15)) :: (0, (1, 1)) :: (1, (0, y1)) :: List.filter (e_flt 0 2) tl, [], w6) _
      exact e_Pn.ord kAlk [0, 1, 2] rfl rfl (v_162_48 hR _ y1 15 w6 q7)
    · show e_Pn 20 elay kcode eI n d 162 (36, (0, (1, 1)) :: (1, (0, y1)) :: tl, [], w1) _
      refine e_Pn.run (t' := (45, (2, (0, 14)) :: (0, (1, 1)) :: (1, (0, y1)) :: List.filter (e_flt 0 2) tl, [(1, 1)], w1)) kAlk 4 rfl ?_
      refine e_Pn.callA rfl (fun n9 d9 => u_123 (q.rf hR)) (fun r9 w10 h8 => ?_)
      obtain ⟨rfl, h8⟩ := h8
      have q11 := q.tr h8
      show e_Pn 20 elay kcode eI n d 162 (48, (2, (0, 14)) :: (0, (1, 1)) :: (1, (0, y1)) :: List.filter (e_flt 0 2) tl, [], w10) _
      exact e_Pn.ord kAlk [0, 1, 2] rfl rfl (v_162_48 hR _ y1 14 w10 q11)
set_option maxHeartbeats 4000000 in
theorem v_162_4 {n d : Nat} {w : eW} {cd : Int} (hR : kRw cd w) (tl : eL) (w1 : eW) (q : kq cd w w1) : e_Pn 20 elay kcode eI n d 162 (4, (0, (1, 1)) :: tl, [], w1) (fun r w' => r = [] ∧ kq cd w w') := by
  have hn := hR.1.n
  refine e_Pn.run (t' := (6, (1, (0, 0)) :: (0, (1, 1)) :: List.filter (e_flt 0 1) tl, [], w1)) kAlk 2 rfl ?_
  exact e_Pn.ord kAlk [0, 1] rfl rfl (v_162_6 hR _ 0 w1 q)
set_option maxHeartbeats 4000000 in
theorem v_163_6 {n d : Nat} {w : eW} {cd : Int} (hR : kRw cd w) (tl : eL) (y1 : Int) (w1 : eW) (q : kq cd w w1) : e_Pn 20 elay kcode eI n d 163 (6, (0, (1, 1)) :: (1, (0, y1)) :: tl, [], w1) (fun r w' => r = [] ∧ kq cd w w') := by
  have hn := hR.1.n
  have hL1 : ∀ nn3 : Nat, nn3 ≤ n → ∀ (tl4 : eL) (y7 : Int) (w5 : eW), kq cd w w5 → e_Pn 20 elay kcode eI nn3 d 163 (6, (0, (1, 1)) :: (1, (0, y7)) :: tl4, [], w5) (fun r w' => r = [] ∧ kq cd w w') := by
    intro nn3
    induction nn3 with
    | zero => intro _ tl4 y7 w5 _; exact e_Pn.zero
    | succ nn3 ih2 =>
      intro hnnn3 tl4 y7 w5 q6
      refine e_Pn.runS (t' := (10, (0, (1, 1)) :: (1, (0, y7)) :: tl4, [(0, 4000), (0, y7)], w5)) kAlk 1 rfl ?_
      refine e_Pn.if2 kAlk rfl (fun h8 => ?_) (fun h8 => ?_)
      · show e_Pn 20 elay kcode eI nn3 d 163 (62, (0, (1, 1)) :: (1, (0, y7)) :: tl4, [], w5) _
        exact e_Pn.ret0 rfl ⟨rfl, q6⟩
      · show e_Pn 20 elay kcode eI nn3 d 163 (13, (0, (1, 1)) :: (1, (0, y7)) :: tl4, [], w5) _
        refine e_Pn.run (t' := (14, (0, (1, 1)) :: (1, (0, y7)) :: tl4, [(1, 1)], w5)) kAlk 1 rfl ?_
        refine e_Pn.getf (z := w5 1 5) kAlk rfl rfl rfl (fun b9 => ?_)
        refine e_Pn.run (t' := (21, (0, (1, 1)) :: (1, (0, y7)) :: tl4, [(0, 12), (0, 10), (0, w5 1 5)], w5)) kAlk 2 rfl ?_
        refine e_Pn.callA rfl (fun n9 d9 => u_242 (q6.rf hR)) (fun r11 w12 h10 => ?_)
        obtain ⟨⟨z13, rfl⟩, h10⟩ := h10
        have q14 := q6.tr h10
        show e_Pn 20 elay kcode eI nn3 d 163 (24, (0, (1, 1)) :: (1, (0, y7)) :: tl4, [(0, z13)], w12) _
        refine e_Pn.if1 kAlk rfl (fun h15 => ?_) (fun h15 => ?_)
        · show e_Pn 20 elay kcode eI nn3 d 163 (62, (0, (1, 1)) :: (1, (0, y7)) :: tl4, [], w12) _
          exact e_Pn.ret0 rfl ⟨rfl, q14⟩
        · show e_Pn 20 elay kcode eI nn3 d 163 (27, (0, (1, 1)) :: (1, (0, y7)) :: tl4, [], w12) _
          refine e_Pn.run (t' := (30, (0, (1, 1)) :: (1, (0, y7)) :: tl4, [(1, 1), (0, 16)], w12)) kAlk 2 rfl ?_
          refine e_Pn.getf (z := w12 1 5) kAlk rfl rfl rfl (fun b16 => ?_)
          refine e_Pn.bin0 kAlk rfl (fun z17 hz17 => ?_)
          refine e_Pn.run (t' := (36, (0, (1, 1)) :: (1, (0, y7)) :: tl4, [(0, 10), (0, z17)], w12)) kAlk 1 rfl ?_
          refine e_Pn.bin0 kAlk rfl (fun z18 hz18 => ?_)
          refine e_Pn.run (t' := (39, (2, (0, z18)) :: (0, (1, 1)) :: (1, (0, y7)) :: List.filter (e_flt 0 2) tl4, [(1, 1)], w12)) kAlk 2 rfl ?_
          refine e_Pn.callA rfl (fun n9 d9 => u_123 (q14.rf hR)) (fun r20 w21 h19 => ?_)
          obtain ⟨rfl, h19⟩ := h19
          have q22 := q14.tr h19
          show e_Pn 20 elay kcode eI nn3 d 163 (42, (2, (0, z18)) :: (0, (1, 1)) :: (1, (0, y7)) :: List.filter (e_flt 0 2) tl4, [], w21) _
          refine e_Pn.run (t' := (43, (2, (0, z18)) :: (0, (1, 1)) :: (1, (0, y7)) :: List.filter (e_flt 0 2) tl4, [(1, 1)], w21)) kAlk 1 rfl ?_
          refine e_Pn.callA rfl (fun n9 d9 => kE_all n9 164 (by decide) d9 _ _ (q22.rf hR)) (fun r24 w25 h23 => ?_)
          obtain ⟨rfl, h23⟩ := h23
          have q26 := q22.tr h23
          show e_Pn 20 elay kcode eI nn3 d 163 (46, (2, (0, z18)) :: (0, (1, 1)) :: (1, (0, y7)) :: List.filter (e_flt 0 2) tl4, [], w25) _
          refine e_Pn.run (t' := (47, (2, (0, z18)) :: (0, (1, 1)) :: (1, (0, y7)) :: List.filter (e_flt 0 2) tl4, [(1, 1)], w25)) kAlk 1 rfl ?_
          refine e_Pn.getr (z := cd) kAlk rfl rfl (q26.rf hR).2.1 (by omega) ?_
          refine e_Pn.run (t' := (52, (2, (0, z18)) :: (0, (1, 1)) :: (1, (0, y7)) :: List.filter (e_flt 0 2) tl4, [(0, 0), (0, z18), (1, cd)], w25)) kAlk 2 rfl ?_
          refine e_Pn.callA rfl (fun n9 d9 => u_21 (q26.rf hR)) (fun r28 w29 h27 => ?_)
          obtain ⟨⟨z30, rfl⟩, h27⟩ := h27
          have q31 := q26.tr h27
          show e_Pn 20 elay kcode eI nn3 d 163 (55, (2, (0, z18)) :: (0, (1, 1)) :: (1, (0, y7)) :: List.filter (e_flt 0 2) tl4, [(0, z30)], w29) _
          refine e_Pn.run (t' := (56, (2, (0, z18)) :: (0, (1, 1)) :: (1, (0, y7)) :: List.filter (e_flt 0 2) tl4, [], w29)) kAlk 1 rfl ?_
          refine e_Pn.incU kAlk rfl rfl (fun z32 => ?_)
          show e_Pn 20 elay kcode eI nn3 d 163 (59, (1, (0, z32)) :: (2, (0, z18)) :: (0, (1, 1)) :: List.filter (e_flt 0 1) (List.filter (e_flt 0 2) tl4), [], w29) _
          refine e_Pn.run (t' := (6, (1, (0, z32)) :: (2, (0, z18)) :: (0, (1, 1)) :: List.filter (e_flt 0 1) (List.filter (e_flt 0 2) tl4), [], w29)) kAlk 1 rfl ?_
          exact e_Pn.ord kAlk [0, 1] rfl rfl ((ih2 (by omega) _ z32 w29 q31).le (by omega))
  exact e_Pn.ord kAlk [0, 1] rfl rfl (hL1 n (Nat.le_refl _) _ y1 w1 q)
set_option maxHeartbeats 4000000 in
theorem v_163_55 {n d : Nat} {w : eW} {cd : Int} (hR : kRw cd w) (tl : eL) (y1 : Int) (y2 : Int) (s0 : Int) (w1 : eW) (q : kq cd w w1) : e_Pn 20 elay kcode eI n d 163 (55, (0, (1, 1)) :: (1, (0, y1)) :: (2, (0, y2)) :: tl, [(0, s0)], w1) (fun r w' => r = [] ∧ kq cd w w') := by
  have hn := hR.1.n
  refine e_Pn.run (t' := (56, (0, (1, 1)) :: (1, (0, y1)) :: (2, (0, y2)) :: tl, [], w1)) kAlk 1 rfl ?_
  refine e_Pn.incU kAlk rfl rfl (fun z1 => ?_)
  show e_Pn 20 elay kcode eI n d 163 (59, (1, (0, z1)) :: (0, (1, 1)) :: (2, (0, y2)) :: List.filter (e_flt 0 1) tl, [], w1) _
  refine e_Pn.run (t' := (6, (1, (0, z1)) :: (0, (1, 1)) :: (2, (0, y2)) :: List.filter (e_flt 0 1) tl, [], w1)) kAlk 1 rfl ?_
  exact e_Pn.ord kAlk [0, 1] rfl rfl (v_163_6 hR _ z1 w1 q)
set_option maxHeartbeats 4000000 in
theorem v_163_46 {n d : Nat} {w : eW} {cd : Int} (hR : kRw cd w) (tl : eL) (y1 : Int) (y2 : Int) (w1 : eW) (q : kq cd w w1) : e_Pn 20 elay kcode eI n d 163 (46, (0, (1, 1)) :: (1, (0, y1)) :: (2, (0, y2)) :: tl, [], w1) (fun r w' => r = [] ∧ kq cd w w') := by
  have hn := hR.1.n
  refine e_Pn.run (t' := (47, (0, (1, 1)) :: (1, (0, y1)) :: (2, (0, y2)) :: tl, [(1, 1)], w1)) kAlk 1 rfl ?_
  refine e_Pn.getr (z := cd) kAlk rfl rfl (q.rf hR).2.1 (by omega) ?_
  refine e_Pn.run (t' := (52, (0, (1, 1)) :: (1, (0, y1)) :: (2, (0, y2)) :: tl, [(0, 0), (0, y2), (1, cd)], w1)) kAlk 2 rfl ?_
  refine e_Pn.callA rfl (fun n9 d9 => u_21 (q.rf hR)) (fun r2 w3 h1 => ?_)
  obtain ⟨⟨z4, rfl⟩, h1⟩ := h1
  have q5 := q.tr h1
  show e_Pn 20 elay kcode eI n d 163 (55, (0, (1, 1)) :: (1, (0, y1)) :: (2, (0, y2)) :: tl, [(0, z4)], w3) _
  exact e_Pn.ord kAlk [0, 1, 2] rfl rfl (v_163_55 hR _ y1 y2 z4 w3 q5)
set_option maxHeartbeats 4000000 in
theorem v_163_42 {n d : Nat} {w : eW} {cd : Int} (hR : kRw cd w) (tl : eL) (y1 : Int) (y2 : Int) (w1 : eW) (q : kq cd w w1) : e_Pn 20 elay kcode eI n d 163 (42, (0, (1, 1)) :: (1, (0, y1)) :: (2, (0, y2)) :: tl, [], w1) (fun r w' => r = [] ∧ kq cd w w') := by
  have hn := hR.1.n
  refine e_Pn.run (t' := (43, (0, (1, 1)) :: (1, (0, y1)) :: (2, (0, y2)) :: tl, [(1, 1)], w1)) kAlk 1 rfl ?_
  refine e_Pn.callA rfl (fun n9 d9 => kE_all n9 164 (by decide) d9 _ _ (q.rf hR)) (fun r2 w3 h1 => ?_)
  obtain ⟨rfl, h1⟩ := h1
  have q4 := q.tr h1
  show e_Pn 20 elay kcode eI n d 163 (46, (0, (1, 1)) :: (1, (0, y1)) :: (2, (0, y2)) :: tl, [], w3) _
  exact e_Pn.ord kAlk [0, 1, 2] rfl rfl (v_163_46 hR _ y1 y2 w3 q4)
set_option maxHeartbeats 4000000 in
theorem v_163_24 {n d : Nat} {w : eW} {cd : Int} (hR : kRw cd w) (tl : eL) (y1 : Int) (s0 : Int) (w1 : eW) (q : kq cd w w1) : e_Pn 20 elay kcode eI n d 163 (24, (0, (1, 1)) :: (1, (0, y1)) :: tl, [(0, s0)], w1) (fun r w' => r = [] ∧ kq cd w w') := by
  have hn := hR.1.n
  refine e_Pn.if1 kAlk rfl (fun h1 => ?_) (fun h1 => ?_)
  · show e_Pn 20 elay kcode eI n d 163 (62, (0, (1, 1)) :: (1, (0, y1)) :: tl, [], w1) _
    exact e_Pn.ret0 rfl ⟨rfl, q⟩
  · show e_Pn 20 elay kcode eI n d 163 (27, (0, (1, 1)) :: (1, (0, y1)) :: tl, [], w1) _
    refine e_Pn.run (t' := (30, (0, (1, 1)) :: (1, (0, y1)) :: tl, [(1, 1), (0, 16)], w1)) kAlk 2 rfl ?_
    refine e_Pn.getf (z := w1 1 5) kAlk rfl rfl rfl (fun b2 => ?_)
    refine e_Pn.bin0 kAlk rfl (fun z3 hz3 => ?_)
    refine e_Pn.run (t' := (36, (0, (1, 1)) :: (1, (0, y1)) :: tl, [(0, 10), (0, z3)], w1)) kAlk 1 rfl ?_
    refine e_Pn.bin0 kAlk rfl (fun z4 hz4 => ?_)
    refine e_Pn.run (t' := (39, (2, (0, z4)) :: (0, (1, 1)) :: (1, (0, y1)) :: List.filter (e_flt 0 2) tl, [(1, 1)], w1)) kAlk 2 rfl ?_
    refine e_Pn.callA rfl (fun n9 d9 => u_123 (q.rf hR)) (fun r6 w7 h5 => ?_)
    obtain ⟨rfl, h5⟩ := h5
    have q8 := q.tr h5
    show e_Pn 20 elay kcode eI n d 163 (42, (2, (0, z4)) :: (0, (1, 1)) :: (1, (0, y1)) :: List.filter (e_flt 0 2) tl, [], w7) _
    exact e_Pn.ord kAlk [0, 1, 2] rfl rfl (v_163_42 hR _ y1 z4 w7 q8)
set_option maxHeartbeats 4000000 in
theorem v_163_4 {n d : Nat} {w : eW} {cd : Int} (hR : kRw cd w) (tl : eL) (w1 : eW) (q : kq cd w w1) : e_Pn 20 elay kcode eI n d 163 (4, (0, (1, 1)) :: tl, [], w1) (fun r w' => r = [] ∧ kq cd w w') := by
  have hn := hR.1.n
  refine e_Pn.run (t' := (6, (1, (0, 0)) :: (0, (1, 1)) :: List.filter (e_flt 0 1) tl, [], w1)) kAlk 2 rfl ?_
  exact e_Pn.ord kAlk [0, 1] rfl rfl (v_163_6 hR _ 0 w1 q)
set_option maxHeartbeats 4000000 in
theorem v_164_193 {n d : Nat} {w : eW} {cd : Int} (hR : kRw cd w) (tl : eL) (w1 : eW) (q : kq cd w w1) : e_Pn 20 elay kcode eI n d 164 (193, (0, (1, 1)) :: tl, [], w1) (fun r w' => r = [] ∧ kq cd w w') := by
  have hn := hR.1.n
  exact e_Pn.ret0 rfl ⟨rfl, q⟩
set_option maxHeartbeats 4000000 in
theorem v_164_186 {n d : Nat} {w : eW} {cd : Int} (hR : kRw cd w) (tl : eL) (w1 : eW) (q : kq cd w w1) : e_Pn 20 elay kcode eI n d 164 (186, (0, (1, 1)) :: tl, [], w1) (fun r w' => r = [] ∧ kq cd w w') := by
  have hn := hR.1.n
  refine e_Pn.run (t' := (193, (0, (1, 1)) :: tl, [], w1)) kAlk 1 rfl ?_
  exact e_Pn.ord kAlk [0] rfl rfl (v_164_193 hR _ w1 q)
set_option maxHeartbeats 4000000 in
theorem v_164_181 {n d : Nat} {w : eW} {cd : Int} (hR : kRw cd w) (tl : eL) (s0 : Int) (w1 : eW) (q : kq cd w w1) : e_Pn 20 elay kcode eI n d 164 (181, (0, (1, 1)) :: tl, [(0, s0)], w1) (fun r w' => r = [] ∧ kq cd w w') := by
  have hn := hR.1.n
  refine e_Pn.run (t' := (183, (0, (1, 1)) :: tl, [(1, 1)], w1)) kAlk 2 rfl ?_
  refine e_Pn.callA rfl (fun n9 d9 => u_123 (q.rf hR)) (fun r2 w3 h1 => ?_)
  obtain ⟨rfl, h1⟩ := h1
  have q4 := q.tr h1
  show e_Pn 20 elay kcode eI n d 164 (186, (0, (1, 1)) :: tl, [], w3) _
  exact e_Pn.ord kAlk [0] rfl rfl (v_164_186 hR _ w3 q4)
set_option maxHeartbeats 4000000 in
theorem v_164_161 {n d : Nat} {w : eW} {cd : Int} (hR : kRw cd w) (tl : eL) (s0 : Int) (w1 : eW) (q : kq cd w w1) : e_Pn 20 elay kcode eI n d 164 (161, (0, (1, 1)) :: tl, [(0, s0)], w1) (fun r w' => r = [] ∧ kq cd w w') := by
  have hn := hR.1.n
  refine e_Pn.if1 kAlk rfl (fun h1 => ?_) (fun h1 => ?_)
  · show e_Pn 20 elay kcode eI n d 164 (189, (0, (1, 1)) :: tl, [], w1) _
    refine e_Pn.run (t' := (190, (0, (1, 1)) :: tl, [(1, 1)], w1)) kAlk 1 rfl ?_
    refine e_Pn.callA rfl (fun n9 d9 => kE_all n9 165 (by decide) d9 _ _ (q.rf hR)) (fun r3 w4 h2 => ?_)
    obtain ⟨rfl, h2⟩ := h2
    have q5 := q.tr h2
    show e_Pn 20 elay kcode eI n d 164 (193, (0, (1, 1)) :: tl, [], w4) _
    exact e_Pn.ord kAlk [0] rfl rfl (v_164_193 hR _ w4 q5)
  · show e_Pn 20 elay kcode eI n d 164 (164, (0, (1, 1)) :: tl, [], w1) _
    refine e_Pn.run (t' := (165, (0, (1, 1)) :: tl, [(1, 1)], w1)) kAlk 1 rfl ?_
    refine e_Pn.getr (z := cd) kAlk rfl rfl (q.rf hR).2.1 (by omega) ?_
    refine e_Pn.run (t' := (170, (0, (1, 1)) :: tl, [(1, 1), (0, 5), (1, cd)], w1)) kAlk 2 rfl ?_
    refine e_Pn.getf (z := w1 1 5) kAlk rfl rfl rfl (fun b6 => ?_)
    refine e_Pn.bin0 kAlk rfl (fun z7 hz7 => ?_)
    refine e_Pn.run (t' := (176, (0, (1, 1)) :: tl, [(0, 50), (0, z7), (1, cd)], w1)) kAlk 1 rfl ?_
    refine e_Pn.bin0 kAlk rfl (fun z8 hz8 => ?_)
    refine e_Pn.run (t' := (178, (0, (1, 1)) :: tl, [(0, 0), (0, z8), (1, cd)], w1)) kAlk 1 rfl ?_
    refine e_Pn.callA rfl (fun n9 d9 => u_21 (q.rf hR)) (fun r10 w11 h9 => ?_)
    obtain ⟨⟨z12, rfl⟩, h9⟩ := h9
    have q13 := q.tr h9
    show e_Pn 20 elay kcode eI n d 164 (181, (0, (1, 1)) :: tl, [(0, z12)], w11) _
    exact e_Pn.ord kAlk [0] rfl rfl (v_164_181 hR _ z12 w11 q13)
set_option maxHeartbeats 4000000 in
theorem v_164_146 {n d : Nat} {w : eW} {cd : Int} (hR : kRw cd w) (tl : eL) (y1 : Int) (s0 : Int) (w1 : eW) (q : kq cd w w1) : e_Pn 20 elay kcode eI n d 164 (146, (0, (1, 1)) :: (1, (0, y1)) :: tl, [(0, s0)], w1) (fun r w' => r = [] ∧ kq cd w w') := by
  have hn := hR.1.n
  refine e_Pn.run (t' := (193, (0, (1, 1)) :: (1, (0, y1)) :: tl, [], w1)) kAlk 2 rfl ?_
  exact e_Pn.ord kAlk [0] rfl rfl (v_164_193 hR _ w1 q)
set_option maxHeartbeats 4000000 in
theorem v_164_137 {n d : Nat} {w : eW} {cd : Int} (hR : kRw cd w) (tl : eL) (y1 : Int) (w1 : eW) (q : kq cd w w1) : e_Pn 20 elay kcode eI n d 164 (137, (0, (1, 1)) :: (1, (0, y1)) :: tl, [], w1) (fun r w' => r = [] ∧ kq cd w w') := by
  have hn := hR.1.n
  refine e_Pn.run (t' := (138, (0, (1, 1)) :: (1, (0, y1)) :: tl, [(1, 1)], w1)) kAlk 1 rfl ?_
  refine e_Pn.getr (z := cd) kAlk rfl rfl (q.rf hR).2.1 (by omega) ?_
  refine e_Pn.run (t' := (143, (0, (1, 1)) :: (1, (0, y1)) :: tl, [(0, 0), (0, y1), (1, cd)], w1)) kAlk 2 rfl ?_
  refine e_Pn.callA rfl (fun n9 d9 => u_21 (q.rf hR)) (fun r2 w3 h1 => ?_)
  obtain ⟨⟨z4, rfl⟩, h1⟩ := h1
  have q5 := q.tr h1
  show e_Pn 20 elay kcode eI n d 164 (146, (0, (1, 1)) :: (1, (0, y1)) :: tl, [(0, z4)], w3) _
  exact e_Pn.ord kAlk [0, 1] rfl rfl (v_164_146 hR _ y1 z4 w3 q5)
set_option maxHeartbeats 4000000 in
theorem v_164_133 {n d : Nat} {w : eW} {cd : Int} (hR : kRw cd w) (tl : eL) (y1 : Int) (w1 : eW) (q : kq cd w w1) : e_Pn 20 elay kcode eI n d 164 (133, (0, (1, 1)) :: (1, (0, y1)) :: tl, [], w1) (fun r w' => r = [] ∧ kq cd w w') := by
  have hn := hR.1.n
  refine e_Pn.run (t' := (134, (0, (1, 1)) :: (1, (0, y1)) :: tl, [(1, 1)], w1)) kAlk 1 rfl ?_
  refine e_Pn.callA rfl (fun n9 d9 => kE_all n9 165 (by decide) d9 _ _ (q.rf hR)) (fun r2 w3 h1 => ?_)
  obtain ⟨rfl, h1⟩ := h1
  have q4 := q.tr h1
  show e_Pn 20 elay kcode eI n d 164 (137, (0, (1, 1)) :: (1, (0, y1)) :: tl, [], w3) _
  exact e_Pn.ord kAlk [0, 1] rfl rfl (v_164_137 hR _ y1 w3 q4)
set_option maxHeartbeats 4000000 in
theorem v_164_93 {n d : Nat} {w : eW} {cd : Int} (hR : kRw cd w) (tl : eL) (w1 : eW) (q : kq cd w w1) : e_Pn 20 elay kcode eI n d 164 (93, (0, (1, 1)) :: tl, [], w1) (fun r w' => r = [] ∧ kq cd w w') := by
  have hn := hR.1.n
  refine e_Pn.run (t' := (193, (0, (1, 1)) :: tl, [], w1)) kAlk 1 rfl ?_
  exact e_Pn.ord kAlk [0] rfl rfl (v_164_193 hR _ w1 q)
set_option maxHeartbeats 4000000 in
theorem v_164_88 {n d : Nat} {w : eW} {cd : Int} (hR : kRw cd w) (tl : eL) (s0 : Int) (w1 : eW) (q : kq cd w w1) : e_Pn 20 elay kcode eI n d 164 (88, (0, (1, 1)) :: tl, [(0, s0)], w1) (fun r w' => r = [] ∧ kq cd w w') := by
  have hn := hR.1.n
  refine e_Pn.run (t' := (90, (0, (1, 1)) :: tl, [(1, 1)], w1)) kAlk 2 rfl ?_
  refine e_Pn.callA rfl (fun n9 d9 => u_123 (q.rf hR)) (fun r2 w3 h1 => ?_)
  obtain ⟨rfl, h1⟩ := h1
  have q4 := q.tr h1
  show e_Pn 20 elay kcode eI n d 164 (93, (0, (1, 1)) :: tl, [], w3) _
  exact e_Pn.ord kAlk [0] rfl rfl (v_164_93 hR _ w3 q4)
set_option maxHeartbeats 4000000 in
theorem v_164_85 {n d : Nat} {w : eW} {cd : Int} (hR : kRw cd w) (tl : eL) (s0 : Int) (s1 : Int) (w1 : eW) (q : kq cd w w1) : e_Pn 20 elay kcode eI n d 164 (85, (0, (1, 1)) :: tl, [(0, s0), (0, s1), (1, cd)], w1) (fun r w' => r = [] ∧ kq cd w w') := by
  have hn := hR.1.n
  refine e_Pn.callA rfl (fun n9 d9 => u_21 (q.rf hR)) (fun r2 w3 h1 => ?_)
  obtain ⟨⟨z4, rfl⟩, h1⟩ := h1
  have q5 := q.tr h1
  show e_Pn 20 elay kcode eI n d 164 (88, (0, (1, 1)) :: tl, [(0, z4)], w3) _
  exact e_Pn.ord kAlk [0] rfl rfl (v_164_88 hR _ z4 w3 q5)
set_option maxHeartbeats 4000000 in
theorem v_164_65 {n d : Nat} {w : eW} {cd : Int} (hR : kRw cd w) (tl : eL) (w1 : eW) (q : kq cd w w1) : e_Pn 20 elay kcode eI n d 164 (65, (0, (1, 1)) :: tl, [], w1) (fun r w' => r = [] ∧ kq cd w w') := by
  have hn := hR.1.n
  refine e_Pn.run (t' := (193, (0, (1, 1)) :: tl, [], w1)) kAlk 1 rfl ?_
  exact e_Pn.ord kAlk [0] rfl rfl (v_164_193 hR _ w1 q)
set_option maxHeartbeats 4000000 in
theorem v_164_61 {n d : Nat} {w : eW} {cd : Int} (hR : kRw cd w) (tl : eL) (w1 : eW) (q : kq cd w w1) : e_Pn 20 elay kcode eI n d 164 (61, (0, (1, 1)) :: tl, [], w1) (fun r w' => r = [] ∧ kq cd w w') := by
  have hn := hR.1.n
  refine e_Pn.run (t' := (62, (0, (1, 1)) :: tl, [(1, 1)], w1)) kAlk 1 rfl ?_
  refine e_Pn.callA rfl (fun n9 d9 => u_123 (q.rf hR)) (fun r2 w3 h1 => ?_)
  obtain ⟨rfl, h1⟩ := h1
  have q4 := q.tr h1
  show e_Pn 20 elay kcode eI n d 164 (65, (0, (1, 1)) :: tl, [], w3) _
  exact e_Pn.ord kAlk [0] rfl rfl (v_164_65 hR _ w3 q4)
set_option maxHeartbeats 4000000 in
theorem v_164_45 {n d : Nat} {w : eW} {cd : Int} (hR : kRw cd w) (tl : eL) (s0 : Int) (w1 : eW) (q : kq cd w w1) : e_Pn 20 elay kcode eI n d 164 (45, (0, (1, 1)) :: tl, [(0, s0)], w1) (fun r w' => r = [] ∧ kq cd w w') := by
  have hn := hR.1.n
  refine e_Pn.run (t' := (193, (0, (1, 1)) :: tl, [], w1)) kAlk 2 rfl ?_
  exact e_Pn.ord kAlk [0] rfl rfl (v_164_193 hR _ w1 q)
set_option maxHeartbeats 4000000 in
theorem v_164_25 {n d : Nat} {w : eW} {cd : Int} (hR : kRw cd w) (tl : eL) (w1 : eW) (q : kq cd w w1) : e_Pn 20 elay kcode eI n d 164 (25, (0, (1, 1)) :: tl, [], w1) (fun r w' => r = [] ∧ kq cd w w') := by
  have hn := hR.1.n
  refine e_Pn.run (t' := (27, (0, (1, 1)) :: tl, [(1, 1), (1, 1)], w1)) kAlk 2 rfl ?_
  refine e_Pn.getf (z := w1 1 11) kAlk rfl rfl rfl (fun b1 => ?_)
  refine e_Pn.run (t' := (31, (0, (1, 1)) :: tl, [(0, 1), (0, w1 1 11), (1, 1)], w1)) kAlk 1 rfl ?_
  refine e_Pn.bin0 kAlk rfl (fun z2 hz2 => ?_)
  refine e_Pn.putf kAlk rfl rfl ?_
  generalize hw3 : e_up w1 1 11 z2 = w3
  have q4 : kq cd w w3 := kq.up q hR.1 hw3 (by decide) (fun _ => by decide) (fun g => absurd g.symm hn.1)
  refine e_Pn.run (t' := (36, (0, (1, 1)) :: tl, [(1, 1)], w3)) kAlk 1 rfl ?_
  refine e_Pn.getr (z := cd) kAlk rfl rfl (q4.rf hR).2.1 (by omega) ?_
  refine e_Pn.run (t' := (42, (0, (1, 1)) :: tl, [(0, 0), (0, 9), (1, cd)], w3)) kAlk 2 rfl ?_
  refine e_Pn.callA rfl (fun n9 d9 => u_21 (q4.rf hR)) (fun r6 w7 h5 => ?_)
  obtain ⟨⟨z8, rfl⟩, h5⟩ := h5
  have q9 := q4.tr h5
  show e_Pn 20 elay kcode eI n d 164 (45, (0, (1, 1)) :: tl, [(0, z8)], w7) _
  exact e_Pn.ord kAlk [0] rfl rfl (v_164_45 hR _ z8 w7 q9)
set_option maxHeartbeats 4000000 in
theorem v_164_21 {n d : Nat} {w : eW} {cd : Int} (hR : kRw cd w) (tl : eL) (w1 : eW) (q : kq cd w w1) : e_Pn 20 elay kcode eI n d 164 (21, (0, (1, 1)) :: tl, [], w1) (fun r w' => r = [] ∧ kq cd w w') := by
  have hn := hR.1.n
  refine e_Pn.run (t' := (22, (0, (1, 1)) :: tl, [(1, 1)], w1)) kAlk 1 rfl ?_
  refine e_Pn.callA rfl (fun n9 d9 => kE_all n9 164 (by decide) d9 _ _ (q.rf hR)) (fun r2 w3 h1 => ?_)
  obtain ⟨rfl, h1⟩ := h1
  have q4 := q.tr h1
  show e_Pn 20 elay kcode eI n d 164 (25, (0, (1, 1)) :: tl, [], w3) _
  exact e_Pn.ord kAlk [0] rfl rfl (v_164_25 hR _ w3 q4)
set_option maxHeartbeats 4000000 in
theorem v_164_13 {n d : Nat} {w : eW} {cd : Int} (hR : kRw cd w) (tl : eL) (s0 : Int) (w1 : eW) (q : kq cd w w1) : e_Pn 20 elay kcode eI n d 164 (13, (0, (1, 1)) :: tl, [(0, s0)], w1) (fun r w' => r = [] ∧ kq cd w w') := by
  have hn := hR.1.n
  refine e_Pn.if1 kAlk rfl (fun h1 => ?_) (fun h1 => ?_)
  · show e_Pn 20 elay kcode eI n d 164 (17, (0, (1, 1)) :: tl, [], w1) _
    refine e_Pn.run (t' := (18, (0, (1, 1)) :: tl, [(1, 1)], w1)) kAlk 1 rfl ?_
    refine e_Pn.callA rfl (fun n9 d9 => u_123 (q.rf hR)) (fun r3 w4 h2 => ?_)
    obtain ⟨rfl, h2⟩ := h2
    have q5 := q.tr h2
    show e_Pn 20 elay kcode eI n d 164 (21, (0, (1, 1)) :: tl, [], w4) _
    exact e_Pn.ord kAlk [0] rfl rfl (v_164_21 hR _ w4 q5)
  · show e_Pn 20 elay kcode eI n d 164 (16, (0, (1, 1)) :: tl, [], w1) _
    exact e_Pn.ret0 rfl ⟨rfl, q⟩
set_option maxHeartbeats 4000000 in
theorem v_165_36 {n d : Nat} {w : eW} {cd : Int} (hR : kRw cd w) (tl : eL) (w1 : eW) (q : kq cd w w1) : e_Pn 20 elay kcode eI n d 165 (36, (0, (1, 1)) :: tl, [], w1) (fun r w' => r = [] ∧ kq cd w w') := by
  have hn := hR.1.n
  refine e_Pn.run (t' := (38, (0, (1, 1)) :: tl, [(1, 1), (1, 1)], w1)) kAlk 2 rfl ?_
  refine e_Pn.getf (z := w1 1 11) kAlk rfl rfl rfl (fun b1 => ?_)
  refine e_Pn.run (t' := (42, (0, (1, 1)) :: tl, [(0, 1), (0, w1 1 11), (1, 1)], w1)) kAlk 1 rfl ?_
  refine e_Pn.bin0 kAlk rfl (fun z2 hz2 => ?_)
  refine e_Pn.putf kAlk rfl rfl ?_
  generalize hw3 : e_up w1 1 11 z2 = w3
  have q4 : kq cd w w3 := kq.up q hR.1 hw3 (by decide) (fun _ => by decide) (fun g => absurd g.symm hn.1)
  exact e_Pn.ret0 rfl ⟨rfl, q4⟩
set_option maxHeartbeats 4000000 in
theorem v_165_30 {n d : Nat} {w : eW} {cd : Int} (hR : kRw cd w) (tl : eL) (w1 : eW) (q : kq cd w w1) : e_Pn 20 elay kcode eI n d 165 (30, (0, (1, 1)) :: tl, [], w1) (fun r w' => r = [] ∧ kq cd w w') := by
  have hn := hR.1.n
  refine e_Pn.run (t' := (33, (0, (1, 1)) :: tl, [(0, 17), (1, 1)], w1)) kAlk 2 rfl ?_
  refine e_Pn.callA rfl (fun n9 d9 => u_129 (q.rf hR)) (fun r2 w3 h1 => ?_)
  obtain ⟨rfl, h1⟩ := h1
  have q4 := q.tr h1
  show e_Pn 20 elay kcode eI n d 165 (36, (0, (1, 1)) :: tl, [], w3) _
  exact e_Pn.ord kAlk [0] rfl rfl (v_165_36 hR _ w3 q4)
set_option maxHeartbeats 4000000 in
theorem v_165_26 {n d : Nat} {w : eW} {cd : Int} (hR : kRw cd w) (tl : eL) (w1 : eW) (q : kq cd w w1) : e_Pn 20 elay kcode eI n d 165 (26, (0, (1, 1)) :: tl, [], w1) (fun r w' => r = [] ∧ kq cd w w') := by
  have hn := hR.1.n
  refine e_Pn.run (t' := (27, (0, (1, 1)) :: tl, [(1, 1)], w1)) kAlk 1 rfl ?_
  refine e_Pn.callA rfl (fun n9 d9 => kE_all n9 158 (by decide) d9 _ _ (q.rf hR)) (fun r2 w3 h1 => ?_)
  obtain ⟨rfl, h1⟩ := h1
  have q4 := q.tr h1
  show e_Pn 20 elay kcode eI n d 165 (30, (0, (1, 1)) :: tl, [], w3) _
  exact e_Pn.ord kAlk [0] rfl rfl (v_165_30 hR _ w3 q4)
set_option maxHeartbeats 4000000 in
theorem v_165_18 {n d : Nat} {w : eW} {cd : Int} (hR : kRw cd w) (tl : eL) (s0 : Int) (w1 : eW) (q : kq cd w w1) : e_Pn 20 elay kcode eI n d 165 (18, (0, (1, 1)) :: tl, [(0, s0)], w1) (fun r w' => r = [] ∧ kq cd w w') := by
  have hn := hR.1.n
  refine e_Pn.if1 kAlk rfl (fun h1 => ?_) (fun h1 => ?_)
  · show e_Pn 20 elay kcode eI n d 165 (22, (0, (1, 1)) :: tl, [], w1) _
    refine e_Pn.run (t' := (23, (0, (1, 1)) :: tl, [(1, 1)], w1)) kAlk 1 rfl ?_
    refine e_Pn.callA rfl (fun n9 d9 => u_123 (q.rf hR)) (fun r3 w4 h2 => ?_)
    obtain ⟨rfl, h2⟩ := h2
    have q5 := q.tr h2
    show e_Pn 20 elay kcode eI n d 165 (26, (0, (1, 1)) :: tl, [], w4) _
    exact e_Pn.ord kAlk [0] rfl rfl (v_165_26 hR _ w4 q5)
  · show e_Pn 20 elay kcode eI n d 165 (21, (0, (1, 1)) :: tl, [], w1) _
    exact e_Pn.ret0 rfl ⟨rfl, q⟩
set_option maxHeartbeats 4000000 in
theorem v_165_13 {n d : Nat} {w : eW} {cd : Int} (hR : kRw cd w) (tl : eL) (w1 : eW) (q : kq cd w w1) : e_Pn 20 elay kcode eI n d 165 (13, (0, (1, 1)) :: tl, [], w1) (fun r w' => r = [] ∧ kq cd w w') := by
  have hn := hR.1.n
  exact e_Pn.ret0 rfl ⟨rfl, q⟩
theorem v_166_54 {n d : Nat} {w : eW} {cd : Int} (hR : kRw cd w) (tl : eL) (y1 : Int) (s0 : Int) (w1 : eW) (q : kq cd w w1) : e_Pn 20 elay kcode eI n d 166 (54, (0, (1, 1)) :: (1, (0, y1)) :: tl, [(0, s0)], w1) (fun r w' => r = [] ∧ kq cd w w') := by
  have hn := hR.1.n
  refine e_Pn.run (t' := (55, (0, (1, 1)) :: (1, (0, y1)) :: tl, [], w1)) kAlk 1 rfl ?_
  exact e_Pn.ret0 rfl ⟨rfl, q⟩
theorem v_166_37 {n d : Nat} {w : eW} {cd : Int} (hR : kRw cd w) (tl : eL) (y1 : Int) (s0 : Int) (w1 : eW) (q : kq cd w w1) : e_Pn 20 elay kcode eI n d 166 (37, (0, (1, 1)) :: (1, (0, y1)) :: tl, [(0, s0)], w1) (fun r w' => r = [] ∧ kq cd w w') := by
  have hn := hR.1.n
  refine e_Pn.run (t' := (39, (0, (1, 1)) :: (1, (0, y1)) :: tl, [(1, 1)], w1)) kAlk 2 rfl ?_
  refine e_Pn.getr (z := cd) kAlk rfl rfl (q.rf hR).2.1 (by omega) ?_
  refine e_Pn.run (t' := (44, (0, (1, 1)) :: (1, (0, y1)) :: tl, [(1, 1), (0, 1), (1, cd)], w1)) kAlk 2 rfl ?_
  refine e_Pn.getf (z := w1 1 8) kAlk rfl rfl rfl (fun b1 => ?_)
  refine e_Pn.run (t' := (50, (0, (1, 1)) :: (1, (0, y1)) :: tl, [(0, 65535), (0, w1 1 8), (0, 1), (1, cd)], w1)) kAlk 1 rfl ?_
  refine e_Pn.bin0 kAlk rfl (fun z2 hz2 => ?_)
  refine e_Pn.callA rfl (fun n9 d9 => u_21 (q.rf hR)) (fun r4 w5 h3 => ?_)
  obtain ⟨⟨z6, rfl⟩, h3⟩ := h3
  have q7 := q.tr h3
  show e_Pn 20 elay kcode eI n d 166 (54, (0, (1, 1)) :: (1, (0, y1)) :: tl, [(0, z6)], w5) _
  exact e_Pn.ord kAlk [0, 1] rfl rfl (v_166_54 hR _ y1 z6 w5 q7)
theorem v_166_24 {n d : Nat} {w : eW} {cd : Int} (hR : kRw cd w) (tl : eL) (y1 : Int) (s0 : Int) (w1 : eW) (q : kq cd w w1) : e_Pn 20 elay kcode eI n d 166 (24, (0, (1, 1)) :: (1, (0, y1)) :: tl, [(0, s0)], w1) (fun r w' => r = [] ∧ kq cd w w') := by
  have hn := hR.1.n
  refine e_Pn.run (t' := (55, (0, (1, 1)) :: (1, (0, y1)) :: tl, [], w1)) kAlk 2 rfl ?_
  exact e_Pn.ret0 rfl ⟨rfl, q⟩
theorem v_146_19 {n d : Nat} {w : eW} {cd : Int} (hR : kRw cd w) (tl : eL) (y1 : Int) (s0 : Int) (w1 : eW) (q : kq cd w w1) : e_Pn 20 elay kcode eI n d 146 (19, (0, (1, 1)) :: (1, (0, y1)) :: tl, [(0, s0)], w1) (fun r w' => r = [] ∧ kq cd w w') := by
  have hn := hR.1.n
  refine e_Pn.run (t' := (20, (0, (1, 1)) :: (1, (0, y1)) :: tl, [], w1)) kAlk 1 rfl ?_
  exact e_Pn.ret0 rfl ⟨rfl, q⟩
theorem v_146_10 {n d : Nat} {w : eW} {cd : Int} (hR : kRw cd w) (tl : eL) (y1 : Int) (w1 : eW) (q : kq cd w w1) : e_Pn 20 elay kcode eI n d 146 (10, (0, (1, 1)) :: (1, (0, y1)) :: tl, [], w1) (fun r w' => r = [] ∧ kq cd w w') := by
  have hn := hR.1.n
  refine e_Pn.run (t' := (11, (0, (1, 1)) :: (1, (0, y1)) :: tl, [(1, 1)], w1)) kAlk 1 rfl ?_
  refine e_Pn.getr (z := cd) kAlk rfl rfl (q.rf hR).2.1 (by omega) ?_
  refine e_Pn.run (t' := (16, (0, (1, 1)) :: (1, (0, y1)) :: tl, [(0, 0), (0, y1), (1, cd)], w1)) kAlk 2 rfl ?_
  refine e_Pn.callA rfl (fun n9 d9 => u_21 (q.rf hR)) (fun r2 w3 h1 => ?_)
  obtain ⟨⟨z4, rfl⟩, h1⟩ := h1
  have q5 := q.tr h1
  show e_Pn 20 elay kcode eI n d 146 (19, (0, (1, 1)) :: (1, (0, y1)) :: tl, [(0, z4)], w3) _
  exact e_Pn.ord kAlk [0, 1] rfl rfl (v_146_19 hR _ y1 z4 w3 q5)
theorem v_146_4 {n d : Nat} {w : eW} {cd : Int} (hR : kRw cd w) (tl : eL) (y1 : Int) (w1 : eW) (q : kq cd w w1) : e_Pn 20 elay kcode eI n d 146 (4, (0, (1, 1)) :: (1, (0, y1)) :: tl, [], w1) (fun r w' => r = [] ∧ kq cd w w') := by
  have hn := hR.1.n
  refine e_Pn.run (t' := (7, (0, (1, 1)) :: (1, (0, y1)) :: tl, [(0, 19), (1, 1)], w1)) kAlk 2 rfl ?_
  refine e_Pn.callA rfl (fun n9 d9 => u_129 (q.rf hR)) (fun r2 w3 h1 => ?_)
  obtain ⟨rfl, h1⟩ := h1
  have q4 := q.tr h1
  show e_Pn 20 elay kcode eI n d 146 (10, (0, (1, 1)) :: (1, (0, y1)) :: tl, [], w3) _
  exact e_Pn.ord kAlk [0, 1] rfl rfl (v_146_10 hR _ y1 w3 q4)
theorem v_147_31 {n d : Nat} {w : eW} {cd : Int} (hR : kRw cd w) (tl : eL) (y1 : Int) (y2 : Int) (s0 : Int) (w1 : eW) (q : kq cd w w1) : e_Pn 20 elay kcode eI n d 147 (31, (0, (1, 1)) :: (1, (0, y1)) :: (2, (0, y2)) :: tl, [(0, s0)], w1) (fun r w' => r = [] ∧ kq cd w w') := by
  have hn := hR.1.n
  refine e_Pn.run (t' := (32, (0, (1, 1)) :: (1, (0, y1)) :: (2, (0, y2)) :: tl, [], w1)) kAlk 1 rfl ?_
  exact e_Pn.ret0 rfl ⟨rfl, q⟩
theorem v_147_22 {n d : Nat} {w : eW} {cd : Int} (hR : kRw cd w) (tl : eL) (y1 : Int) (y2 : Int) (w1 : eW) (q : kq cd w w1) : e_Pn 20 elay kcode eI n d 147 (22, (0, (1, 1)) :: (1, (0, y1)) :: (2, (0, y2)) :: tl, [], w1) (fun r w' => r = [] ∧ kq cd w w') := by
  have hn := hR.1.n
  refine e_Pn.run (t' := (23, (0, (1, 1)) :: (1, (0, y1)) :: (2, (0, y2)) :: tl, [(1, 1)], w1)) kAlk 1 rfl ?_
  refine e_Pn.getr (z := cd) kAlk rfl rfl (q.rf hR).2.1 (by omega) ?_
  refine e_Pn.run (t' := (28, (0, (1, 1)) :: (1, (0, y1)) :: (2, (0, y2)) :: tl, [(0, y2), (0, y1), (1, cd)], w1)) kAlk 2 rfl ?_
  refine e_Pn.callA rfl (fun n9 d9 => u_21 (q.rf hR)) (fun r2 w3 h1 => ?_)
  obtain ⟨⟨z4, rfl⟩, h1⟩ := h1
  have q5 := q.tr h1
  show e_Pn 20 elay kcode eI n d 147 (31, (0, (1, 1)) :: (1, (0, y1)) :: (2, (0, y2)) :: tl, [(0, z4)], w3) _
  exact e_Pn.ord kAlk [0, 1, 2] rfl rfl (v_147_31 hR _ y1 y2 z4 w3 q5)
theorem v_147_16 {n d : Nat} {w : eW} {cd : Int} (hR : kRw cd w) (tl : eL) (y1 : Int) (y2 : Int) (w1 : eW) (q : kq cd w w1) : e_Pn 20 elay kcode eI n d 147 (16, (0, (1, 1)) :: (1, (0, y1)) :: (2, (0, y2)) :: tl, [], w1) (fun r w' => r = [] ∧ kq cd w w') := by
  have hn := hR.1.n
  refine e_Pn.run (t' := (19, (0, (1, 1)) :: (1, (0, y1)) :: (2, (0, y2)) :: tl, [(0, 19), (1, 1)], w1)) kAlk 2 rfl ?_
  refine e_Pn.callA rfl (fun n9 d9 => u_129 (q.rf hR)) (fun r2 w3 h1 => ?_)
  obtain ⟨rfl, h1⟩ := h1
  have q4 := q.tr h1
  show e_Pn 20 elay kcode eI n d 147 (22, (0, (1, 1)) :: (1, (0, y1)) :: (2, (0, y2)) :: tl, [], w3) _
  exact e_Pn.ord kAlk [0, 1, 2] rfl rfl (v_147_22 hR _ y1 y2 w3 q4)
theorem v_147_4 {n d : Nat} {w : eW} {cd : Int} (hR : kRw cd w) (tl : eL) (y1 : Int) (w1 : eW) (q : kq cd w w1) : e_Pn 20 elay kcode eI n d 147 (4, (0, (1, 1)) :: (1, (0, y1)) :: tl, [], w1) (fun r w' => r = [] ∧ kq cd w w') := by
  have hn := hR.1.n
  refine e_Pn.run (t' := (5, (0, (1, 1)) :: (1, (0, y1)) :: tl, [(1, 1)], w1)) kAlk 1 rfl ?_
  refine e_Pn.getr (z := cd) kAlk rfl rfl (q.rf hR).2.1 (by omega) ?_
  refine e_Pn.getf (z := w1 cd 0) kAlk rfl rfl rfl (fun b1 => ?_)
  refine e_Pn.run (t' := (13, (2, (0, w1 cd 0)) :: (0, (1, 1)) :: (1, (0, y1)) :: List.filter (e_flt 0 2) tl, [(1, 1)], w1)) kAlk 2 rfl ?_
  refine e_Pn.callA rfl (fun n9 d9 => kE_all n9 158 (by decide) d9 _ _ (q.rf hR)) (fun r3 w4 h2 => ?_)
  obtain ⟨rfl, h2⟩ := h2
  have q5 := q.tr h2
  show e_Pn 20 elay kcode eI n d 147 (16, (2, (0, w1 cd 0)) :: (0, (1, 1)) :: (1, (0, y1)) :: List.filter (e_flt 0 2) tl, [], w4) _
  exact e_Pn.ord kAlk [0, 1, 2] rfl rfl (v_147_16 hR _ y1 (w1 cd 0) w4 q5)
theorem v_148_29 {n d : Nat} {w : eW} {cd : Int} (hR : kRw cd w) (tl : eL) (y1 : Int) (y2 : Int) (s0 : Int) (w1 : eW) (q : kq cd w w1) : e_Pn 20 elay kcode eI n d 148 (29, (0, (1, 1)) :: (1, (0, y1)) :: (2, (0, y2)) :: tl, [(0, s0)], w1) (fun r w' => r = [] ∧ kq cd w w') := by
  have hn := hR.1.n
  refine e_Pn.run (t' := (30, (0, (1, 1)) :: (1, (0, y1)) :: (2, (0, y2)) :: tl, [], w1)) kAlk 1 rfl ?_
  exact e_Pn.ret0 rfl ⟨rfl, q⟩
theorem v_148_20 {n d : Nat} {w : eW} {cd : Int} (hR : kRw cd w) (tl : eL) (y1 : Int) (y2 : Int) (w1 : eW) (q : kq cd w w1) : e_Pn 20 elay kcode eI n d 148 (20, (0, (1, 1)) :: (1, (0, y1)) :: (2, (0, y2)) :: tl, [], w1) (fun r w' => r = [] ∧ kq cd w w') := by
  have hn := hR.1.n
  refine e_Pn.run (t' := (21, (0, (1, 1)) :: (1, (0, y1)) :: (2, (0, y2)) :: tl, [(1, 1)], w1)) kAlk 1 rfl ?_
  refine e_Pn.getr (z := cd) kAlk rfl rfl (q.rf hR).2.1 (by omega) ?_
  refine e_Pn.run (t' := (26, (0, (1, 1)) :: (1, (0, y1)) :: (2, (0, y2)) :: tl, [(0, y2), (0, y1), (1, cd)], w1)) kAlk 2 rfl ?_
  refine e_Pn.callA rfl (fun n9 d9 => u_21 (q.rf hR)) (fun r2 w3 h1 => ?_)
  obtain ⟨⟨z4, rfl⟩, h1⟩ := h1
  have q5 := q.tr h1
  show e_Pn 20 elay kcode eI n d 148 (29, (0, (1, 1)) :: (1, (0, y1)) :: (2, (0, y2)) :: tl, [(0, z4)], w3) _
  exact e_Pn.ord kAlk [0, 1, 2] rfl rfl (v_148_29 hR _ y1 y2 z4 w3 q5)
theorem v_148_14 {n d : Nat} {w : eW} {cd : Int} (hR : kRw cd w) (tl : eL) (y1 : Int) (y2 : Int) (w1 : eW) (q : kq cd w w1) : e_Pn 20 elay kcode eI n d 148 (14, (0, (1, 1)) :: (1, (0, y1)) :: (2, (0, y2)) :: tl, [], w1) (fun r w' => r = [] ∧ kq cd w w') := by
  have hn := hR.1.n
  refine e_Pn.run (t' := (17, (0, (1, 1)) :: (1, (0, y1)) :: (2, (0, y2)) :: tl, [(0, 19), (1, 1)], w1)) kAlk 2 rfl ?_
  refine e_Pn.callA rfl (fun n9 d9 => u_129 (q.rf hR)) (fun r2 w3 h1 => ?_)
  obtain ⟨rfl, h1⟩ := h1
  have q4 := q.tr h1
  show e_Pn 20 elay kcode eI n d 148 (20, (0, (1, 1)) :: (1, (0, y1)) :: (2, (0, y2)) :: tl, [], w3) _
  exact e_Pn.ord kAlk [0, 1, 2] rfl rfl (v_148_20 hR _ y1 y2 w3 q4)
theorem v_148_4 {n d : Nat} {w : eW} {cd : Int} (hR : kRw cd w) (tl : eL) (y1 : Int) (w1 : eW) (q : kq cd w w1) : e_Pn 20 elay kcode eI n d 148 (4, (0, (1, 1)) :: (1, (0, y1)) :: tl, [], w1) (fun r w' => r = [] ∧ kq cd w w') := by
  have hn := hR.1.n
  refine e_Pn.run (t' := (5, (0, (1, 1)) :: (1, (0, y1)) :: tl, [(1, 1)], w1)) kAlk 1 rfl ?_
  refine e_Pn.getf (z := w1 1 6) kAlk rfl rfl rfl (fun b1 => ?_)
  refine e_Pn.run (t' := (11, (2, (0, w1 1 6)) :: (0, (1, 1)) :: (1, (0, y1)) :: List.filter (e_flt 0 2) tl, [(0, 1), (1, 1)], w1)) kAlk 3 rfl ?_
  refine e_Pn.callA rfl (fun n9 d9 => u_129 (q.rf hR)) (fun r3 w4 h2 => ?_)
  obtain ⟨rfl, h2⟩ := h2
  have q5 := q.tr h2
  show e_Pn 20 elay kcode eI n d 148 (14, (2, (0, w1 1 6)) :: (0, (1, 1)) :: (1, (0, y1)) :: List.filter (e_flt 0 2) tl, [], w4) _
  exact e_Pn.ord kAlk [0, 1, 2] rfl rfl (v_148_14 hR _ y1 (w1 1 6) w4 q5)
theorem v_149_35 {n d : Nat} {w : eW} {cd : Int} (hR : kRw cd w) (tl : eL) (y1 : Int) (s0 : Int) (w1 : eW) (q : kq cd w w1) : e_Pn 20 elay kcode eI n d 149 (35, (0, (1, 1)) :: (1, (0, y1)) :: tl, [(0, s0)], w1) (fun r w' => r = [] ∧ kq cd w w') := by
  have hn := hR.1.n
  refine e_Pn.run (t' := (36, (0, (1, 1)) :: (1, (0, y1)) :: tl, [], w1)) kAlk 1 rfl ?_
  exact e_Pn.ret0 rfl ⟨rfl, q⟩
theorem v_149_25 {n d : Nat} {w : eW} {cd : Int} (hR : kRw cd w) (tl : eL) (y1 : Int) (w1 : eW) (q : kq cd w w1) : e_Pn 20 elay kcode eI n d 149 (25, (0, (1, 1)) :: (1, (0, y1)) :: tl, [], w1) (fun r w' => r = [] ∧ kq cd w w') := by
  have hn := hR.1.n
  refine e_Pn.run (t' := (26, (0, (1, 1)) :: (1, (0, y1)) :: tl, [(1, 1)], w1)) kAlk 1 rfl ?_
  refine e_Pn.getr (z := cd) kAlk rfl rfl (q.rf hR).2.1 (by omega) ?_
  refine e_Pn.run (t' := (32, (0, (1, 1)) :: (1, (0, y1)) :: tl, [(0, y1), (0, 25), (1, cd)], w1)) kAlk 2 rfl ?_
  refine e_Pn.callA rfl (fun n9 d9 => u_21 (q.rf hR)) (fun r2 w3 h1 => ?_)
  obtain ⟨⟨z4, rfl⟩, h1⟩ := h1
  have q5 := q.tr h1
  show e_Pn 20 elay kcode eI n d 149 (35, (0, (1, 1)) :: (1, (0, y1)) :: tl, [(0, z4)], w3) _
  exact e_Pn.ord kAlk [0, 1] rfl rfl (v_149_35 hR _ y1 z4 w3 q5)
theorem v_149_19 {n d : Nat} {w : eW} {cd : Int} (hR : kRw cd w) (tl : eL) (y1 : Int) (w1 : eW) (q : kq cd w w1) : e_Pn 20 elay kcode eI n d 149 (19, (0, (1, 1)) :: (1, (0, y1)) :: tl, [], w1) (fun r w' => r = [] ∧ kq cd w w') := by
  have hn := hR.1.n
  refine e_Pn.run (t' := (22, (0, (1, 1)) :: (1, (0, y1)) :: tl, [(0, 19), (1, 1)], w1)) kAlk 2 rfl ?_
  refine e_Pn.callA rfl (fun n9 d9 => u_129 (q.rf hR)) (fun r2 w3 h1 => ?_)
  obtain ⟨rfl, h1⟩ := h1
  have q4 := q.tr h1
  show e_Pn 20 elay kcode eI n d 149 (25, (0, (1, 1)) :: (1, (0, y1)) :: tl, [], w3) _
  exact e_Pn.ord kAlk [0, 1] rfl rfl (v_149_25 hR _ y1 w3 q4)
theorem v_149_15 {n d : Nat} {w : eW} {cd : Int} (hR : kRw cd w) (tl : eL) (y1 : Int) (w1 : eW) (q : kq cd w w1) : e_Pn 20 elay kcode eI n d 149 (15, (0, (1, 1)) :: (1, (0, y1)) :: tl, [], w1) (fun r w' => r = [] ∧ kq cd w w') := by
  have hn := hR.1.n
  refine e_Pn.run (t' := (16, (0, (1, 1)) :: (1, (0, y1)) :: tl, [(1, 1)], w1)) kAlk 1 rfl ?_
  refine e_Pn.callA rfl (fun n9 d9 => kE_all n9 158 (by decide) d9 _ _ (q.rf hR)) (fun r2 w3 h1 => ?_)
  obtain ⟨rfl, h1⟩ := h1
  have q4 := q.tr h1
  show e_Pn 20 elay kcode eI n d 149 (19, (0, (1, 1)) :: (1, (0, y1)) :: tl, [], w3) _
  exact e_Pn.ord kAlk [0, 1] rfl rfl (v_149_19 hR _ y1 w3 q4)
theorem v_149_9 {n d : Nat} {w : eW} {cd : Int} (hR : kRw cd w) (tl : eL) (y1 : Int) (w1 : eW) (q : kq cd w w1) : e_Pn 20 elay kcode eI n d 149 (9, (0, (1, 1)) :: (1, (0, y1)) :: tl, [], w1) (fun r w' => r = [] ∧ kq cd w w') := by
  have hn := hR.1.n
  refine e_Pn.run (t' := (12, (0, (1, 1)) :: (1, (0, y1)) :: tl, [(0, 13), (1, 1)], w1)) kAlk 2 rfl ?_
  refine e_Pn.callA rfl (fun n9 d9 => u_129 (q.rf hR)) (fun r2 w3 h1 => ?_)
  obtain ⟨rfl, h1⟩ := h1
  have q4 := q.tr h1
  show e_Pn 20 elay kcode eI n d 149 (15, (0, (1, 1)) :: (1, (0, y1)) :: tl, [], w3) _
  exact e_Pn.ord kAlk [0, 1] rfl rfl (v_149_15 hR _ y1 w3 q4)
theorem v_149_4 {n d : Nat} {w : eW} {cd : Int} (hR : kRw cd w) (tl : eL) (s0 : Int) (w1 : eW) (q : kq cd w w1) : e_Pn 20 elay kcode eI n d 149 (4, (0, (1, 1)) :: tl, [(0, s0)], w1) (fun r w' => r = [] ∧ kq cd w w') := by
  have hn := hR.1.n
  refine e_Pn.run (t' := (6, (1, (0, s0)) :: (0, (1, 1)) :: List.filter (e_flt 0 1) tl, [(1, 1)], w1)) kAlk 2 rfl ?_
  refine e_Pn.callA rfl (fun n9 d9 => u_123 (q.rf hR)) (fun r2 w3 h1 => ?_)
  obtain ⟨rfl, h1⟩ := h1
  have q4 := q.tr h1
  show e_Pn 20 elay kcode eI n d 149 (9, (1, (0, s0)) :: (0, (1, 1)) :: List.filter (e_flt 0 1) tl, [], w3) _
  exact e_Pn.ord kAlk [0, 1] rfl rfl (v_149_9 hR _ s0 w3 q4)
theorem v_150_21 {n d : Nat} {w : eW} {cd : Int} (hR : kRw cd w) (tl : eL) (y1 : Int) (w1 : eW) (q : kq cd w w1) : e_Pn 20 elay kcode eI n d 150 (21, (0, (1, 1)) :: (1, (0, y1)) :: tl, [], w1) (fun r w' => r = [] ∧ kq cd w w') := by
  have hn := hR.1.n
  have hL1 : ∀ nn3 : Nat, nn3 ≤ n → ∀ (tl4 : eL) (y7 : Int) (w5 : eW), kq cd w w5 → e_Pn 20 elay kcode eI nn3 d 150 (21, (0, (1, 1)) :: (1, (0, y7)) :: tl4, [], w5) (fun r w' => r = [] ∧ kq cd w w') := by
    intro nn3
    induction nn3 with
    | zero => intro _ tl4 y7 w5 _; exact e_Pn.zero
    | succ nn3 ih2 =>
      intro hnnn3 tl4 y7 w5 q6
      refine e_Pn.runS (t' := (25, (0, (1, 1)) :: (1, (0, y7)) :: tl4, [(0, 4000), (0, y7)], w5)) kAlk 1 rfl ?_
      refine e_Pn.if2 kAlk rfl (fun h8 => ?_) (fun h8 => ?_)
      · show e_Pn 20 elay kcode eI nn3 d 150 (62, (0, (1, 1)) :: (1, (0, y7)) :: tl4, [], w5) _
        refine e_Pn.run (t' := (65, (0, (1, 1)) :: (1, (0, y7)) :: tl4, [(0, 19), (1, 1)], w5)) kAlk 2 rfl ?_
        refine e_Pn.callA rfl (fun n9 d9 => u_129 (q6.rf hR)) (fun r10 w11 h9 => ?_)
        obtain ⟨rfl, h9⟩ := h9
        have q12 := q6.tr h9
        show e_Pn 20 elay kcode eI nn3 d 150 (68, (0, (1, 1)) :: (1, (0, y7)) :: tl4, [], w11) _
        refine e_Pn.run (t' := (69, (0, (1, 1)) :: (1, (0, y7)) :: tl4, [(1, 1)], w11)) kAlk 1 rfl ?_
        refine e_Pn.getr (z := cd) kAlk rfl rfl (q12.rf hR).2.1 (by omega) ?_
        refine e_Pn.run (t' := (75, (0, (1, 1)) :: (1, (0, y7)) :: tl4, [(0, y7), (0, 27), (1, cd)], w11)) kAlk 2 rfl ?_
        refine e_Pn.callA rfl (fun n9 d9 => u_21 (q12.rf hR)) (fun r14 w15 h13 => ?_)
        obtain ⟨⟨z16, rfl⟩, h13⟩ := h13
        have q17 := q12.tr h13
        show e_Pn 20 elay kcode eI nn3 d 150 (78, (0, (1, 1)) :: (1, (0, y7)) :: tl4, [(0, z16)], w15) _
        refine e_Pn.run (t' := (79, (0, (1, 1)) :: (1, (0, y7)) :: tl4, [], w15)) kAlk 1 rfl ?_
        exact e_Pn.ret0 rfl ⟨rfl, q17⟩
      · show e_Pn 20 elay kcode eI nn3 d 150 (28, (0, (1, 1)) :: (1, (0, y7)) :: tl4, [], w5) _
        refine e_Pn.run (t' := (29, (0, (1, 1)) :: (1, (0, y7)) :: tl4, [(1, 1)], w5)) kAlk 1 rfl ?_
        refine e_Pn.getf (z := w5 1 5) kAlk rfl rfl rfl (fun b18 => ?_)
        refine e_Pn.run (t' := (34, (0, (1, 1)) :: (1, (0, y7)) :: tl4, [(0, 18), (0, w5 1 5)], w5)) kAlk 1 rfl ?_
        refine e_Pn.if2 kAlk rfl (fun h19 => ?_) (fun h19 => ?_)
        · show e_Pn 20 elay kcode eI nn3 d 150 (62, (0, (1, 1)) :: (1, (0, y7)) :: tl4, [], w5) _
          refine e_Pn.run (t' := (65, (0, (1, 1)) :: (1, (0, y7)) :: tl4, [(0, 19), (1, 1)], w5)) kAlk 2 rfl ?_
          refine e_Pn.callA rfl (fun n9 d9 => u_129 (q6.rf hR)) (fun r21 w22 h20 => ?_)
          obtain ⟨rfl, h20⟩ := h20
          have q23 := q6.tr h20
          show e_Pn 20 elay kcode eI nn3 d 150 (68, (0, (1, 1)) :: (1, (0, y7)) :: tl4, [], w22) _
          refine e_Pn.run (t' := (69, (0, (1, 1)) :: (1, (0, y7)) :: tl4, [(1, 1)], w22)) kAlk 1 rfl ?_
          refine e_Pn.getr (z := cd) kAlk rfl rfl (q23.rf hR).2.1 (by omega) ?_
          refine e_Pn.run (t' := (75, (0, (1, 1)) :: (1, (0, y7)) :: tl4, [(0, y7), (0, 27), (1, cd)], w22)) kAlk 2 rfl ?_
          refine e_Pn.callA rfl (fun n9 d9 => u_21 (q23.rf hR)) (fun r25 w26 h24 => ?_)
          obtain ⟨⟨z27, rfl⟩, h24⟩ := h24
          have q28 := q23.tr h24
          show e_Pn 20 elay kcode eI nn3 d 150 (78, (0, (1, 1)) :: (1, (0, y7)) :: tl4, [(0, z27)], w26) _
          refine e_Pn.run (t' := (79, (0, (1, 1)) :: (1, (0, y7)) :: tl4, [], w26)) kAlk 1 rfl ?_
          exact e_Pn.ret0 rfl ⟨rfl, q28⟩
        · show e_Pn 20 elay kcode eI nn3 d 150 (37, (0, (1, 1)) :: (1, (0, y7)) :: tl4, [], w5) _
          refine e_Pn.run (t' := (38, (0, (1, 1)) :: (1, (0, y7)) :: tl4, [(1, 1)], w5)) kAlk 1 rfl ?_
          refine e_Pn.callA rfl (fun n9 d9 => u_123 (q6.rf hR)) (fun r30 w31 h29 => ?_)
          obtain ⟨rfl, h29⟩ := h29
          have q32 := q6.tr h29
          show e_Pn 20 elay kcode eI nn3 d 150 (41, (0, (1, 1)) :: (1, (0, y7)) :: tl4, [], w31) _
          refine e_Pn.run (t' := (42, (0, (1, 1)) :: (1, (0, y7)) :: tl4, [(1, 1)], w31)) kAlk 1 rfl ?_
          refine e_Pn.callA rfl (fun n9 d9 => kE_all n9 158 (by decide) d9 _ _ (q32.rf hR)) (fun r34 w35 h33 => ?_)
          obtain ⟨rfl, h33⟩ := h33
          have q36 := q32.tr h33
          show e_Pn 20 elay kcode eI nn3 d 150 (45, (0, (1, 1)) :: (1, (0, y7)) :: tl4, [], w35) _
          refine e_Pn.run (t' := (46, (0, (1, 1)) :: (1, (0, y7)) :: tl4, [(1, 1)], w35)) kAlk 1 rfl ?_
          refine e_Pn.getr (z := cd) kAlk rfl rfl (q36.rf hR).2.1 (by omega) ?_
          refine e_Pn.run (t' := (52, (0, (1, 1)) :: (1, (0, y7)) :: tl4, [(0, y7), (0, 26), (1, cd)], w35)) kAlk 2 rfl ?_
          refine e_Pn.callA rfl (fun n9 d9 => u_21 (q36.rf hR)) (fun r38 w39 h37 => ?_)
          obtain ⟨⟨z40, rfl⟩, h37⟩ := h37
          have q41 := q36.tr h37
          show e_Pn 20 elay kcode eI nn3 d 150 (55, (0, (1, 1)) :: (1, (0, y7)) :: tl4, [(0, z40)], w39) _
          refine e_Pn.run (t' := (56, (0, (1, 1)) :: (1, (0, y7)) :: tl4, [], w39)) kAlk 1 rfl ?_
          refine e_Pn.incU kAlk rfl rfl (fun z42 => ?_)
          show e_Pn 20 elay kcode eI nn3 d 150 (59, (1, (0, z42)) :: (0, (1, 1)) :: List.filter (e_flt 0 1) tl4, [], w39) _
          refine e_Pn.run (t' := (21, (1, (0, z42)) :: (0, (1, 1)) :: List.filter (e_flt 0 1) tl4, [], w39)) kAlk 1 rfl ?_
          exact e_Pn.ord kAlk [0, 1] rfl rfl ((ih2 (by omega) _ z42 w39 q41).le (by omega))
  exact e_Pn.ord kAlk [0, 1] rfl rfl (hL1 n (Nat.le_refl _) _ y1 w1 q)
theorem v_150_78 {n d : Nat} {w : eW} {cd : Int} (hR : kRw cd w) (tl : eL) (y1 : Int) (s0 : Int) (w1 : eW) (q : kq cd w w1) : e_Pn 20 elay kcode eI n d 150 (78, (0, (1, 1)) :: (1, (0, y1)) :: tl, [(0, s0)], w1) (fun r w' => r = [] ∧ kq cd w w') := by
  have hn := hR.1.n
  refine e_Pn.run (t' := (79, (0, (1, 1)) :: (1, (0, y1)) :: tl, [], w1)) kAlk 1 rfl ?_
  exact e_Pn.ret0 rfl ⟨rfl, q⟩
theorem v_150_68 {n d : Nat} {w : eW} {cd : Int} (hR : kRw cd w) (tl : eL) (y1 : Int) (w1 : eW) (q : kq cd w w1) : e_Pn 20 elay kcode eI n d 150 (68, (0, (1, 1)) :: (1, (0, y1)) :: tl, [], w1) (fun r w' => r = [] ∧ kq cd w w') := by
  have hn := hR.1.n
  refine e_Pn.run (t' := (69, (0, (1, 1)) :: (1, (0, y1)) :: tl, [(1, 1)], w1)) kAlk 1 rfl ?_
  refine e_Pn.getr (z := cd) kAlk rfl rfl (q.rf hR).2.1 (by omega) ?_
  refine e_Pn.run (t' := (75, (0, (1, 1)) :: (1, (0, y1)) :: tl, [(0, y1), (0, 27), (1, cd)], w1)) kAlk 2 rfl ?_
  refine e_Pn.callA rfl (fun n9 d9 => u_21 (q.rf hR)) (fun r2 w3 h1 => ?_)
  obtain ⟨⟨z4, rfl⟩, h1⟩ := h1
  have q5 := q.tr h1
  show e_Pn 20 elay kcode eI n d 150 (78, (0, (1, 1)) :: (1, (0, y1)) :: tl, [(0, z4)], w3) _
  exact e_Pn.ord kAlk [0, 1] rfl rfl (v_150_78 hR _ y1 z4 w3 q5)
theorem v_150_55 {n d : Nat} {w : eW} {cd : Int} (hR : kRw cd w) (tl : eL) (y1 : Int) (s0 : Int) (w1 : eW) (q : kq cd w w1) : e_Pn 20 elay kcode eI n d 150 (55, (0, (1, 1)) :: (1, (0, y1)) :: tl, [(0, s0)], w1) (fun r w' => r = [] ∧ kq cd w w') := by
  have hn := hR.1.n
  refine e_Pn.run (t' := (56, (0, (1, 1)) :: (1, (0, y1)) :: tl, [], w1)) kAlk 1 rfl ?_
  refine e_Pn.incU kAlk rfl rfl (fun z1 => ?_)
  show e_Pn 20 elay kcode eI n d 150 (59, (1, (0, z1)) :: (0, (1, 1)) :: List.filter (e_flt 0 1) tl, [], w1) _
  refine e_Pn.run (t' := (21, (1, (0, z1)) :: (0, (1, 1)) :: List.filter (e_flt 0 1) tl, [], w1)) kAlk 1 rfl ?_
  exact e_Pn.ord kAlk [0, 1] rfl rfl (v_150_21 hR _ z1 w1 q)
theorem v_150_45 {n d : Nat} {w : eW} {cd : Int} (hR : kRw cd w) (tl : eL) (y1 : Int) (w1 : eW) (q : kq cd w w1) : e_Pn 20 elay kcode eI n d 150 (45, (0, (1, 1)) :: (1, (0, y1)) :: tl, [], w1) (fun r w' => r = [] ∧ kq cd w w') := by
  have hn := hR.1.n
  refine e_Pn.run (t' := (46, (0, (1, 1)) :: (1, (0, y1)) :: tl, [(1, 1)], w1)) kAlk 1 rfl ?_
  refine e_Pn.getr (z := cd) kAlk rfl rfl (q.rf hR).2.1 (by omega) ?_
  refine e_Pn.run (t' := (52, (0, (1, 1)) :: (1, (0, y1)) :: tl, [(0, y1), (0, 26), (1, cd)], w1)) kAlk 2 rfl ?_
  refine e_Pn.callA rfl (fun n9 d9 => u_21 (q.rf hR)) (fun r2 w3 h1 => ?_)
  obtain ⟨⟨z4, rfl⟩, h1⟩ := h1
  have q5 := q.tr h1
  show e_Pn 20 elay kcode eI n d 150 (55, (0, (1, 1)) :: (1, (0, y1)) :: tl, [(0, z4)], w3) _
  exact e_Pn.ord kAlk [0, 1] rfl rfl (v_150_55 hR _ y1 z4 w3 q5)
theorem v_150_41 {n d : Nat} {w : eW} {cd : Int} (hR : kRw cd w) (tl : eL) (y1 : Int) (w1 : eW) (q : kq cd w w1) : e_Pn 20 elay kcode eI n d 150 (41, (0, (1, 1)) :: (1, (0, y1)) :: tl, [], w1) (fun r w' => r = [] ∧ kq cd w w') := by
  have hn := hR.1.n
  refine e_Pn.run (t' := (42, (0, (1, 1)) :: (1, (0, y1)) :: tl, [(1, 1)], w1)) kAlk 1 rfl ?_
  refine e_Pn.callA rfl (fun n9 d9 => kE_all n9 158 (by decide) d9 _ _ (q.rf hR)) (fun r2 w3 h1 => ?_)
  obtain ⟨rfl, h1⟩ := h1
  have q4 := q.tr h1
  show e_Pn 20 elay kcode eI n d 150 (45, (0, (1, 1)) :: (1, (0, y1)) :: tl, [], w3) _
  exact e_Pn.ord kAlk [0, 1] rfl rfl (v_150_45 hR _ y1 w3 q4)
theorem v_150_18 {n d : Nat} {w : eW} {cd : Int} (hR : kRw cd w) (tl : eL) (s0 : Int) (w1 : eW) (q : kq cd w w1) : e_Pn 20 elay kcode eI n d 150 (18, (0, (1, 1)) :: tl, [(0, s0)], w1) (fun r w' => r = [] ∧ kq cd w w') := by
  have hn := hR.1.n
  refine e_Pn.run (t' := (21, (1, (0, 1)) :: (0, (1, 1)) :: List.filter (e_flt 0 1) tl, [], w1)) kAlk 3 rfl ?_
  exact e_Pn.ord kAlk [0, 1] rfl rfl (v_150_21 hR _ 1 w1 q)
theorem v_150_8 {n d : Nat} {w : eW} {cd : Int} (hR : kRw cd w) (tl : eL) (w1 : eW) (q : kq cd w w1) : e_Pn 20 elay kcode eI n d 150 (8, (0, (1, 1)) :: tl, [], w1) (fun r w' => r = [] ∧ kq cd w w') := by
  have hn := hR.1.n
  refine e_Pn.run (t' := (9, (0, (1, 1)) :: tl, [(1, 1)], w1)) kAlk 1 rfl ?_
  refine e_Pn.getr (z := cd) kAlk rfl rfl (q.rf hR).2.1 (by omega) ?_
  refine e_Pn.run (t' := (15, (0, (1, 1)) :: tl, [(0, 0), (0, 26), (1, cd)], w1)) kAlk 2 rfl ?_
  refine e_Pn.callA rfl (fun n9 d9 => u_21 (q.rf hR)) (fun r2 w3 h1 => ?_)
  obtain ⟨⟨z4, rfl⟩, h1⟩ := h1
  have q5 := q.tr h1
  show e_Pn 20 elay kcode eI n d 150 (18, (0, (1, 1)) :: tl, [(0, z4)], w3) _
  exact e_Pn.ord kAlk [0] rfl rfl (v_150_18 hR _ z4 w3 q5)
theorem v_150_4 {n d : Nat} {w : eW} {cd : Int} (hR : kRw cd w) (tl : eL) (w1 : eW) (q : kq cd w w1) : e_Pn 20 elay kcode eI n d 150 (4, (0, (1, 1)) :: tl, [], w1) (fun r w' => r = [] ∧ kq cd w w') := by
  have hn := hR.1.n
  refine e_Pn.run (t' := (5, (0, (1, 1)) :: tl, [(1, 1)], w1)) kAlk 1 rfl ?_
  refine e_Pn.callA rfl (fun n9 d9 => kE_all n9 158 (by decide) d9 _ _ (q.rf hR)) (fun r2 w3 h1 => ?_)
  obtain ⟨rfl, h1⟩ := h1
  have q4 := q.tr h1
  show e_Pn 20 elay kcode eI n d 150 (8, (0, (1, 1)) :: tl, [], w3) _
  exact e_Pn.ord kAlk [0] rfl rfl (v_150_8 hR _ w3 q4)
theorem v_151_34 {n d : Nat} {w : eW} {cd : Int} (hR : kRw cd w) (tl : eL) (s0 : Int) (w1 : eW) (q : kq cd w w1) : e_Pn 20 elay kcode eI n d 151 (34, (0, (1, 1)) :: tl, [(0, s0)], w1) (fun r w' => r = [] ∧ kq cd w w') := by
  have hn := hR.1.n
  refine e_Pn.run (t' := (35, (0, (1, 1)) :: tl, [], w1)) kAlk 1 rfl ?_
  exact e_Pn.ret0 rfl ⟨rfl, q⟩
theorem v_151_24 {n d : Nat} {w : eW} {cd : Int} (hR : kRw cd w) (tl : eL) (w1 : eW) (q : kq cd w w1) : e_Pn 20 elay kcode eI n d 151 (24, (0, (1, 1)) :: tl, [], w1) (fun r w' => r = [] ∧ kq cd w w') := by
  have hn := hR.1.n
  refine e_Pn.run (t' := (25, (0, (1, 1)) :: tl, [(1, 1)], w1)) kAlk 1 rfl ?_
  refine e_Pn.getr (z := cd) kAlk rfl rfl (q.rf hR).2.1 (by omega) ?_
  refine e_Pn.run (t' := (31, (0, (1, 1)) :: tl, [(0, 0), (0, 30), (1, cd)], w1)) kAlk 2 rfl ?_
  refine e_Pn.callA rfl (fun n9 d9 => u_21 (q.rf hR)) (fun r2 w3 h1 => ?_)
  obtain ⟨⟨z4, rfl⟩, h1⟩ := h1
  have q5 := q.tr h1
  show e_Pn 20 elay kcode eI n d 151 (34, (0, (1, 1)) :: tl, [(0, z4)], w3) _
  exact e_Pn.ord kAlk [0] rfl rfl (v_151_34 hR _ z4 w3 q5)
theorem v_151_18 {n d : Nat} {w : eW} {cd : Int} (hR : kRw cd w) (tl : eL) (w1 : eW) (q : kq cd w w1) : e_Pn 20 elay kcode eI n d 151 (18, (0, (1, 1)) :: tl, [], w1) (fun r w' => r = [] ∧ kq cd w w') := by
  have hn := hR.1.n
  refine e_Pn.run (t' := (21, (0, (1, 1)) :: tl, [(0, 19), (1, 1)], w1)) kAlk 2 rfl ?_
  refine e_Pn.callA rfl (fun n9 d9 => u_129 (q.rf hR)) (fun r2 w3 h1 => ?_)
  obtain ⟨rfl, h1⟩ := h1
  have q4 := q.tr h1
  show e_Pn 20 elay kcode eI n d 151 (24, (0, (1, 1)) :: tl, [], w3) _
  exact e_Pn.ord kAlk [0] rfl rfl (v_151_24 hR _ w3 q4)
theorem v_151_14 {n d : Nat} {w : eW} {cd : Int} (hR : kRw cd w) (tl : eL) (w1 : eW) (q : kq cd w w1) : e_Pn 20 elay kcode eI n d 151 (14, (0, (1, 1)) :: tl, [], w1) (fun r w' => r = [] ∧ kq cd w w') := by
  have hn := hR.1.n
  refine e_Pn.run (t' := (15, (0, (1, 1)) :: tl, [(1, 1)], w1)) kAlk 1 rfl ?_
  refine e_Pn.callA rfl (fun n9 d9 => kE_all n9 158 (by decide) d9 _ _ (q.rf hR)) (fun r2 w3 h1 => ?_)
  obtain ⟨rfl, h1⟩ := h1
  have q4 := q.tr h1
  show e_Pn 20 elay kcode eI n d 151 (18, (0, (1, 1)) :: tl, [], w3) _
  exact e_Pn.ord kAlk [0] rfl rfl (v_151_18 hR _ w3 q4)
theorem v_151_8 {n d : Nat} {w : eW} {cd : Int} (hR : kRw cd w) (tl : eL) (w1 : eW) (q : kq cd w w1) : e_Pn 20 elay kcode eI n d 151 (8, (0, (1, 1)) :: tl, [], w1) (fun r w' => r = [] ∧ kq cd w w') := by
  have hn := hR.1.n
  refine e_Pn.run (t' := (11, (0, (1, 1)) :: tl, [(0, 18), (1, 1)], w1)) kAlk 2 rfl ?_
  refine e_Pn.callA rfl (fun n9 d9 => u_129 (q.rf hR)) (fun r2 w3 h1 => ?_)
  obtain ⟨rfl, h1⟩ := h1
  have q4 := q.tr h1
  show e_Pn 20 elay kcode eI n d 151 (14, (0, (1, 1)) :: tl, [], w3) _
  exact e_Pn.ord kAlk [0] rfl rfl (v_151_14 hR _ w3 q4)
theorem v_151_4 {n d : Nat} {w : eW} {cd : Int} (hR : kRw cd w) (tl : eL) (w1 : eW) (q : kq cd w w1) : e_Pn 20 elay kcode eI n d 151 (4, (0, (1, 1)) :: tl, [], w1) (fun r w' => r = [] ∧ kq cd w w') := by
  have hn := hR.1.n
  refine e_Pn.run (t' := (5, (0, (1, 1)) :: tl, [(1, 1)], w1)) kAlk 1 rfl ?_
  refine e_Pn.callA rfl (fun n9 d9 => kE_all n9 158 (by decide) d9 _ _ (q.rf hR)) (fun r2 w3 h1 => ?_)
  obtain ⟨rfl, h1⟩ := h1
  have q4 := q.tr h1
  show e_Pn 20 elay kcode eI n d 151 (8, (0, (1, 1)) :: tl, [], w3) _
  exact e_Pn.ord kAlk [0] rfl rfl (v_151_8 hR _ w3 q4)
theorem v_152_40 {n d : Nat} {w : eW} {cd : Int} (hR : kRw cd w) (tl : eL) (y1 : Int) (s0 : Int) (w1 : eW) (q : kq cd w w1) : e_Pn 20 elay kcode eI n d 152 (40, (0, (1, 1)) :: (1, (0, y1)) :: tl, [(0, s0)], w1) (fun r w' => r = [] ∧ kq cd w w') := by
  have hn := hR.1.n
  refine e_Pn.run (t' := (41, (0, (1, 1)) :: (1, (0, y1)) :: tl, [], w1)) kAlk 1 rfl ?_
  exact e_Pn.ret0 rfl ⟨rfl, q⟩
theorem v_152_30 {n d : Nat} {w : eW} {cd : Int} (hR : kRw cd w) (tl : eL) (y1 : Int) (w1 : eW) (q : kq cd w w1) : e_Pn 20 elay kcode eI n d 152 (30, (0, (1, 1)) :: (1, (0, y1)) :: tl, [], w1) (fun r w' => r = [] ∧ kq cd w w') := by
  have hn := hR.1.n
  refine e_Pn.run (t' := (31, (0, (1, 1)) :: (1, (0, y1)) :: tl, [(1, 1)], w1)) kAlk 1 rfl ?_
  refine e_Pn.getr (z := cd) kAlk rfl rfl (q.rf hR).2.1 (by omega) ?_
  refine e_Pn.run (t' := (37, (0, (1, 1)) :: (1, (0, y1)) :: tl, [(0, y1), (0, 39), (1, cd)], w1)) kAlk 2 rfl ?_
  refine e_Pn.callA rfl (fun n9 d9 => u_21 (q.rf hR)) (fun r2 w3 h1 => ?_)
  obtain ⟨⟨z4, rfl⟩, h1⟩ := h1
  have q5 := q.tr h1
  show e_Pn 20 elay kcode eI n d 152 (40, (0, (1, 1)) :: (1, (0, y1)) :: tl, [(0, z4)], w3) _
  exact e_Pn.ord kAlk [0, 1] rfl rfl (v_152_40 hR _ y1 z4 w3 q5)
theorem v_152_24 {n d : Nat} {w : eW} {cd : Int} (hR : kRw cd w) (tl : eL) (y1 : Int) (w1 : eW) (q : kq cd w w1) : e_Pn 20 elay kcode eI n d 152 (24, (0, (1, 1)) :: (1, (0, y1)) :: tl, [], w1) (fun r w' => r = [] ∧ kq cd w w') := by
  have hn := hR.1.n
  refine e_Pn.run (t' := (27, (0, (1, 1)) :: (1, (0, y1)) :: tl, [(0, 19), (1, 1)], w1)) kAlk 2 rfl ?_
  refine e_Pn.callA rfl (fun n9 d9 => u_129 (q.rf hR)) (fun r2 w3 h1 => ?_)
  obtain ⟨rfl, h1⟩ := h1
  have q4 := q.tr h1
  show e_Pn 20 elay kcode eI n d 152 (30, (0, (1, 1)) :: (1, (0, y1)) :: tl, [], w3) _
  exact e_Pn.ord kAlk [0, 1] rfl rfl (v_152_30 hR _ y1 w3 q4)
theorem v_152_14 {n d : Nat} {w : eW} {cd : Int} (hR : kRw cd w) (tl : eL) (w1 : eW) (q : kq cd w w1) : e_Pn 20 elay kcode eI n d 152 (14, (0, (1, 1)) :: tl, [], w1) (fun r w' => r = [] ∧ kq cd w w') := by
  have hn := hR.1.n
  refine e_Pn.run (t' := (15, (0, (1, 1)) :: tl, [(1, 1)], w1)) kAlk 1 rfl ?_
  refine e_Pn.getf (z := w1 1 6) kAlk rfl rfl rfl (fun b1 => ?_)
  refine e_Pn.run (t' := (21, (1, (0, w1 1 6)) :: (0, (1, 1)) :: List.filter (e_flt 0 1) tl, [(0, 1), (1, 1)], w1)) kAlk 3 rfl ?_
  refine e_Pn.callA rfl (fun n9 d9 => u_129 (q.rf hR)) (fun r3 w4 h2 => ?_)
  obtain ⟨rfl, h2⟩ := h2
  have q5 := q.tr h2
  show e_Pn 20 elay kcode eI n d 152 (24, (1, (0, w1 1 6)) :: (0, (1, 1)) :: List.filter (e_flt 0 1) tl, [], w4) _
  exact e_Pn.ord kAlk [0, 1] rfl rfl (v_152_24 hR _ (w1 1 6) w4 q5)
theorem v_152_8 {n d : Nat} {w : eW} {cd : Int} (hR : kRw cd w) (tl : eL) (w1 : eW) (q : kq cd w w1) : e_Pn 20 elay kcode eI n d 152 (8, (0, (1, 1)) :: tl, [], w1) (fun r w' => r = [] ∧ kq cd w w') := by
  have hn := hR.1.n
  refine e_Pn.run (t' := (11, (0, (1, 1)) :: tl, [(0, 18), (1, 1)], w1)) kAlk 2 rfl ?_
  refine e_Pn.callA rfl (fun n9 d9 => u_129 (q.rf hR)) (fun r2 w3 h1 => ?_)
  obtain ⟨rfl, h1⟩ := h1
  have q4 := q.tr h1
  show e_Pn 20 elay kcode eI n d 152 (14, (0, (1, 1)) :: tl, [], w3) _
  exact e_Pn.ord kAlk [0] rfl rfl (v_152_14 hR _ w3 q4)
theorem v_152_4 {n d : Nat} {w : eW} {cd : Int} (hR : kRw cd w) (tl : eL) (w1 : eW) (q : kq cd w w1) : e_Pn 20 elay kcode eI n d 152 (4, (0, (1, 1)) :: tl, [], w1) (fun r w' => r = [] ∧ kq cd w w') := by
  have hn := hR.1.n
  refine e_Pn.run (t' := (5, (0, (1, 1)) :: tl, [(1, 1)], w1)) kAlk 1 rfl ?_
  refine e_Pn.callA rfl (fun n9 d9 => kE_all n9 158 (by decide) d9 _ _ (q.rf hR)) (fun r2 w3 h1 => ?_)
  obtain ⟨rfl, h1⟩ := h1
  have q4 := q.tr h1
  show e_Pn 20 elay kcode eI n d 152 (8, (0, (1, 1)) :: tl, [], w3) _
  exact e_Pn.ord kAlk [0] rfl rfl (v_152_8 hR _ w3 q4)
theorem v_153_44 {n d : Nat} {w : eW} {cd : Int} (hR : kRw cd w) (tl : eL) (s0 : Int) (w1 : eW) (q : kq cd w w1) : e_Pn 20 elay kcode eI n d 153 (44, (0, (1, 1)) :: tl, [(0, s0)], w1) (fun r w' => r = [] ∧ kq cd w w') := by
  have hn := hR.1.n
  refine e_Pn.run (t' := (45, (0, (1, 1)) :: tl, [], w1)) kAlk 1 rfl ?_
  exact e_Pn.ret0 rfl ⟨rfl, q⟩
theorem v_153_27 {n d : Nat} {w : eW} {cd : Int} (hR : kRw cd w) (tl : eL) (w1 : eW) (q : kq cd w w1) : e_Pn 20 elay kcode eI n d 153 (27, (0, (1, 1)) :: tl, [], w1) (fun r w' => r = [] ∧ kq cd w w') := by
  have hn := hR.1.n
  refine e_Pn.run (t' := (28, (0, (1, 1)) :: tl, [(1, 1)], w1)) kAlk 1 rfl ?_
  refine e_Pn.getr (z := cd) kAlk rfl rfl (q.rf hR).2.1 (by omega) ?_
  refine e_Pn.run (t' := (34, (0, (1, 1)) :: tl, [(1, 1), (0, 44), (1, cd)], w1)) kAlk 2 rfl ?_
  refine e_Pn.getf (z := w1 1 13) kAlk rfl rfl rfl (fun b1 => ?_)
  refine e_Pn.run (t' := (38, (0, (1, 1)) :: tl, [(0, 0), (0, w1 1 13), (0, 44), (1, cd)], w1)) kAlk 1 rfl ?_
  refine e_Pn.m2U kAlk rfl (fun z2 => ?_)
  refine e_Pn.callA rfl (fun n9 d9 => u_21 (q.rf hR)) (fun r4 w5 h3 => ?_)
  obtain ⟨⟨z6, rfl⟩, h3⟩ := h3
  have q7 := q.tr h3
  show e_Pn 20 elay kcode eI n d 153 (44, (0, (1, 1)) :: tl, [(0, z6)], w5) _
  exact e_Pn.ord kAlk [0] rfl rfl (v_153_44 hR _ z6 w5 q7)
theorem v_153_21 {n d : Nat} {w : eW} {cd : Int} (hR : kRw cd w) (tl : eL) (w1 : eW) (q : kq cd w w1) : e_Pn 20 elay kcode eI n d 153 (21, (0, (1, 1)) :: tl, [], w1) (fun r w' => r = [] ∧ kq cd w w') := by
  have hn := hR.1.n
  refine e_Pn.run (t' := (24, (0, (1, 1)) :: tl, [(0, 19), (1, 1)], w1)) kAlk 2 rfl ?_
  refine e_Pn.callA rfl (fun n9 d9 => u_129 (q.rf hR)) (fun r2 w3 h1 => ?_)
  obtain ⟨rfl, h1⟩ := h1
  have q4 := q.tr h1
  show e_Pn 20 elay kcode eI n d 153 (27, (0, (1, 1)) :: tl, [], w3) _
  exact e_Pn.ord kAlk [0] rfl rfl (v_153_27 hR _ w3 q4)
theorem v_153_17 {n d : Nat} {w : eW} {cd : Int} (hR : kRw cd w) (tl : eL) (w1 : eW) (q : kq cd w w1) : e_Pn 20 elay kcode eI n d 153 (17, (0, (1, 1)) :: tl, [], w1) (fun r w' => r = [] ∧ kq cd w w') := by
  have hn := hR.1.n
  refine e_Pn.run (t' := (18, (0, (1, 1)) :: tl, [(1, 1)], w1)) kAlk 1 rfl ?_
  refine e_Pn.callA rfl (fun n9 d9 => u_123 (q.rf hR)) (fun r2 w3 h1 => ?_)
  obtain ⟨rfl, h1⟩ := h1
  have q4 := q.tr h1
  show e_Pn 20 elay kcode eI n d 153 (21, (0, (1, 1)) :: tl, [], w3) _
  exact e_Pn.ord kAlk [0] rfl rfl (v_153_21 hR _ w3 q4)
theorem v_157_23 {n d : Nat} {w : eW} {cd : Int} (hR : kRw cd w) (tl : eL) (y1 : Int) (s0 : Int) (w1 : eW) (q : kq cd w w1) : e_Pn 20 elay kcode eI n d 157 (23, (0, (1, 1)) :: (1, (0, y1)) :: tl, [(0, s0)], w1) (fun r w' => r = [] ∧ kq cd w w') := by
  have hn := hR.1.n
  refine e_Pn.run (t' := (24, (0, (1, 1)) :: (1, (0, y1)) :: tl, [], w1)) kAlk 1 rfl ?_
  exact e_Pn.ret0 rfl ⟨rfl, q⟩
theorem v_157_14 {n d : Nat} {w : eW} {cd : Int} (hR : kRw cd w) (tl : eL) (y1 : Int) (w1 : eW) (q : kq cd w w1) : e_Pn 20 elay kcode eI n d 157 (14, (0, (1, 1)) :: (1, (0, y1)) :: tl, [], w1) (fun r w' => r = [] ∧ kq cd w w') := by
  have hn := hR.1.n
  refine e_Pn.run (t' := (15, (0, (1, 1)) :: (1, (0, y1)) :: tl, [(1, 1)], w1)) kAlk 1 rfl ?_
  refine e_Pn.getr (z := cd) kAlk rfl rfl (q.rf hR).2.1 (by omega) ?_
  refine e_Pn.run (t' := (20, (0, (1, 1)) :: (1, (0, y1)) :: tl, [(0, 0), (0, y1), (1, cd)], w1)) kAlk 2 rfl ?_
  refine e_Pn.callA rfl (fun n9 d9 => u_21 (q.rf hR)) (fun r2 w3 h1 => ?_)
  obtain ⟨⟨z4, rfl⟩, h1⟩ := h1
  have q5 := q.tr h1
  show e_Pn 20 elay kcode eI n d 157 (23, (0, (1, 1)) :: (1, (0, y1)) :: tl, [(0, z4)], w3) _
  exact e_Pn.ord kAlk [0, 1] rfl rfl (v_157_23 hR _ y1 z4 w3 q5)
theorem v_157_10 {n d : Nat} {w : eW} {cd : Int} (hR : kRw cd w) (tl : eL) (y1 : Int) (w1 : eW) (q : kq cd w w1) : e_Pn 20 elay kcode eI n d 157 (10, (0, (1, 1)) :: (1, (0, y1)) :: tl, [], w1) (fun r w' => r = [] ∧ kq cd w w') := by
  have hn := hR.1.n
  refine e_Pn.run (t' := (11, (0, (1, 1)) :: (1, (0, y1)) :: tl, [(1, 1)], w1)) kAlk 1 rfl ?_
  refine e_Pn.callA rfl (fun n9 d9 => kS_all n9 144 (by decide) d9 _ _ (q.rf hR)) (fun r2 w3 h1 => ?_)
  obtain ⟨rfl, h1⟩ := h1
  have q4 := q.tr h1
  show e_Pn 20 elay kcode eI n d 157 (14, (0, (1, 1)) :: (1, (0, y1)) :: tl, [], w3) _
  exact e_Pn.ord kAlk [0, 1] rfl rfl (v_157_14 hR _ y1 w3 q4)
theorem v_157_4 {n d : Nat} {w : eW} {cd : Int} (hR : kRw cd w) (tl : eL) (y1 : Int) (w1 : eW) (q : kq cd w w1) : e_Pn 20 elay kcode eI n d 157 (4, (0, (1, 1)) :: (1, (0, y1)) :: tl, [], w1) (fun r w' => r = [] ∧ kq cd w w') := by
  have hn := hR.1.n
  refine e_Pn.run (t' := (7, (0, (1, 1)) :: (1, (0, y1)) :: tl, [(0, 20), (1, 1)], w1)) kAlk 2 rfl ?_
  refine e_Pn.callA rfl (fun n9 d9 => u_129 (q.rf hR)) (fun r2 w3 h1 => ?_)
  obtain ⟨rfl, h1⟩ := h1
  have q4 := q.tr h1
  show e_Pn 20 elay kcode eI n d 157 (10, (0, (1, 1)) :: (1, (0, y1)) :: tl, [], w3) _
  exact e_Pn.ord kAlk [0, 1] rfl rfl (v_157_10 hR _ y1 w3 q4)
set_option maxHeartbeats 4000000 in
theorem v_144_2 {n d : Nat} {w : eW} {cd : Int} (hR : kRw cd w) (tl : eL) (y1 : Int) (w1 : eW) (q : kq cd w w1) : e_Pn 20 elay kcode eI n d 144 (2, (0, (1, 1)) :: (1, (0, y1)) :: tl, [], w1) (fun r w' => r = [] ∧ kq cd w w') := by
  have hn := hR.1.n
  have hL1 : ∀ nn3 : Nat, nn3 ≤ n → ∀ (tl4 : eL) (y7 : Int) (w5 : eW), kq cd w w5 → e_Pn 20 elay kcode eI nn3 d 144 (2, (0, (1, 1)) :: (1, (0, y7)) :: tl4, [], w5) (fun r w' => r = [] ∧ kq cd w w') := by
    intro nn3
    induction nn3 with
    | zero => intro _ tl4 y7 w5 _; exact e_Pn.zero
    | succ nn3 ih2 =>
      intro hnnn3 tl4 y7 w5 q6
      refine e_Pn.runS (t' := (6, (0, (1, 1)) :: (1, (0, y7)) :: tl4, [(0, 4000), (0, y7)], w5)) kAlk 1 rfl ?_
      refine e_Pn.if2 kAlk rfl (fun h8 => ?_) (fun h8 => ?_)
      · show e_Pn 20 elay kcode eI nn3 d 144 (26, (0, (1, 1)) :: (1, (0, y7)) :: tl4, [], w5) _
        exact e_Pn.ret0 rfl ⟨rfl, q6⟩
      · show e_Pn 20 elay kcode eI nn3 d 144 (9, (0, (1, 1)) :: (1, (0, y7)) :: tl4, [], w5) _
        refine e_Pn.run (t' := (10, (0, (1, 1)) :: (1, (0, y7)) :: tl4, [(1, 1)], w5)) kAlk 1 rfl ?_
        refine e_Pn.callA rfl (fun n9 d9 => u_143 (q6.rf hR)) (fun r10 w11 h9 => ?_)
        obtain ⟨⟨z12, rfl⟩, h9⟩ := h9
        have q13 := q6.tr h9
        show e_Pn 20 elay kcode eI nn3 d 144 (13, (0, (1, 1)) :: (1, (0, y7)) :: tl4, [(0, z12)], w11) _
        refine e_Pn.if1 kAlk rfl (fun h14 => ?_) (fun h14 => ?_)
        · show e_Pn 20 elay kcode eI nn3 d 144 (26, (0, (1, 1)) :: (1, (0, y7)) :: tl4, [], w11) _
          exact e_Pn.ret0 rfl ⟨rfl, q13⟩
        · show e_Pn 20 elay kcode eI nn3 d 144 (16, (0, (1, 1)) :: (1, (0, y7)) :: tl4, [], w11) _
          refine e_Pn.run (t' := (17, (0, (1, 1)) :: (1, (0, y7)) :: tl4, [(1, 1)], w11)) kAlk 1 rfl ?_
          refine e_Pn.callA rfl (fun n9 d9 => kS_all n9 145 (by decide) d9 _ _ (q13.rf hR)) (fun r16 w17 h15 => ?_)
          obtain ⟨rfl, h15⟩ := h15
          have q18 := q13.tr h15
          show e_Pn 20 elay kcode eI nn3 d 144 (20, (0, (1, 1)) :: (1, (0, y7)) :: tl4, [], w17) _
          refine e_Pn.incU kAlk rfl rfl (fun z19 => ?_)
          show e_Pn 20 elay kcode eI nn3 d 144 (23, (1, (0, z19)) :: (0, (1, 1)) :: List.filter (e_flt 0 1) tl4, [], w17) _
          refine e_Pn.run (t' := (2, (1, (0, z19)) :: (0, (1, 1)) :: List.filter (e_flt 0 1) tl4, [], w17)) kAlk 1 rfl ?_
          exact e_Pn.ord kAlk [0, 1] rfl rfl ((ih2 (by omega) _ z19 w17 q18).le (by omega))
  exact e_Pn.ord kAlk [0, 1] rfl rfl (hL1 n (Nat.le_refl _) _ y1 w1 q)
set_option maxHeartbeats 4000000 in
theorem v_144_20 {n d : Nat} {w : eW} {cd : Int} (hR : kRw cd w) (tl : eL) (y1 : Int) (w1 : eW) (q : kq cd w w1) : e_Pn 20 elay kcode eI n d 144 (20, (0, (1, 1)) :: (1, (0, y1)) :: tl, [], w1) (fun r w' => r = [] ∧ kq cd w w') := by
  have hn := hR.1.n
  refine e_Pn.incU kAlk rfl rfl (fun z1 => ?_)
  show e_Pn 20 elay kcode eI n d 144 (23, (1, (0, z1)) :: (0, (1, 1)) :: List.filter (e_flt 0 1) tl, [], w1) _
  refine e_Pn.run (t' := (2, (1, (0, z1)) :: (0, (1, 1)) :: List.filter (e_flt 0 1) tl, [], w1)) kAlk 1 rfl ?_
  exact e_Pn.ord kAlk [0, 1] rfl rfl (v_144_2 hR _ z1 w1 q)
set_option maxHeartbeats 4000000 in
theorem v_144_13 {n d : Nat} {w : eW} {cd : Int} (hR : kRw cd w) (tl : eL) (y1 : Int) (s0 : Int) (w1 : eW) (q : kq cd w w1) : e_Pn 20 elay kcode eI n d 144 (13, (0, (1, 1)) :: (1, (0, y1)) :: tl, [(0, s0)], w1) (fun r w' => r = [] ∧ kq cd w w') := by
  have hn := hR.1.n
  refine e_Pn.if1 kAlk rfl (fun h1 => ?_) (fun h1 => ?_)
  · show e_Pn 20 elay kcode eI n d 144 (26, (0, (1, 1)) :: (1, (0, y1)) :: tl, [], w1) _
    exact e_Pn.ret0 rfl ⟨rfl, q⟩
  · show e_Pn 20 elay kcode eI n d 144 (16, (0, (1, 1)) :: (1, (0, y1)) :: tl, [], w1) _
    refine e_Pn.run (t' := (17, (0, (1, 1)) :: (1, (0, y1)) :: tl, [(1, 1)], w1)) kAlk 1 rfl ?_
    refine e_Pn.callA rfl (fun n9 d9 => kS_all n9 145 (by decide) d9 _ _ (q.rf hR)) (fun r3 w4 h2 => ?_)
    obtain ⟨rfl, h2⟩ := h2
    have q5 := q.tr h2
    show e_Pn 20 elay kcode eI n d 144 (20, (0, (1, 1)) :: (1, (0, y1)) :: tl, [], w4) _
    exact e_Pn.ord kAlk [0, 1] rfl rfl (v_144_20 hR _ y1 w4 q5)
set_option maxHeartbeats 4000000 in
theorem v_145_356 {n d : Nat} {w : eW} {cd : Int} (hR : kRw cd w) (tl : eL) (w1 : eW) (q : kq cd w w1) : e_Pn 20 elay kcode eI n d 145 (356, (0, (1, 1)) :: tl, [], w1) (fun r w' => r = [] ∧ kq cd w w') := by
  have hn := hR.1.n
  exact e_Pn.ret0 rfl ⟨rfl, q⟩
set_option maxHeartbeats 4000000 in
theorem v_145_349 {n d : Nat} {w : eW} {cd : Int} (hR : kRw cd w) (tl : eL) (w1 : eW) (q : kq cd w w1) : e_Pn 20 elay kcode eI n d 145 (349, (0, (1, 1)) :: tl, [], w1) (fun r w' => r = [] ∧ kq cd w w') := by
  have hn := hR.1.n
  refine e_Pn.run (t' := (356, (0, (1, 1)) :: tl, [], w1)) kAlk 1 rfl ?_
  exact e_Pn.ord kAlk [0] rfl rfl (v_145_356 hR _ w1 q)
set_option maxHeartbeats 4000000 in
theorem v_145_342 {n d : Nat} {w : eW} {cd : Int} (hR : kRw cd w) (tl : eL) (w1 : eW) (q : kq cd w w1) : e_Pn 20 elay kcode eI n d 145 (342, (0, (1, 1)) :: tl, [], w1) (fun r w' => r = [] ∧ kq cd w w') := by
  have hn := hR.1.n
  refine e_Pn.run (t' := (356, (0, (1, 1)) :: tl, [], w1)) kAlk 1 rfl ?_
  exact e_Pn.ord kAlk [0] rfl rfl (v_145_356 hR _ w1 q)
set_option maxHeartbeats 4000000 in
theorem v_145_335 {n d : Nat} {w : eW} {cd : Int} (hR : kRw cd w) (tl : eL) (w1 : eW) (q : kq cd w w1) : e_Pn 20 elay kcode eI n d 145 (335, (0, (1, 1)) :: tl, [], w1) (fun r w' => r = [] ∧ kq cd w w') := by
  have hn := hR.1.n
  refine e_Pn.run (t' := (356, (0, (1, 1)) :: tl, [], w1)) kAlk 1 rfl ?_
  exact e_Pn.ord kAlk [0] rfl rfl (v_145_356 hR _ w1 q)
set_option maxHeartbeats 4000000 in
theorem v_145_328 {n d : Nat} {w : eW} {cd : Int} (hR : kRw cd w) (tl : eL) (w1 : eW) (q : kq cd w w1) : e_Pn 20 elay kcode eI n d 145 (328, (0, (1, 1)) :: tl, [], w1) (fun r w' => r = [] ∧ kq cd w w') := by
  have hn := hR.1.n
  refine e_Pn.run (t' := (356, (0, (1, 1)) :: tl, [], w1)) kAlk 1 rfl ?_
  exact e_Pn.ord kAlk [0] rfl rfl (v_145_356 hR _ w1 q)
set_option maxHeartbeats 4000000 in
theorem v_145_319 {n d : Nat} {w : eW} {cd : Int} (hR : kRw cd w) (tl : eL) (w1 : eW) (q : kq cd w w1) : e_Pn 20 elay kcode eI n d 145 (319, (0, (1, 1)) :: tl, [], w1) (fun r w' => r = [] ∧ kq cd w w') := by
  have hn := hR.1.n
  refine e_Pn.run (t' := (356, (0, (1, 1)) :: tl, [], w1)) kAlk 1 rfl ?_
  exact e_Pn.ord kAlk [0] rfl rfl (v_145_356 hR _ w1 q)
set_option maxHeartbeats 4000000 in
theorem v_145_312 {n d : Nat} {w : eW} {cd : Int} (hR : kRw cd w) (tl : eL) (w1 : eW) (q : kq cd w w1) : e_Pn 20 elay kcode eI n d 145 (312, (0, (1, 1)) :: tl, [], w1) (fun r w' => r = [] ∧ kq cd w w') := by
  have hn := hR.1.n
  refine e_Pn.run (t' := (356, (0, (1, 1)) :: tl, [], w1)) kAlk 1 rfl ?_
  exact e_Pn.ord kAlk [0] rfl rfl (v_145_356 hR _ w1 q)
set_option maxHeartbeats 4000000 in
theorem v_145_303 {n d : Nat} {w : eW} {cd : Int} (hR : kRw cd w) (tl : eL) (w1 : eW) (q : kq cd w w1) : e_Pn 20 elay kcode eI n d 145 (303, (0, (1, 1)) :: tl, [], w1) (fun r w' => r = [] ∧ kq cd w w') := by
  have hn := hR.1.n
  refine e_Pn.run (t' := (356, (0, (1, 1)) :: tl, [], w1)) kAlk 1 rfl ?_
  exact e_Pn.ord kAlk [0] rfl rfl (v_145_356 hR _ w1 q)
set_option maxHeartbeats 4000000 in
theorem v_145_294 {n d : Nat} {w : eW} {cd : Int} (hR : kRw cd w) (tl : eL) (w1 : eW) (q : kq cd w w1) : e_Pn 20 elay kcode eI n d 145 (294, (0, (1, 1)) :: tl, [], w1) (fun r w' => r = [] ∧ kq cd w w') := by
  have hn := hR.1.n
  refine e_Pn.run (t' := (356, (0, (1, 1)) :: tl, [], w1)) kAlk 1 rfl ?_
  exact e_Pn.ord kAlk [0] rfl rfl (v_145_356 hR _ w1 q)
set_option maxHeartbeats 4000000 in
theorem v_145_285 {n d : Nat} {w : eW} {cd : Int} (hR : kRw cd w) (tl : eL) (w1 : eW) (q : kq cd w w1) : e_Pn 20 elay kcode eI n d 145 (285, (0, (1, 1)) :: tl, [], w1) (fun r w' => r = [] ∧ kq cd w w') := by
  have hn := hR.1.n
  refine e_Pn.run (t' := (356, (0, (1, 1)) :: tl, [], w1)) kAlk 1 rfl ?_
  exact e_Pn.ord kAlk [0] rfl rfl (v_145_356 hR _ w1 q)
set_option maxHeartbeats 4000000 in
theorem v_145_276 {n d : Nat} {w : eW} {cd : Int} (hR : kRw cd w) (tl : eL) (w1 : eW) (q : kq cd w w1) : e_Pn 20 elay kcode eI n d 145 (276, (0, (1, 1)) :: tl, [], w1) (fun r w' => r = [] ∧ kq cd w w') := by
  have hn := hR.1.n
  refine e_Pn.run (t' := (356, (0, (1, 1)) :: tl, [], w1)) kAlk 1 rfl ?_
  exact e_Pn.ord kAlk [0] rfl rfl (v_145_356 hR _ w1 q)
set_option maxHeartbeats 4000000 in
theorem v_145_267 {n d : Nat} {w : eW} {cd : Int} (hR : kRw cd w) (tl : eL) (w1 : eW) (q : kq cd w w1) : e_Pn 20 elay kcode eI n d 145 (267, (0, (1, 1)) :: tl, [], w1) (fun r w' => r = [] ∧ kq cd w w') := by
  have hn := hR.1.n
  refine e_Pn.run (t' := (356, (0, (1, 1)) :: tl, [], w1)) kAlk 1 rfl ?_
  exact e_Pn.ord kAlk [0] rfl rfl (v_145_356 hR _ w1 q)
set_option maxHeartbeats 4000000 in
theorem v_145_258 {n d : Nat} {w : eW} {cd : Int} (hR : kRw cd w) (tl : eL) (w1 : eW) (q : kq cd w w1) : e_Pn 20 elay kcode eI n d 145 (258, (0, (1, 1)) :: tl, [], w1) (fun r w' => r = [] ∧ kq cd w w') := by
  have hn := hR.1.n
  refine e_Pn.run (t' := (356, (0, (1, 1)) :: tl, [], w1)) kAlk 1 rfl ?_
  exact e_Pn.ord kAlk [0] rfl rfl (v_145_356 hR _ w1 q)
set_option maxHeartbeats 4000000 in
theorem v_145_249 {n d : Nat} {w : eW} {cd : Int} (hR : kRw cd w) (tl : eL) (w1 : eW) (q : kq cd w w1) : e_Pn 20 elay kcode eI n d 145 (249, (0, (1, 1)) :: tl, [], w1) (fun r w' => r = [] ∧ kq cd w w') := by
  have hn := hR.1.n
  refine e_Pn.run (t' := (356, (0, (1, 1)) :: tl, [], w1)) kAlk 1 rfl ?_
  exact e_Pn.ord kAlk [0] rfl rfl (v_145_356 hR _ w1 q)
set_option maxHeartbeats 4000000 in
theorem v_145_240 {n d : Nat} {w : eW} {cd : Int} (hR : kRw cd w) (tl : eL) (w1 : eW) (q : kq cd w w1) : e_Pn 20 elay kcode eI n d 145 (240, (0, (1, 1)) :: tl, [], w1) (fun r w' => r = [] ∧ kq cd w w') := by
  have hn := hR.1.n
  refine e_Pn.run (t' := (356, (0, (1, 1)) :: tl, [], w1)) kAlk 1 rfl ?_
  exact e_Pn.ord kAlk [0] rfl rfl (v_145_356 hR _ w1 q)
set_option maxHeartbeats 4000000 in
theorem v_145_233 {n d : Nat} {w : eW} {cd : Int} (hR : kRw cd w) (tl : eL) (w1 : eW) (q : kq cd w w1) : e_Pn 20 elay kcode eI n d 145 (233, (0, (1, 1)) :: tl, [], w1) (fun r w' => r = [] ∧ kq cd w w') := by
  have hn := hR.1.n
  refine e_Pn.run (t' := (356, (0, (1, 1)) :: tl, [], w1)) kAlk 1 rfl ?_
  exact e_Pn.ord kAlk [0] rfl rfl (v_145_356 hR _ w1 q)
set_option maxHeartbeats 4000000 in
theorem v_145_224 {n d : Nat} {w : eW} {cd : Int} (hR : kRw cd w) (tl : eL) (w1 : eW) (q : kq cd w w1) : e_Pn 20 elay kcode eI n d 145 (224, (0, (1, 1)) :: tl, [], w1) (fun r w' => r = [] ∧ kq cd w w') := by
  have hn := hR.1.n
  refine e_Pn.run (t' := (356, (0, (1, 1)) :: tl, [], w1)) kAlk 1 rfl ?_
  exact e_Pn.ord kAlk [0] rfl rfl (v_145_356 hR _ w1 q)
set_option maxHeartbeats 4000000 in
theorem v_145_215 {n d : Nat} {w : eW} {cd : Int} (hR : kRw cd w) (tl : eL) (w1 : eW) (q : kq cd w w1) : e_Pn 20 elay kcode eI n d 145 (215, (0, (1, 1)) :: tl, [], w1) (fun r w' => r = [] ∧ kq cd w w') := by
  have hn := hR.1.n
  refine e_Pn.run (t' := (356, (0, (1, 1)) :: tl, [], w1)) kAlk 1 rfl ?_
  exact e_Pn.ord kAlk [0] rfl rfl (v_145_356 hR _ w1 q)
set_option maxHeartbeats 4000000 in
theorem v_145_208 {n d : Nat} {w : eW} {cd : Int} (hR : kRw cd w) (tl : eL) (w1 : eW) (q : kq cd w w1) : e_Pn 20 elay kcode eI n d 145 (208, (0, (1, 1)) :: tl, [], w1) (fun r w' => r = [] ∧ kq cd w w') := by
  have hn := hR.1.n
  refine e_Pn.run (t' := (356, (0, (1, 1)) :: tl, [], w1)) kAlk 1 rfl ?_
  exact e_Pn.ord kAlk [0] rfl rfl (v_145_356 hR _ w1 q)
set_option maxHeartbeats 4000000 in
end
