noncomputable section
theorem v_145_19 {n d : Nat} {w : eW} {cd : Int} (hR : kRw cd w) (tl : eL) (s0 : Int) (w1 : eW) (q : kq cd w w1) : e_Pn 20 elay kcode eI n d 145 (19, (0, (1, 1)) :: tl, [(0, s0)], w1) (fun r w' => r = [] ∧ kq cd w w') := by
  have hn := hR.1.n
  refine e_Pn.run (t' := (21, (0, (1, 1)) :: tl, [(1, 1)], w1)) kAlk 2 rfl ?_
  refine e_Pn.getf (z := w1 1 5) kAlk rfl rfl rfl (fun b1 => ?_)
  have a204 : e_Pn 20 elay kcode eI n d 145 (204, (0, (1, 1)) :: tl, [], w1) (fun r w' => r = [] ∧ kq cd w w') := by
    refine e_Pn.run (t' := (205, (0, (1, 1)) :: tl, [(1, 1)], w1)) kAlk 1 rfl ?_
    refine e_Pn.callA rfl (fun n9 d9 => u_149 (q.rf hR)) (fun r3 w4 h2 => ?_)
    obtain ⟨rfl, h2⟩ := h2
    have q5 := q.tr h2
    show e_Pn 20 elay kcode eI n d 145 (208, (0, (1, 1)) :: tl, [], w4) _
    exact e_Pn.ord kAlk [0] rfl rfl (v_145_208 hR _ w4 q5)
  have a211 : e_Pn 20 elay kcode eI n d 145 (211, (0, (1, 1)) :: tl, [], w1) (fun r w' => r = [] ∧ kq cd w w') := by
    refine e_Pn.run (t' := (212, (0, (1, 1)) :: tl, [(1, 1)], w1)) kAlk 1 rfl ?_
    refine e_Pn.callA rfl (fun n9 d9 => u_150 (q.rf hR)) (fun r7 w8 h6 => ?_)
    obtain ⟨rfl, h6⟩ := h6
    have q9 := q.tr h6
    show e_Pn 20 elay kcode eI n d 145 (215, (0, (1, 1)) :: tl, [], w8) _
    exact e_Pn.ord kAlk [0] rfl rfl (v_145_215 hR _ w8 q9)
  have a218 : e_Pn 20 elay kcode eI n d 145 (218, (0, (1, 1)) :: tl, [], w1) (fun r w' => r = [] ∧ kq cd w w') := by
    refine e_Pn.run (t' := (221, (0, (1, 1)) :: tl, [(0, 28), (1, 1)], w1)) kAlk 2 rfl ?_
    refine e_Pn.callA rfl (fun n9 d9 => u_147 (q.rf hR)) (fun r11 w12 h10 => ?_)
    obtain ⟨rfl, h10⟩ := h10
    have q13 := q.tr h10
    show e_Pn 20 elay kcode eI n d 145 (224, (0, (1, 1)) :: tl, [], w12) _
    exact e_Pn.ord kAlk [0] rfl rfl (v_145_224 hR _ w12 q13)
  have a227 : e_Pn 20 elay kcode eI n d 145 (227, (0, (1, 1)) :: tl, [], w1) (fun r w' => r = [] ∧ kq cd w w') := by
    refine e_Pn.run (t' := (230, (0, (1, 1)) :: tl, [(0, 29), (1, 1)], w1)) kAlk 2 rfl ?_
    refine e_Pn.callA rfl (fun n9 d9 => u_147 (q.rf hR)) (fun r15 w16 h14 => ?_)
    obtain ⟨rfl, h14⟩ := h14
    have q17 := q.tr h14
    show e_Pn 20 elay kcode eI n d 145 (233, (0, (1, 1)) :: tl, [], w16) _
    exact e_Pn.ord kAlk [0] rfl rfl (v_145_233 hR _ w16 q17)
  have a236 : e_Pn 20 elay kcode eI n d 145 (236, (0, (1, 1)) :: tl, [], w1) (fun r w' => r = [] ∧ kq cd w w') := by
    refine e_Pn.run (t' := (237, (0, (1, 1)) :: tl, [(1, 1)], w1)) kAlk 1 rfl ?_
    refine e_Pn.callA rfl (fun n9 d9 => u_151 (q.rf hR)) (fun r19 w20 h18 => ?_)
    obtain ⟨rfl, h18⟩ := h18
    have q21 := q.tr h18
    show e_Pn 20 elay kcode eI n d 145 (240, (0, (1, 1)) :: tl, [], w20) _
    exact e_Pn.ord kAlk [0] rfl rfl (v_145_240 hR _ w20 q21)
  have a243 : e_Pn 20 elay kcode eI n d 145 (243, (0, (1, 1)) :: tl, [], w1) (fun r w' => r = [] ∧ kq cd w w') := by
    refine e_Pn.run (t' := (246, (0, (1, 1)) :: tl, [(0, 31), (1, 1)], w1)) kAlk 2 rfl ?_
    refine e_Pn.callA rfl (fun n9 d9 => u_147 (q.rf hR)) (fun r23 w24 h22 => ?_)
    obtain ⟨rfl, h22⟩ := h22
    have q25 := q.tr h22
    show e_Pn 20 elay kcode eI n d 145 (249, (0, (1, 1)) :: tl, [], w24) _
    exact e_Pn.ord kAlk [0] rfl rfl (v_145_249 hR _ w24 q25)
  have a252 : e_Pn 20 elay kcode eI n d 145 (252, (0, (1, 1)) :: tl, [], w1) (fun r w' => r = [] ∧ kq cd w w') := by
    refine e_Pn.run (t' := (255, (0, (1, 1)) :: tl, [(0, 32), (1, 1)], w1)) kAlk 2 rfl ?_
    refine e_Pn.callA rfl (fun n9 d9 => u_147 (q.rf hR)) (fun r27 w28 h26 => ?_)
    obtain ⟨rfl, h26⟩ := h26
    have q29 := q.tr h26
    show e_Pn 20 elay kcode eI n d 145 (258, (0, (1, 1)) :: tl, [], w28) _
    exact e_Pn.ord kAlk [0] rfl rfl (v_145_258 hR _ w28 q29)
  have a261 : e_Pn 20 elay kcode eI n d 145 (261, (0, (1, 1)) :: tl, [], w1) (fun r w' => r = [] ∧ kq cd w w') := by
    refine e_Pn.run (t' := (264, (0, (1, 1)) :: tl, [(0, 33), (1, 1)], w1)) kAlk 2 rfl ?_
    refine e_Pn.callA rfl (fun n9 d9 => u_148 (q.rf hR)) (fun r31 w32 h30 => ?_)
    obtain ⟨rfl, h30⟩ := h30
    have q33 := q.tr h30
    show e_Pn 20 elay kcode eI n d 145 (267, (0, (1, 1)) :: tl, [], w32) _
    exact e_Pn.ord kAlk [0] rfl rfl (v_145_267 hR _ w32 q33)
  have a270 : e_Pn 20 elay kcode eI n d 145 (270, (0, (1, 1)) :: tl, [], w1) (fun r w' => r = [] ∧ kq cd w w') := by
    refine e_Pn.run (t' := (273, (0, (1, 1)) :: tl, [(0, 34), (1, 1)], w1)) kAlk 2 rfl ?_
    refine e_Pn.callA rfl (fun n9 d9 => u_148 (q.rf hR)) (fun r35 w36 h34 => ?_)
    obtain ⟨rfl, h34⟩ := h34
    have q37 := q.tr h34
    show e_Pn 20 elay kcode eI n d 145 (276, (0, (1, 1)) :: tl, [], w36) _
    exact e_Pn.ord kAlk [0] rfl rfl (v_145_276 hR _ w36 q37)
  have a279 : e_Pn 20 elay kcode eI n d 145 (279, (0, (1, 1)) :: tl, [], w1) (fun r w' => r = [] ∧ kq cd w w') := by
    refine e_Pn.run (t' := (282, (0, (1, 1)) :: tl, [(0, 35), (1, 1)], w1)) kAlk 2 rfl ?_
    refine e_Pn.callA rfl (fun n9 d9 => u_147 (q.rf hR)) (fun r39 w40 h38 => ?_)
    obtain ⟨rfl, h38⟩ := h38
    have q41 := q.tr h38
    show e_Pn 20 elay kcode eI n d 145 (285, (0, (1, 1)) :: tl, [], w40) _
    exact e_Pn.ord kAlk [0] rfl rfl (v_145_285 hR _ w40 q41)
  have a288 : e_Pn 20 elay kcode eI n d 145 (288, (0, (1, 1)) :: tl, [], w1) (fun r w' => r = [] ∧ kq cd w w') := by
    refine e_Pn.run (t' := (291, (0, (1, 1)) :: tl, [(0, 36), (1, 1)], w1)) kAlk 2 rfl ?_
    refine e_Pn.callA rfl (fun n9 d9 => u_147 (q.rf hR)) (fun r43 w44 h42 => ?_)
    obtain ⟨rfl, h42⟩ := h42
    have q45 := q.tr h42
    show e_Pn 20 elay kcode eI n d 145 (294, (0, (1, 1)) :: tl, [], w44) _
    exact e_Pn.ord kAlk [0] rfl rfl (v_145_294 hR _ w44 q45)
  have a297 : e_Pn 20 elay kcode eI n d 145 (297, (0, (1, 1)) :: tl, [], w1) (fun r w' => r = [] ∧ kq cd w w') := by
    refine e_Pn.run (t' := (300, (0, (1, 1)) :: tl, [(0, 37), (1, 1)], w1)) kAlk 2 rfl ?_
    refine e_Pn.callA rfl (fun n9 d9 => u_146 (q.rf hR)) (fun r47 w48 h46 => ?_)
    obtain ⟨rfl, h46⟩ := h46
    have q49 := q.tr h46
    show e_Pn 20 elay kcode eI n d 145 (303, (0, (1, 1)) :: tl, [], w48) _
    exact e_Pn.ord kAlk [0] rfl rfl (v_145_303 hR _ w48 q49)
  have a306 : e_Pn 20 elay kcode eI n d 145 (306, (0, (1, 1)) :: tl, [], w1) (fun r w' => r = [] ∧ kq cd w w') := by
    refine e_Pn.run (t' := (309, (0, (1, 1)) :: tl, [(0, 38), (1, 1)], w1)) kAlk 2 rfl ?_
    refine e_Pn.callA rfl (fun n9 d9 => u_146 (q.rf hR)) (fun r51 w52 h50 => ?_)
    obtain ⟨rfl, h50⟩ := h50
    have q53 := q.tr h50
    show e_Pn 20 elay kcode eI n d 145 (312, (0, (1, 1)) :: tl, [], w52) _
    exact e_Pn.ord kAlk [0] rfl rfl (v_145_312 hR _ w52 q53)
  have a315 : e_Pn 20 elay kcode eI n d 145 (315, (0, (1, 1)) :: tl, [], w1) (fun r w' => r = [] ∧ kq cd w w') := by
    refine e_Pn.run (t' := (316, (0, (1, 1)) :: tl, [(1, 1)], w1)) kAlk 1 rfl ?_
    refine e_Pn.callA rfl (fun n9 d9 => u_152 (q.rf hR)) (fun r55 w56 h54 => ?_)
    obtain ⟨rfl, h54⟩ := h54
    have q57 := q.tr h54
    show e_Pn 20 elay kcode eI n d 145 (319, (0, (1, 1)) :: tl, [], w56) _
    exact e_Pn.ord kAlk [0] rfl rfl (v_145_319 hR _ w56 q57)
  have a322 : e_Pn 20 elay kcode eI n d 145 (322, (0, (1, 1)) :: tl, [], w1) (fun r w' => r = [] ∧ kq cd w w') := by
    refine e_Pn.run (t' := (325, (0, (1, 1)) :: tl, [(0, 42), (1, 1)], w1)) kAlk 2 rfl ?_
    refine e_Pn.callA rfl (fun n9 d9 => u_146 (q.rf hR)) (fun r59 w60 h58 => ?_)
    obtain ⟨rfl, h58⟩ := h58
    have q61 := q.tr h58
    show e_Pn 20 elay kcode eI n d 145 (328, (0, (1, 1)) :: tl, [], w60) _
    exact e_Pn.ord kAlk [0] rfl rfl (v_145_328 hR _ w60 q61)
  have a331 : e_Pn 20 elay kcode eI n d 145 (331, (0, (1, 1)) :: tl, [], w1) (fun r w' => r = [] ∧ kq cd w w') := by
    refine e_Pn.run (t' := (332, (0, (1, 1)) :: tl, [(1, 1)], w1)) kAlk 1 rfl ?_
    refine e_Pn.callA rfl (fun n9 d9 => u_153 (q.rf hR)) (fun r63 w64 h62 => ?_)
    obtain ⟨rfl, h62⟩ := h62
    have q65 := q.tr h62
    show e_Pn 20 elay kcode eI n d 145 (335, (0, (1, 1)) :: tl, [], w64) _
    exact e_Pn.ord kAlk [0] rfl rfl (v_145_335 hR _ w64 q65)
  have a338 : e_Pn 20 elay kcode eI n d 145 (338, (0, (1, 1)) :: tl, [], w1) (fun r w' => r = [] ∧ kq cd w w') := by
    refine e_Pn.run (t' := (339, (0, (1, 1)) :: tl, [(1, 1)], w1)) kAlk 1 rfl ?_
    refine e_Pn.callA rfl (fun n9 d9 => kS_all n9 154 (by decide) d9 _ _ (q.rf hR)) (fun r67 w68 h66 => ?_)
    obtain ⟨rfl, h66⟩ := h66
    have q69 := q.tr h66
    show e_Pn 20 elay kcode eI n d 145 (342, (0, (1, 1)) :: tl, [], w68) _
    exact e_Pn.ord kAlk [0] rfl rfl (v_145_342 hR _ w68 q69)
  have a345 : e_Pn 20 elay kcode eI n d 145 (345, (0, (1, 1)) :: tl, [], w1) (fun r w' => r = [] ∧ kq cd w w') := by
    refine e_Pn.run (t' := (346, (0, (1, 1)) :: tl, [(1, 1)], w1)) kAlk 1 rfl ?_
    refine e_Pn.callA rfl (fun n9 d9 => kS_all n9 155 (by decide) d9 _ _ (q.rf hR)) (fun r71 w72 h70 => ?_)
    obtain ⟨rfl, h70⟩ := h70
    have q73 := q.tr h70
    show e_Pn 20 elay kcode eI n d 145 (349, (0, (1, 1)) :: tl, [], w72) _
    exact e_Pn.ord kAlk [0] rfl rfl (v_145_349 hR _ w72 q73)
  have a352 : e_Pn 20 elay kcode eI n d 145 (352, (0, (1, 1)) :: tl, [], w1) (fun r w' => r = [] ∧ kq cd w w') := by
    refine e_Pn.run (t' := (353, (0, (1, 1)) :: tl, [(1, 1)], w1)) kAlk 1 rfl ?_
    refine e_Pn.callA rfl (fun n9 d9 => kS_all n9 156 (by decide) d9 _ _ (q.rf hR)) (fun r75 w76 h74 => ?_)
    obtain ⟨rfl, h74⟩ := h74
    have q77 := q.tr h74
    show e_Pn 20 elay kcode eI n d 145 (356, (0, (1, 1)) :: tl, [], w76) _
    exact e_Pn.ord kAlk [0] rfl rfl (v_145_356 hR _ w76 q77)
  exact e_Pn.swU kAlk rfl ⟨a352, a204, a352, a352, a352, a352, a352, a352, a352, a352, a352, a352, a352, a352, a352, a352, a352, a352, a352, a352, a352, a352, a352, a352, a211, a218, a227, a236, a243, a252, a261, a270, a279, a288, a297, a306, a315, a322, a331, a338, a352, a345, a352, trivial⟩
set_option maxHeartbeats 4000000 in
theorem v_154_109 {n d : Nat} {w : eW} {cd : Int} (hR : kRw cd w) (tl : eL) (y1 : Int) (w1 : eW) (q : kq cd w w1) : e_Pn 20 elay kcode eI n d 154 (109, (0, (1, 1)) :: (1, (0, y1)) :: tl, [], w1) (fun r w' => r = [] ∧ kq cd w w') := by
  have hn := hR.1.n
  refine e_Pn.run (t' := (111, (0, (1, 1)) :: (1, (0, y1)) :: tl, [(1, 1), (1, 1)], w1)) kAlk 2 rfl ?_
  refine e_Pn.getf (z := w1 1 11) kAlk rfl rfl rfl (fun b1 => ?_)
  refine e_Pn.run (t' := (115, (0, (1, 1)) :: (1, (0, y1)) :: tl, [(0, 1), (0, w1 1 11), (1, 1)], w1)) kAlk 1 rfl ?_
  refine e_Pn.bin0 kAlk rfl (fun z2 hz2 => ?_)
  refine e_Pn.putf kAlk rfl rfl ?_
  generalize hw3 : e_up w1 1 11 z2 = w3
  have q4 : kq cd w w3 := kq.up q hR.1 hw3 (by decide) (fun _ => by decide) (fun g => absurd g.symm hn.1)
  exact e_Pn.ret0 rfl ⟨rfl, q4⟩
set_option maxHeartbeats 4000000 in
theorem v_154_103 {n d : Nat} {w : eW} {cd : Int} (hR : kRw cd w) (tl : eL) (y1 : Int) (w1 : eW) (q : kq cd w w1) : e_Pn 20 elay kcode eI n d 154 (103, (0, (1, 1)) :: (1, (0, y1)) :: tl, [], w1) (fun r w' => r = [] ∧ kq cd w w') := by
  have hn := hR.1.n
  refine e_Pn.run (t' := (106, (0, (1, 1)) :: (1, (0, y1)) :: tl, [(0, 23), (1, 1)], w1)) kAlk 2 rfl ?_
  refine e_Pn.callA rfl (fun n9 d9 => u_129 (q.rf hR)) (fun r2 w3 h1 => ?_)
  obtain ⟨rfl, h1⟩ := h1
  have q4 := q.tr h1
  show e_Pn 20 elay kcode eI n d 154 (109, (0, (1, 1)) :: (1, (0, y1)) :: tl, [], w3) _
  exact e_Pn.ord kAlk [0, 1] rfl rfl (v_154_109 hR _ y1 w3 q4)
set_option maxHeartbeats 4000000 in
theorem v_154_88 {n d : Nat} {w : eW} {cd : Int} (hR : kRw cd w) (tl : eL) (y1 : Int) (y2 : Int) (w1 : eW) (q : kq cd w w1) : e_Pn 20 elay kcode eI n d 154 (88, (0, (1, 1)) :: (1, (0, y1)) :: (2, (0, y2)) :: tl, [], w1) (fun r w' => r = [] ∧ kq cd w w') := by
  have hn := hR.1.n
  refine e_Pn.run (t' := (89, (0, (1, 1)) :: (1, (0, y1)) :: (2, (0, y2)) :: tl, [(1, 1)], w1)) kAlk 1 rfl ?_
  refine e_Pn.getr (z := cd) kAlk rfl rfl (q.rf hR).2.1 (by omega) ?_
  refine e_Pn.run (t' := (94, (0, (1, 1)) :: (1, (0, y1)) :: (2, (0, y2)) :: tl, [(1, 1), (0, y1), (1, cd)], w1)) kAlk 2 rfl ?_
  refine e_Pn.getr (z := cd) kAlk rfl rfl (q.rf hR).2.1 (by omega) ?_
  refine e_Pn.getf (z := w1 cd 0) kAlk rfl rfl rfl (fun b1 => ?_)
  refine e_Pn.callA rfl (fun n9 d9 => u_22 (q.rf hR)) (fun r3 w4 h2 => ?_)
  obtain ⟨rfl, h2⟩ := h2
  have q5 := q.tr h2
  show e_Pn 20 elay kcode eI n d 154 (103, (0, (1, 1)) :: (1, (0, y1)) :: (2, (0, y2)) :: tl, [], w4) _
  exact e_Pn.ord kAlk [0, 1] rfl rfl (v_154_103 hR _ y1 w4 q5)
set_option maxHeartbeats 4000000 in
theorem v_154_82 {n d : Nat} {w : eW} {cd : Int} (hR : kRw cd w) (tl : eL) (y1 : Int) (y2 : Int) (w1 : eW) (q : kq cd w w1) : e_Pn 20 elay kcode eI n d 154 (82, (0, (1, 1)) :: (1, (0, y1)) :: (2, (0, y2)) :: tl, [], w1) (fun r w' => r = [] ∧ kq cd w w') := by
  have hn := hR.1.n
  refine e_Pn.run (t' := (85, (1, (0, y2)) :: (0, (1, 1)) :: (2, (0, y2)) :: List.filter (e_flt 0 1) tl, [(1, 1)], w1)) kAlk 3 rfl ?_
  refine e_Pn.callA rfl (fun n9 d9 => kS_all n9 144 (by decide) d9 _ _ (q.rf hR)) (fun r2 w3 h1 => ?_)
  obtain ⟨rfl, h1⟩ := h1
  have q4 := q.tr h1
  show e_Pn 20 elay kcode eI n d 154 (88, (1, (0, y2)) :: (0, (1, 1)) :: (2, (0, y2)) :: List.filter (e_flt 0 1) tl, [], w3) _
  exact e_Pn.ord kAlk [0, 1, 2] rfl rfl (v_154_88 hR _ y2 y2 w3 q4)
set_option maxHeartbeats 4000000 in
theorem v_154_66 {n d : Nat} {w : eW} {cd : Int} (hR : kRw cd w) (tl : eL) (y1 : Int) (s0 : Int) (w1 : eW) (q : kq cd w w1) : e_Pn 20 elay kcode eI n d 154 (66, (0, (1, 1)) :: (1, (0, y1)) :: tl, [(0, s0)], w1) (fun r w' => r = [] ∧ kq cd w w') := by
  have hn := hR.1.n
  refine e_Pn.run (t' := (68, (2, (0, s0)) :: (0, (1, 1)) :: (1, (0, y1)) :: List.filter (e_flt 0 2) tl, [(1, 1)], w1)) kAlk 2 rfl ?_
  refine e_Pn.getr (z := cd) kAlk rfl rfl (q.rf hR).2.1 (by omega) ?_
  refine e_Pn.run (t' := (73, (2, (0, s0)) :: (0, (1, 1)) :: (1, (0, y1)) :: List.filter (e_flt 0 2) tl, [(1, 1), (0, y1), (1, cd)], w1)) kAlk 2 rfl ?_
  refine e_Pn.getr (z := cd) kAlk rfl rfl (q.rf hR).2.1 (by omega) ?_
  refine e_Pn.getf (z := w1 cd 0) kAlk rfl rfl rfl (fun b1 => ?_)
  refine e_Pn.callA rfl (fun n9 d9 => u_22 (q.rf hR)) (fun r3 w4 h2 => ?_)
  obtain ⟨rfl, h2⟩ := h2
  have q5 := q.tr h2
  show e_Pn 20 elay kcode eI n d 154 (82, (2, (0, s0)) :: (0, (1, 1)) :: (1, (0, y1)) :: List.filter (e_flt 0 2) tl, [], w4) _
  exact e_Pn.ord kAlk [0, 1, 2] rfl rfl (v_154_82 hR _ y1 s0 w4 q5)
set_option maxHeartbeats 4000000 in
theorem v_154_56 {n d : Nat} {w : eW} {cd : Int} (hR : kRw cd w) (tl : eL) (y1 : Int) (w1 : eW) (q : kq cd w w1) : e_Pn 20 elay kcode eI n d 154 (56, (0, (1, 1)) :: (1, (0, y1)) :: tl, [], w1) (fun r w' => r = [] ∧ kq cd w w') := by
  have hn := hR.1.n
  refine e_Pn.run (t' := (57, (0, (1, 1)) :: (1, (0, y1)) :: tl, [(1, 1)], w1)) kAlk 1 rfl ?_
  refine e_Pn.getr (z := cd) kAlk rfl rfl (q.rf hR).2.1 (by omega) ?_
  refine e_Pn.run (t' := (63, (0, (1, 1)) :: (1, (0, y1)) :: tl, [(0, 0), (0, 40), (1, cd)], w1)) kAlk 2 rfl ?_
  refine e_Pn.callA rfl (fun n9 d9 => u_21 (q.rf hR)) (fun r2 w3 h1 => ?_)
  obtain ⟨⟨z4, rfl⟩, h1⟩ := h1
  have q5 := q.tr h1
  show e_Pn 20 elay kcode eI n d 154 (66, (0, (1, 1)) :: (1, (0, y1)) :: tl, [(0, z4)], w3) _
  exact e_Pn.ord kAlk [0, 1] rfl rfl (v_154_66 hR _ y1 z4 w3 q5)
set_option maxHeartbeats 4000000 in
theorem v_154_50 {n d : Nat} {w : eW} {cd : Int} (hR : kRw cd w) (tl : eL) (y1 : Int) (w1 : eW) (q : kq cd w w1) : e_Pn 20 elay kcode eI n d 154 (50, (0, (1, 1)) :: (1, (0, y1)) :: tl, [], w1) (fun r w' => r = [] ∧ kq cd w w') := by
  have hn := hR.1.n
  refine e_Pn.run (t' := (53, (0, (1, 1)) :: (1, (0, y1)) :: tl, [(0, 20), (1, 1)], w1)) kAlk 2 rfl ?_
  refine e_Pn.callA rfl (fun n9 d9 => u_129 (q.rf hR)) (fun r2 w3 h1 => ?_)
  obtain ⟨rfl, h1⟩ := h1
  have q4 := q.tr h1
  show e_Pn 20 elay kcode eI n d 154 (56, (0, (1, 1)) :: (1, (0, y1)) :: tl, [], w3) _
  exact e_Pn.ord kAlk [0, 1] rfl rfl (v_154_56 hR _ y1 w3 q4)
set_option maxHeartbeats 4000000 in
theorem v_154_37 {n d : Nat} {w : eW} {cd : Int} (hR : kRw cd w) (tl : eL) (y1 : Int) (w1 : eW) (q : kq cd w w1) : e_Pn 20 elay kcode eI n d 154 (37, (0, (1, 1)) :: (1, (0, y1)) :: tl, [], w1) (fun r w' => r = [] ∧ kq cd w w') := by
  have hn := hR.1.n
  refine e_Pn.run (t' := (38, (0, (1, 1)) :: (1, (0, y1)) :: tl, [(1, 1)], w1)) kAlk 1 rfl ?_
  refine e_Pn.getf (z := w1 1 5) kAlk rfl rfl rfl (fun b1 => ?_)
  refine e_Pn.run (t' := (43, (0, (1, 1)) :: (1, (0, y1)) :: tl, [(0, 40), (0, w1 1 5)], w1)) kAlk 1 rfl ?_
  refine e_Pn.if2 kAlk rfl (fun h2 => ?_) (fun h2 => ?_)
  · show e_Pn 20 elay kcode eI n d 154 (88, (0, (1, 1)) :: (1, (0, y1)) :: tl, [], w1) _
    refine e_Pn.run (t' := (89, (0, (1, 1)) :: (1, (0, y1)) :: tl, [(1, 1)], w1)) kAlk 1 rfl ?_
    refine e_Pn.getr (z := cd) kAlk rfl rfl (q.rf hR).2.1 (by omega) ?_
    refine e_Pn.run (t' := (94, (0, (1, 1)) :: (1, (0, y1)) :: tl, [(1, 1), (0, y1), (1, cd)], w1)) kAlk 2 rfl ?_
    refine e_Pn.getr (z := cd) kAlk rfl rfl (q.rf hR).2.1 (by omega) ?_
    refine e_Pn.getf (z := w1 cd 0) kAlk rfl rfl rfl (fun b3 => ?_)
    refine e_Pn.callA rfl (fun n9 d9 => u_22 (q.rf hR)) (fun r5 w6 h4 => ?_)
    obtain ⟨rfl, h4⟩ := h4
    have q7 := q.tr h4
    show e_Pn 20 elay kcode eI n d 154 (103, (0, (1, 1)) :: (1, (0, y1)) :: tl, [], w6) _
    exact e_Pn.ord kAlk [0, 1] rfl rfl (v_154_103 hR _ y1 w6 q7)
  · show e_Pn 20 elay kcode eI n d 154 (46, (0, (1, 1)) :: (1, (0, y1)) :: tl, [], w1) _
    refine e_Pn.run (t' := (47, (0, (1, 1)) :: (1, (0, y1)) :: tl, [(1, 1)], w1)) kAlk 1 rfl ?_
    refine e_Pn.callA rfl (fun n9 d9 => u_123 (q.rf hR)) (fun r9 w10 h8 => ?_)
    obtain ⟨rfl, h8⟩ := h8
    have q11 := q.tr h8
    show e_Pn 20 elay kcode eI n d 154 (50, (0, (1, 1)) :: (1, (0, y1)) :: tl, [], w10) _
    exact e_Pn.ord kAlk [0, 1] rfl rfl (v_154_50 hR _ y1 w10 q11)
set_option maxHeartbeats 4000000 in
theorem v_154_32 {n d : Nat} {w : eW} {cd : Int} (hR : kRw cd w) (tl : eL) (s0 : Int) (w1 : eW) (q : kq cd w w1) : e_Pn 20 elay kcode eI n d 154 (32, (0, (1, 1)) :: tl, [(0, s0)], w1) (fun r w' => r = [] ∧ kq cd w w') := by
  have hn := hR.1.n
  refine e_Pn.run (t' := (34, (1, (0, s0)) :: (0, (1, 1)) :: List.filter (e_flt 0 1) tl, [(1, 1)], w1)) kAlk 2 rfl ?_
  refine e_Pn.callA rfl (fun n9 d9 => kS_all n9 144 (by decide) d9 _ _ (q.rf hR)) (fun r2 w3 h1 => ?_)
  obtain ⟨rfl, h1⟩ := h1
  have q4 := q.tr h1
  show e_Pn 20 elay kcode eI n d 154 (37, (1, (0, s0)) :: (0, (1, 1)) :: List.filter (e_flt 0 1) tl, [], w3) _
  exact e_Pn.ord kAlk [0, 1] rfl rfl (v_154_37 hR _ s0 w3 q4)
set_option maxHeartbeats 4000000 in
theorem v_154_22 {n d : Nat} {w : eW} {cd : Int} (hR : kRw cd w) (tl : eL) (w1 : eW) (q : kq cd w w1) : e_Pn 20 elay kcode eI n d 154 (22, (0, (1, 1)) :: tl, [], w1) (fun r w' => r = [] ∧ kq cd w w') := by
  have hn := hR.1.n
  refine e_Pn.run (t' := (23, (0, (1, 1)) :: tl, [(1, 1)], w1)) kAlk 1 rfl ?_
  refine e_Pn.getr (z := cd) kAlk rfl rfl (q.rf hR).2.1 (by omega) ?_
  refine e_Pn.run (t' := (29, (0, (1, 1)) :: tl, [(0, 0), (0, 41), (1, cd)], w1)) kAlk 2 rfl ?_
  refine e_Pn.callA rfl (fun n9 d9 => u_21 (q.rf hR)) (fun r2 w3 h1 => ?_)
  obtain ⟨⟨z4, rfl⟩, h1⟩ := h1
  have q5 := q.tr h1
  show e_Pn 20 elay kcode eI n d 154 (32, (0, (1, 1)) :: tl, [(0, z4)], w3) _
  exact e_Pn.ord kAlk [0] rfl rfl (v_154_32 hR _ z4 w3 q5)
set_option maxHeartbeats 4000000 in
theorem v_154_16 {n d : Nat} {w : eW} {cd : Int} (hR : kRw cd w) (tl : eL) (w1 : eW) (q : kq cd w w1) : e_Pn 20 elay kcode eI n d 154 (16, (0, (1, 1)) :: tl, [], w1) (fun r w' => r = [] ∧ kq cd w w') := by
  have hn := hR.1.n
  refine e_Pn.run (t' := (19, (0, (1, 1)) :: tl, [(0, 20), (1, 1)], w1)) kAlk 2 rfl ?_
  refine e_Pn.callA rfl (fun n9 d9 => u_129 (q.rf hR)) (fun r2 w3 h1 => ?_)
  obtain ⟨rfl, h1⟩ := h1
  have q4 := q.tr h1
  show e_Pn 20 elay kcode eI n d 154 (22, (0, (1, 1)) :: tl, [], w3) _
  exact e_Pn.ord kAlk [0] rfl rfl (v_154_22 hR _ w3 q4)
set_option maxHeartbeats 4000000 in
theorem v_154_12 {n d : Nat} {w : eW} {cd : Int} (hR : kRw cd w) (tl : eL) (w1 : eW) (q : kq cd w w1) : e_Pn 20 elay kcode eI n d 154 (12, (0, (1, 1)) :: tl, [], w1) (fun r w' => r = [] ∧ kq cd w w') := by
  have hn := hR.1.n
  refine e_Pn.run (t' := (13, (0, (1, 1)) :: tl, [(1, 1)], w1)) kAlk 1 rfl ?_
  refine e_Pn.callA rfl (fun n9 d9 => kE_all n9 158 (by decide) d9 _ _ (q.rf hR)) (fun r2 w3 h1 => ?_)
  obtain ⟨rfl, h1⟩ := h1
  have q4 := q.tr h1
  show e_Pn 20 elay kcode eI n d 154 (16, (0, (1, 1)) :: tl, [], w3) _
  exact e_Pn.ord kAlk [0] rfl rfl (v_154_16 hR _ w3 q4)
set_option maxHeartbeats 4000000 in
theorem v_154_4 {n d : Nat} {w : eW} {cd : Int} (hR : kRw cd w) (tl : eL) (s0 : Int) (w1 : eW) (q : kq cd w w1) : e_Pn 20 elay kcode eI n d 154 (4, (0, (1, 1)) :: tl, [(0, s0)], w1) (fun r w' => r = [] ∧ kq cd w w') := by
  have hn := hR.1.n
  refine e_Pn.if1 kAlk rfl (fun h1 => ?_) (fun h1 => ?_)
  · show e_Pn 20 elay kcode eI n d 154 (8, (0, (1, 1)) :: tl, [], w1) _
    refine e_Pn.run (t' := (9, (0, (1, 1)) :: tl, [(1, 1)], w1)) kAlk 1 rfl ?_
    refine e_Pn.callA rfl (fun n9 d9 => u_123 (q.rf hR)) (fun r3 w4 h2 => ?_)
    obtain ⟨rfl, h2⟩ := h2
    have q5 := q.tr h2
    show e_Pn 20 elay kcode eI n d 154 (12, (0, (1, 1)) :: tl, [], w4) _
    exact e_Pn.ord kAlk [0] rfl rfl (v_154_12 hR _ w4 q5)
  · show e_Pn 20 elay kcode eI n d 154 (7, (0, (1, 1)) :: tl, [], w1) _
    exact e_Pn.ret0 rfl ⟨rfl, q⟩
set_option maxHeartbeats 4000000 in
theorem v_155_137 {n d : Nat} {w : eW} {cd : Int} (hR : kRw cd w) (tl : eL) (y1 : Int) (y2 : Int) (y3 : Int) (y4 : Int) (w1 : eW) (q : kq cd w w1) : e_Pn 20 elay kcode eI n d 155 (137, (0, (1, 1)) :: (1, (0, y1)) :: (2, (0, y2)) :: (3, (0, y3)) :: (4, (0, y4)) :: tl, [], w1) (fun r w' => r = [] ∧ kq cd w w') := by
  have hn := hR.1.n
  refine e_Pn.run (t' := (139, (0, (1, 1)) :: (1, (0, y1)) :: (2, (0, y2)) :: (3, (0, y3)) :: (4, (0, y4)) :: tl, [(0, y1), (1, 1)], w1)) kAlk 2 rfl ?_
  refine e_Pn.putf kAlk rfl rfl ?_
  generalize hw1 : e_up w1 1 13 y1 = w1
  have q2 : kq cd w w1 := kq.up q hR.1 hw1 (by decide) (fun _ => by decide) (fun g => absurd g.symm hn.1)
  refine e_Pn.run (t' := (144, (0, (1, 1)) :: (1, (0, y1)) :: (2, (0, y2)) :: (3, (0, y3)) :: (4, (0, y4)) :: tl, [(1, 1), (1, 1)], w1)) kAlk 2 rfl ?_
  refine e_Pn.getf (z := w1 1 11) kAlk rfl rfl rfl (fun b3 => ?_)
  refine e_Pn.run (t' := (148, (0, (1, 1)) :: (1, (0, y1)) :: (2, (0, y2)) :: (3, (0, y3)) :: (4, (0, y4)) :: tl, [(0, 1), (0, w1 1 11), (1, 1)], w1)) kAlk 1 rfl ?_
  refine e_Pn.bin0 kAlk rfl (fun z4 hz4 => ?_)
  refine e_Pn.putf kAlk rfl rfl ?_
  generalize hw5 : e_up w1 1 11 z4 = w5
  have q6 : kq cd w w5 := kq.up q2 hR.1 hw5 (by decide) (fun _ => by decide) (fun g => absurd g.symm hn.1)
  exact e_Pn.ret0 rfl ⟨rfl, q6⟩
set_option maxHeartbeats 4000000 in
theorem v_155_120 {n d : Nat} {w : eW} {cd : Int} (hR : kRw cd w) (tl : eL) (y1 : Int) (y2 : Int) (y3 : Int) (y4 : Int) (w1 : eW) (q : kq cd w w1) : e_Pn 20 elay kcode eI n d 155 (120, (0, (1, 1)) :: (1, (0, y1)) :: (2, (0, y2)) :: (3, (0, y3)) :: (4, (0, y4)) :: tl, [], w1) (fun r w' => r = [] ∧ kq cd w w') := by
  have hn := hR.1.n
  refine e_Pn.run (t' := (121, (0, (1, 1)) :: (1, (0, y1)) :: (2, (0, y2)) :: (3, (0, y3)) :: (4, (0, y4)) :: tl, [(1, 1)], w1)) kAlk 1 rfl ?_
  refine e_Pn.getr (z := cd) kAlk rfl rfl (q.rf hR).2.1 (by omega) ?_
  refine e_Pn.run (t' := (126, (0, (1, 1)) :: (1, (0, y1)) :: (2, (0, y2)) :: (3, (0, y3)) :: (4, (0, y4)) :: tl, [(0, 1), (0, y2), (1, cd)], w1)) kAlk 2 rfl ?_
  refine e_Pn.bin0 kAlk rfl (fun z1 hz1 => ?_)
  refine e_Pn.run (t' := (128, (0, (1, 1)) :: (1, (0, y1)) :: (2, (0, y2)) :: (3, (0, y3)) :: (4, (0, y4)) :: tl, [(1, 1), (0, z1), (1, cd)], w1)) kAlk 1 rfl ?_
  refine e_Pn.getr (z := cd) kAlk rfl rfl (q.rf hR).2.1 (by omega) ?_
  refine e_Pn.getf (z := w1 cd 0) kAlk rfl rfl rfl (fun b2 => ?_)
  refine e_Pn.callA rfl (fun n9 d9 => u_22 (q.rf hR)) (fun r4 w5 h3 => ?_)
  obtain ⟨rfl, h3⟩ := h3
  have q6 := q.tr h3
  show e_Pn 20 elay kcode eI n d 155 (137, (0, (1, 1)) :: (1, (0, y1)) :: (2, (0, y2)) :: (3, (0, y3)) :: (4, (0, y4)) :: tl, [], w5) _
  exact e_Pn.ord kAlk [0, 1, 2, 3, 4] rfl rfl (v_155_137 hR _ y1 y2 y3 y4 w5 q6)
set_option maxHeartbeats 4000000 in
theorem v_155_103 {n d : Nat} {w : eW} {cd : Int} (hR : kRw cd w) (tl : eL) (y1 : Int) (y2 : Int) (y3 : Int) (y4 : Int) (s0 : Int) (w1 : eW) (q : kq cd w w1) : e_Pn 20 elay kcode eI n d 155 (103, (0, (1, 1)) :: (1, (0, y1)) :: (2, (0, y2)) :: (3, (0, y3)) :: (4, (0, y4)) :: tl, [(0, s0)], w1) (fun r w' => r = [] ∧ kq cd w w') := by
  have hn := hR.1.n
  refine e_Pn.run (t' := (105, (0, (1, 1)) :: (1, (0, y1)) :: (2, (0, y2)) :: (3, (0, y3)) :: (4, (0, y4)) :: tl, [(1, 1)], w1)) kAlk 2 rfl ?_
  refine e_Pn.getr (z := cd) kAlk rfl rfl (q.rf hR).2.1 (by omega) ?_
  refine e_Pn.run (t' := (111, (0, (1, 1)) :: (1, (0, y1)) :: (2, (0, y2)) :: (3, (0, y3)) :: (4, (0, y4)) :: tl, [(1, 1), (0, y4), (1, cd)], w1)) kAlk 2 rfl ?_
  refine e_Pn.getr (z := cd) kAlk rfl rfl (q.rf hR).2.1 (by omega) ?_
  refine e_Pn.getf (z := w1 cd 0) kAlk rfl rfl rfl (fun b1 => ?_)
  refine e_Pn.callA rfl (fun n9 d9 => u_22 (q.rf hR)) (fun r3 w4 h2 => ?_)
  obtain ⟨rfl, h2⟩ := h2
  have q5 := q.tr h2
  show e_Pn 20 elay kcode eI n d 155 (120, (0, (1, 1)) :: (1, (0, y1)) :: (2, (0, y2)) :: (3, (0, y3)) :: (4, (0, y4)) :: tl, [], w4) _
  exact e_Pn.ord kAlk [0, 1, 2, 3, 4] rfl rfl (v_155_120 hR _ y1 y2 y3 y4 w4 q5)
set_option maxHeartbeats 4000000 in
theorem v_155_93 {n d : Nat} {w : eW} {cd : Int} (hR : kRw cd w) (tl : eL) (y1 : Int) (y2 : Int) (y3 : Int) (y4 : Int) (w1 : eW) (q : kq cd w w1) : e_Pn 20 elay kcode eI n d 155 (93, (0, (1, 1)) :: (1, (0, y1)) :: (2, (0, y2)) :: (3, (0, y3)) :: (4, (0, y4)) :: tl, [], w1) (fun r w' => r = [] ∧ kq cd w w') := by
  have hn := hR.1.n
  refine e_Pn.run (t' := (94, (0, (1, 1)) :: (1, (0, y1)) :: (2, (0, y2)) :: (3, (0, y3)) :: (4, (0, y4)) :: tl, [(1, 1)], w1)) kAlk 1 rfl ?_
  refine e_Pn.getr (z := cd) kAlk rfl rfl (q.rf hR).2.1 (by omega) ?_
  refine e_Pn.run (t' := (100, (0, (1, 1)) :: (1, (0, y1)) :: (2, (0, y2)) :: (3, (0, y3)) :: (4, (0, y4)) :: tl, [(0, y3), (0, 40), (1, cd)], w1)) kAlk 2 rfl ?_
  refine e_Pn.callA rfl (fun n9 d9 => u_21 (q.rf hR)) (fun r2 w3 h1 => ?_)
  obtain ⟨⟨z4, rfl⟩, h1⟩ := h1
  have q5 := q.tr h1
  show e_Pn 20 elay kcode eI n d 155 (103, (0, (1, 1)) :: (1, (0, y1)) :: (2, (0, y2)) :: (3, (0, y3)) :: (4, (0, y4)) :: tl, [(0, z4)], w3) _
  exact e_Pn.ord kAlk [0, 1, 2, 3, 4] rfl rfl (v_155_103 hR _ y1 y2 y3 y4 z4 w3 q5)
set_option maxHeartbeats 4000000 in
theorem v_155_87 {n d : Nat} {w : eW} {cd : Int} (hR : kRw cd w) (tl : eL) (y1 : Int) (y2 : Int) (y3 : Int) (y4 : Int) (w1 : eW) (q : kq cd w w1) : e_Pn 20 elay kcode eI n d 155 (87, (0, (1, 1)) :: (1, (0, y1)) :: (2, (0, y2)) :: (3, (0, y3)) :: (4, (0, y4)) :: tl, [], w1) (fun r w' => r = [] ∧ kq cd w w') := by
  have hn := hR.1.n
  refine e_Pn.run (t' := (90, (0, (1, 1)) :: (1, (0, y1)) :: (2, (0, y2)) :: (3, (0, y3)) :: (4, (0, y4)) :: tl, [(0, 23), (1, 1)], w1)) kAlk 2 rfl ?_
  refine e_Pn.callA rfl (fun n9 d9 => u_129 (q.rf hR)) (fun r2 w3 h1 => ?_)
  obtain ⟨rfl, h1⟩ := h1
  have q4 := q.tr h1
  show e_Pn 20 elay kcode eI n d 155 (93, (0, (1, 1)) :: (1, (0, y1)) :: (2, (0, y2)) :: (3, (0, y3)) :: (4, (0, y4)) :: tl, [], w3) _
  exact e_Pn.ord kAlk [0, 1, 2, 3, 4] rfl rfl (v_155_93 hR _ y1 y2 y3 y4 w3 q4)
set_option maxHeartbeats 4000000 in
theorem v_155_81 {n d : Nat} {w : eW} {cd : Int} (hR : kRw cd w) (tl : eL) (y1 : Int) (y2 : Int) (y3 : Int) (s0 : Int) (w1 : eW) (q : kq cd w w1) : e_Pn 20 elay kcode eI n d 155 (81, (0, (1, 1)) :: (1, (0, y1)) :: (2, (0, y2)) :: (3, (0, y3)) :: tl, [(0, s0)], w1) (fun r w' => r = [] ∧ kq cd w w') := by
  have hn := hR.1.n
  refine e_Pn.run (t' := (84, (4, (0, s0)) :: (0, (1, 1)) :: (1, (0, y1)) :: (2, (0, y2)) :: (3, (0, y3)) :: List.filter (e_flt 0 4) tl, [(1, 1)], w1)) kAlk 2 rfl ?_
  refine e_Pn.callA rfl (fun n9 d9 => kS_all n9 144 (by decide) d9 _ _ (q.rf hR)) (fun r2 w3 h1 => ?_)
  obtain ⟨rfl, h1⟩ := h1
  have q4 := q.tr h1
  show e_Pn 20 elay kcode eI n d 155 (87, (4, (0, s0)) :: (0, (1, 1)) :: (1, (0, y1)) :: (2, (0, y2)) :: (3, (0, y3)) :: List.filter (e_flt 0 4) tl, [], w3) _
  exact e_Pn.ord kAlk [0, 1, 2, 3, 4] rfl rfl (v_155_87 hR _ y1 y2 y3 s0 w3 q4)
set_option maxHeartbeats 4000000 in
theorem v_155_71 {n d : Nat} {w : eW} {cd : Int} (hR : kRw cd w) (tl : eL) (y1 : Int) (y2 : Int) (y3 : Int) (w1 : eW) (q : kq cd w w1) : e_Pn 20 elay kcode eI n d 155 (71, (0, (1, 1)) :: (1, (0, y1)) :: (2, (0, y2)) :: (3, (0, y3)) :: tl, [], w1) (fun r w' => r = [] ∧ kq cd w w') := by
  have hn := hR.1.n
  refine e_Pn.run (t' := (72, (0, (1, 1)) :: (1, (0, y1)) :: (2, (0, y2)) :: (3, (0, y3)) :: tl, [(1, 1)], w1)) kAlk 1 rfl ?_
  refine e_Pn.getr (z := cd) kAlk rfl rfl (q.rf hR).2.1 (by omega) ?_
  refine e_Pn.run (t' := (78, (0, (1, 1)) :: (1, (0, y1)) :: (2, (0, y2)) :: (3, (0, y3)) :: tl, [(0, 0), (0, 41), (1, cd)], w1)) kAlk 2 rfl ?_
  refine e_Pn.callA rfl (fun n9 d9 => u_21 (q.rf hR)) (fun r2 w3 h1 => ?_)
  obtain ⟨⟨z4, rfl⟩, h1⟩ := h1
  have q5 := q.tr h1
  show e_Pn 20 elay kcode eI n d 155 (81, (0, (1, 1)) :: (1, (0, y1)) :: (2, (0, y2)) :: (3, (0, y3)) :: tl, [(0, z4)], w3) _
  exact e_Pn.ord kAlk [0, 1, 2, 3] rfl rfl (v_155_81 hR _ y1 y2 y3 z4 w3 q5)
set_option maxHeartbeats 4000000 in
theorem v_155_65 {n d : Nat} {w : eW} {cd : Int} (hR : kRw cd w) (tl : eL) (y1 : Int) (y2 : Int) (y3 : Int) (w1 : eW) (q : kq cd w w1) : e_Pn 20 elay kcode eI n d 155 (65, (0, (1, 1)) :: (1, (0, y1)) :: (2, (0, y2)) :: (3, (0, y3)) :: tl, [], w1) (fun r w' => r = [] ∧ kq cd w w') := by
  have hn := hR.1.n
  refine e_Pn.run (t' := (68, (0, (1, 1)) :: (1, (0, y1)) :: (2, (0, y2)) :: (3, (0, y3)) :: tl, [(0, 20), (1, 1)], w1)) kAlk 2 rfl ?_
  refine e_Pn.callA rfl (fun n9 d9 => u_129 (q.rf hR)) (fun r2 w3 h1 => ?_)
  obtain ⟨rfl, h1⟩ := h1
  have q4 := q.tr h1
  show e_Pn 20 elay kcode eI n d 155 (71, (0, (1, 1)) :: (1, (0, y1)) :: (2, (0, y2)) :: (3, (0, y3)) :: tl, [], w3) _
  exact e_Pn.ord kAlk [0, 1, 2, 3] rfl rfl (v_155_71 hR _ y1 y2 y3 w3 q4)
set_option maxHeartbeats 4000000 in
theorem v_155_61 {n d : Nat} {w : eW} {cd : Int} (hR : kRw cd w) (tl : eL) (y1 : Int) (y2 : Int) (y3 : Int) (w1 : eW) (q : kq cd w w1) : e_Pn 20 elay kcode eI n d 155 (61, (0, (1, 1)) :: (1, (0, y1)) :: (2, (0, y2)) :: (3, (0, y3)) :: tl, [], w1) (fun r w' => r = [] ∧ kq cd w w') := by
  have hn := hR.1.n
  refine e_Pn.run (t' := (62, (0, (1, 1)) :: (1, (0, y1)) :: (2, (0, y2)) :: (3, (0, y3)) :: tl, [(1, 1)], w1)) kAlk 1 rfl ?_
  refine e_Pn.callA rfl (fun n9 d9 => kE_all n9 158 (by decide) d9 _ _ (q.rf hR)) (fun r2 w3 h1 => ?_)
  obtain ⟨rfl, h1⟩ := h1
  have q4 := q.tr h1
  show e_Pn 20 elay kcode eI n d 155 (65, (0, (1, 1)) :: (1, (0, y1)) :: (2, (0, y2)) :: (3, (0, y3)) :: tl, [], w3) _
  exact e_Pn.ord kAlk [0, 1, 2, 3] rfl rfl (v_155_65 hR _ y1 y2 y3 w3 q4)
set_option maxHeartbeats 4000000 in
theorem v_155_56 {n d : Nat} {w : eW} {cd : Int} (hR : kRw cd w) (tl : eL) (y1 : Int) (y2 : Int) (s0 : Int) (w1 : eW) (q : kq cd w w1) : e_Pn 20 elay kcode eI n d 155 (56, (0, (1, 1)) :: (1, (0, y1)) :: (2, (0, y2)) :: tl, [(0, s0)], w1) (fun r w' => r = [] ∧ kq cd w w') := by
  have hn := hR.1.n
  refine e_Pn.run (t' := (58, (3, (0, s0)) :: (0, (1, 1)) :: (1, (0, y1)) :: (2, (0, y2)) :: List.filter (e_flt 0 3) tl, [(1, 1)], w1)) kAlk 2 rfl ?_
  refine e_Pn.callA rfl (fun n9 d9 => u_123 (q.rf hR)) (fun r2 w3 h1 => ?_)
  obtain ⟨rfl, h1⟩ := h1
  have q4 := q.tr h1
  show e_Pn 20 elay kcode eI n d 155 (61, (3, (0, s0)) :: (0, (1, 1)) :: (1, (0, y1)) :: (2, (0, y2)) :: List.filter (e_flt 0 3) tl, [], w3) _
  exact e_Pn.ord kAlk [0, 1, 2, 3] rfl rfl (v_155_61 hR _ y1 y2 s0 w3 q4)
set_option maxHeartbeats 4000000 in
theorem v_155_45 {n d : Nat} {w : eW} {cd : Int} (hR : kRw cd w) (tl : eL) (y1 : Int) (y2 : Int) (s0 : Int) (w1 : eW) (q : kq cd w w1) : e_Pn 20 elay kcode eI n d 155 (45, (0, (1, 1)) :: (1, (0, y1)) :: (2, (0, y2)) :: tl, [(0, s0)], w1) (fun r w' => r = [] ∧ kq cd w w') := by
  have hn := hR.1.n
  refine e_Pn.run (t' := (47, (0, (1, 1)) :: (1, (0, y1)) :: (2, (0, y2)) :: tl, [(1, 1)], w1)) kAlk 2 rfl ?_
  refine e_Pn.getr (z := cd) kAlk rfl rfl (q.rf hR).2.1 (by omega) ?_
  refine e_Pn.run (t' := (53, (0, (1, 1)) :: (1, (0, y1)) :: (2, (0, y2)) :: tl, [(0, 0), (0, 50), (1, cd)], w1)) kAlk 2 rfl ?_
  refine e_Pn.callA rfl (fun n9 d9 => u_21 (q.rf hR)) (fun r2 w3 h1 => ?_)
  obtain ⟨⟨z4, rfl⟩, h1⟩ := h1
  have q5 := q.tr h1
  show e_Pn 20 elay kcode eI n d 155 (56, (0, (1, 1)) :: (1, (0, y1)) :: (2, (0, y2)) :: tl, [(0, z4)], w3) _
  exact e_Pn.ord kAlk [0, 1, 2] rfl rfl (v_155_56 hR _ y1 y2 z4 w3 q5)
set_option maxHeartbeats 4000000 in
theorem v_155_27 {n d : Nat} {w : eW} {cd : Int} (hR : kRw cd w) (tl : eL) (y1 : Int) (s0 : Int) (w1 : eW) (q : kq cd w w1) : e_Pn 20 elay kcode eI n d 155 (27, (0, (1, 1)) :: (1, (0, y1)) :: tl, [(0, s0), (1, 1)], w1) (fun r w' => r = [] ∧ kq cd w w') := by
  have hn := hR.1.n
  refine e_Pn.putf kAlk rfl rfl ?_
  generalize hw1 : e_up w1 1 13 s0 = w1
  have q2 : kq cd w w1 := kq.up q hR.1 hw1 (by decide) (fun _ => by decide) (fun g => absurd g.symm hn.1)
  refine e_Pn.run (t' := (31, (0, (1, 1)) :: (1, (0, y1)) :: tl, [(1, 1)], w1)) kAlk 1 rfl ?_
  refine e_Pn.getf (z := w1 1 13) kAlk rfl rfl rfl (fun b3 => ?_)
  refine e_Pn.run (t' := (36, (2, (0, w1 1 13)) :: (0, (1, 1)) :: (1, (0, y1)) :: List.filter (e_flt 0 2) tl, [(1, 1)], w1)) kAlk 2 rfl ?_
  refine e_Pn.getr (z := cd) kAlk rfl rfl (q2.rf hR).2.1 (by omega) ?_
  refine e_Pn.run (t' := (42, (2, (0, w1 1 13)) :: (0, (1, 1)) :: (1, (0, y1)) :: List.filter (e_flt 0 2) tl, [(0, 0), (0, 49), (1, cd)], w1)) kAlk 2 rfl ?_
  refine e_Pn.callA rfl (fun n9 d9 => u_21 (q2.rf hR)) (fun r5 w6 h4 => ?_)
  obtain ⟨⟨z7, rfl⟩, h4⟩ := h4
  have q8 := q2.tr h4
  show e_Pn 20 elay kcode eI n d 155 (45, (2, (0, w1 1 13)) :: (0, (1, 1)) :: (1, (0, y1)) :: List.filter (e_flt 0 2) tl, [(0, z7)], w6) _
  exact e_Pn.ord kAlk [0, 1, 2] rfl rfl (v_155_45 hR _ y1 (w1 1 13) z7 w6 q8)
set_option maxHeartbeats 4000000 in
theorem v_155_4 {n d : Nat} {w : eW} {cd : Int} (hR : kRw cd w) (tl : eL) (s0 : Int) (w1 : eW) (q : kq cd w w1) : e_Pn 20 elay kcode eI n d 155 (4, (0, (1, 1)) :: tl, [(0, s0)], w1) (fun r w' => r = [] ∧ kq cd w w') := by
  have hn := hR.1.n
  refine e_Pn.if1 kAlk rfl (fun h1 => ?_) (fun h1 => ?_)
  · show e_Pn 20 elay kcode eI n d 155 (8, (0, (1, 1)) :: tl, [], w1) _
    refine e_Pn.run (t' := (9, (0, (1, 1)) :: tl, [(1, 1)], w1)) kAlk 1 rfl ?_
    refine e_Pn.getf (z := w1 1 13) kAlk rfl rfl rfl (fun b2 => ?_)
    refine e_Pn.run (t' := (15, (1, (0, w1 1 13)) :: (0, (1, 1)) :: List.filter (e_flt 0 1) tl, [(1, 1), (1, 1)], w1)) kAlk 3 rfl ?_
    refine e_Pn.getr (z := cd) kAlk rfl rfl (q.rf hR).2.1 (by omega) ?_
    refine e_Pn.run (t' := (21, (1, (0, w1 1 13)) :: (0, (1, 1)) :: List.filter (e_flt 0 1) tl, [(1, 1), (0, 45), (1, cd), (1, 1)], w1)) kAlk 2 rfl ?_
    refine e_Pn.getf (z := w1 1 12) kAlk rfl rfl rfl (fun b3 => ?_)
    refine e_Pn.callA rfl (fun n9 d9 => u_21 (q.rf hR)) (fun r5 w6 h4 => ?_)
    obtain ⟨⟨z7, rfl⟩, h4⟩ := h4
    have q8 := q.tr h4
    show e_Pn 20 elay kcode eI n d 155 (27, (1, (0, w1 1 13)) :: (0, (1, 1)) :: List.filter (e_flt 0 1) tl, [(0, z7), (1, 1)], w6) _
    exact e_Pn.ord kAlk [0, 1] rfl rfl (v_155_27 hR _ (w1 1 13) z7 w6 q8)
  · show e_Pn 20 elay kcode eI n d 155 (7, (0, (1, 1)) :: tl, [], w1) _
    exact e_Pn.ret0 rfl ⟨rfl, q⟩
set_option maxHeartbeats 4000000 in
theorem v_156_184 {n d : Nat} {w : eW} {cd : Int} (hR : kRw cd w) (tl : eL) (y1 : Int) (w1 : eW) (q : kq cd w w1) : e_Pn 20 elay kcode eI n d 156 (184, (0, (1, 1)) :: (1, (0, y1)) :: tl, [], w1) (fun r w' => r = [] ∧ kq cd w w') := by
  have hn := hR.1.n
  refine e_Pn.run (t' := (186, (0, (1, 1)) :: (1, (0, y1)) :: tl, [(1, 1), (1, 1)], w1)) kAlk 2 rfl ?_
  refine e_Pn.getf (z := w1 1 11) kAlk rfl rfl rfl (fun b1 => ?_)
  refine e_Pn.run (t' := (190, (0, (1, 1)) :: (1, (0, y1)) :: tl, [(0, 1), (0, w1 1 11), (1, 1)], w1)) kAlk 1 rfl ?_
  refine e_Pn.bin0 kAlk rfl (fun z2 hz2 => ?_)
  refine e_Pn.putf kAlk rfl rfl ?_
  generalize hw3 : e_up w1 1 11 z2 = w3
  have q4 : kq cd w w3 := kq.up q hR.1 hw3 (by decide) (fun _ => by decide) (fun g => absurd g.symm hn.1)
  exact e_Pn.ret0 rfl ⟨rfl, q4⟩
set_option maxHeartbeats 4000000 in
theorem v_156_178 {n d : Nat} {w : eW} {cd : Int} (hR : kRw cd w) (tl : eL) (y1 : Int) (w1 : eW) (q : kq cd w w1) : e_Pn 20 elay kcode eI n d 156 (178, (0, (1, 1)) :: (1, (0, y1)) :: tl, [], w1) (fun r w' => r = [] ∧ kq cd w w') := by
  have hn := hR.1.n
  refine e_Pn.run (t' := (181, (0, (1, 1)) :: (1, (0, y1)) :: tl, [(0, 23), (1, 1)], w1)) kAlk 2 rfl ?_
  refine e_Pn.callA rfl (fun n9 d9 => u_129 (q.rf hR)) (fun r2 w3 h1 => ?_)
  obtain ⟨rfl, h1⟩ := h1
  have q4 := q.tr h1
  show e_Pn 20 elay kcode eI n d 156 (184, (0, (1, 1)) :: (1, (0, y1)) :: tl, [], w3) _
  exact e_Pn.ord kAlk [0, 1] rfl rfl (v_156_184 hR _ y1 w3 q4)
set_option maxHeartbeats 4000000 in
theorem v_156_151 {n d : Nat} {w : eW} {cd : Int} (hR : kRw cd w) (tl : eL) (y1 : Int) (w1 : eW) (q : kq cd w w1) : e_Pn 20 elay kcode eI n d 156 (151, (0, (1, 1)) :: (1, (0, y1)) :: tl, [], w1) (fun r w' => r = [] ∧ kq cd w w') := by
  have hn := hR.1.n
  refine e_Pn.run (t' := (153, (0, (1, 1)) :: (1, (0, y1)) :: tl, [(1, 1), (1, 1)], w1)) kAlk 2 rfl ?_
  refine e_Pn.getf (z := w1 1 12) kAlk rfl rfl rfl (fun b1 => ?_)
  refine e_Pn.run (t' := (157, (0, (1, 1)) :: (1, (0, y1)) :: tl, [(0, 1), (0, w1 1 12), (1, 1)], w1)) kAlk 1 rfl ?_
  refine e_Pn.bin0 kAlk rfl (fun z2 hz2 => ?_)
  refine e_Pn.putf kAlk rfl rfl ?_
  generalize hw3 : e_up w1 1 12 z2 = w3
  have q4 : kq cd w w3 := kq.up q hR.1 hw3 (by decide) (fun _ => by decide) (fun g => absurd g.symm hn.1)
  refine e_Pn.run (t' := (162, (0, (1, 1)) :: (1, (0, y1)) :: tl, [(1, 1)], w3)) kAlk 1 rfl ?_
  refine e_Pn.getr (z := cd) kAlk rfl rfl (q4.rf hR).2.1 (by omega) ?_
  refine e_Pn.run (t' := (167, (0, (1, 1)) :: (1, (0, y1)) :: tl, [(0, 3), (0, y1), (1, cd)], w3)) kAlk 2 rfl ?_
  refine e_Pn.bin0 kAlk rfl (fun z5 hz5 => ?_)
  refine e_Pn.run (t' := (169, (0, (1, 1)) :: (1, (0, y1)) :: tl, [(1, 1), (0, z5), (1, cd)], w3)) kAlk 1 rfl ?_
  refine e_Pn.getr (z := cd) kAlk rfl rfl (q4.rf hR).2.1 (by omega) ?_
  refine e_Pn.getf (z := w3 cd 0) kAlk rfl rfl rfl (fun b6 => ?_)
  refine e_Pn.callA rfl (fun n9 d9 => u_22 (q4.rf hR)) (fun r8 w9 h7 => ?_)
  obtain ⟨rfl, h7⟩ := h7
  have q10 := q4.tr h7
  show e_Pn 20 elay kcode eI n d 156 (178, (0, (1, 1)) :: (1, (0, y1)) :: tl, [], w9) _
  exact e_Pn.ord kAlk [0, 1] rfl rfl (v_156_178 hR _ y1 w9 q10)
set_option maxHeartbeats 4000000 in
theorem v_156_145 {n d : Nat} {w : eW} {cd : Int} (hR : kRw cd w) (tl : eL) (y1 : Int) (w1 : eW) (q : kq cd w w1) : e_Pn 20 elay kcode eI n d 156 (145, (0, (1, 1)) :: (1, (0, y1)) :: tl, [], w1) (fun r w' => r = [] ∧ kq cd w w') := by
  have hn := hR.1.n
  refine e_Pn.run (t' := (148, (0, (1, 1)) :: (1, (0, y1)) :: tl, [(0, 48), (1, 1)], w1)) kAlk 2 rfl ?_
  refine e_Pn.callA rfl (fun n9 d9 => u_157_a (q.rf hR)) (fun r2 w3 h1 => ?_)
  obtain ⟨rfl, h1⟩ := h1
  have q4 := q.tr h1
  show e_Pn 20 elay kcode eI n d 156 (151, (0, (1, 1)) :: (1, (0, y1)) :: tl, [], w3) _
  exact e_Pn.ord kAlk [0, 1] rfl rfl (v_156_151 hR _ y1 w3 q4)
set_option maxHeartbeats 4000000 in
theorem v_156_119 {n d : Nat} {w : eW} {cd : Int} (hR : kRw cd w) (tl : eL) (y1 : Int) (w1 : eW) (q : kq cd w w1) : e_Pn 20 elay kcode eI n d 156 (119, (0, (1, 1)) :: (1, (0, y1)) :: tl, [], w1) (fun r w' => r = [] ∧ kq cd w w') := by
  have hn := hR.1.n
  refine e_Pn.run (t' := (120, (0, (1, 1)) :: (1, (0, y1)) :: tl, [(1, 1)], w1)) kAlk 1 rfl ?_
  refine e_Pn.getf (z := w1 1 5) kAlk rfl rfl rfl (fun b1 => ?_)
  refine e_Pn.run (t' := (125, (0, (1, 1)) :: (1, (0, y1)) :: tl, [(0, 44), (0, w1 1 5)], w1)) kAlk 1 rfl ?_
  refine e_Pn.if2 kAlk rfl (fun h2 => ?_) (fun h2 => ?_)
  · show e_Pn 20 elay kcode eI n d 156 (151, (0, (1, 1)) :: (1, (0, y1)) :: tl, [], w1) _
    refine e_Pn.run (t' := (153, (0, (1, 1)) :: (1, (0, y1)) :: tl, [(1, 1), (1, 1)], w1)) kAlk 2 rfl ?_
    refine e_Pn.getf (z := w1 1 12) kAlk rfl rfl rfl (fun b3 => ?_)
    refine e_Pn.run (t' := (157, (0, (1, 1)) :: (1, (0, y1)) :: tl, [(0, 1), (0, w1 1 12), (1, 1)], w1)) kAlk 1 rfl ?_
    refine e_Pn.bin0 kAlk rfl (fun z4 hz4 => ?_)
    refine e_Pn.putf kAlk rfl rfl ?_
    generalize hw5 : e_up w1 1 12 z4 = w5
    have q6 : kq cd w w5 := kq.up q hR.1 hw5 (by decide) (fun _ => by decide) (fun g => absurd g.symm hn.1)
    refine e_Pn.run (t' := (162, (0, (1, 1)) :: (1, (0, y1)) :: tl, [(1, 1)], w5)) kAlk 1 rfl ?_
    refine e_Pn.getr (z := cd) kAlk rfl rfl (q6.rf hR).2.1 (by omega) ?_
    refine e_Pn.run (t' := (167, (0, (1, 1)) :: (1, (0, y1)) :: tl, [(0, 3), (0, y1), (1, cd)], w5)) kAlk 2 rfl ?_
    refine e_Pn.bin0 kAlk rfl (fun z7 hz7 => ?_)
    refine e_Pn.run (t' := (169, (0, (1, 1)) :: (1, (0, y1)) :: tl, [(1, 1), (0, z7), (1, cd)], w5)) kAlk 1 rfl ?_
    refine e_Pn.getr (z := cd) kAlk rfl rfl (q6.rf hR).2.1 (by omega) ?_
    refine e_Pn.getf (z := w5 cd 0) kAlk rfl rfl rfl (fun b8 => ?_)
    refine e_Pn.callA rfl (fun n9 d9 => u_22 (q6.rf hR)) (fun r10 w11 h9 => ?_)
    obtain ⟨rfl, h9⟩ := h9
    have q12 := q6.tr h9
    show e_Pn 20 elay kcode eI n d 156 (178, (0, (1, 1)) :: (1, (0, y1)) :: tl, [], w11) _
    exact e_Pn.ord kAlk [0, 1] rfl rfl (v_156_178 hR _ y1 w11 q12)
  · show e_Pn 20 elay kcode eI n d 156 (128, (0, (1, 1)) :: (1, (0, y1)) :: tl, [], w1) _
    refine e_Pn.run (t' := (129, (0, (1, 1)) :: (1, (0, y1)) :: tl, [(1, 1)], w1)) kAlk 1 rfl ?_
    refine e_Pn.getr (z := cd) kAlk rfl rfl (q.rf hR).2.1 (by omega) ?_
    refine e_Pn.run (t' := (134, (0, (1, 1)) :: (1, (0, y1)) :: tl, [(0, 2), (0, y1), (1, cd)], w1)) kAlk 2 rfl ?_
    refine e_Pn.bin0 kAlk rfl (fun z13 hz13 => ?_)
    refine e_Pn.run (t' := (136, (0, (1, 1)) :: (1, (0, y1)) :: tl, [(1, 1), (0, z13), (1, cd)], w1)) kAlk 1 rfl ?_
    refine e_Pn.getr (z := cd) kAlk rfl rfl (q.rf hR).2.1 (by omega) ?_
    refine e_Pn.getf (z := w1 cd 0) kAlk rfl rfl rfl (fun b14 => ?_)
    refine e_Pn.callA rfl (fun n9 d9 => u_22 (q.rf hR)) (fun r16 w17 h15 => ?_)
    obtain ⟨rfl, h15⟩ := h15
    have q18 := q.tr h15
    show e_Pn 20 elay kcode eI n d 156 (145, (0, (1, 1)) :: (1, (0, y1)) :: tl, [], w17) _
    exact e_Pn.ord kAlk [0, 1] rfl rfl (v_156_145 hR _ y1 w17 q18)
set_option maxHeartbeats 4000000 in
theorem v_156_113 {n d : Nat} {w : eW} {cd : Int} (hR : kRw cd w) (tl : eL) (y1 : Int) (w1 : eW) (q : kq cd w w1) : e_Pn 20 elay kcode eI n d 156 (113, (0, (1, 1)) :: (1, (0, y1)) :: tl, [], w1) (fun r w' => r = [] ∧ kq cd w w') := by
  have hn := hR.1.n
  refine e_Pn.run (t' := (116, (0, (1, 1)) :: (1, (0, y1)) :: tl, [(0, 47), (1, 1)], w1)) kAlk 2 rfl ?_
  refine e_Pn.callA rfl (fun n9 d9 => u_157_a (q.rf hR)) (fun r2 w3 h1 => ?_)
  obtain ⟨rfl, h1⟩ := h1
  have q4 := q.tr h1
  show e_Pn 20 elay kcode eI n d 156 (119, (0, (1, 1)) :: (1, (0, y1)) :: tl, [], w3) _
  exact e_Pn.ord kAlk [0, 1] rfl rfl (v_156_119 hR _ y1 w3 q4)
set_option maxHeartbeats 4000000 in
theorem v_156_86 {n d : Nat} {w : eW} {cd : Int} (hR : kRw cd w) (tl : eL) (y1 : Int) (s0 : Int) (w1 : eW) (q : kq cd w w1) : e_Pn 20 elay kcode eI n d 156 (86, (0, (1, 1)) :: (1, (0, y1)) :: tl, [(0, s0)], w1) (fun r w' => r = [] ∧ kq cd w w') := by
  have hn := hR.1.n
  refine e_Pn.run (t' := (88, (0, (1, 1)) :: (1, (0, y1)) :: tl, [(1, 1)], w1)) kAlk 2 rfl ?_
  refine e_Pn.getf (z := w1 1 5) kAlk rfl rfl rfl (fun b1 => ?_)
  refine e_Pn.run (t' := (93, (0, (1, 1)) :: (1, (0, y1)) :: tl, [(0, 43), (0, w1 1 5)], w1)) kAlk 1 rfl ?_
  refine e_Pn.if2 kAlk rfl (fun h2 => ?_) (fun h2 => ?_)
  · show e_Pn 20 elay kcode eI n d 156 (119, (0, (1, 1)) :: (1, (0, y1)) :: tl, [], w1) _
    refine e_Pn.run (t' := (120, (0, (1, 1)) :: (1, (0, y1)) :: tl, [(1, 1)], w1)) kAlk 1 rfl ?_
    refine e_Pn.getf (z := w1 1 5) kAlk rfl rfl rfl (fun b3 => ?_)
    refine e_Pn.run (t' := (125, (0, (1, 1)) :: (1, (0, y1)) :: tl, [(0, 44), (0, w1 1 5)], w1)) kAlk 1 rfl ?_
    refine e_Pn.if2 kAlk rfl (fun h4 => ?_) (fun h4 => ?_)
    · show e_Pn 20 elay kcode eI n d 156 (151, (0, (1, 1)) :: (1, (0, y1)) :: tl, [], w1) _
      refine e_Pn.run (t' := (153, (0, (1, 1)) :: (1, (0, y1)) :: tl, [(1, 1), (1, 1)], w1)) kAlk 2 rfl ?_
      refine e_Pn.getf (z := w1 1 12) kAlk rfl rfl rfl (fun b5 => ?_)
      refine e_Pn.run (t' := (157, (0, (1, 1)) :: (1, (0, y1)) :: tl, [(0, 1), (0, w1 1 12), (1, 1)], w1)) kAlk 1 rfl ?_
      refine e_Pn.bin0 kAlk rfl (fun z6 hz6 => ?_)
      refine e_Pn.putf kAlk rfl rfl ?_
      generalize hw7 : e_up w1 1 12 z6 = w7
      have q8 : kq cd w w7 := kq.up q hR.1 hw7 (by decide) (fun _ => by decide) (fun g => absurd g.symm hn.1)
      refine e_Pn.run (t' := (162, (0, (1, 1)) :: (1, (0, y1)) :: tl, [(1, 1)], w7)) kAlk 1 rfl ?_
      refine e_Pn.getr (z := cd) kAlk rfl rfl (q8.rf hR).2.1 (by omega) ?_
      refine e_Pn.run (t' := (167, (0, (1, 1)) :: (1, (0, y1)) :: tl, [(0, 3), (0, y1), (1, cd)], w7)) kAlk 2 rfl ?_
      refine e_Pn.bin0 kAlk rfl (fun z9 hz9 => ?_)
      refine e_Pn.run (t' := (169, (0, (1, 1)) :: (1, (0, y1)) :: tl, [(1, 1), (0, z9), (1, cd)], w7)) kAlk 1 rfl ?_
      refine e_Pn.getr (z := cd) kAlk rfl rfl (q8.rf hR).2.1 (by omega) ?_
      refine e_Pn.getf (z := w7 cd 0) kAlk rfl rfl rfl (fun b10 => ?_)
      refine e_Pn.callA rfl (fun n9 d9 => u_22 (q8.rf hR)) (fun r12 w13 h11 => ?_)
      obtain ⟨rfl, h11⟩ := h11
      have q14 := q8.tr h11
      show e_Pn 20 elay kcode eI n d 156 (178, (0, (1, 1)) :: (1, (0, y1)) :: tl, [], w13) _
      exact e_Pn.ord kAlk [0, 1] rfl rfl (v_156_178 hR _ y1 w13 q14)
    · show e_Pn 20 elay kcode eI n d 156 (128, (0, (1, 1)) :: (1, (0, y1)) :: tl, [], w1) _
      refine e_Pn.run (t' := (129, (0, (1, 1)) :: (1, (0, y1)) :: tl, [(1, 1)], w1)) kAlk 1 rfl ?_
      refine e_Pn.getr (z := cd) kAlk rfl rfl (q.rf hR).2.1 (by omega) ?_
      refine e_Pn.run (t' := (134, (0, (1, 1)) :: (1, (0, y1)) :: tl, [(0, 2), (0, y1), (1, cd)], w1)) kAlk 2 rfl ?_
      refine e_Pn.bin0 kAlk rfl (fun z15 hz15 => ?_)
      refine e_Pn.run (t' := (136, (0, (1, 1)) :: (1, (0, y1)) :: tl, [(1, 1), (0, z15), (1, cd)], w1)) kAlk 1 rfl ?_
      refine e_Pn.getr (z := cd) kAlk rfl rfl (q.rf hR).2.1 (by omega) ?_
      refine e_Pn.getf (z := w1 cd 0) kAlk rfl rfl rfl (fun b16 => ?_)
      refine e_Pn.callA rfl (fun n9 d9 => u_22 (q.rf hR)) (fun r18 w19 h17 => ?_)
      obtain ⟨rfl, h17⟩ := h17
      have q20 := q.tr h17
      show e_Pn 20 elay kcode eI n d 156 (145, (0, (1, 1)) :: (1, (0, y1)) :: tl, [], w19) _
      exact e_Pn.ord kAlk [0, 1] rfl rfl (v_156_145 hR _ y1 w19 q20)
  · show e_Pn 20 elay kcode eI n d 156 (96, (0, (1, 1)) :: (1, (0, y1)) :: tl, [], w1) _
    refine e_Pn.run (t' := (97, (0, (1, 1)) :: (1, (0, y1)) :: tl, [(1, 1)], w1)) kAlk 1 rfl ?_
    refine e_Pn.getr (z := cd) kAlk rfl rfl (q.rf hR).2.1 (by omega) ?_
    refine e_Pn.run (t' := (102, (0, (1, 1)) :: (1, (0, y1)) :: tl, [(0, 1), (0, y1), (1, cd)], w1)) kAlk 2 rfl ?_
    refine e_Pn.bin0 kAlk rfl (fun z21 hz21 => ?_)
    refine e_Pn.run (t' := (104, (0, (1, 1)) :: (1, (0, y1)) :: tl, [(1, 1), (0, z21), (1, cd)], w1)) kAlk 1 rfl ?_
    refine e_Pn.getr (z := cd) kAlk rfl rfl (q.rf hR).2.1 (by omega) ?_
    refine e_Pn.getf (z := w1 cd 0) kAlk rfl rfl rfl (fun b22 => ?_)
    refine e_Pn.callA rfl (fun n9 d9 => u_22 (q.rf hR)) (fun r24 w25 h23 => ?_)
    obtain ⟨rfl, h23⟩ := h23
    have q26 := q.tr h23
    show e_Pn 20 elay kcode eI n d 156 (113, (0, (1, 1)) :: (1, (0, y1)) :: tl, [], w25) _
    exact e_Pn.ord kAlk [0, 1] rfl rfl (v_156_113 hR _ y1 w25 q26)
set_option maxHeartbeats 4000000 in
theorem v_156_76 {n d : Nat} {w : eW} {cd : Int} (hR : kRw cd w) (tl : eL) (y1 : Int) (w1 : eW) (q : kq cd w w1) : e_Pn 20 elay kcode eI n d 156 (76, (0, (1, 1)) :: (1, (0, y1)) :: tl, [], w1) (fun r w' => r = [] ∧ kq cd w w') := by
  have hn := hR.1.n
  refine e_Pn.run (t' := (77, (0, (1, 1)) :: (1, (0, y1)) :: tl, [(1, 1)], w1)) kAlk 1 rfl ?_
  refine e_Pn.getr (z := cd) kAlk rfl rfl (q.rf hR).2.1 (by omega) ?_
  refine e_Pn.run (t' := (83, (0, (1, 1)) :: (1, (0, y1)) :: tl, [(0, 0), (0, 47), (1, cd)], w1)) kAlk 2 rfl ?_
  refine e_Pn.callA rfl (fun n9 d9 => u_21 (q.rf hR)) (fun r2 w3 h1 => ?_)
  obtain ⟨⟨z4, rfl⟩, h1⟩ := h1
  have q5 := q.tr h1
  show e_Pn 20 elay kcode eI n d 156 (86, (0, (1, 1)) :: (1, (0, y1)) :: tl, [(0, z4)], w3) _
  exact e_Pn.ord kAlk [0, 1] rfl rfl (v_156_86 hR _ y1 z4 w3 q5)
set_option maxHeartbeats 4000000 in
theorem v_156_61 {n d : Nat} {w : eW} {cd : Int} (hR : kRw cd w) (tl : eL) (y1 : Int) (s0 : Int) (w1 : eW) (q : kq cd w w1) : e_Pn 20 elay kcode eI n d 156 (61, (0, (1, 1)) :: (1, (0, y1)) :: tl, [(0, s0)], w1) (fun r w' => r = [] ∧ kq cd w w') := by
  have hn := hR.1.n
  refine e_Pn.run (t' := (64, (0, (1, 1)) :: (1, (0, y1)) :: tl, [(1, 1), (1, 1)], w1)) kAlk 3 rfl ?_
  refine e_Pn.getf (z := w1 1 12) kAlk rfl rfl rfl (fun b1 => ?_)
  refine e_Pn.run (t' := (68, (0, (1, 1)) :: (1, (0, y1)) :: tl, [(0, 1), (0, w1 1 12), (1, 1)], w1)) kAlk 1 rfl ?_
  refine e_Pn.bin0 kAlk rfl (fun z2 hz2 => ?_)
  refine e_Pn.putf kAlk rfl rfl ?_
  generalize hw3 : e_up w1 1 12 z2 = w3
  have q4 : kq cd w w3 := kq.up q hR.1 hw3 (by decide) (fun _ => by decide) (fun g => absurd g.symm hn.1)
  refine e_Pn.run (t' := (73, (0, (1, 1)) :: (1, (0, y1)) :: tl, [(1, 1)], w3)) kAlk 1 rfl ?_
  refine e_Pn.callA rfl (fun n9 d9 => kS_all n9 144 (by decide) d9 _ _ (q4.rf hR)) (fun r6 w7 h5 => ?_)
  obtain ⟨rfl, h5⟩ := h5
  have q8 := q4.tr h5
  show e_Pn 20 elay kcode eI n d 156 (76, (0, (1, 1)) :: (1, (0, y1)) :: tl, [], w7) _
  exact e_Pn.ord kAlk [0, 1] rfl rfl (v_156_76 hR _ y1 w7 q8)
set_option maxHeartbeats 4000000 in
theorem v_156_50 {n d : Nat} {w : eW} {cd : Int} (hR : kRw cd w) (tl : eL) (y1 : Int) (s0 : Int) (w1 : eW) (q : kq cd w w1) : e_Pn 20 elay kcode eI n d 156 (50, (0, (1, 1)) :: (1, (0, y1)) :: tl, [(0, s0)], w1) (fun r w' => r = [] ∧ kq cd w w') := by
  have hn := hR.1.n
  refine e_Pn.run (t' := (52, (0, (1, 1)) :: (1, (0, y1)) :: tl, [(1, 1)], w1)) kAlk 2 rfl ?_
  refine e_Pn.getr (z := cd) kAlk rfl rfl (q.rf hR).2.1 (by omega) ?_
  refine e_Pn.run (t' := (58, (0, (1, 1)) :: (1, (0, y1)) :: tl, [(0, 0), (0, 49), (1, cd)], w1)) kAlk 2 rfl ?_
  refine e_Pn.callA rfl (fun n9 d9 => u_21 (q.rf hR)) (fun r2 w3 h1 => ?_)
  obtain ⟨⟨z4, rfl⟩, h1⟩ := h1
  have q5 := q.tr h1
  show e_Pn 20 elay kcode eI n d 156 (61, (0, (1, 1)) :: (1, (0, y1)) :: tl, [(0, z4)], w3) _
  exact e_Pn.ord kAlk [0, 1] rfl rfl (v_156_61 hR _ y1 z4 w3 q5)
set_option maxHeartbeats 4000000 in
theorem v_156_39 {n d : Nat} {w : eW} {cd : Int} (hR : kRw cd w) (tl : eL) (y1 : Int) (s0 : Int) (w1 : eW) (q : kq cd w w1) : e_Pn 20 elay kcode eI n d 156 (39, (0, (1, 1)) :: (1, (0, y1)) :: tl, [(0, s0)], w1) (fun r w' => r = [] ∧ kq cd w w') := by
  have hn := hR.1.n
  refine e_Pn.run (t' := (41, (0, (1, 1)) :: (1, (0, y1)) :: tl, [(1, 1)], w1)) kAlk 2 rfl ?_
  refine e_Pn.getr (z := cd) kAlk rfl rfl (q.rf hR).2.1 (by omega) ?_
  refine e_Pn.run (t' := (47, (0, (1, 1)) :: (1, (0, y1)) :: tl, [(0, 0), (0, 49), (1, cd)], w1)) kAlk 2 rfl ?_
  refine e_Pn.callA rfl (fun n9 d9 => u_21 (q.rf hR)) (fun r2 w3 h1 => ?_)
  obtain ⟨⟨z4, rfl⟩, h1⟩ := h1
  have q5 := q.tr h1
  show e_Pn 20 elay kcode eI n d 156 (50, (0, (1, 1)) :: (1, (0, y1)) :: tl, [(0, z4)], w3) _
  exact e_Pn.ord kAlk [0, 1] rfl rfl (v_156_50 hR _ y1 z4 w3 q5)
set_option maxHeartbeats 4000000 in
theorem v_156_28 {n d : Nat} {w : eW} {cd : Int} (hR : kRw cd w) (tl : eL) (s0 : Int) (w1 : eW) (q : kq cd w w1) : e_Pn 20 elay kcode eI n d 156 (28, (0, (1, 1)) :: tl, [(0, s0)], w1) (fun r w' => r = [] ∧ kq cd w w') := by
  have hn := hR.1.n
  refine e_Pn.run (t' := (30, (1, (0, s0)) :: (0, (1, 1)) :: List.filter (e_flt 0 1) tl, [(1, 1)], w1)) kAlk 2 rfl ?_
  refine e_Pn.getr (z := cd) kAlk rfl rfl (q.rf hR).2.1 (by omega) ?_
  refine e_Pn.run (t' := (36, (1, (0, s0)) :: (0, (1, 1)) :: List.filter (e_flt 0 1) tl, [(0, 0), (0, 49), (1, cd)], w1)) kAlk 2 rfl ?_
  refine e_Pn.callA rfl (fun n9 d9 => u_21 (q.rf hR)) (fun r2 w3 h1 => ?_)
  obtain ⟨⟨z4, rfl⟩, h1⟩ := h1
  have q5 := q.tr h1
  show e_Pn 20 elay kcode eI n d 156 (39, (1, (0, s0)) :: (0, (1, 1)) :: List.filter (e_flt 0 1) tl, [(0, z4)], w3) _
  exact e_Pn.ord kAlk [0, 1] rfl rfl (v_156_39 hR _ s0 z4 w3 q5)
set_option maxHeartbeats 4000000 in
theorem v_156_18 {n d : Nat} {w : eW} {cd : Int} (hR : kRw cd w) (tl : eL) (w1 : eW) (q : kq cd w w1) : e_Pn 20 elay kcode eI n d 156 (18, (0, (1, 1)) :: tl, [], w1) (fun r w' => r = [] ∧ kq cd w w') := by
  have hn := hR.1.n
  refine e_Pn.run (t' := (19, (0, (1, 1)) :: tl, [(1, 1)], w1)) kAlk 1 rfl ?_
  refine e_Pn.getr (z := cd) kAlk rfl rfl (q.rf hR).2.1 (by omega) ?_
  refine e_Pn.run (t' := (25, (0, (1, 1)) :: tl, [(0, 0), (0, 46), (1, cd)], w1)) kAlk 2 rfl ?_
  refine e_Pn.callA rfl (fun n9 d9 => u_21 (q.rf hR)) (fun r2 w3 h1 => ?_)
  obtain ⟨⟨z4, rfl⟩, h1⟩ := h1
  have q5 := q.tr h1
  show e_Pn 20 elay kcode eI n d 156 (28, (0, (1, 1)) :: tl, [(0, z4)], w3) _
  exact e_Pn.ord kAlk [0] rfl rfl (v_156_28 hR _ z4 w3 q5)
set_option maxHeartbeats 4000000 in
theorem v_156_12 {n d : Nat} {w : eW} {cd : Int} (hR : kRw cd w) (tl : eL) (w1 : eW) (q : kq cd w w1) : e_Pn 20 elay kcode eI n d 156 (12, (0, (1, 1)) :: tl, [], w1) (fun r w' => r = [] ∧ kq cd w w') := by
  have hn := hR.1.n
  refine e_Pn.run (t' := (15, (0, (1, 1)) :: tl, [(0, 20), (1, 1)], w1)) kAlk 2 rfl ?_
  refine e_Pn.callA rfl (fun n9 d9 => u_129 (q.rf hR)) (fun r2 w3 h1 => ?_)
  obtain ⟨rfl, h1⟩ := h1
  have q4 := q.tr h1
  show e_Pn 20 elay kcode eI n d 156 (18, (0, (1, 1)) :: tl, [], w3) _
  exact e_Pn.ord kAlk [0] rfl rfl (v_156_18 hR _ w3 q4)
set_option maxHeartbeats 4000000 in
theorem v_156_4 {n d : Nat} {w : eW} {cd : Int} (hR : kRw cd w) (tl : eL) (s0 : Int) (w1 : eW) (q : kq cd w w1) : e_Pn 20 elay kcode eI n d 156 (4, (0, (1, 1)) :: tl, [(0, s0)], w1) (fun r w' => r = [] ∧ kq cd w w') := by
  have hn := hR.1.n
  refine e_Pn.if1 kAlk rfl (fun h1 => ?_) (fun h1 => ?_)
  · show e_Pn 20 elay kcode eI n d 156 (8, (0, (1, 1)) :: tl, [], w1) _
    refine e_Pn.run (t' := (9, (0, (1, 1)) :: tl, [(1, 1)], w1)) kAlk 1 rfl ?_
    refine e_Pn.callA rfl (fun n9 d9 => u_123 (q.rf hR)) (fun r3 w4 h2 => ?_)
    obtain ⟨rfl, h2⟩ := h2
    have q5 := q.tr h2
    show e_Pn 20 elay kcode eI n d 156 (12, (0, (1, 1)) :: tl, [], w4) _
    exact e_Pn.ord kAlk [0] rfl rfl (v_156_12 hR _ w4 q5)
  · show e_Pn 20 elay kcode eI n d 156 (7, (0, (1, 1)) :: tl, [], w1) _
    exact e_Pn.ret0 rfl ⟨rfl, q⟩
theorem v_141_71 {n d : Nat} {w : eW} {cd : Int} (hR : kRw cd w) (tl : eL) (w1 : eW) (q : kq cd w w1) : e_Pn 20 elay kcode eI n d 141 (71, (0, (1, 1)) :: tl, [], w1) (fun r w' => r = [] ∧ kq cd w w') := by
  have hn := hR.1.n
  exact e_Pn.ret0 rfl ⟨rfl, q⟩
theorem v_141_66 {n d : Nat} {w : eW} {cd : Int} (hR : kRw cd w) (tl : eL) (w1 : eW) (q : kq cd w w1) : e_Pn 20 elay kcode eI n d 141 (66, (0, (1, 1)) :: tl, [], w1) (fun r w' => r = [] ∧ kq cd w w') := by
  have hn := hR.1.n
  refine e_Pn.run (t' := (68, (0, (1, 1)) :: tl, [(0, 1), (1, 1)], w1)) kAlk 2 rfl ?_
  refine e_Pn.callA rfl (fun n9 d9 => u_129 (q.rf hR)) (fun r2 w3 h1 => ?_)
  obtain ⟨rfl, h1⟩ := h1
  have q4 := q.tr h1
  show e_Pn 20 elay kcode eI n d 141 (71, (0, (1, 1)) :: tl, [], w3) _
  exact e_Pn.ord kAlk [0] rfl rfl (v_141_71 hR _ w3 q4)
theorem v_141_12 {n d : Nat} {w : eW} {cd : Int} (hR : kRw cd w) (tl : eL) (w1 : eW) (q : kq cd w w1) : e_Pn 20 elay kcode eI n d 141 (12, (0, (1, 1)) :: tl, [], w1) (fun r w' => r = [] ∧ kq cd w w') := by
  have hn := hR.1.n
  refine e_Pn.run (t' := (13, (0, (1, 1)) :: tl, [(1, 1)], w1)) kAlk 1 rfl ?_
  refine e_Pn.getr (z := cd) kAlk rfl rfl (q.rf hR).2.1 (by omega) ?_
  refine e_Pn.getf (z := w1 cd 2) kAlk rfl rfl rfl (fun b1 => ?_)
  refine e_Pn.run (t' := (21, (0, (1, 1)) :: tl, [(0, 32), (0, w1 cd 2)], w1)) kAlk 1 rfl ?_
  refine e_Pn.if2 kAlk rfl (fun h2 => ?_) (fun h2 => ?_)
  · show e_Pn 20 elay kcode eI n d 141 (56, (0, (1, 1)) :: tl, [], w1) _
    refine e_Pn.run (t' := (60, (0, (1, 1)) :: tl, [(1, 1), (0, 7), (1, 1)], w1)) kAlk 3 rfl ?_
    refine e_Pn.getf (z := w1 1 6) kAlk rfl rfl rfl (fun b3 => ?_)
    refine e_Pn.callA rfl (fun n9 d9 => u_133 (q.rf hR)) (fun r5 w6 h4 => ?_)
    obtain ⟨rfl, h4⟩ := h4
    have q7 := q.tr h4
    show e_Pn 20 elay kcode eI n d 141 (66, (0, (1, 1)) :: tl, [], w6) _
    exact e_Pn.ord kAlk [0] rfl rfl (v_141_66 hR _ w6 q7)
  · show e_Pn 20 elay kcode eI n d 141 (24, (0, (1, 1)) :: tl, [], w1) _
    refine e_Pn.run (t' := (25, (0, (1, 1)) :: tl, [(1, 1)], w1)) kAlk 1 rfl ?_
    refine e_Pn.getr (z := 6) kAlk rfl rfl (q.rf hR).2.2.2.1 (by omega) ?_
    refine e_Pn.run (t' := (29, (0, (1, 1)) :: tl, [(1, 1), (1, 6)], w1)) kAlk 1 rfl ?_
    refine e_Pn.getr (z := cd) kAlk rfl rfl (q.rf hR).2.1 (by omega) ?_
    refine e_Pn.getf (z := w1 cd 2) kAlk rfl rfl rfl (fun b8 => ?_)
    refine e_Pn.run (t' := (36, (0, (1, 1)) :: tl, [(1, 1), (0, w1 cd 2), (1, 6)], w1)) kAlk 1 rfl ?_
    refine e_Pn.getf (z := w1 1 6) kAlk rfl rfl rfl (fun b9 => ?_)
    refine e_Pn.ast kAlk rfl rfl rfl (fun b10 b11 => ?_)
    generalize hw12 : e_up w1 6 (w1 cd 2) (w1 1 6) = w12
    have q13 : kq cd w w12 := kq.up q hR.1 hw12 (by decide) (fun g => absurd g (by decide)) (fun g => absurd g.symm hn.2.2.1)
    refine e_Pn.run (t' := (41, (0, (1, 1)) :: tl, [(1, 1)], w12)) kAlk 1 rfl ?_
    refine e_Pn.getr (z := cd) kAlk rfl rfl (q13.rf hR).2.1 (by omega) ?_
    refine e_Pn.run (t' := (45, (0, (1, 1)) :: tl, [(1, cd), (1, cd)], w12)) kAlk 1 rfl ?_
    refine e_Pn.getf (z := w12 cd 2) kAlk rfl rfl rfl (fun b14 => ?_)
    refine e_Pn.run (t' := (49, (0, (1, 1)) :: tl, [(0, 1), (0, w12 cd 2), (1, cd)], w12)) kAlk 1 rfl ?_
    refine e_Pn.bin0 kAlk rfl (fun z15 hz15 => ?_)
    refine e_Pn.putf kAlk rfl rfl ?_
    generalize hw16 : e_up w12 cd 2 z15 = w16
    have q17 : kq cd w w16 := kq.up q13 hR.1 hw16 hn.2.1 (fun g => absurd g hn.1) (fun _ => by decide)
    refine e_Pn.run (t' := (66, (0, (1, 1)) :: tl, [], w16)) kAlk 1 rfl ?_
    exact e_Pn.ord kAlk [0] rfl rfl (v_141_66 hR _ w16 q17)
theorem v_140_10 {n d : Nat} {w : eW} {cd : Int} (hR : kRw cd w) (tl : eL) (y1 : Int) (w1 : eW) (q : kq cd w w1) : e_Pn 20 elay kcode eI n d 140 (10, (0, (1, 1)) :: (1, (0, y1)) :: tl, [], w1) (fun r w' => r = [] ∧ kq cd w w') := by
  have hn := hR.1.n
  have hL1 : ∀ nn3 : Nat, nn3 ≤ n → ∀ (tl4 : eL) (y7 : Int) (w5 : eW), kq cd w w5 → e_Pn 20 elay kcode eI nn3 d 140 (10, (0, (1, 1)) :: (1, (0, y7)) :: tl4, [], w5) (fun r w' => r = [] ∧ kq cd w w') := by
    intro nn3
    induction nn3 with
    | zero => intro _ tl4 y7 w5 _; exact e_Pn.zero
    | succ nn3 ih2 =>
      intro hnnn3 tl4 y7 w5 q6
      refine e_Pn.runS (t' := (14, (0, (1, 1)) :: (1, (0, y7)) :: tl4, [(0, 4000), (0, y7)], w5)) kAlk 1 rfl ?_
      refine e_Pn.if2 kAlk rfl (fun h8 => ?_) (fun h8 => ?_)
      · show e_Pn 20 elay kcode eI nn3 d 140 (40, (0, (1, 1)) :: (1, (0, y7)) :: tl4, [], w5) _
        refine e_Pn.run (t' := (43, (0, (1, 1)) :: (1, (0, y7)) :: tl4, [(0, 19), (1, 1)], w5)) kAlk 2 rfl ?_
        refine e_Pn.callA rfl (fun n9 d9 => u_129 (q6.rf hR)) (fun r10 w11 h9 => ?_)
        obtain ⟨rfl, h9⟩ := h9
        have q12 := q6.tr h9
        show e_Pn 20 elay kcode eI nn3 d 140 (46, (0, (1, 1)) :: (1, (0, y7)) :: tl4, [], w11) _
        exact e_Pn.ret0 rfl ⟨rfl, q12⟩
      · show e_Pn 20 elay kcode eI nn3 d 140 (17, (0, (1, 1)) :: (1, (0, y7)) :: tl4, [], w5) _
        refine e_Pn.run (t' := (18, (0, (1, 1)) :: (1, (0, y7)) :: tl4, [(1, 1)], w5)) kAlk 1 rfl ?_
        refine e_Pn.getf (z := w5 1 5) kAlk rfl rfl rfl (fun b13 => ?_)
        refine e_Pn.run (t' := (23, (0, (1, 1)) :: (1, (0, y7)) :: tl4, [(0, 18), (0, w5 1 5)], w5)) kAlk 1 rfl ?_
        refine e_Pn.if2 kAlk rfl (fun h14 => ?_) (fun h14 => ?_)
        · show e_Pn 20 elay kcode eI nn3 d 140 (40, (0, (1, 1)) :: (1, (0, y7)) :: tl4, [], w5) _
          refine e_Pn.run (t' := (43, (0, (1, 1)) :: (1, (0, y7)) :: tl4, [(0, 19), (1, 1)], w5)) kAlk 2 rfl ?_
          refine e_Pn.callA rfl (fun n9 d9 => u_129 (q6.rf hR)) (fun r16 w17 h15 => ?_)
          obtain ⟨rfl, h15⟩ := h15
          have q18 := q6.tr h15
          show e_Pn 20 elay kcode eI nn3 d 140 (46, (0, (1, 1)) :: (1, (0, y7)) :: tl4, [], w17) _
          exact e_Pn.ret0 rfl ⟨rfl, q18⟩
        · show e_Pn 20 elay kcode eI nn3 d 140 (26, (0, (1, 1)) :: (1, (0, y7)) :: tl4, [], w5) _
          refine e_Pn.run (t' := (27, (0, (1, 1)) :: (1, (0, y7)) :: tl4, [(1, 1)], w5)) kAlk 1 rfl ?_
          refine e_Pn.callA rfl (fun n9 d9 => u_123 (q6.rf hR)) (fun r20 w21 h19 => ?_)
          obtain ⟨rfl, h19⟩ := h19
          have q22 := q6.tr h19
          show e_Pn 20 elay kcode eI nn3 d 140 (30, (0, (1, 1)) :: (1, (0, y7)) :: tl4, [], w21) _
          refine e_Pn.run (t' := (31, (0, (1, 1)) :: (1, (0, y7)) :: tl4, [(1, 1)], w21)) kAlk 1 rfl ?_
          refine e_Pn.callA rfl (fun n9 d9 => u_141 (q22.rf hR)) (fun r24 w25 h23 => ?_)
          obtain ⟨rfl, h23⟩ := h23
          have q26 := q22.tr h23
          show e_Pn 20 elay kcode eI nn3 d 140 (34, (0, (1, 1)) :: (1, (0, y7)) :: tl4, [], w25) _
          refine e_Pn.incU kAlk rfl rfl (fun z27 => ?_)
          show e_Pn 20 elay kcode eI nn3 d 140 (37, (1, (0, z27)) :: (0, (1, 1)) :: List.filter (e_flt 0 1) tl4, [], w25) _
          refine e_Pn.run (t' := (10, (1, (0, z27)) :: (0, (1, 1)) :: List.filter (e_flt 0 1) tl4, [], w25)) kAlk 1 rfl ?_
          exact e_Pn.ord kAlk [0, 1] rfl rfl ((ih2 (by omega) _ z27 w25 q26).le (by omega))
  exact e_Pn.ord kAlk [0, 1] rfl rfl (hL1 n (Nat.le_refl _) _ y1 w1 q)
theorem v_140_46 {n d : Nat} {w : eW} {cd : Int} (hR : kRw cd w) (tl : eL) (y1 : Int) (w1 : eW) (q : kq cd w w1) : e_Pn 20 elay kcode eI n d 140 (46, (0, (1, 1)) :: (1, (0, y1)) :: tl, [], w1) (fun r w' => r = [] ∧ kq cd w w') := by
  have hn := hR.1.n
  exact e_Pn.ret0 rfl ⟨rfl, q⟩
theorem v_140_34 {n d : Nat} {w : eW} {cd : Int} (hR : kRw cd w) (tl : eL) (y1 : Int) (w1 : eW) (q : kq cd w w1) : e_Pn 20 elay kcode eI n d 140 (34, (0, (1, 1)) :: (1, (0, y1)) :: tl, [], w1) (fun r w' => r = [] ∧ kq cd w w') := by
  have hn := hR.1.n
  refine e_Pn.incU kAlk rfl rfl (fun z1 => ?_)
  show e_Pn 20 elay kcode eI n d 140 (37, (1, (0, z1)) :: (0, (1, 1)) :: List.filter (e_flt 0 1) tl, [], w1) _
  refine e_Pn.run (t' := (10, (1, (0, z1)) :: (0, (1, 1)) :: List.filter (e_flt 0 1) tl, [], w1)) kAlk 1 rfl ?_
  exact e_Pn.ord kAlk [0, 1] rfl rfl (v_140_10 hR _ z1 w1 q)
theorem v_140_30 {n d : Nat} {w : eW} {cd : Int} (hR : kRw cd w) (tl : eL) (y1 : Int) (w1 : eW) (q : kq cd w w1) : e_Pn 20 elay kcode eI n d 140 (30, (0, (1, 1)) :: (1, (0, y1)) :: tl, [], w1) (fun r w' => r = [] ∧ kq cd w w') := by
  have hn := hR.1.n
  refine e_Pn.run (t' := (31, (0, (1, 1)) :: (1, (0, y1)) :: tl, [(1, 1)], w1)) kAlk 1 rfl ?_
  refine e_Pn.callA rfl (fun n9 d9 => u_141 (q.rf hR)) (fun r2 w3 h1 => ?_)
  obtain ⟨rfl, h1⟩ := h1
  have q4 := q.tr h1
  show e_Pn 20 elay kcode eI n d 140 (34, (0, (1, 1)) :: (1, (0, y1)) :: tl, [], w3) _
  exact e_Pn.ord kAlk [0, 1] rfl rfl (v_140_34 hR _ y1 w3 q4)
theorem v_140_8 {n d : Nat} {w : eW} {cd : Int} (hR : kRw cd w) (tl : eL) (w1 : eW) (q : kq cd w w1) : e_Pn 20 elay kcode eI n d 140 (8, (0, (1, 1)) :: tl, [], w1) (fun r w' => r = [] ∧ kq cd w w') := by
  have hn := hR.1.n
  refine e_Pn.run (t' := (10, (1, (0, 0)) :: (0, (1, 1)) :: List.filter (e_flt 0 1) tl, [], w1)) kAlk 2 rfl ?_
  exact e_Pn.ord kAlk [0, 1] rfl rfl (v_140_10 hR _ 0 w1 q)
theorem v_140_4 {n d : Nat} {w : eW} {cd : Int} (hR : kRw cd w) (tl : eL) (w1 : eW) (q : kq cd w w1) : e_Pn 20 elay kcode eI n d 140 (4, (0, (1, 1)) :: tl, [], w1) (fun r w' => r = [] ∧ kq cd w w') := by
  have hn := hR.1.n
  refine e_Pn.run (t' := (5, (0, (1, 1)) :: tl, [(1, 1)], w1)) kAlk 1 rfl ?_
  refine e_Pn.callA rfl (fun n9 d9 => u_141 (q.rf hR)) (fun r2 w3 h1 => ?_)
  obtain ⟨rfl, h1⟩ := h1
  have q4 := q.tr h1
  show e_Pn 20 elay kcode eI n d 140 (8, (0, (1, 1)) :: tl, [], w3) _
  exact e_Pn.ord kAlk [0] rfl rfl (v_140_8 hR _ w3 q4)
theorem v_142_131 {n d : Nat} {w : eW} {cd : Int} (hR : kRw cd w) (tl : eL) (s0 : Int) (w1 : eW) (q : kq cd w w1) : e_Pn 20 elay kcode eI n d 142 (131, (0, (1, 1)) :: tl, [(0, s0)], w1) (fun r w' => r = [] ∧ kq cd w w') := by
  have hn := hR.1.n
  refine e_Pn.run (t' := (132, (0, (1, 1)) :: tl, [], w1)) kAlk 1 rfl ?_
  exact e_Pn.ret0 rfl ⟨rfl, q⟩
theorem v_142_121 {n d : Nat} {w : eW} {cd : Int} (hR : kRw cd w) (tl : eL) (w1 : eW) (q : kq cd w w1) : e_Pn 20 elay kcode eI n d 142 (121, (0, (1, 1)) :: tl, [], w1) (fun r w' => r = [] ∧ kq cd w w') := by
  have hn := hR.1.n
  refine e_Pn.run (t' := (122, (0, (1, 1)) :: tl, [(1, 1)], w1)) kAlk 1 rfl ?_
  refine e_Pn.getr (z := cd) kAlk rfl rfl (q.rf hR).2.1 (by omega) ?_
  refine e_Pn.run (t' := (128, (0, (1, 1)) :: tl, [(0, 0), (0, 43), (1, cd)], w1)) kAlk 2 rfl ?_
  refine e_Pn.callA rfl (fun n9 d9 => u_21 (q.rf hR)) (fun r2 w3 h1 => ?_)
  obtain ⟨⟨z4, rfl⟩, h1⟩ := h1
  have q5 := q.tr h1
  show e_Pn 20 elay kcode eI n d 142 (131, (0, (1, 1)) :: tl, [(0, z4)], w3) _
  exact e_Pn.ord kAlk [0] rfl rfl (v_142_131 hR _ z4 w3 q5)
theorem v_142_115 {n d : Nat} {w : eW} {cd : Int} (hR : kRw cd w) (tl : eL) (w1 : eW) (q : kq cd w w1) : e_Pn 20 elay kcode eI n d 142 (115, (0, (1, 1)) :: tl, [], w1) (fun r w' => r = [] ∧ kq cd w w') := by
  have hn := hR.1.n
  refine e_Pn.run (t' := (118, (0, (1, 1)) :: tl, [(0, 23), (1, 1)], w1)) kAlk 2 rfl ?_
  refine e_Pn.callA rfl (fun n9 d9 => u_129 (q.rf hR)) (fun r2 w3 h1 => ?_)
  obtain ⟨rfl, h1⟩ := h1
  have q4 := q.tr h1
  show e_Pn 20 elay kcode eI n d 142 (121, (0, (1, 1)) :: tl, [], w3) _
  exact e_Pn.ord kAlk [0] rfl rfl (v_142_121 hR _ w3 q4)
theorem v_142_101 {n d : Nat} {w : eW} {cd : Int} (hR : kRw cd w) (tl : eL) (w1 : eW) (q : kq cd w w1) : e_Pn 20 elay kcode eI n d 142 (101, (0, (1, 1)) :: tl, [], w1) (fun r w' => r = [] ∧ kq cd w w') := by
  have hn := hR.1.n
  refine e_Pn.run (t' := (103, (0, (1, 1)) :: tl, [(0, 0), (1, 1)], w1)) kAlk 2 rfl ?_
  refine e_Pn.putf kAlk rfl rfl ?_
  generalize hw1 : e_up w1 1 12 0 = w1
  have q2 : kq cd w w1 := kq.up q hR.1 hw1 (by decide) (fun _ => by decide) (fun g => absurd g.symm hn.1)
  refine e_Pn.run (t' := (108, (0, (1, 1)) :: tl, [(0, (-1)), (1, 1)], w1)) kAlk 2 rfl ?_
  refine e_Pn.putf kAlk rfl rfl ?_
  generalize hw3 : e_up w1 1 13 (-1) = w3
  have q4 : kq cd w w3 := kq.up q2 hR.1 hw3 (by decide) (fun _ => by decide) (fun g => absurd g.symm hn.1)
  refine e_Pn.run (t' := (112, (0, (1, 1)) :: tl, [(1, 1)], w3)) kAlk 1 rfl ?_
  refine e_Pn.callA rfl (fun n9 d9 => kS_all n9 144 (by decide) d9 _ _ (q4.rf hR)) (fun r6 w7 h5 => ?_)
  obtain ⟨rfl, h5⟩ := h5
  have q8 := q4.tr h5
  show e_Pn 20 elay kcode eI n d 142 (115, (0, (1, 1)) :: tl, [], w7) _
  exact e_Pn.ord kAlk [0] rfl rfl (v_142_115 hR _ w7 q8)
theorem v_142_95 {n d : Nat} {w : eW} {cd : Int} (hR : kRw cd w) (tl : eL) (w1 : eW) (q : kq cd w w1) : e_Pn 20 elay kcode eI n d 142 (95, (0, (1, 1)) :: tl, [], w1) (fun r w' => r = [] ∧ kq cd w w') := by
  have hn := hR.1.n
  refine e_Pn.run (t' := (98, (0, (1, 1)) :: tl, [(0, 20), (1, 1)], w1)) kAlk 2 rfl ?_
  refine e_Pn.callA rfl (fun n9 d9 => u_129 (q.rf hR)) (fun r2 w3 h1 => ?_)
  obtain ⟨rfl, h1⟩ := h1
  have q4 := q.tr h1
  show e_Pn 20 elay kcode eI n d 142 (101, (0, (1, 1)) :: tl, [], w3) _
  exact e_Pn.ord kAlk [0] rfl rfl (v_142_101 hR _ w3 q4)
theorem v_142_57 {n d : Nat} {w : eW} {cd : Int} (hR : kRw cd w) (tl : eL) (w1 : eW) (q : kq cd w w1) : e_Pn 20 elay kcode eI n d 142 (57, (0, (1, 1)) :: tl, [], w1) (fun r w' => r = [] ∧ kq cd w w') := by
  have hn := hR.1.n
  refine e_Pn.run (t' := (58, (0, (1, 1)) :: tl, [(1, 1)], w1)) kAlk 1 rfl ?_
  refine e_Pn.getf (z := w1 1 14) kAlk rfl rfl rfl (fun b1 => ?_)
  refine e_Pn.run (t' := (64, (0, (1, 1)) :: tl, [(0, 500), (0, w1 1 14)], w1)) kAlk 1 rfl ?_
  refine e_Pn.if2 kAlk rfl (fun h2 => ?_) (fun h2 => ?_)
  · show e_Pn 20 elay kcode eI n d 142 (90, (0, (1, 1)) :: tl, [], w1) _
    refine e_Pn.run (t' := (92, (0, (1, 1)) :: tl, [(0, 1), (1, 1)], w1)) kAlk 2 rfl ?_
    refine e_Pn.callA rfl (fun n9 d9 => u_129 (q.rf hR)) (fun r4 w5 h3 => ?_)
    obtain ⟨rfl, h3⟩ := h3
    have q6 := q.tr h3
    show e_Pn 20 elay kcode eI n d 142 (95, (0, (1, 1)) :: tl, [], w5) _
    exact e_Pn.ord kAlk [0] rfl rfl (v_142_95 hR _ w5 q6)
  · show e_Pn 20 elay kcode eI n d 142 (67, (0, (1, 1)) :: tl, [], w1) _
    refine e_Pn.run (t' := (68, (0, (1, 1)) :: tl, [(1, 1)], w1)) kAlk 1 rfl ?_
    refine e_Pn.getr (z := 7) kAlk rfl rfl (q.rf hR).2.2.2.2.1 (by omega) ?_
    refine e_Pn.run (t' := (72, (0, (1, 1)) :: tl, [(1, 1), (1, 7)], w1)) kAlk 1 rfl ?_
    refine e_Pn.getf (z := w1 1 14) kAlk rfl rfl rfl (fun b7 => ?_)
    refine e_Pn.run (t' := (76, (0, (1, 1)) :: tl, [(1, 1), (0, w1 1 14), (1, 7)], w1)) kAlk 1 rfl ?_
    refine e_Pn.getf (z := w1 1 6) kAlk rfl rfl rfl (fun b8 => ?_)
    refine e_Pn.ast kAlk rfl rfl rfl (fun b9 b10 => ?_)
    generalize hw11 : e_up w1 7 (w1 1 14) (w1 1 6) = w11
    have q12 : kq cd w w11 := kq.up q hR.1 hw11 (by decide) (fun g => absurd g (by decide)) (fun g => absurd g.symm hn.2.2.2.1)
    refine e_Pn.run (t' := (82, (0, (1, 1)) :: tl, [(1, 1), (1, 1)], w11)) kAlk 2 rfl ?_
    refine e_Pn.getf (z := w11 1 14) kAlk rfl rfl rfl (fun b13 => ?_)
    refine e_Pn.run (t' := (86, (0, (1, 1)) :: tl, [(0, 1), (0, w11 1 14), (1, 1)], w11)) kAlk 1 rfl ?_
    refine e_Pn.bin0 kAlk rfl (fun z14 hz14 => ?_)
    refine e_Pn.putf kAlk rfl rfl ?_
    generalize hw15 : e_up w11 1 14 z14 = w15
    have q16 : kq cd w w15 := kq.up q12 hR.1 hw15 (by decide) (fun _ => by decide) (fun g => absurd g.symm hn.1)
    refine e_Pn.run (t' := (92, (0, (1, 1)) :: tl, [(0, 1), (1, 1)], w15)) kAlk 2 rfl ?_
    refine e_Pn.callA rfl (fun n9 d9 => u_129 (q16.rf hR)) (fun r18 w19 h17 => ?_)
    obtain ⟨rfl, h17⟩ := h17
    have q20 := q16.tr h17
    show e_Pn 20 elay kcode eI n d 142 (95, (0, (1, 1)) :: tl, [], w19) _
    exact e_Pn.ord kAlk [0] rfl rfl (v_142_95 hR _ w19 q20)
theorem v_142_16 {n d : Nat} {w : eW} {cd : Int} (hR : kRw cd w) (tl : eL) (w1 : eW) (q : kq cd w w1) : e_Pn 20 elay kcode eI n d 142 (16, (0, (1, 1)) :: tl, [], w1) (fun r w' => r = [] ∧ kq cd w w') := by
  have hn := hR.1.n
  refine e_Pn.run (t' := (17, (0, (1, 1)) :: tl, [(1, 1)], w1)) kAlk 1 rfl ?_
  refine e_Pn.getf (z := w1 1 14) kAlk rfl rfl rfl (fun b1 => ?_)
  refine e_Pn.run (t' := (22, (0, (1, 1)) :: tl, [(0, 32), (0, w1 1 14)], w1)) kAlk 1 rfl ?_
  refine e_Pn.if2 kAlk rfl (fun h2 => ?_) (fun h2 => ?_)
  · show e_Pn 20 elay kcode eI n d 142 (47, (0, (1, 1)) :: tl, [], w1) _
    refine e_Pn.run (t' := (51, (0, (1, 1)) :: tl, [(1, 1), (0, 7), (1, 1)], w1)) kAlk 3 rfl ?_
    refine e_Pn.getf (z := w1 1 6) kAlk rfl rfl rfl (fun b3 => ?_)
    refine e_Pn.callA rfl (fun n9 d9 => u_133 (q.rf hR)) (fun r5 w6 h4 => ?_)
    obtain ⟨rfl, h4⟩ := h4
    have q7 := q.tr h4
    show e_Pn 20 elay kcode eI n d 142 (57, (0, (1, 1)) :: tl, [], w6) _
    exact e_Pn.ord kAlk [0] rfl rfl (v_142_57 hR _ w6 q7)
  · show e_Pn 20 elay kcode eI n d 142 (25, (0, (1, 1)) :: tl, [], w1) _
    refine e_Pn.run (t' := (26, (0, (1, 1)) :: tl, [(1, 1)], w1)) kAlk 1 rfl ?_
    refine e_Pn.getr (z := cd) kAlk rfl rfl (q.rf hR).2.1 (by omega) ?_
    refine e_Pn.getr (z := cd + 1) kAlk rfl rfl (q.rf hR).2.2.2.2.2.1 (by omega) ?_
    refine e_Pn.run (t' := (33, (0, (1, 1)) :: tl, [(1, 1), (1, cd + 1)], w1)) kAlk 1 rfl ?_
    refine e_Pn.getf (z := w1 1 14) kAlk rfl rfl rfl (fun b8 => ?_)
    refine e_Pn.run (t' := (37, (0, (1, 1)) :: tl, [(1, 1), (0, w1 1 14), (1, cd + 1)], w1)) kAlk 1 rfl ?_
    refine e_Pn.getr (z := cd) kAlk rfl rfl (q.rf hR).2.1 (by omega) ?_
    refine e_Pn.getf (z := w1 cd 0) kAlk rfl rfl rfl (fun b9 => ?_)
    refine e_Pn.ast kAlk rfl (lD1 (d := cd) (by omega) hR.1) rfl (fun b10 b11 => ?_)
    generalize hw12 : e_up w1 (cd + 1) (w1 1 14) (w1 cd 0) = w12
    have q13 : kq cd w w12 := kq.up q hR.1 hw12 (by omega) (fun g => absurd g (by omega)) (fun g => absurd g (by omega))
    refine e_Pn.run (t' := (57, (0, (1, 1)) :: tl, [], w12)) kAlk 1 rfl ?_
    exact e_Pn.ord kAlk [0] rfl rfl (v_142_57 hR _ w12 q13)
theorem v_142_4 {n d : Nat} {w : eW} {cd : Int} (hR : kRw cd w) (tl : eL) (w1 : eW) (q : kq cd w w1) : e_Pn 20 elay kcode eI n d 142 (4, (0, (1, 1)) :: tl, [], w1) (fun r w' => r = [] ∧ kq cd w w') := by
  have hn := hR.1.n
  refine e_Pn.run (t' := (5, (0, (1, 1)) :: tl, [(1, 1)], w1)) kAlk 1 rfl ?_
  refine e_Pn.getf (z := w1 1 5) kAlk rfl rfl rfl (fun b1 => ?_)
  refine e_Pn.run (t' := (9, (0, (1, 1)) :: tl, [(0, 1), (0, w1 1 5)], w1)) kAlk 1 rfl ?_
  refine e_Pn.if2 kAlk rfl (fun h2 => ?_) (fun h2 => ?_)
  · show e_Pn 20 elay kcode eI n d 142 (90, (0, (1, 1)) :: tl, [], w1) _
    refine e_Pn.run (t' := (92, (0, (1, 1)) :: tl, [(0, 1), (1, 1)], w1)) kAlk 2 rfl ?_
    refine e_Pn.callA rfl (fun n9 d9 => u_129 (q.rf hR)) (fun r4 w5 h3 => ?_)
    obtain ⟨rfl, h3⟩ := h3
    have q6 := q.tr h3
    show e_Pn 20 elay kcode eI n d 142 (95, (0, (1, 1)) :: tl, [], w5) _
    exact e_Pn.ord kAlk [0] rfl rfl (v_142_95 hR _ w5 q6)
  · show e_Pn 20 elay kcode eI n d 142 (12, (0, (1, 1)) :: tl, [], w1) _
    refine e_Pn.run (t' := (13, (0, (1, 1)) :: tl, [(1, 1)], w1)) kAlk 1 rfl ?_
    refine e_Pn.callA rfl (fun n9 d9 => u_139 (q.rf hR)) (fun r8 w9 h7 => ?_)
    obtain ⟨rfl, h7⟩ := h7
    have q10 := q.tr h7
    show e_Pn 20 elay kcode eI n d 142 (16, (0, (1, 1)) :: tl, [], w9) _
    exact e_Pn.ord kAlk [0] rfl rfl (v_142_16 hR _ w9 q10)
theorem v_119_43 {n d : Nat} {w : eW} {cd : Int} (hR : kRw cd w) (hf : w 1 1 ≠ 0) (tl : eL) (y1 : Int) (w1 : eW) (q : kq cd w w1) : e_Pn 20 elay kcode eI n d 119 (43, (0, (1, 1)) :: (1, (0, y1)) :: tl, [], w1) (fun r w' => r = [] ∧ kq cd w w') := by
  have hn := hR.1.n
  have hL1 : ∀ nn3 : Nat, nn3 ≤ n → ∀ (tl4 : eL) (y7 : Int) (w5 : eW), kq cd w w5 → e_Pn 20 elay kcode eI nn3 d 119 (43, (0, (1, 1)) :: (1, (0, y7)) :: tl4, [], w5) (fun r w' => r = [] ∧ kq cd w w') := by
    intro nn3
    induction nn3 with
    | zero => intro _ tl4 y7 w5 _; exact e_Pn.zero
    | succ nn3 ih2 =>
      intro hnnn3 tl4 y7 w5 q6
      refine e_Pn.runS (t' := (47, (0, (1, 1)) :: (1, (0, y7)) :: tl4, [(0, 4000), (0, y7)], w5)) kAlk 1 rfl ?_
      refine e_Pn.if2 kAlk rfl (fun h8 => ?_) (fun h8 => ?_)
      · show e_Pn 20 elay kcode eI nn3 d 119 (69, (0, (1, 1)) :: (1, (0, y7)) :: tl4, [], w5) _
        refine e_Pn.run (t' := (71, (1, (0, 0)) :: (0, (1, 1)) :: List.filter (e_flt 0 1) tl4, [], w5)) kAlk 2 rfl ?_
        have hL9 : ∀ nn11 : Nat, nn11 ≤ nn3 → ∀ (tl12 : eL) (y15 : Int) (w13 : eW), kq cd w w13 → e_Pn 20 elay kcode eI nn11 d 119 (71, (0, (1, 1)) :: (1, (0, y15)) :: tl12, [], w13) (fun r w' => r = [] ∧ kq cd w w') := by
          intro nn11
          induction nn11 with
          | zero => intro _ tl12 y15 w13 _; exact e_Pn.zero
          | succ nn11 ih10 =>
            intro hnnn11 tl12 y15 w13 q14
            refine e_Pn.runS (t' := (75, (0, (1, 1)) :: (1, (0, y15)) :: tl12, [(0, 4000), (0, y15)], w13)) kAlk 1 rfl ?_
            refine e_Pn.if2 kAlk rfl (fun h16 => ?_) (fun h16 => ?_)
            · show e_Pn 20 elay kcode eI nn11 d 119 (97, (0, (1, 1)) :: (1, (0, y15)) :: tl12, [], w13) _
              refine e_Pn.run (t' := (98, (0, (1, 1)) :: (1, (0, y15)) :: tl12, [(1, 1)], w13)) kAlk 1 rfl ?_
              refine e_Pn.getf (z := w13 1 5) kAlk rfl rfl rfl (fun b17 => ?_)
              refine e_Pn.if1 kAlk rfl (fun h18 => ?_) (fun h18 => ?_)
              · show e_Pn 20 elay kcode eI nn11 d 119 (108, (0, (1, 1)) :: (1, (0, y15)) :: tl12, [], w13) _
                refine e_Pn.run (t' := (109, (0, (1, 1)) :: (1, (0, y15)) :: tl12, [(1, 1)], w13)) kAlk 1 rfl ?_
                refine e_Pn.getf (z := w13 1 1) kAlk rfl rfl rfl (fun b19 => ?_)
                refine e_Pn.if1 kAlk rfl (fun h20 => ?_) (fun h20 => ?_)
                · show e_Pn 20 elay kcode eI nn11 d 119 (116, (0, (1, 1)) :: (1, (0, y15)) :: tl12, [], w13) _
                  exact absurd ((q14.2.2.2 hf).1.symm.trans (show _ = (0 : Int) from h20)) hf
                · show e_Pn 20 elay kcode eI nn11 d 119 (115, (0, (1, 1)) :: (1, (0, y15)) :: tl12, [], w13) _
                  exact e_Pn.ret0 rfl ⟨rfl, q14⟩
              · show e_Pn 20 elay kcode eI nn11 d 119 (104, (0, (1, 1)) :: (1, (0, y15)) :: tl12, [], w13) _
                refine e_Pn.run (t' := (105, (0, (1, 1)) :: (1, (0, y15)) :: tl12, [(1, 1)], w13)) kAlk 1 rfl ?_
                refine e_Pn.callA rfl (fun n9 d9 => u_130 (q14.rf hR)) (fun r22 w23 h21 => ?_)
                obtain ⟨rfl, h21⟩ := h21
                have q24 := q14.tr h21
                show e_Pn 20 elay kcode eI nn11 d 119 (108, (0, (1, 1)) :: (1, (0, y15)) :: tl12, [], w23) _
                refine e_Pn.run (t' := (109, (0, (1, 1)) :: (1, (0, y15)) :: tl12, [(1, 1)], w23)) kAlk 1 rfl ?_
                refine e_Pn.getf (z := w23 1 1) kAlk rfl rfl rfl (fun b25 => ?_)
                refine e_Pn.if1 kAlk rfl (fun h26 => ?_) (fun h26 => ?_)
                · show e_Pn 20 elay kcode eI nn11 d 119 (116, (0, (1, 1)) :: (1, (0, y15)) :: tl12, [], w23) _
                  exact absurd ((q24.2.2.2 hf).1.symm.trans (show _ = (0 : Int) from h26)) hf
                · show e_Pn 20 elay kcode eI nn11 d 119 (115, (0, (1, 1)) :: (1, (0, y15)) :: tl12, [], w23) _
                  exact e_Pn.ret0 rfl ⟨rfl, q24⟩
            · show e_Pn 20 elay kcode eI nn11 d 119 (78, (0, (1, 1)) :: (1, (0, y15)) :: tl12, [], w13) _
              refine e_Pn.run (t' := (79, (0, (1, 1)) :: (1, (0, y15)) :: tl12, [(1, 1)], w13)) kAlk 1 rfl ?_
              refine e_Pn.getf (z := w13 1 5) kAlk rfl rfl rfl (fun b27 => ?_)
              refine e_Pn.run (t' := (84, (0, (1, 1)) :: (1, (0, y15)) :: tl12, [(0, 22), (0, w13 1 5)], w13)) kAlk 1 rfl ?_
              refine e_Pn.if2 kAlk rfl (fun h28 => ?_) (fun h28 => ?_)
              · show e_Pn 20 elay kcode eI nn11 d 119 (97, (0, (1, 1)) :: (1, (0, y15)) :: tl12, [], w13) _
                refine e_Pn.run (t' := (98, (0, (1, 1)) :: (1, (0, y15)) :: tl12, [(1, 1)], w13)) kAlk 1 rfl ?_
                refine e_Pn.getf (z := w13 1 5) kAlk rfl rfl rfl (fun b29 => ?_)
                refine e_Pn.if1 kAlk rfl (fun h30 => ?_) (fun h30 => ?_)
                · show e_Pn 20 elay kcode eI nn11 d 119 (108, (0, (1, 1)) :: (1, (0, y15)) :: tl12, [], w13) _
                  refine e_Pn.run (t' := (109, (0, (1, 1)) :: (1, (0, y15)) :: tl12, [(1, 1)], w13)) kAlk 1 rfl ?_
                  refine e_Pn.getf (z := w13 1 1) kAlk rfl rfl rfl (fun b31 => ?_)
                  refine e_Pn.if1 kAlk rfl (fun h32 => ?_) (fun h32 => ?_)
                  · show e_Pn 20 elay kcode eI nn11 d 119 (116, (0, (1, 1)) :: (1, (0, y15)) :: tl12, [], w13) _
                    exact absurd ((q14.2.2.2 hf).1.symm.trans (show _ = (0 : Int) from h32)) hf
                  · show e_Pn 20 elay kcode eI nn11 d 119 (115, (0, (1, 1)) :: (1, (0, y15)) :: tl12, [], w13) _
                    exact e_Pn.ret0 rfl ⟨rfl, q14⟩
                · show e_Pn 20 elay kcode eI nn11 d 119 (104, (0, (1, 1)) :: (1, (0, y15)) :: tl12, [], w13) _
                  refine e_Pn.run (t' := (105, (0, (1, 1)) :: (1, (0, y15)) :: tl12, [(1, 1)], w13)) kAlk 1 rfl ?_
                  refine e_Pn.callA rfl (fun n9 d9 => u_130 (q14.rf hR)) (fun r34 w35 h33 => ?_)
                  obtain ⟨rfl, h33⟩ := h33
                  have q36 := q14.tr h33
                  show e_Pn 20 elay kcode eI nn11 d 119 (108, (0, (1, 1)) :: (1, (0, y15)) :: tl12, [], w35) _
                  refine e_Pn.run (t' := (109, (0, (1, 1)) :: (1, (0, y15)) :: tl12, [(1, 1)], w35)) kAlk 1 rfl ?_
                  refine e_Pn.getf (z := w35 1 1) kAlk rfl rfl rfl (fun b37 => ?_)
                  refine e_Pn.if1 kAlk rfl (fun h38 => ?_) (fun h38 => ?_)
                  · show e_Pn 20 elay kcode eI nn11 d 119 (116, (0, (1, 1)) :: (1, (0, y15)) :: tl12, [], w35) _
                    exact absurd ((q36.2.2.2 hf).1.symm.trans (show _ = (0 : Int) from h38)) hf
                  · show e_Pn 20 elay kcode eI nn11 d 119 (115, (0, (1, 1)) :: (1, (0, y15)) :: tl12, [], w35) _
                    exact e_Pn.ret0 rfl ⟨rfl, q36⟩
              · show e_Pn 20 elay kcode eI nn11 d 119 (87, (0, (1, 1)) :: (1, (0, y15)) :: tl12, [], w13) _
                refine e_Pn.run (t' := (88, (0, (1, 1)) :: (1, (0, y15)) :: tl12, [(1, 1)], w13)) kAlk 1 rfl ?_
                refine e_Pn.callA rfl (fun n9 d9 => u_142 (q14.rf hR)) (fun r40 w41 h39 => ?_)
                obtain ⟨rfl, h39⟩ := h39
                have q42 := q14.tr h39
                show e_Pn 20 elay kcode eI nn11 d 119 (91, (0, (1, 1)) :: (1, (0, y15)) :: tl12, [], w41) _
                refine e_Pn.incU kAlk rfl rfl (fun z43 => ?_)
                show e_Pn 20 elay kcode eI nn11 d 119 (94, (1, (0, z43)) :: (0, (1, 1)) :: List.filter (e_flt 0 1) tl12, [], w41) _
                refine e_Pn.run (t' := (71, (1, (0, z43)) :: (0, (1, 1)) :: List.filter (e_flt 0 1) tl12, [], w41)) kAlk 1 rfl ?_
                exact e_Pn.ord kAlk [0, 1] rfl rfl ((ih10 (by omega) _ z43 w41 q42).le (by omega))
        exact e_Pn.ord kAlk [0, 1] rfl rfl (hL9 nn3 (Nat.le_refl _) _ 0 w5 q6)
      · show e_Pn 20 elay kcode eI nn3 d 119 (50, (0, (1, 1)) :: (1, (0, y7)) :: tl4, [], w5) _
        refine e_Pn.run (t' := (51, (0, (1, 1)) :: (1, (0, y7)) :: tl4, [(1, 1)], w5)) kAlk 1 rfl ?_
        refine e_Pn.getf (z := w5 1 5) kAlk rfl rfl rfl (fun b44 => ?_)
        refine e_Pn.run (t' := (56, (0, (1, 1)) :: (1, (0, y7)) :: tl4, [(0, 21), (0, w5 1 5)], w5)) kAlk 1 rfl ?_
        refine e_Pn.if2 kAlk rfl (fun h45 => ?_) (fun h45 => ?_)
        · show e_Pn 20 elay kcode eI nn3 d 119 (69, (0, (1, 1)) :: (1, (0, y7)) :: tl4, [], w5) _
          refine e_Pn.run (t' := (71, (1, (0, 0)) :: (0, (1, 1)) :: List.filter (e_flt 0 1) tl4, [], w5)) kAlk 2 rfl ?_
          have hL46 : ∀ nn48 : Nat, nn48 ≤ nn3 → ∀ (tl49 : eL) (y52 : Int) (w50 : eW), kq cd w w50 → e_Pn 20 elay kcode eI nn48 d 119 (71, (0, (1, 1)) :: (1, (0, y52)) :: tl49, [], w50) (fun r w' => r = [] ∧ kq cd w w') := by
            intro nn48
            induction nn48 with
            | zero => intro _ tl49 y52 w50 _; exact e_Pn.zero
            | succ nn48 ih47 =>
              intro hnnn48 tl49 y52 w50 q51
              refine e_Pn.runS (t' := (75, (0, (1, 1)) :: (1, (0, y52)) :: tl49, [(0, 4000), (0, y52)], w50)) kAlk 1 rfl ?_
              refine e_Pn.if2 kAlk rfl (fun h53 => ?_) (fun h53 => ?_)
              · show e_Pn 20 elay kcode eI nn48 d 119 (97, (0, (1, 1)) :: (1, (0, y52)) :: tl49, [], w50) _
                refine e_Pn.run (t' := (98, (0, (1, 1)) :: (1, (0, y52)) :: tl49, [(1, 1)], w50)) kAlk 1 rfl ?_
                refine e_Pn.getf (z := w50 1 5) kAlk rfl rfl rfl (fun b54 => ?_)
                refine e_Pn.if1 kAlk rfl (fun h55 => ?_) (fun h55 => ?_)
                · show e_Pn 20 elay kcode eI nn48 d 119 (108, (0, (1, 1)) :: (1, (0, y52)) :: tl49, [], w50) _
                  refine e_Pn.run (t' := (109, (0, (1, 1)) :: (1, (0, y52)) :: tl49, [(1, 1)], w50)) kAlk 1 rfl ?_
                  refine e_Pn.getf (z := w50 1 1) kAlk rfl rfl rfl (fun b56 => ?_)
                  refine e_Pn.if1 kAlk rfl (fun h57 => ?_) (fun h57 => ?_)
                  · show e_Pn 20 elay kcode eI nn48 d 119 (116, (0, (1, 1)) :: (1, (0, y52)) :: tl49, [], w50) _
                    exact absurd ((q51.2.2.2 hf).1.symm.trans (show _ = (0 : Int) from h57)) hf
                  · show e_Pn 20 elay kcode eI nn48 d 119 (115, (0, (1, 1)) :: (1, (0, y52)) :: tl49, [], w50) _
                    exact e_Pn.ret0 rfl ⟨rfl, q51⟩
                · show e_Pn 20 elay kcode eI nn48 d 119 (104, (0, (1, 1)) :: (1, (0, y52)) :: tl49, [], w50) _
                  refine e_Pn.run (t' := (105, (0, (1, 1)) :: (1, (0, y52)) :: tl49, [(1, 1)], w50)) kAlk 1 rfl ?_
                  refine e_Pn.callA rfl (fun n9 d9 => u_130 (q51.rf hR)) (fun r59 w60 h58 => ?_)
                  obtain ⟨rfl, h58⟩ := h58
                  have q61 := q51.tr h58
                  show e_Pn 20 elay kcode eI nn48 d 119 (108, (0, (1, 1)) :: (1, (0, y52)) :: tl49, [], w60) _
                  refine e_Pn.run (t' := (109, (0, (1, 1)) :: (1, (0, y52)) :: tl49, [(1, 1)], w60)) kAlk 1 rfl ?_
                  refine e_Pn.getf (z := w60 1 1) kAlk rfl rfl rfl (fun b62 => ?_)
                  refine e_Pn.if1 kAlk rfl (fun h63 => ?_) (fun h63 => ?_)
                  · show e_Pn 20 elay kcode eI nn48 d 119 (116, (0, (1, 1)) :: (1, (0, y52)) :: tl49, [], w60) _
                    exact absurd ((q61.2.2.2 hf).1.symm.trans (show _ = (0 : Int) from h63)) hf
                  · show e_Pn 20 elay kcode eI nn48 d 119 (115, (0, (1, 1)) :: (1, (0, y52)) :: tl49, [], w60) _
                    exact e_Pn.ret0 rfl ⟨rfl, q61⟩
              · show e_Pn 20 elay kcode eI nn48 d 119 (78, (0, (1, 1)) :: (1, (0, y52)) :: tl49, [], w50) _
                refine e_Pn.run (t' := (79, (0, (1, 1)) :: (1, (0, y52)) :: tl49, [(1, 1)], w50)) kAlk 1 rfl ?_
                refine e_Pn.getf (z := w50 1 5) kAlk rfl rfl rfl (fun b64 => ?_)
                refine e_Pn.run (t' := (84, (0, (1, 1)) :: (1, (0, y52)) :: tl49, [(0, 22), (0, w50 1 5)], w50)) kAlk 1 rfl ?_
                refine e_Pn.if2 kAlk rfl (fun h65 => ?_) (fun h65 => ?_)
                · show e_Pn 20 elay kcode eI nn48 d 119 (97, (0, (1, 1)) :: (1, (0, y52)) :: tl49, [], w50) _
                  refine e_Pn.run (t' := (98, (0, (1, 1)) :: (1, (0, y52)) :: tl49, [(1, 1)], w50)) kAlk 1 rfl ?_
                  refine e_Pn.getf (z := w50 1 5) kAlk rfl rfl rfl (fun b66 => ?_)
                  refine e_Pn.if1 kAlk rfl (fun h67 => ?_) (fun h67 => ?_)
                  · show e_Pn 20 elay kcode eI nn48 d 119 (108, (0, (1, 1)) :: (1, (0, y52)) :: tl49, [], w50) _
                    refine e_Pn.run (t' := (109, (0, (1, 1)) :: (1, (0, y52)) :: tl49, [(1, 1)], w50)) kAlk 1 rfl ?_
                    refine e_Pn.getf (z := w50 1 1) kAlk rfl rfl rfl (fun b68 => ?_)
                    refine e_Pn.if1 kAlk rfl (fun h69 => ?_) (fun h69 => ?_)
                    · show e_Pn 20 elay kcode eI nn48 d 119 (116, (0, (1, 1)) :: (1, (0, y52)) :: tl49, [], w50) _
                      exact absurd ((q51.2.2.2 hf).1.symm.trans (show _ = (0 : Int) from h69)) hf
                    · show e_Pn 20 elay kcode eI nn48 d 119 (115, (0, (1, 1)) :: (1, (0, y52)) :: tl49, [], w50) _
                      exact e_Pn.ret0 rfl ⟨rfl, q51⟩
                  · show e_Pn 20 elay kcode eI nn48 d 119 (104, (0, (1, 1)) :: (1, (0, y52)) :: tl49, [], w50) _
                    refine e_Pn.run (t' := (105, (0, (1, 1)) :: (1, (0, y52)) :: tl49, [(1, 1)], w50)) kAlk 1 rfl ?_
                    refine e_Pn.callA rfl (fun n9 d9 => u_130 (q51.rf hR)) (fun r71 w72 h70 => ?_)
                    obtain ⟨rfl, h70⟩ := h70
                    have q73 := q51.tr h70
                    show e_Pn 20 elay kcode eI nn48 d 119 (108, (0, (1, 1)) :: (1, (0, y52)) :: tl49, [], w72) _
                    refine e_Pn.run (t' := (109, (0, (1, 1)) :: (1, (0, y52)) :: tl49, [(1, 1)], w72)) kAlk 1 rfl ?_
                    refine e_Pn.getf (z := w72 1 1) kAlk rfl rfl rfl (fun b74 => ?_)
                    refine e_Pn.if1 kAlk rfl (fun h75 => ?_) (fun h75 => ?_)
                    · show e_Pn 20 elay kcode eI nn48 d 119 (116, (0, (1, 1)) :: (1, (0, y52)) :: tl49, [], w72) _
                      exact absurd ((q73.2.2.2 hf).1.symm.trans (show _ = (0 : Int) from h75)) hf
                    · show e_Pn 20 elay kcode eI nn48 d 119 (115, (0, (1, 1)) :: (1, (0, y52)) :: tl49, [], w72) _
                      exact e_Pn.ret0 rfl ⟨rfl, q73⟩
                · show e_Pn 20 elay kcode eI nn48 d 119 (87, (0, (1, 1)) :: (1, (0, y52)) :: tl49, [], w50) _
                  refine e_Pn.run (t' := (88, (0, (1, 1)) :: (1, (0, y52)) :: tl49, [(1, 1)], w50)) kAlk 1 rfl ?_
                  refine e_Pn.callA rfl (fun n9 d9 => u_142 (q51.rf hR)) (fun r77 w78 h76 => ?_)
                  obtain ⟨rfl, h76⟩ := h76
                  have q79 := q51.tr h76
                  show e_Pn 20 elay kcode eI nn48 d 119 (91, (0, (1, 1)) :: (1, (0, y52)) :: tl49, [], w78) _
                  refine e_Pn.incU kAlk rfl rfl (fun z80 => ?_)
                  show e_Pn 20 elay kcode eI nn48 d 119 (94, (1, (0, z80)) :: (0, (1, 1)) :: List.filter (e_flt 0 1) tl49, [], w78) _
                  refine e_Pn.run (t' := (71, (1, (0, z80)) :: (0, (1, 1)) :: List.filter (e_flt 0 1) tl49, [], w78)) kAlk 1 rfl ?_
                  exact e_Pn.ord kAlk [0, 1] rfl rfl ((ih47 (by omega) _ z80 w78 q79).le (by omega))
          exact e_Pn.ord kAlk [0, 1] rfl rfl (hL46 nn3 (Nat.le_refl _) _ 0 w5 q6)
        · show e_Pn 20 elay kcode eI nn3 d 119 (59, (0, (1, 1)) :: (1, (0, y7)) :: tl4, [], w5) _
          refine e_Pn.run (t' := (60, (0, (1, 1)) :: (1, (0, y7)) :: tl4, [(1, 1)], w5)) kAlk 1 rfl ?_
          refine e_Pn.callA rfl (fun n9 d9 => u_140 (q6.rf hR)) (fun r82 w83 h81 => ?_)
          obtain ⟨rfl, h81⟩ := h81
          have q84 := q6.tr h81
          show e_Pn 20 elay kcode eI nn3 d 119 (63, (0, (1, 1)) :: (1, (0, y7)) :: tl4, [], w83) _
          refine e_Pn.incU kAlk rfl rfl (fun z85 => ?_)
          show e_Pn 20 elay kcode eI nn3 d 119 (66, (1, (0, z85)) :: (0, (1, 1)) :: List.filter (e_flt 0 1) tl4, [], w83) _
          refine e_Pn.run (t' := (43, (1, (0, z85)) :: (0, (1, 1)) :: List.filter (e_flt 0 1) tl4, [], w83)) kAlk 1 rfl ?_
          exact e_Pn.ord kAlk [0, 1] rfl rfl ((ih2 (by omega) _ z85 w83 q84).le (by omega))
  exact e_Pn.ord kAlk [0, 1] rfl rfl (hL1 n (Nat.le_refl _) _ y1 w1 q)
theorem v_119_71 {n d : Nat} {w : eW} {cd : Int} (hR : kRw cd w) (hf : w 1 1 ≠ 0) (tl : eL) (y1 : Int) (w1 : eW) (q : kq cd w w1) : e_Pn 20 elay kcode eI n d 119 (71, (0, (1, 1)) :: (1, (0, y1)) :: tl, [], w1) (fun r w' => r = [] ∧ kq cd w w') := by
  have hn := hR.1.n
  have hL1 : ∀ nn3 : Nat, nn3 ≤ n → ∀ (tl4 : eL) (y7 : Int) (w5 : eW), kq cd w w5 → e_Pn 20 elay kcode eI nn3 d 119 (71, (0, (1, 1)) :: (1, (0, y7)) :: tl4, [], w5) (fun r w' => r = [] ∧ kq cd w w') := by
    intro nn3
    induction nn3 with
    | zero => intro _ tl4 y7 w5 _; exact e_Pn.zero
    | succ nn3 ih2 =>
      intro hnnn3 tl4 y7 w5 q6
      refine e_Pn.runS (t' := (75, (0, (1, 1)) :: (1, (0, y7)) :: tl4, [(0, 4000), (0, y7)], w5)) kAlk 1 rfl ?_
      refine e_Pn.if2 kAlk rfl (fun h8 => ?_) (fun h8 => ?_)
      · show e_Pn 20 elay kcode eI nn3 d 119 (97, (0, (1, 1)) :: (1, (0, y7)) :: tl4, [], w5) _
        refine e_Pn.run (t' := (98, (0, (1, 1)) :: (1, (0, y7)) :: tl4, [(1, 1)], w5)) kAlk 1 rfl ?_
        refine e_Pn.getf (z := w5 1 5) kAlk rfl rfl rfl (fun b9 => ?_)
        refine e_Pn.if1 kAlk rfl (fun h10 => ?_) (fun h10 => ?_)
        · show e_Pn 20 elay kcode eI nn3 d 119 (108, (0, (1, 1)) :: (1, (0, y7)) :: tl4, [], w5) _
          refine e_Pn.run (t' := (109, (0, (1, 1)) :: (1, (0, y7)) :: tl4, [(1, 1)], w5)) kAlk 1 rfl ?_
          refine e_Pn.getf (z := w5 1 1) kAlk rfl rfl rfl (fun b11 => ?_)
          refine e_Pn.if1 kAlk rfl (fun h12 => ?_) (fun h12 => ?_)
          · show e_Pn 20 elay kcode eI nn3 d 119 (116, (0, (1, 1)) :: (1, (0, y7)) :: tl4, [], w5) _
            exact absurd ((q6.2.2.2 hf).1.symm.trans (show _ = (0 : Int) from h12)) hf
          · show e_Pn 20 elay kcode eI nn3 d 119 (115, (0, (1, 1)) :: (1, (0, y7)) :: tl4, [], w5) _
            exact e_Pn.ret0 rfl ⟨rfl, q6⟩
        · show e_Pn 20 elay kcode eI nn3 d 119 (104, (0, (1, 1)) :: (1, (0, y7)) :: tl4, [], w5) _
          refine e_Pn.run (t' := (105, (0, (1, 1)) :: (1, (0, y7)) :: tl4, [(1, 1)], w5)) kAlk 1 rfl ?_
          refine e_Pn.callA rfl (fun n9 d9 => u_130 (q6.rf hR)) (fun r14 w15 h13 => ?_)
          obtain ⟨rfl, h13⟩ := h13
          have q16 := q6.tr h13
          show e_Pn 20 elay kcode eI nn3 d 119 (108, (0, (1, 1)) :: (1, (0, y7)) :: tl4, [], w15) _
          refine e_Pn.run (t' := (109, (0, (1, 1)) :: (1, (0, y7)) :: tl4, [(1, 1)], w15)) kAlk 1 rfl ?_
          refine e_Pn.getf (z := w15 1 1) kAlk rfl rfl rfl (fun b17 => ?_)
          refine e_Pn.if1 kAlk rfl (fun h18 => ?_) (fun h18 => ?_)
          · show e_Pn 20 elay kcode eI nn3 d 119 (116, (0, (1, 1)) :: (1, (0, y7)) :: tl4, [], w15) _
            exact absurd ((q16.2.2.2 hf).1.symm.trans (show _ = (0 : Int) from h18)) hf
          · show e_Pn 20 elay kcode eI nn3 d 119 (115, (0, (1, 1)) :: (1, (0, y7)) :: tl4, [], w15) _
            exact e_Pn.ret0 rfl ⟨rfl, q16⟩
      · show e_Pn 20 elay kcode eI nn3 d 119 (78, (0, (1, 1)) :: (1, (0, y7)) :: tl4, [], w5) _
        refine e_Pn.run (t' := (79, (0, (1, 1)) :: (1, (0, y7)) :: tl4, [(1, 1)], w5)) kAlk 1 rfl ?_
        refine e_Pn.getf (z := w5 1 5) kAlk rfl rfl rfl (fun b19 => ?_)
        refine e_Pn.run (t' := (84, (0, (1, 1)) :: (1, (0, y7)) :: tl4, [(0, 22), (0, w5 1 5)], w5)) kAlk 1 rfl ?_
        refine e_Pn.if2 kAlk rfl (fun h20 => ?_) (fun h20 => ?_)
        · show e_Pn 20 elay kcode eI nn3 d 119 (97, (0, (1, 1)) :: (1, (0, y7)) :: tl4, [], w5) _
          refine e_Pn.run (t' := (98, (0, (1, 1)) :: (1, (0, y7)) :: tl4, [(1, 1)], w5)) kAlk 1 rfl ?_
          refine e_Pn.getf (z := w5 1 5) kAlk rfl rfl rfl (fun b21 => ?_)
          refine e_Pn.if1 kAlk rfl (fun h22 => ?_) (fun h22 => ?_)
          · show e_Pn 20 elay kcode eI nn3 d 119 (108, (0, (1, 1)) :: (1, (0, y7)) :: tl4, [], w5) _
            refine e_Pn.run (t' := (109, (0, (1, 1)) :: (1, (0, y7)) :: tl4, [(1, 1)], w5)) kAlk 1 rfl ?_
            refine e_Pn.getf (z := w5 1 1) kAlk rfl rfl rfl (fun b23 => ?_)
            refine e_Pn.if1 kAlk rfl (fun h24 => ?_) (fun h24 => ?_)
            · show e_Pn 20 elay kcode eI nn3 d 119 (116, (0, (1, 1)) :: (1, (0, y7)) :: tl4, [], w5) _
              exact absurd ((q6.2.2.2 hf).1.symm.trans (show _ = (0 : Int) from h24)) hf
            · show e_Pn 20 elay kcode eI nn3 d 119 (115, (0, (1, 1)) :: (1, (0, y7)) :: tl4, [], w5) _
              exact e_Pn.ret0 rfl ⟨rfl, q6⟩
          · show e_Pn 20 elay kcode eI nn3 d 119 (104, (0, (1, 1)) :: (1, (0, y7)) :: tl4, [], w5) _
            refine e_Pn.run (t' := (105, (0, (1, 1)) :: (1, (0, y7)) :: tl4, [(1, 1)], w5)) kAlk 1 rfl ?_
            refine e_Pn.callA rfl (fun n9 d9 => u_130 (q6.rf hR)) (fun r26 w27 h25 => ?_)
            obtain ⟨rfl, h25⟩ := h25
            have q28 := q6.tr h25
            show e_Pn 20 elay kcode eI nn3 d 119 (108, (0, (1, 1)) :: (1, (0, y7)) :: tl4, [], w27) _
            refine e_Pn.run (t' := (109, (0, (1, 1)) :: (1, (0, y7)) :: tl4, [(1, 1)], w27)) kAlk 1 rfl ?_
            refine e_Pn.getf (z := w27 1 1) kAlk rfl rfl rfl (fun b29 => ?_)
            refine e_Pn.if1 kAlk rfl (fun h30 => ?_) (fun h30 => ?_)
            · show e_Pn 20 elay kcode eI nn3 d 119 (116, (0, (1, 1)) :: (1, (0, y7)) :: tl4, [], w27) _
              exact absurd ((q28.2.2.2 hf).1.symm.trans (show _ = (0 : Int) from h30)) hf
            · show e_Pn 20 elay kcode eI nn3 d 119 (115, (0, (1, 1)) :: (1, (0, y7)) :: tl4, [], w27) _
              exact e_Pn.ret0 rfl ⟨rfl, q28⟩
        · show e_Pn 20 elay kcode eI nn3 d 119 (87, (0, (1, 1)) :: (1, (0, y7)) :: tl4, [], w5) _
          refine e_Pn.run (t' := (88, (0, (1, 1)) :: (1, (0, y7)) :: tl4, [(1, 1)], w5)) kAlk 1 rfl ?_
          refine e_Pn.callA rfl (fun n9 d9 => u_142 (q6.rf hR)) (fun r32 w33 h31 => ?_)
          obtain ⟨rfl, h31⟩ := h31
          have q34 := q6.tr h31
          show e_Pn 20 elay kcode eI nn3 d 119 (91, (0, (1, 1)) :: (1, (0, y7)) :: tl4, [], w33) _
          refine e_Pn.incU kAlk rfl rfl (fun z35 => ?_)
          show e_Pn 20 elay kcode eI nn3 d 119 (94, (1, (0, z35)) :: (0, (1, 1)) :: List.filter (e_flt 0 1) tl4, [], w33) _
          refine e_Pn.run (t' := (71, (1, (0, z35)) :: (0, (1, 1)) :: List.filter (e_flt 0 1) tl4, [], w33)) kAlk 1 rfl ?_
          exact e_Pn.ord kAlk [0, 1] rfl rfl ((ih2 (by omega) _ z35 w33 q34).le (by omega))
  exact e_Pn.ord kAlk [0, 1] rfl rfl (hL1 n (Nat.le_refl _) _ y1 w1 q)
theorem v_119_108 {n d : Nat} {w : eW} {cd : Int} (hR : kRw cd w) (hf : w 1 1 ≠ 0) (tl : eL) (y1 : Int) (w1 : eW) (q : kq cd w w1) : e_Pn 20 elay kcode eI n d 119 (108, (0, (1, 1)) :: (1, (0, y1)) :: tl, [], w1) (fun r w' => r = [] ∧ kq cd w w') := by
  have hn := hR.1.n
  refine e_Pn.run (t' := (109, (0, (1, 1)) :: (1, (0, y1)) :: tl, [(1, 1)], w1)) kAlk 1 rfl ?_
  refine e_Pn.getf (z := w1 1 1) kAlk rfl rfl rfl (fun b1 => ?_)
  refine e_Pn.if1 kAlk rfl (fun h2 => ?_) (fun h2 => ?_)
  · show e_Pn 20 elay kcode eI n d 119 (116, (0, (1, 1)) :: (1, (0, y1)) :: tl, [], w1) _
    exact absurd ((q.2.2.2 hf).1.symm.trans (show _ = (0 : Int) from h2)) hf
  · show e_Pn 20 elay kcode eI n d 119 (115, (0, (1, 1)) :: (1, (0, y1)) :: tl, [], w1) _
    exact e_Pn.ret0 rfl ⟨rfl, q⟩
theorem v_119_91 {n d : Nat} {w : eW} {cd : Int} (hR : kRw cd w) (hf : w 1 1 ≠ 0) (tl : eL) (y1 : Int) (w1 : eW) (q : kq cd w w1) : e_Pn 20 elay kcode eI n d 119 (91, (0, (1, 1)) :: (1, (0, y1)) :: tl, [], w1) (fun r w' => r = [] ∧ kq cd w w') := by
  have hn := hR.1.n
  refine e_Pn.incU kAlk rfl rfl (fun z1 => ?_)
  show e_Pn 20 elay kcode eI n d 119 (94, (1, (0, z1)) :: (0, (1, 1)) :: List.filter (e_flt 0 1) tl, [], w1) _
  refine e_Pn.run (t' := (71, (1, (0, z1)) :: (0, (1, 1)) :: List.filter (e_flt 0 1) tl, [], w1)) kAlk 1 rfl ?_
  exact e_Pn.ord kAlk [0, 1] rfl rfl (v_119_71 hR hf _ z1 w1 q)
theorem v_119_63 {n d : Nat} {w : eW} {cd : Int} (hR : kRw cd w) (hf : w 1 1 ≠ 0) (tl : eL) (y1 : Int) (w1 : eW) (q : kq cd w w1) : e_Pn 20 elay kcode eI n d 119 (63, (0, (1, 1)) :: (1, (0, y1)) :: tl, [], w1) (fun r w' => r = [] ∧ kq cd w w') := by
  have hn := hR.1.n
  refine e_Pn.incU kAlk rfl rfl (fun z1 => ?_)
  show e_Pn 20 elay kcode eI n d 119 (66, (1, (0, z1)) :: (0, (1, 1)) :: List.filter (e_flt 0 1) tl, [], w1) _
  refine e_Pn.run (t' := (43, (1, (0, z1)) :: (0, (1, 1)) :: List.filter (e_flt 0 1) tl, [], w1)) kAlk 1 rfl ?_
  exact e_Pn.ord kAlk [0, 1] rfl rfl (v_119_43 hR hf _ z1 w1 q)
theorem v_119_41 {n d : Nat} {w : eW} {cd : Int} (hR : kRw cd w) (hf : w 1 1 ≠ 0) (tl : eL) (w1 : eW) (q : kq cd w w1) : e_Pn 20 elay kcode eI n d 119 (41, (0, (1, 1)) :: tl, [], w1) (fun r w' => r = [] ∧ kq cd w w') := by
  have hn := hR.1.n
  refine e_Pn.run (t' := (43, (1, (0, 0)) :: (0, (1, 1)) :: List.filter (e_flt 0 1) tl, [], w1)) kAlk 2 rfl ?_
  exact e_Pn.ord kAlk [0, 1] rfl rfl (v_119_43 hR hf _ 0 w1 q)
theorem v_119_37 {n d : Nat} {w : eW} {cd : Int} (hR : kRw cd w) (hf : w 1 1 ≠ 0) (tl : eL) (w1 : eW) (q : kq cd w w1) : e_Pn 20 elay kcode eI n d 119 (37, (0, (1, 1)) :: tl, [], w1) (fun r w' => r = [] ∧ kq cd w w') := by
  have hn := hR.1.n
  refine e_Pn.run (t' := (38, (0, (1, 1)) :: tl, [(1, 1)], w1)) kAlk 1 rfl ?_
  refine e_Pn.callA rfl (fun n9 d9 => u_123 (q.rf hR)) (fun r2 w3 h1 => ?_)
  obtain ⟨rfl, h1⟩ := h1
  have q4 := q.tr h1
  show e_Pn 20 elay kcode eI n d 119 (41, (0, (1, 1)) :: tl, [], w3) _
  exact e_Pn.ord kAlk [0] rfl rfl (v_119_41 hR hf _ w3 q4)
end
