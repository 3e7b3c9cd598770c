noncomputable section
theorem v_353_0 {n d : Nat} {w : eW} (hR : mRw w) (tl : eL) (w1 : eW) (q : mq w w1) : e_Pn 20 elay ecode eI n d 353 (0, (0, (1, 275)) :: tl, [], w1) (fun r w' => r = [] ∧ mq w w') := by
  have hL1 : ∀ nn3 : Nat, nn3 ≤ n → ∀ (tl4 : eL) (w5 : eW), mq w w5 → e_Pn 20 elay ecode eI nn3 d 353 (0, (0, (1, 275)) :: tl4, [], w5) (fun r w' => r = [] ∧ mq w w') := by
    intro nn3
    induction nn3 with
    | zero => intro _ tl4 w5 _; exact e_Pn.zero
    | succ nn3 ih2 =>
      intro hnnn3 tl4 w5 q6
      refine e_Pn.runS (t' := (1, (0, (1, 275)) :: tl4, [(1, 275)], w5)) eAlk 0 rfl ?_
      refine e_Pn.getf (z := w5 275 88) eAlk rfl rfl rfl (fun b7 => ?_)
      refine e_Pn.if1 eAlk rfl (fun h8 => ?_) (fun h8 => ?_)
      · show e_Pn 20 elay ecode eI nn3 d 353 (67, (0, (1, 275)) :: tl4, [], w5) _
        have hL9 : ∀ nn11 : Nat, nn11 ≤ nn3 → ∀ (tl12 : eL) (w13 : eW), mq w w13 → e_Pn 20 elay ecode eI nn11 d 353 (67, (0, (1, 275)) :: tl12, [], w13) (fun r w' => r = [] ∧ mq w w') := by
          intro nn11
          induction nn11 with
          | zero => intro _ tl12 w13 _; exact e_Pn.zero
          | succ nn11 ih10 =>
            intro hnnn11 tl12 w13 q14
            refine e_Pn.runS (t' := (68, (0, (1, 275)) :: tl12, [(1, 275)], w13)) eAlk 0 rfl ?_
            refine e_Pn.getf (z := w13 275 88) eAlk rfl rfl rfl (fun b15 => ?_)
            refine e_Pn.if1 eAlk rfl (fun h16 => ?_) (fun h16 => ?_)
            · show e_Pn 20 elay ecode eI nn11 d 353 (129, (0, (1, 275)) :: tl12, [], w13) _
              refine e_Pn.run (t' := (131, (0, (1, 275)) :: tl12, [(1, 275), (1, 275)], w13)) eAlk 2 rfl ?_
              refine e_Pn.getf (z := w13 275 84) eAlk rfl rfl rfl (fun b17 => ?_)
              refine e_Pn.if1 eAlk rfl (fun h18 => ?_) (fun h18 => ?_)
              · show e_Pn 20 elay ecode eI nn11 d 353 (141, (0, (1, 275)) :: tl12, [(1, 275)], w13) _
                refine e_Pn.run (t' := (142, (0, (1, 275)) :: tl12, [(0, 0), (1, 275)], w13)) eAlk 1 rfl ?_
                refine e_Pn.callA rfl (fun n9 d9 => u_334 (q14.rf hR)) (fun r20 w21 h19 => ?_)
                obtain ⟨rfl, h19⟩ := h19
                have q22 := q14.tr h19
                show e_Pn 20 elay ecode eI nn11 d 353 (145, (0, (1, 275)) :: tl12, [], w21) _
                exact e_Pn.ret0 rfl ⟨rfl, q22⟩
              · show e_Pn 20 elay ecode eI nn11 d 353 (137, (0, (1, 275)) :: tl12, [(1, 275)], w13) _
                refine e_Pn.run (t' := (142, (0, (1, 275)) :: tl12, [(0, 1), (1, 275)], w13)) eAlk 2 rfl ?_
                refine e_Pn.callA rfl (fun n9 d9 => u_334 (q14.rf hR)) (fun r24 w25 h23 => ?_)
                obtain ⟨rfl, h23⟩ := h23
                have q26 := q14.tr h23
                show e_Pn 20 elay ecode eI nn11 d 353 (145, (0, (1, 275)) :: tl12, [], w25) _
                exact e_Pn.ret0 rfl ⟨rfl, q26⟩
            · show e_Pn 20 elay ecode eI nn11 d 353 (74, (0, (1, 275)) :: tl12, [], w13) _
              refine e_Pn.run (t' := (76, (0, (1, 275)) :: tl12, [(0, 1), (1, 275)], w13)) eAlk 2 rfl ?_
              refine e_Pn.callA rfl (fun n9 d9 => u_332 (q14.rf hR)) (fun r28 w29 h27 => ?_)
              obtain ⟨⟨z30, rfl⟩, h27⟩ := h27
              have q31 := q14.tr h27
              show e_Pn 20 elay ecode eI nn11 d 353 (79, (0, (1, 275)) :: tl12, [(0, z30)], w29) _
              refine e_Pn.if1 eAlk rfl (fun h32 => ?_) (fun h32 => ?_)
              · show e_Pn 20 elay ecode eI nn11 d 353 (129, (0, (1, 275)) :: tl12, [], w29) _
                refine e_Pn.run (t' := (131, (0, (1, 275)) :: tl12, [(1, 275), (1, 275)], w29)) eAlk 2 rfl ?_
                refine e_Pn.getf (z := w29 275 84) eAlk rfl rfl rfl (fun b33 => ?_)
                refine e_Pn.if1 eAlk rfl (fun h34 => ?_) (fun h34 => ?_)
                · show e_Pn 20 elay ecode eI nn11 d 353 (141, (0, (1, 275)) :: tl12, [(1, 275)], w29) _
                  refine e_Pn.run (t' := (142, (0, (1, 275)) :: tl12, [(0, 0), (1, 275)], w29)) eAlk 1 rfl ?_
                  refine e_Pn.callA rfl (fun n9 d9 => u_334 (q31.rf hR)) (fun r36 w37 h35 => ?_)
                  obtain ⟨rfl, h35⟩ := h35
                  have q38 := q31.tr h35
                  show e_Pn 20 elay ecode eI nn11 d 353 (145, (0, (1, 275)) :: tl12, [], w37) _
                  exact e_Pn.ret0 rfl ⟨rfl, q38⟩
                · show e_Pn 20 elay ecode eI nn11 d 353 (137, (0, (1, 275)) :: tl12, [(1, 275)], w29) _
                  refine e_Pn.run (t' := (142, (0, (1, 275)) :: tl12, [(0, 1), (1, 275)], w29)) eAlk 2 rfl ?_
                  refine e_Pn.callA rfl (fun n9 d9 => u_334 (q31.rf hR)) (fun r40 w41 h39 => ?_)
                  obtain ⟨rfl, h39⟩ := h39
                  have q42 := q31.tr h39
                  show e_Pn 20 elay ecode eI nn11 d 353 (145, (0, (1, 275)) :: tl12, [], w41) _
                  exact e_Pn.ret0 rfl ⟨rfl, q42⟩
              · show e_Pn 20 elay ecode eI nn11 d 353 (82, (0, (1, 275)) :: tl12, [], w29) _
                refine e_Pn.run (t' := (83, (0, (1, 275)) :: tl12, [(1, 275)], w29)) eAlk 1 rfl ?_
                refine e_Pn.callA rfl (fun n9 d9 => u_327 (q31.rf hR)) (fun r44 w45 h43 => ?_)
                obtain ⟨rfl, h43⟩ := h43
                have q46 := q31.tr h43
                show e_Pn 20 elay ecode eI nn11 d 353 (86, (0, (1, 275)) :: tl12, [], w45) _
                refine e_Pn.run (t' := (89, (0, (1, 275)) :: tl12, [(1, 275), (0, 1), (1, 275)], w45)) eAlk 3 rfl ?_
                refine e_Pn.getf (z := w45 275 78) eAlk rfl rfl rfl (fun b47 => ?_)
                refine e_Pn.callA rfl (fun n9 d9 => u_338 (q46.rf hR)) (fun r49 w50 h48 => ?_)
                obtain ⟨rfl, h48⟩ := h48
                have q51 := q46.tr h48
                show e_Pn 20 elay ecode eI nn11 d 353 (95, (0, (1, 275)) :: tl12, [], w50) _
                refine e_Pn.run (t' := (99, (0, (1, 275)) :: tl12, [(0, 58), (1, 275), (1, 275)], w50)) eAlk 3 rfl ?_
                refine e_Pn.callA rfl (fun n9 d9 => u_331 (q51.rf hR)) (fun r53 w54 h52 => ?_)
                obtain ⟨⟨z55, rfl⟩, h52⟩ := h52
                have q56 := q51.tr h52
                show e_Pn 20 elay ecode eI nn11 d 353 (102, (0, (1, 275)) :: tl12, [(0, z55), (1, 275)], w54) _
                refine e_Pn.callA rfl (fun n9 d9 => u_334 (q56.rf hR)) (fun r58 w59 h57 => ?_)
                obtain ⟨rfl, h57⟩ := h57
                have q60 := q56.tr h57
                show e_Pn 20 elay ecode eI nn11 d 353 (105, (0, (1, 275)) :: tl12, [], w59) _
                refine e_Pn.run (t' := (106, (0, (1, 275)) :: tl12, [(1, 275)], w59)) eAlk 1 rfl ?_
                refine e_Pn.callA rfl (fun n9 d9 => uS_all n9 348 (by decide) d9 _ (q60.rf hR)) (fun r62 w63 h61 => ?_)
                obtain ⟨rfl, h61⟩ := h61
                have q64 := q60.tr h61
                show e_Pn 20 elay ecode eI nn11 d 353 (109, (0, (1, 275)) :: tl12, [], w63) _
                refine e_Pn.run (t' := (112, (0, (1, 275)) :: tl12, [(0, 2), (1, 275), (1, 275)], w63)) eAlk 3 rfl ?_
                refine e_Pn.callA rfl (fun n9 d9 => u_332 (q64.rf hR)) (fun r66 w67 h65 => ?_)
                obtain ⟨⟨z68, rfl⟩, h65⟩ := h65
                have q69 := q64.tr h65
                show e_Pn 20 elay ecode eI nn11 d 353 (115, (0, (1, 275)) :: tl12, [(0, z68), (1, 275)], w67) _
                refine e_Pn.callA rfl (fun n9 d9 => u_334 (q69.rf hR)) (fun r71 w72 h70 => ?_)
                obtain ⟨rfl, h70⟩ := h70
                have q73 := q69.tr h70
                show e_Pn 20 elay ecode eI nn11 d 353 (118, (0, (1, 275)) :: tl12, [], w72) _
                refine e_Pn.run (t' := (122, (0, (1, 275)) :: tl12, [(0, 0), (0, 45), (1, 275)], w72)) eAlk 3 rfl ?_
                refine e_Pn.callA rfl (fun n9 d9 => u_336 (q73.rf hR)) (fun r75 w76 h74 => ?_)
                obtain ⟨⟨z77, rfl⟩, h74⟩ := h74
                have q78 := q73.tr h74
                show e_Pn 20 elay ecode eI nn11 d 353 (125, (0, (1, 275)) :: tl12, [(0, z77)], w76) _
                refine e_Pn.run (t' := (67, (0, (1, 275)) :: tl12, [], w76)) eAlk 2 rfl ?_
                exact e_Pn.ord eAlk [0] rfl rfl ((ih10 (by omega) _ w76 q78).le (by omega))
        exact e_Pn.ord eAlk [0] rfl rfl (hL9 nn3 (Nat.le_refl _) _ w5 q6)
      · show e_Pn 20 elay ecode eI nn3 d 353 (7, (0, (1, 275)) :: tl4, [], w5) _
        refine e_Pn.run (t' := (9, (0, (1, 275)) :: tl4, [(0, 0), (1, 275)], w5)) eAlk 2 rfl ?_
        refine e_Pn.callA rfl (fun n9 d9 => u_332 (q6.rf hR)) (fun r80 w81 h79 => ?_)
        obtain ⟨⟨z82, rfl⟩, h79⟩ := h79
        have q83 := q6.tr h79
        show e_Pn 20 elay ecode eI nn3 d 353 (12, (0, (1, 275)) :: tl4, [(0, z82)], w81) _
        refine e_Pn.if1 eAlk rfl (fun h84 => ?_) (fun h84 => ?_)
        · show e_Pn 20 elay ecode eI nn3 d 353 (67, (0, (1, 275)) :: tl4, [], w81) _
          have hL85 : ∀ nn87 : Nat, nn87 ≤ nn3 → ∀ (tl88 : eL) (w89 : eW), mq w w89 → e_Pn 20 elay ecode eI nn87 d 353 (67, (0, (1, 275)) :: tl88, [], w89) (fun r w' => r = [] ∧ mq w w') := by
            intro nn87
            induction nn87 with
            | zero => intro _ tl88 w89 _; exact e_Pn.zero
            | succ nn87 ih86 =>
              intro hnnn87 tl88 w89 q90
              refine e_Pn.runS (t' := (68, (0, (1, 275)) :: tl88, [(1, 275)], w89)) eAlk 0 rfl ?_
              refine e_Pn.getf (z := w89 275 88) eAlk rfl rfl rfl (fun b91 => ?_)
              refine e_Pn.if1 eAlk rfl (fun h92 => ?_) (fun h92 => ?_)
              · show e_Pn 20 elay ecode eI nn87 d 353 (129, (0, (1, 275)) :: tl88, [], w89) _
                refine e_Pn.run (t' := (131, (0, (1, 275)) :: tl88, [(1, 275), (1, 275)], w89)) eAlk 2 rfl ?_
                refine e_Pn.getf (z := w89 275 84) eAlk rfl rfl rfl (fun b93 => ?_)
                refine e_Pn.if1 eAlk rfl (fun h94 => ?_) (fun h94 => ?_)
                · show e_Pn 20 elay ecode eI nn87 d 353 (141, (0, (1, 275)) :: tl88, [(1, 275)], w89) _
                  refine e_Pn.run (t' := (142, (0, (1, 275)) :: tl88, [(0, 0), (1, 275)], w89)) eAlk 1 rfl ?_
                  refine e_Pn.callA rfl (fun n9 d9 => u_334 (q90.rf hR)) (fun r96 w97 h95 => ?_)
                  obtain ⟨rfl, h95⟩ := h95
                  have q98 := q90.tr h95
                  show e_Pn 20 elay ecode eI nn87 d 353 (145, (0, (1, 275)) :: tl88, [], w97) _
                  exact e_Pn.ret0 rfl ⟨rfl, q98⟩
                · show e_Pn 20 elay ecode eI nn87 d 353 (137, (0, (1, 275)) :: tl88, [(1, 275)], w89) _
                  refine e_Pn.run (t' := (142, (0, (1, 275)) :: tl88, [(0, 1), (1, 275)], w89)) eAlk 2 rfl ?_
                  refine e_Pn.callA rfl (fun n9 d9 => u_334 (q90.rf hR)) (fun r100 w101 h99 => ?_)
                  obtain ⟨rfl, h99⟩ := h99
                  have q102 := q90.tr h99
                  show e_Pn 20 elay ecode eI nn87 d 353 (145, (0, (1, 275)) :: tl88, [], w101) _
                  exact e_Pn.ret0 rfl ⟨rfl, q102⟩
              · show e_Pn 20 elay ecode eI nn87 d 353 (74, (0, (1, 275)) :: tl88, [], w89) _
                refine e_Pn.run (t' := (76, (0, (1, 275)) :: tl88, [(0, 1), (1, 275)], w89)) eAlk 2 rfl ?_
                refine e_Pn.callA rfl (fun n9 d9 => u_332 (q90.rf hR)) (fun r104 w105 h103 => ?_)
                obtain ⟨⟨z106, rfl⟩, h103⟩ := h103
                have q107 := q90.tr h103
                show e_Pn 20 elay ecode eI nn87 d 353 (79, (0, (1, 275)) :: tl88, [(0, z106)], w105) _
                refine e_Pn.if1 eAlk rfl (fun h108 => ?_) (fun h108 => ?_)
                · show e_Pn 20 elay ecode eI nn87 d 353 (129, (0, (1, 275)) :: tl88, [], w105) _
                  refine e_Pn.run (t' := (131, (0, (1, 275)) :: tl88, [(1, 275), (1, 275)], w105)) eAlk 2 rfl ?_
                  refine e_Pn.getf (z := w105 275 84) eAlk rfl rfl rfl (fun b109 => ?_)
                  refine e_Pn.if1 eAlk rfl (fun h110 => ?_) (fun h110 => ?_)
                  · show e_Pn 20 elay ecode eI nn87 d 353 (141, (0, (1, 275)) :: tl88, [(1, 275)], w105) _
                    refine e_Pn.run (t' := (142, (0, (1, 275)) :: tl88, [(0, 0), (1, 275)], w105)) eAlk 1 rfl ?_
                    refine e_Pn.callA rfl (fun n9 d9 => u_334 (q107.rf hR)) (fun r112 w113 h111 => ?_)
                    obtain ⟨rfl, h111⟩ := h111
                    have q114 := q107.tr h111
                    show e_Pn 20 elay ecode eI nn87 d 353 (145, (0, (1, 275)) :: tl88, [], w113) _
                    exact e_Pn.ret0 rfl ⟨rfl, q114⟩
                  · show e_Pn 20 elay ecode eI nn87 d 353 (137, (0, (1, 275)) :: tl88, [(1, 275)], w105) _
                    refine e_Pn.run (t' := (142, (0, (1, 275)) :: tl88, [(0, 1), (1, 275)], w105)) eAlk 2 rfl ?_
                    refine e_Pn.callA rfl (fun n9 d9 => u_334 (q107.rf hR)) (fun r116 w117 h115 => ?_)
                    obtain ⟨rfl, h115⟩ := h115
                    have q118 := q107.tr h115
                    show e_Pn 20 elay ecode eI nn87 d 353 (145, (0, (1, 275)) :: tl88, [], w117) _
                    exact e_Pn.ret0 rfl ⟨rfl, q118⟩
                · show e_Pn 20 elay ecode eI nn87 d 353 (82, (0, (1, 275)) :: tl88, [], w105) _
                  refine e_Pn.run (t' := (83, (0, (1, 275)) :: tl88, [(1, 275)], w105)) eAlk 1 rfl ?_
                  refine e_Pn.callA rfl (fun n9 d9 => u_327 (q107.rf hR)) (fun r120 w121 h119 => ?_)
                  obtain ⟨rfl, h119⟩ := h119
                  have q122 := q107.tr h119
                  show e_Pn 20 elay ecode eI nn87 d 353 (86, (0, (1, 275)) :: tl88, [], w121) _
                  refine e_Pn.run (t' := (89, (0, (1, 275)) :: tl88, [(1, 275), (0, 1), (1, 275)], w121)) eAlk 3 rfl ?_
                  refine e_Pn.getf (z := w121 275 78) eAlk rfl rfl rfl (fun b123 => ?_)
                  refine e_Pn.callA rfl (fun n9 d9 => u_338 (q122.rf hR)) (fun r125 w126 h124 => ?_)
                  obtain ⟨rfl, h124⟩ := h124
                  have q127 := q122.tr h124
                  show e_Pn 20 elay ecode eI nn87 d 353 (95, (0, (1, 275)) :: tl88, [], w126) _
                  refine e_Pn.run (t' := (99, (0, (1, 275)) :: tl88, [(0, 58), (1, 275), (1, 275)], w126)) eAlk 3 rfl ?_
                  refine e_Pn.callA rfl (fun n9 d9 => u_331 (q127.rf hR)) (fun r129 w130 h128 => ?_)
                  obtain ⟨⟨z131, rfl⟩, h128⟩ := h128
                  have q132 := q127.tr h128
                  show e_Pn 20 elay ecode eI nn87 d 353 (102, (0, (1, 275)) :: tl88, [(0, z131), (1, 275)], w130) _
                  refine e_Pn.callA rfl (fun n9 d9 => u_334 (q132.rf hR)) (fun r134 w135 h133 => ?_)
                  obtain ⟨rfl, h133⟩ := h133
                  have q136 := q132.tr h133
                  show e_Pn 20 elay ecode eI nn87 d 353 (105, (0, (1, 275)) :: tl88, [], w135) _
                  refine e_Pn.run (t' := (106, (0, (1, 275)) :: tl88, [(1, 275)], w135)) eAlk 1 rfl ?_
                  refine e_Pn.callA rfl (fun n9 d9 => uS_all n9 348 (by decide) d9 _ (q136.rf hR)) (fun r138 w139 h137 => ?_)
                  obtain ⟨rfl, h137⟩ := h137
                  have q140 := q136.tr h137
                  show e_Pn 20 elay ecode eI nn87 d 353 (109, (0, (1, 275)) :: tl88, [], w139) _
                  refine e_Pn.run (t' := (112, (0, (1, 275)) :: tl88, [(0, 2), (1, 275), (1, 275)], w139)) eAlk 3 rfl ?_
                  refine e_Pn.callA rfl (fun n9 d9 => u_332 (q140.rf hR)) (fun r142 w143 h141 => ?_)
                  obtain ⟨⟨z144, rfl⟩, h141⟩ := h141
                  have q145 := q140.tr h141
                  show e_Pn 20 elay ecode eI nn87 d 353 (115, (0, (1, 275)) :: tl88, [(0, z144), (1, 275)], w143) _
                  refine e_Pn.callA rfl (fun n9 d9 => u_334 (q145.rf hR)) (fun r147 w148 h146 => ?_)
                  obtain ⟨rfl, h146⟩ := h146
                  have q149 := q145.tr h146
                  show e_Pn 20 elay ecode eI nn87 d 353 (118, (0, (1, 275)) :: tl88, [], w148) _
                  refine e_Pn.run (t' := (122, (0, (1, 275)) :: tl88, [(0, 0), (0, 45), (1, 275)], w148)) eAlk 3 rfl ?_
                  refine e_Pn.callA rfl (fun n9 d9 => u_336 (q149.rf hR)) (fun r151 w152 h150 => ?_)
                  obtain ⟨⟨z153, rfl⟩, h150⟩ := h150
                  have q154 := q149.tr h150
                  show e_Pn 20 elay ecode eI nn87 d 353 (125, (0, (1, 275)) :: tl88, [(0, z153)], w152) _
                  refine e_Pn.run (t' := (67, (0, (1, 275)) :: tl88, [], w152)) eAlk 2 rfl ?_
                  exact e_Pn.ord eAlk [0] rfl rfl ((ih86 (by omega) _ w152 q154).le (by omega))
          exact e_Pn.ord eAlk [0] rfl rfl (hL85 nn3 (Nat.le_refl _) _ w81 q83)
        · show e_Pn 20 elay ecode eI nn3 d 353 (15, (0, (1, 275)) :: tl4, [], w81) _
          refine e_Pn.run (t' := (16, (0, (1, 275)) :: tl4, [(1, 275)], w81)) eAlk 1 rfl ?_
          refine e_Pn.callA rfl (fun n9 d9 => u_327 (q83.rf hR)) (fun r156 w157 h155 => ?_)
          obtain ⟨rfl, h155⟩ := h155
          have q158 := q83.tr h155
          show e_Pn 20 elay ecode eI nn3 d 353 (19, (0, (1, 275)) :: tl4, [], w157) _
          refine e_Pn.run (t' := (22, (0, (1, 275)) :: tl4, [(0, 0), (0, 0), (1, 275)], w157)) eAlk 3 rfl ?_
          refine e_Pn.callA rfl (fun n9 d9 => u_338 (q158.rf hR)) (fun r160 w161 h159 => ?_)
          obtain ⟨rfl, h159⟩ := h159
          have q162 := q158.tr h159
          show e_Pn 20 elay ecode eI nn3 d 353 (25, (0, (1, 275)) :: tl4, [], w161) _
          have hL163 : ∀ nn165 : Nat, nn165 ≤ nn3 → ∀ (tl166 : eL) (w167 : eW), mq w w167 → e_Pn 20 elay ecode eI nn165 d 353 (25, (0, (1, 275)) :: tl166, [], w167) (fun r w' => r = [] ∧ mq w w') := by
            intro nn165
            induction nn165 with
            | zero => intro _ tl166 w167 _; exact e_Pn.zero
            | succ nn165 ih164 =>
              intro hnnn165 tl166 w167 q168
              refine e_Pn.runS (t' := (26, (0, (1, 275)) :: tl166, [(1, 275)], w167)) eAlk 0 rfl ?_
              refine e_Pn.getf (z := w167 275 88) eAlk rfl rfl rfl (fun b169 => ?_)
              refine e_Pn.if1 eAlk rfl (fun h170 => ?_) (fun h170 => ?_)
              · show e_Pn 20 elay ecode eI nn165 d 353 (54, (0, (1, 275)) :: tl166, [], w167) _
                refine e_Pn.run (t' := (58, (0, (1, 275)) :: tl166, [(0, 59), (1, 275), (1, 275)], w167)) eAlk 3 rfl ?_
                refine e_Pn.callA rfl (fun n9 d9 => u_331 (q168.rf hR)) (fun r172 w173 h171 => ?_)
                obtain ⟨⟨z174, rfl⟩, h171⟩ := h171
                have q175 := q168.tr h171
                show e_Pn 20 elay ecode eI nn165 d 353 (61, (0, (1, 275)) :: tl166, [(0, z174), (1, 275)], w173) _
                refine e_Pn.callA rfl (fun n9 d9 => u_334 (q175.rf hR)) (fun r177 w178 h176 => ?_)
                obtain ⟨rfl, h176⟩ := h176
                have q179 := q175.tr h176
                show e_Pn 20 elay ecode eI nn165 d 353 (64, (0, (1, 275)) :: tl166, [], w178) _
                refine e_Pn.run (t' := (0, (0, (1, 275)) :: tl166, [], w178)) eAlk 1 rfl ?_
                exact e_Pn.ord eAlk [0] rfl rfl ((ih2 (by omega) _ w178 q179).le (by omega))
              · show e_Pn 20 elay ecode eI nn165 d 353 (32, (0, (1, 275)) :: tl166, [], w167) _
                refine e_Pn.run (t' := (35, (0, (1, 275)) :: tl166, [(0, 44), (1, 275)], w167)) eAlk 2 rfl ?_
                refine e_Pn.callA rfl (fun n9 d9 => u_331 (q168.rf hR)) (fun r181 w182 h180 => ?_)
                obtain ⟨⟨z183, rfl⟩, h180⟩ := h180
                have q184 := q168.tr h180
                show e_Pn 20 elay ecode eI nn165 d 353 (38, (0, (1, 275)) :: tl166, [(0, z183)], w182) _
                refine e_Pn.if1 eAlk rfl (fun h185 => ?_) (fun h185 => ?_)
                · show e_Pn 20 elay ecode eI nn165 d 353 (54, (0, (1, 275)) :: tl166, [], w182) _
                  refine e_Pn.run (t' := (58, (0, (1, 275)) :: tl166, [(0, 59), (1, 275), (1, 275)], w182)) eAlk 3 rfl ?_
                  refine e_Pn.callA rfl (fun n9 d9 => u_331 (q184.rf hR)) (fun r187 w188 h186 => ?_)
                  obtain ⟨⟨z189, rfl⟩, h186⟩ := h186
                  have q190 := q184.tr h186
                  show e_Pn 20 elay ecode eI nn165 d 353 (61, (0, (1, 275)) :: tl166, [(0, z189), (1, 275)], w188) _
                  refine e_Pn.callA rfl (fun n9 d9 => u_334 (q190.rf hR)) (fun r192 w193 h191 => ?_)
                  obtain ⟨rfl, h191⟩ := h191
                  have q194 := q190.tr h191
                  show e_Pn 20 elay ecode eI nn165 d 353 (64, (0, (1, 275)) :: tl166, [], w193) _
                  refine e_Pn.run (t' := (0, (0, (1, 275)) :: tl166, [], w193)) eAlk 1 rfl ?_
                  exact e_Pn.ord eAlk [0] rfl rfl ((ih2 (by omega) _ w193 q194).le (by omega))
                · show e_Pn 20 elay ecode eI nn165 d 353 (41, (0, (1, 275)) :: tl166, [], w182) _
                  refine e_Pn.run (t' := (42, (0, (1, 275)) :: tl166, [(1, 275)], w182)) eAlk 1 rfl ?_
                  refine e_Pn.callA rfl (fun n9 d9 => u_327 (q184.rf hR)) (fun r196 w197 h195 => ?_)
                  obtain ⟨rfl, h195⟩ := h195
                  have q198 := q184.tr h195
                  show e_Pn 20 elay ecode eI nn165 d 353 (45, (0, (1, 275)) :: tl166, [], w197) _
                  refine e_Pn.run (t' := (48, (0, (1, 275)) :: tl166, [(0, 0), (0, 0), (1, 275)], w197)) eAlk 3 rfl ?_
                  refine e_Pn.callA rfl (fun n9 d9 => u_338 (q198.rf hR)) (fun r200 w201 h199 => ?_)
                  obtain ⟨rfl, h199⟩ := h199
                  have q202 := q198.tr h199
                  show e_Pn 20 elay ecode eI nn165 d 353 (51, (0, (1, 275)) :: tl166, [], w201) _
                  refine e_Pn.run (t' := (25, (0, (1, 275)) :: tl166, [], w201)) eAlk 1 rfl ?_
                  exact e_Pn.ord eAlk [0] rfl rfl ((ih164 (by omega) _ w201 q202).le (by omega))
          exact e_Pn.ord eAlk [0] rfl rfl (hL163 nn3 (Nat.le_refl _) _ w161 q162)
  exact e_Pn.ord eAlk [0] rfl rfl (hL1 n (Nat.le_refl _) _ w1 q)
set_option maxHeartbeats 4000000 in
theorem v_353_25 {n d : Nat} {w : eW} (hR : mRw w) (tl : eL) (w1 : eW) (q : mq w w1) : e_Pn 20 elay ecode eI n d 353 (25, (0, (1, 275)) :: tl, [], w1) (fun r w' => r = [] ∧ mq w w') := by
  have hL1 : ∀ nn3 : Nat, nn3 ≤ n → ∀ (tl4 : eL) (w5 : eW), mq w w5 → e_Pn 20 elay ecode eI nn3 d 353 (25, (0, (1, 275)) :: tl4, [], w5) (fun r w' => r = [] ∧ mq w w') := by
    intro nn3
    induction nn3 with
    | zero => intro _ tl4 w5 _; exact e_Pn.zero
    | succ nn3 ih2 =>
      intro hnnn3 tl4 w5 q6
      refine e_Pn.runS (t' := (26, (0, (1, 275)) :: tl4, [(1, 275)], w5)) eAlk 0 rfl ?_
      refine e_Pn.getf (z := w5 275 88) eAlk rfl rfl rfl (fun b7 => ?_)
      refine e_Pn.if1 eAlk rfl (fun h8 => ?_) (fun h8 => ?_)
      · show e_Pn 20 elay ecode eI nn3 d 353 (54, (0, (1, 275)) :: tl4, [], w5) _
        refine e_Pn.run (t' := (58, (0, (1, 275)) :: tl4, [(0, 59), (1, 275), (1, 275)], w5)) eAlk 3 rfl ?_
        refine e_Pn.callA rfl (fun n9 d9 => u_331 (q6.rf hR)) (fun r10 w11 h9 => ?_)
        obtain ⟨⟨z12, rfl⟩, h9⟩ := h9
        have q13 := q6.tr h9
        show e_Pn 20 elay ecode eI nn3 d 353 (61, (0, (1, 275)) :: tl4, [(0, z12), (1, 275)], w11) _
        refine e_Pn.callA rfl (fun n9 d9 => u_334 (q13.rf hR)) (fun r15 w16 h14 => ?_)
        obtain ⟨rfl, h14⟩ := h14
        have q17 := q13.tr h14
        show e_Pn 20 elay ecode eI nn3 d 353 (64, (0, (1, 275)) :: tl4, [], w16) _
        refine e_Pn.run (t' := (0, (0, (1, 275)) :: tl4, [], w16)) eAlk 1 rfl ?_
        exact e_Pn.ord eAlk [0] rfl rfl (v_353_0 hR _ w16 q17)
      · show e_Pn 20 elay ecode eI nn3 d 353 (32, (0, (1, 275)) :: tl4, [], w5) _
        refine e_Pn.run (t' := (35, (0, (1, 275)) :: tl4, [(0, 44), (1, 275)], w5)) eAlk 2 rfl ?_
        refine e_Pn.callA rfl (fun n9 d9 => u_331 (q6.rf hR)) (fun r19 w20 h18 => ?_)
        obtain ⟨⟨z21, rfl⟩, h18⟩ := h18
        have q22 := q6.tr h18
        show e_Pn 20 elay ecode eI nn3 d 353 (38, (0, (1, 275)) :: tl4, [(0, z21)], w20) _
        refine e_Pn.if1 eAlk rfl (fun h23 => ?_) (fun h23 => ?_)
        · show e_Pn 20 elay ecode eI nn3 d 353 (54, (0, (1, 275)) :: tl4, [], w20) _
          refine e_Pn.run (t' := (58, (0, (1, 275)) :: tl4, [(0, 59), (1, 275), (1, 275)], w20)) eAlk 3 rfl ?_
          refine e_Pn.callA rfl (fun n9 d9 => u_331 (q22.rf hR)) (fun r25 w26 h24 => ?_)
          obtain ⟨⟨z27, rfl⟩, h24⟩ := h24
          have q28 := q22.tr h24
          show e_Pn 20 elay ecode eI nn3 d 353 (61, (0, (1, 275)) :: tl4, [(0, z27), (1, 275)], w26) _
          refine e_Pn.callA rfl (fun n9 d9 => u_334 (q28.rf hR)) (fun r30 w31 h29 => ?_)
          obtain ⟨rfl, h29⟩ := h29
          have q32 := q28.tr h29
          show e_Pn 20 elay ecode eI nn3 d 353 (64, (0, (1, 275)) :: tl4, [], w31) _
          refine e_Pn.run (t' := (0, (0, (1, 275)) :: tl4, [], w31)) eAlk 1 rfl ?_
          exact e_Pn.ord eAlk [0] rfl rfl (v_353_0 hR _ w31 q32)
        · show e_Pn 20 elay ecode eI nn3 d 353 (41, (0, (1, 275)) :: tl4, [], w20) _
          refine e_Pn.run (t' := (42, (0, (1, 275)) :: tl4, [(1, 275)], w20)) eAlk 1 rfl ?_
          refine e_Pn.callA rfl (fun n9 d9 => u_327 (q22.rf hR)) (fun r34 w35 h33 => ?_)
          obtain ⟨rfl, h33⟩ := h33
          have q36 := q22.tr h33
          show e_Pn 20 elay ecode eI nn3 d 353 (45, (0, (1, 275)) :: tl4, [], w35) _
          refine e_Pn.run (t' := (48, (0, (1, 275)) :: tl4, [(0, 0), (0, 0), (1, 275)], w35)) eAlk 3 rfl ?_
          refine e_Pn.callA rfl (fun n9 d9 => u_338 (q36.rf hR)) (fun r38 w39 h37 => ?_)
          obtain ⟨rfl, h37⟩ := h37
          have q40 := q36.tr h37
          show e_Pn 20 elay ecode eI nn3 d 353 (51, (0, (1, 275)) :: tl4, [], w39) _
          refine e_Pn.run (t' := (25, (0, (1, 275)) :: tl4, [], w39)) eAlk 1 rfl ?_
          exact e_Pn.ord eAlk [0] rfl rfl ((ih2 (by omega) _ w39 q40).le (by omega))
  exact e_Pn.ord eAlk [0] rfl rfl (hL1 n (Nat.le_refl _) _ w1 q)
set_option maxHeartbeats 4000000 in
theorem v_353_67 {n d : Nat} {w : eW} (hR : mRw w) (tl : eL) (w1 : eW) (q : mq w w1) : e_Pn 20 elay ecode eI n d 353 (67, (0, (1, 275)) :: tl, [], w1) (fun r w' => r = [] ∧ mq w w') := by
  have hL1 : ∀ nn3 : Nat, nn3 ≤ n → ∀ (tl4 : eL) (w5 : eW), mq w w5 → e_Pn 20 elay ecode eI nn3 d 353 (67, (0, (1, 275)) :: tl4, [], w5) (fun r w' => r = [] ∧ mq w w') := by
    intro nn3
    induction nn3 with
    | zero => intro _ tl4 w5 _; exact e_Pn.zero
    | succ nn3 ih2 =>
      intro hnnn3 tl4 w5 q6
      refine e_Pn.runS (t' := (68, (0, (1, 275)) :: tl4, [(1, 275)], w5)) eAlk 0 rfl ?_
      refine e_Pn.getf (z := w5 275 88) eAlk rfl rfl rfl (fun b7 => ?_)
      refine e_Pn.if1 eAlk rfl (fun h8 => ?_) (fun h8 => ?_)
      · show e_Pn 20 elay ecode eI nn3 d 353 (129, (0, (1, 275)) :: tl4, [], w5) _
        refine e_Pn.run (t' := (131, (0, (1, 275)) :: tl4, [(1, 275), (1, 275)], w5)) eAlk 2 rfl ?_
        refine e_Pn.getf (z := w5 275 84) eAlk rfl rfl rfl (fun b9 => ?_)
        refine e_Pn.if1 eAlk rfl (fun h10 => ?_) (fun h10 => ?_)
        · show e_Pn 20 elay ecode eI nn3 d 353 (141, (0, (1, 275)) :: tl4, [(1, 275)], w5) _
          refine e_Pn.run (t' := (142, (0, (1, 275)) :: tl4, [(0, 0), (1, 275)], w5)) eAlk 1 rfl ?_
          refine e_Pn.callA rfl (fun n9 d9 => u_334 (q6.rf hR)) (fun r12 w13 h11 => ?_)
          obtain ⟨rfl, h11⟩ := h11
          have q14 := q6.tr h11
          show e_Pn 20 elay ecode eI nn3 d 353 (145, (0, (1, 275)) :: tl4, [], w13) _
          exact e_Pn.ret0 rfl ⟨rfl, q14⟩
        · show e_Pn 20 elay ecode eI nn3 d 353 (137, (0, (1, 275)) :: tl4, [(1, 275)], w5) _
          refine e_Pn.run (t' := (142, (0, (1, 275)) :: tl4, [(0, 1), (1, 275)], w5)) eAlk 2 rfl ?_
          refine e_Pn.callA rfl (fun n9 d9 => u_334 (q6.rf hR)) (fun r16 w17 h15 => ?_)
          obtain ⟨rfl, h15⟩ := h15
          have q18 := q6.tr h15
          show e_Pn 20 elay ecode eI nn3 d 353 (145, (0, (1, 275)) :: tl4, [], w17) _
          exact e_Pn.ret0 rfl ⟨rfl, q18⟩
      · show e_Pn 20 elay ecode eI nn3 d 353 (74, (0, (1, 275)) :: tl4, [], w5) _
        refine e_Pn.run (t' := (76, (0, (1, 275)) :: tl4, [(0, 1), (1, 275)], w5)) eAlk 2 rfl ?_
        refine e_Pn.callA rfl (fun n9 d9 => u_332 (q6.rf hR)) (fun r20 w21 h19 => ?_)
        obtain ⟨⟨z22, rfl⟩, h19⟩ := h19
        have q23 := q6.tr h19
        show e_Pn 20 elay ecode eI nn3 d 353 (79, (0, (1, 275)) :: tl4, [(0, z22)], w21) _
        refine e_Pn.if1 eAlk rfl (fun h24 => ?_) (fun h24 => ?_)
        · show e_Pn 20 elay ecode eI nn3 d 353 (129, (0, (1, 275)) :: tl4, [], w21) _
          refine e_Pn.run (t' := (131, (0, (1, 275)) :: tl4, [(1, 275), (1, 275)], w21)) eAlk 2 rfl ?_
          refine e_Pn.getf (z := w21 275 84) eAlk rfl rfl rfl (fun b25 => ?_)
          refine e_Pn.if1 eAlk rfl (fun h26 => ?_) (fun h26 => ?_)
          · show e_Pn 20 elay ecode eI nn3 d 353 (141, (0, (1, 275)) :: tl4, [(1, 275)], w21) _
            refine e_Pn.run (t' := (142, (0, (1, 275)) :: tl4, [(0, 0), (1, 275)], w21)) eAlk 1 rfl ?_
            refine e_Pn.callA rfl (fun n9 d9 => u_334 (q23.rf hR)) (fun r28 w29 h27 => ?_)
            obtain ⟨rfl, h27⟩ := h27
            have q30 := q23.tr h27
            show e_Pn 20 elay ecode eI nn3 d 353 (145, (0, (1, 275)) :: tl4, [], w29) _
            exact e_Pn.ret0 rfl ⟨rfl, q30⟩
          · show e_Pn 20 elay ecode eI nn3 d 353 (137, (0, (1, 275)) :: tl4, [(1, 275)], w21) _
            refine e_Pn.run (t' := (142, (0, (1, 275)) :: tl4, [(0, 1), (1, 275)], w21)) eAlk 2 rfl ?_
            refine e_Pn.callA rfl (fun n9 d9 => u_334 (q23.rf hR)) (fun r32 w33 h31 => ?_)
            obtain ⟨rfl, h31⟩ := h31
            have q34 := q23.tr h31
            show e_Pn 20 elay ecode eI nn3 d 353 (145, (0, (1, 275)) :: tl4, [], w33) _
            exact e_Pn.ret0 rfl ⟨rfl, q34⟩
        · show e_Pn 20 elay ecode eI nn3 d 353 (82, (0, (1, 275)) :: tl4, [], w21) _
          refine e_Pn.run (t' := (83, (0, (1, 275)) :: tl4, [(1, 275)], w21)) eAlk 1 rfl ?_
          refine e_Pn.callA rfl (fun n9 d9 => u_327 (q23.rf hR)) (fun r36 w37 h35 => ?_)
          obtain ⟨rfl, h35⟩ := h35
          have q38 := q23.tr h35
          show e_Pn 20 elay ecode eI nn3 d 353 (86, (0, (1, 275)) :: tl4, [], w37) _
          refine e_Pn.run (t' := (89, (0, (1, 275)) :: tl4, [(1, 275), (0, 1), (1, 275)], w37)) eAlk 3 rfl ?_
          refine e_Pn.getf (z := w37 275 78) eAlk rfl rfl rfl (fun b39 => ?_)
          refine e_Pn.callA rfl (fun n9 d9 => u_338 (q38.rf hR)) (fun r41 w42 h40 => ?_)
          obtain ⟨rfl, h40⟩ := h40
          have q43 := q38.tr h40
          show e_Pn 20 elay ecode eI nn3 d 353 (95, (0, (1, 275)) :: tl4, [], w42) _
          refine e_Pn.run (t' := (99, (0, (1, 275)) :: tl4, [(0, 58), (1, 275), (1, 275)], w42)) eAlk 3 rfl ?_
          refine e_Pn.callA rfl (fun n9 d9 => u_331 (q43.rf hR)) (fun r45 w46 h44 => ?_)
          obtain ⟨⟨z47, rfl⟩, h44⟩ := h44
          have q48 := q43.tr h44
          show e_Pn 20 elay ecode eI nn3 d 353 (102, (0, (1, 275)) :: tl4, [(0, z47), (1, 275)], w46) _
          refine e_Pn.callA rfl (fun n9 d9 => u_334 (q48.rf hR)) (fun r50 w51 h49 => ?_)
          obtain ⟨rfl, h49⟩ := h49
          have q52 := q48.tr h49
          show e_Pn 20 elay ecode eI nn3 d 353 (105, (0, (1, 275)) :: tl4, [], w51) _
          refine e_Pn.run (t' := (106, (0, (1, 275)) :: tl4, [(1, 275)], w51)) eAlk 1 rfl ?_
          refine e_Pn.callA rfl (fun n9 d9 => uS_all n9 348 (by decide) d9 _ (q52.rf hR)) (fun r54 w55 h53 => ?_)
          obtain ⟨rfl, h53⟩ := h53
          have q56 := q52.tr h53
          show e_Pn 20 elay ecode eI nn3 d 353 (109, (0, (1, 275)) :: tl4, [], w55) _
          refine e_Pn.run (t' := (112, (0, (1, 275)) :: tl4, [(0, 2), (1, 275), (1, 275)], w55)) eAlk 3 rfl ?_
          refine e_Pn.callA rfl (fun n9 d9 => u_332 (q56.rf hR)) (fun r58 w59 h57 => ?_)
          obtain ⟨⟨z60, rfl⟩, h57⟩ := h57
          have q61 := q56.tr h57
          show e_Pn 20 elay ecode eI nn3 d 353 (115, (0, (1, 275)) :: tl4, [(0, z60), (1, 275)], w59) _
          refine e_Pn.callA rfl (fun n9 d9 => u_334 (q61.rf hR)) (fun r63 w64 h62 => ?_)
          obtain ⟨rfl, h62⟩ := h62
          have q65 := q61.tr h62
          show e_Pn 20 elay ecode eI nn3 d 353 (118, (0, (1, 275)) :: tl4, [], w64) _
          refine e_Pn.run (t' := (122, (0, (1, 275)) :: tl4, [(0, 0), (0, 45), (1, 275)], w64)) eAlk 3 rfl ?_
          refine e_Pn.callA rfl (fun n9 d9 => u_336 (q65.rf hR)) (fun r67 w68 h66 => ?_)
          obtain ⟨⟨z69, rfl⟩, h66⟩ := h66
          have q70 := q65.tr h66
          show e_Pn 20 elay ecode eI nn3 d 353 (125, (0, (1, 275)) :: tl4, [(0, z69)], w68) _
          refine e_Pn.run (t' := (67, (0, (1, 275)) :: tl4, [], w68)) eAlk 2 rfl ?_
          exact e_Pn.ord eAlk [0] rfl rfl ((ih2 (by omega) _ w68 q70).le (by omega))
  exact e_Pn.ord eAlk [0] rfl rfl (hL1 n (Nat.le_refl _) _ w1 q)
set_option maxHeartbeats 4000000 in
theorem v_353_145 {n d : Nat} {w : eW} (hR : mRw w) (tl : eL) (w1 : eW) (q : mq w w1) : e_Pn 20 elay ecode eI n d 353 (145, (0, (1, 275)) :: tl, [], w1) (fun r w' => r = [] ∧ mq w w') := by
  exact e_Pn.ret0 rfl ⟨rfl, q⟩
set_option maxHeartbeats 4000000 in
theorem v_353_125 {n d : Nat} {w : eW} (hR : mRw w) (tl : eL) (s0 : Int) (w1 : eW) (q : mq w w1) : e_Pn 20 elay ecode eI n d 353 (125, (0, (1, 275)) :: tl, [(0, s0)], w1) (fun r w' => r = [] ∧ mq w w') := by
  refine e_Pn.run (t' := (67, (0, (1, 275)) :: tl, [], w1)) eAlk 2 rfl ?_
  exact e_Pn.ord eAlk [0] rfl rfl (v_353_67 hR _ w1 q)
set_option maxHeartbeats 4000000 in
theorem v_353_118 {n d : Nat} {w : eW} (hR : mRw w) (tl : eL) (w1 : eW) (q : mq w w1) : e_Pn 20 elay ecode eI n d 353 (118, (0, (1, 275)) :: tl, [], w1) (fun r w' => r = [] ∧ mq w w') := by
  refine e_Pn.run (t' := (122, (0, (1, 275)) :: tl, [(0, 0), (0, 45), (1, 275)], w1)) eAlk 3 rfl ?_
  refine e_Pn.callA rfl (fun n9 d9 => u_336 (q.rf hR)) (fun r2 w3 h1 => ?_)
  obtain ⟨⟨z4, rfl⟩, h1⟩ := h1
  have q5 := q.tr h1
  show e_Pn 20 elay ecode eI n d 353 (125, (0, (1, 275)) :: tl, [(0, z4)], w3) _
  exact e_Pn.ord eAlk [0] rfl rfl (v_353_125 hR _ z4 w3 q5)
set_option maxHeartbeats 4000000 in
theorem v_353_115 {n d : Nat} {w : eW} (hR : mRw w) (tl : eL) (s0 : Int) (w1 : eW) (q : mq w w1) : e_Pn 20 elay ecode eI n d 353 (115, (0, (1, 275)) :: tl, [(0, s0), (1, 275)], w1) (fun r w' => r = [] ∧ mq w w') := by
  refine e_Pn.callA rfl (fun n9 d9 => u_334 (q.rf hR)) (fun r2 w3 h1 => ?_)
  obtain ⟨rfl, h1⟩ := h1
  have q4 := q.tr h1
  show e_Pn 20 elay ecode eI n d 353 (118, (0, (1, 275)) :: tl, [], w3) _
  exact e_Pn.ord eAlk [0] rfl rfl (v_353_118 hR _ w3 q4)
set_option maxHeartbeats 4000000 in
theorem v_353_109 {n d : Nat} {w : eW} (hR : mRw w) (tl : eL) (w1 : eW) (q : mq w w1) : e_Pn 20 elay ecode eI n d 353 (109, (0, (1, 275)) :: tl, [], w1) (fun r w' => r = [] ∧ mq w w') := by
  refine e_Pn.run (t' := (112, (0, (1, 275)) :: tl, [(0, 2), (1, 275), (1, 275)], w1)) eAlk 3 rfl ?_
  refine e_Pn.callA rfl (fun n9 d9 => u_332 (q.rf hR)) (fun r2 w3 h1 => ?_)
  obtain ⟨⟨z4, rfl⟩, h1⟩ := h1
  have q5 := q.tr h1
  show e_Pn 20 elay ecode eI n d 353 (115, (0, (1, 275)) :: tl, [(0, z4), (1, 275)], w3) _
  exact e_Pn.ord eAlk [0] rfl rfl (v_353_115 hR _ z4 w3 q5)
set_option maxHeartbeats 4000000 in
theorem v_353_105 {n d : Nat} {w : eW} (hR : mRw w) (tl : eL) (w1 : eW) (q : mq w w1) : e_Pn 20 elay ecode eI n d 353 (105, (0, (1, 275)) :: tl, [], w1) (fun r w' => r = [] ∧ mq w w') := by
  refine e_Pn.run (t' := (106, (0, (1, 275)) :: tl, [(1, 275)], w1)) eAlk 1 rfl ?_
  refine e_Pn.callA rfl (fun n9 d9 => uS_all n9 348 (by decide) d9 _ (q.rf hR)) (fun r2 w3 h1 => ?_)
  obtain ⟨rfl, h1⟩ := h1
  have q4 := q.tr h1
  show e_Pn 20 elay ecode eI n d 353 (109, (0, (1, 275)) :: tl, [], w3) _
  exact e_Pn.ord eAlk [0] rfl rfl (v_353_109 hR _ w3 q4)
set_option maxHeartbeats 4000000 in
theorem v_353_102 {n d : Nat} {w : eW} (hR : mRw w) (tl : eL) (s0 : Int) (w1 : eW) (q : mq w w1) : e_Pn 20 elay ecode eI n d 353 (102, (0, (1, 275)) :: tl, [(0, s0), (1, 275)], w1) (fun r w' => r = [] ∧ mq w w') := by
  refine e_Pn.callA rfl (fun n9 d9 => u_334 (q.rf hR)) (fun r2 w3 h1 => ?_)
  obtain ⟨rfl, h1⟩ := h1
  have q4 := q.tr h1
  show e_Pn 20 elay ecode eI n d 353 (105, (0, (1, 275)) :: tl, [], w3) _
  exact e_Pn.ord eAlk [0] rfl rfl (v_353_105 hR _ w3 q4)
set_option maxHeartbeats 4000000 in
theorem v_353_95 {n d : Nat} {w : eW} (hR : mRw w) (tl : eL) (w1 : eW) (q : mq w w1) : e_Pn 20 elay ecode eI n d 353 (95, (0, (1, 275)) :: tl, [], w1) (fun r w' => r = [] ∧ mq w w') := by
  refine e_Pn.run (t' := (99, (0, (1, 275)) :: tl, [(0, 58), (1, 275), (1, 275)], w1)) eAlk 3 rfl ?_
  refine e_Pn.callA rfl (fun n9 d9 => u_331 (q.rf hR)) (fun r2 w3 h1 => ?_)
  obtain ⟨⟨z4, rfl⟩, h1⟩ := h1
  have q5 := q.tr h1
  show e_Pn 20 elay ecode eI n d 353 (102, (0, (1, 275)) :: tl, [(0, z4), (1, 275)], w3) _
  exact e_Pn.ord eAlk [0] rfl rfl (v_353_102 hR _ z4 w3 q5)
set_option maxHeartbeats 4000000 in
theorem v_353_86 {n d : Nat} {w : eW} (hR : mRw w) (tl : eL) (w1 : eW) (q : mq w w1) : e_Pn 20 elay ecode eI n d 353 (86, (0, (1, 275)) :: tl, [], w1) (fun r w' => r = [] ∧ mq w w') := by
  refine e_Pn.run (t' := (89, (0, (1, 275)) :: tl, [(1, 275), (0, 1), (1, 275)], w1)) eAlk 3 rfl ?_
  refine e_Pn.getf (z := w1 275 78) eAlk rfl rfl rfl (fun b1 => ?_)
  refine e_Pn.callA rfl (fun n9 d9 => u_338 (q.rf hR)) (fun r3 w4 h2 => ?_)
  obtain ⟨rfl, h2⟩ := h2
  have q5 := q.tr h2
  show e_Pn 20 elay ecode eI n d 353 (95, (0, (1, 275)) :: tl, [], w4) _
  exact e_Pn.ord eAlk [0] rfl rfl (v_353_95 hR _ w4 q5)
set_option maxHeartbeats 4000000 in
theorem v_353_79 {n d : Nat} {w : eW} (hR : mRw w) (tl : eL) (s0 : Int) (w1 : eW) (q : mq w w1) : e_Pn 20 elay ecode eI n d 353 (79, (0, (1, 275)) :: tl, [(0, s0)], w1) (fun r w' => r = [] ∧ mq w w') := by
  refine e_Pn.if1 eAlk rfl (fun h1 => ?_) (fun h1 => ?_)
  · show e_Pn 20 elay ecode eI n d 353 (129, (0, (1, 275)) :: tl, [], w1) _
    refine e_Pn.run (t' := (131, (0, (1, 275)) :: tl, [(1, 275), (1, 275)], w1)) eAlk 2 rfl ?_
    refine e_Pn.getf (z := w1 275 84) eAlk rfl rfl rfl (fun b2 => ?_)
    refine e_Pn.if1 eAlk rfl (fun h3 => ?_) (fun h3 => ?_)
    · show e_Pn 20 elay ecode eI n d 353 (141, (0, (1, 275)) :: tl, [(1, 275)], w1) _
      refine e_Pn.run (t' := (142, (0, (1, 275)) :: tl, [(0, 0), (1, 275)], w1)) eAlk 1 rfl ?_
      refine e_Pn.callA rfl (fun n9 d9 => u_334 (q.rf hR)) (fun r5 w6 h4 => ?_)
      obtain ⟨rfl, h4⟩ := h4
      have q7 := q.tr h4
      show e_Pn 20 elay ecode eI n d 353 (145, (0, (1, 275)) :: tl, [], w6) _
      exact e_Pn.ord eAlk [0] rfl rfl (v_353_145 hR _ w6 q7)
    · show e_Pn 20 elay ecode eI n d 353 (137, (0, (1, 275)) :: tl, [(1, 275)], w1) _
      refine e_Pn.run (t' := (142, (0, (1, 275)) :: tl, [(0, 1), (1, 275)], w1)) eAlk 2 rfl ?_
      refine e_Pn.callA rfl (fun n9 d9 => u_334 (q.rf hR)) (fun r9 w10 h8 => ?_)
      obtain ⟨rfl, h8⟩ := h8
      have q11 := q.tr h8
      show e_Pn 20 elay ecode eI n d 353 (145, (0, (1, 275)) :: tl, [], w10) _
      exact e_Pn.ord eAlk [0] rfl rfl (v_353_145 hR _ w10 q11)
  · show e_Pn 20 elay ecode eI n d 353 (82, (0, (1, 275)) :: tl, [], w1) _
    refine e_Pn.run (t' := (83, (0, (1, 275)) :: tl, [(1, 275)], w1)) eAlk 1 rfl ?_
    refine e_Pn.callA rfl (fun n9 d9 => u_327 (q.rf hR)) (fun r13 w14 h12 => ?_)
    obtain ⟨rfl, h12⟩ := h12
    have q15 := q.tr h12
    show e_Pn 20 elay ecode eI n d 353 (86, (0, (1, 275)) :: tl, [], w14) _
    exact e_Pn.ord eAlk [0] rfl rfl (v_353_86 hR _ w14 q15)
set_option maxHeartbeats 4000000 in
theorem v_353_64 {n d : Nat} {w : eW} (hR : mRw w) (tl : eL) (w1 : eW) (q : mq w w1) : e_Pn 20 elay ecode eI n d 353 (64, (0, (1, 275)) :: tl, [], w1) (fun r w' => r = [] ∧ mq w w') := by
  refine e_Pn.run (t' := (0, (0, (1, 275)) :: tl, [], w1)) eAlk 1 rfl ?_
  exact e_Pn.ord eAlk [0] rfl rfl (v_353_0 hR _ w1 q)
set_option maxHeartbeats 4000000 in
theorem v_353_61 {n d : Nat} {w : eW} (hR : mRw w) (tl : eL) (s0 : Int) (w1 : eW) (q : mq w w1) : e_Pn 20 elay ecode eI n d 353 (61, (0, (1, 275)) :: tl, [(0, s0), (1, 275)], w1) (fun r w' => r = [] ∧ mq w w') := by
  refine e_Pn.callA rfl (fun n9 d9 => u_334 (q.rf hR)) (fun r2 w3 h1 => ?_)
  obtain ⟨rfl, h1⟩ := h1
  have q4 := q.tr h1
  show e_Pn 20 elay ecode eI n d 353 (64, (0, (1, 275)) :: tl, [], w3) _
  exact e_Pn.ord eAlk [0] rfl rfl (v_353_64 hR _ w3 q4)
set_option maxHeartbeats 4000000 in
theorem v_353_51 {n d : Nat} {w : eW} (hR : mRw w) (tl : eL) (w1 : eW) (q : mq w w1) : e_Pn 20 elay ecode eI n d 353 (51, (0, (1, 275)) :: tl, [], w1) (fun r w' => r = [] ∧ mq w w') := by
  refine e_Pn.run (t' := (25, (0, (1, 275)) :: tl, [], w1)) eAlk 1 rfl ?_
  exact e_Pn.ord eAlk [0] rfl rfl (v_353_25 hR _ w1 q)
set_option maxHeartbeats 4000000 in
theorem v_353_45 {n d : Nat} {w : eW} (hR : mRw w) (tl : eL) (w1 : eW) (q : mq w w1) : e_Pn 20 elay ecode eI n d 353 (45, (0, (1, 275)) :: tl, [], w1) (fun r w' => r = [] ∧ mq w w') := by
  refine e_Pn.run (t' := (48, (0, (1, 275)) :: tl, [(0, 0), (0, 0), (1, 275)], w1)) eAlk 3 rfl ?_
  refine e_Pn.callA rfl (fun n9 d9 => u_338 (q.rf hR)) (fun r2 w3 h1 => ?_)
  obtain ⟨rfl, h1⟩ := h1
  have q4 := q.tr h1
  show e_Pn 20 elay ecode eI n d 353 (51, (0, (1, 275)) :: tl, [], w3) _
  exact e_Pn.ord eAlk [0] rfl rfl (v_353_51 hR _ w3 q4)
set_option maxHeartbeats 4000000 in
theorem v_353_38 {n d : Nat} {w : eW} (hR : mRw w) (tl : eL) (s0 : Int) (w1 : eW) (q : mq w w1) : e_Pn 20 elay ecode eI n d 353 (38, (0, (1, 275)) :: tl, [(0, s0)], w1) (fun r w' => r = [] ∧ mq w w') := by
  refine e_Pn.if1 eAlk rfl (fun h1 => ?_) (fun h1 => ?_)
  · show e_Pn 20 elay ecode eI n d 353 (54, (0, (1, 275)) :: tl, [], w1) _
    refine e_Pn.run (t' := (58, (0, (1, 275)) :: tl, [(0, 59), (1, 275), (1, 275)], w1)) eAlk 3 rfl ?_
    refine e_Pn.callA rfl (fun n9 d9 => u_331 (q.rf hR)) (fun r3 w4 h2 => ?_)
    obtain ⟨⟨z5, rfl⟩, h2⟩ := h2
    have q6 := q.tr h2
    show e_Pn 20 elay ecode eI n d 353 (61, (0, (1, 275)) :: tl, [(0, z5), (1, 275)], w4) _
    exact e_Pn.ord eAlk [0] rfl rfl (v_353_61 hR _ z5 w4 q6)
  · show e_Pn 20 elay ecode eI n d 353 (41, (0, (1, 275)) :: tl, [], w1) _
    refine e_Pn.run (t' := (42, (0, (1, 275)) :: tl, [(1, 275)], w1)) eAlk 1 rfl ?_
    refine e_Pn.callA rfl (fun n9 d9 => u_327 (q.rf hR)) (fun r8 w9 h7 => ?_)
    obtain ⟨rfl, h7⟩ := h7
    have q10 := q.tr h7
    show e_Pn 20 elay ecode eI n d 353 (45, (0, (1, 275)) :: tl, [], w9) _
    exact e_Pn.ord eAlk [0] rfl rfl (v_353_45 hR _ w9 q10)
set_option maxHeartbeats 4000000 in
theorem v_353_19 {n d : Nat} {w : eW} (hR : mRw w) (tl : eL) (w1 : eW) (q : mq w w1) : e_Pn 20 elay ecode eI n d 353 (19, (0, (1, 275)) :: tl, [], w1) (fun r w' => r = [] ∧ mq w w') := by
  refine e_Pn.run (t' := (22, (0, (1, 275)) :: tl, [(0, 0), (0, 0), (1, 275)], w1)) eAlk 3 rfl ?_
  refine e_Pn.callA rfl (fun n9 d9 => u_338 (q.rf hR)) (fun r2 w3 h1 => ?_)
  obtain ⟨rfl, h1⟩ := h1
  have q4 := q.tr h1
  show e_Pn 20 elay ecode eI n d 353 (25, (0, (1, 275)) :: tl, [], w3) _
  exact e_Pn.ord eAlk [0] rfl rfl (v_353_25 hR _ w3 q4)
set_option maxHeartbeats 4000000 in
theorem v_353_12 {n d : Nat} {w : eW} (hR : mRw w) (tl : eL) (s0 : Int) (w1 : eW) (q : mq w w1) : e_Pn 20 elay ecode eI n d 353 (12, (0, (1, 275)) :: tl, [(0, s0)], w1) (fun r w' => r = [] ∧ mq w w') := by
  refine e_Pn.if1 eAlk rfl (fun h1 => ?_) (fun h1 => ?_)
  · show e_Pn 20 elay ecode eI n d 353 (67, (0, (1, 275)) :: tl, [], w1) _
    have hL2 : ∀ nn4 : Nat, nn4 ≤ n → ∀ (tl5 : eL) (w6 : eW), mq w w6 → e_Pn 20 elay ecode eI nn4 d 353 (67, (0, (1, 275)) :: tl5, [], w6) (fun r w' => r = [] ∧ mq w w') := by
      intro nn4
      induction nn4 with
      | zero => intro _ tl5 w6 _; exact e_Pn.zero
      | succ nn4 ih3 =>
        intro hnnn4 tl5 w6 q7
        refine e_Pn.runS (t' := (68, (0, (1, 275)) :: tl5, [(1, 275)], w6)) eAlk 0 rfl ?_
        refine e_Pn.getf (z := w6 275 88) eAlk rfl rfl rfl (fun b8 => ?_)
        refine e_Pn.if1 eAlk rfl (fun h9 => ?_) (fun h9 => ?_)
        · show e_Pn 20 elay ecode eI nn4 d 353 (129, (0, (1, 275)) :: tl5, [], w6) _
          refine e_Pn.run (t' := (131, (0, (1, 275)) :: tl5, [(1, 275), (1, 275)], w6)) eAlk 2 rfl ?_
          refine e_Pn.getf (z := w6 275 84) eAlk rfl rfl rfl (fun b10 => ?_)
          refine e_Pn.if1 eAlk rfl (fun h11 => ?_) (fun h11 => ?_)
          · show e_Pn 20 elay ecode eI nn4 d 353 (141, (0, (1, 275)) :: tl5, [(1, 275)], w6) _
            refine e_Pn.run (t' := (142, (0, (1, 275)) :: tl5, [(0, 0), (1, 275)], w6)) eAlk 1 rfl ?_
            refine e_Pn.callA rfl (fun n9 d9 => u_334 (q7.rf hR)) (fun r13 w14 h12 => ?_)
            obtain ⟨rfl, h12⟩ := h12
            have q15 := q7.tr h12
            show e_Pn 20 elay ecode eI nn4 d 353 (145, (0, (1, 275)) :: tl5, [], w14) _
            exact e_Pn.ord eAlk [0] rfl rfl (v_353_145 hR _ w14 q15)
          · show e_Pn 20 elay ecode eI nn4 d 353 (137, (0, (1, 275)) :: tl5, [(1, 275)], w6) _
            refine e_Pn.run (t' := (142, (0, (1, 275)) :: tl5, [(0, 1), (1, 275)], w6)) eAlk 2 rfl ?_
            refine e_Pn.callA rfl (fun n9 d9 => u_334 (q7.rf hR)) (fun r17 w18 h16 => ?_)
            obtain ⟨rfl, h16⟩ := h16
            have q19 := q7.tr h16
            show e_Pn 20 elay ecode eI nn4 d 353 (145, (0, (1, 275)) :: tl5, [], w18) _
            exact e_Pn.ord eAlk [0] rfl rfl (v_353_145 hR _ w18 q19)
        · show e_Pn 20 elay ecode eI nn4 d 353 (74, (0, (1, 275)) :: tl5, [], w6) _
          refine e_Pn.run (t' := (76, (0, (1, 275)) :: tl5, [(0, 1), (1, 275)], w6)) eAlk 2 rfl ?_
          refine e_Pn.callA rfl (fun n9 d9 => u_332 (q7.rf hR)) (fun r21 w22 h20 => ?_)
          obtain ⟨⟨z23, rfl⟩, h20⟩ := h20
          have q24 := q7.tr h20
          show e_Pn 20 elay ecode eI nn4 d 353 (79, (0, (1, 275)) :: tl5, [(0, z23)], w22) _
          exact e_Pn.ord eAlk [0] rfl rfl (v_353_79 hR _ z23 w22 q24)
    exact e_Pn.ord eAlk [0] rfl rfl (hL2 n (Nat.le_refl _) _ w1 q)
  · show e_Pn 20 elay ecode eI n d 353 (15, (0, (1, 275)) :: tl, [], w1) _
    refine e_Pn.run (t' := (16, (0, (1, 275)) :: tl, [(1, 275)], w1)) eAlk 1 rfl ?_
    refine e_Pn.callA rfl (fun n9 d9 => u_327 (q.rf hR)) (fun r26 w27 h25 => ?_)
    obtain ⟨rfl, h25⟩ := h25
    have q28 := q.tr h25
    show e_Pn 20 elay ecode eI n d 353 (19, (0, (1, 275)) :: tl, [], w27) _
    exact e_Pn.ord eAlk [0] rfl rfl (v_353_19 hR _ w27 q28)
end
