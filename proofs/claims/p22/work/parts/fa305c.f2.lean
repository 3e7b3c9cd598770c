noncomputable section
theorem u_156 {n d : Nat} {w : eW} {cd : Int} (hR : kRw cd w) (ihG : ∀ k, k < n → kS k) : e_Pn 20 elay kcode eI n d 156 (0, [(0, (1, 1))], [], w) (fun r w' => r = [] ∧ kq cd w w') := by
  have hn := hR.1.n
  refine e_Pn.run (t' := (1, [(0, (1, 1))], [(1, 1)], w)) kAlk 1 rfl ?_
  refine e_Pn.callA rfl (fun n9 d9 => u_132 (kq.r.rf hR)) (fun r2 w3 h1 => ?_)
  obtain ⟨⟨z4, rfl⟩, h1⟩ := h1
  have q5 := kq.r.tr h1
  show e_Pn 20 elay kcode eI n d 156 (4, [(0, (1, 1))], [(0, z4)], w3) _
  refine e_Pn.if1 kAlk rfl (fun h6 => ?_) (fun h6 => ?_)
  · show e_Pn 20 elay kcode eI n d 156 (8, [(0, (1, 1))], [], w3) _
    refine e_Pn.run (t' := (9, [(0, (1, 1))], [(1, 1)], w3)) kAlk 1 rfl ?_
    refine e_Pn.callA rfl (fun n9 d9 => u_123 (q5.rf hR)) (fun r8 w9 h7 => ?_)
    obtain ⟨rfl, h7⟩ := h7
    have q10 := q5.tr h7
    show e_Pn 20 elay kcode eI n d 156 (12, [(0, (1, 1))], [], w9) _
    refine e_Pn.run (t' := (15, [(0, (1, 1))], [(0, 20), (1, 1)], w9)) kAlk 2 rfl ?_
    refine e_Pn.callA rfl (fun n9 d9 => u_129 (q10.rf hR)) (fun r12 w13 h11 => ?_)
    obtain ⟨rfl, h11⟩ := h11
    have q14 := q10.tr h11
    show e_Pn 20 elay kcode eI n d 156 (18, [(0, (1, 1))], [], w13) _
    refine e_Pn.run (t' := (19, [(0, (1, 1))], [(1, 1)], w13)) kAlk 1 rfl ?_
    refine e_Pn.getr (z := cd) kAlk rfl rfl (q14.rf hR).2.1 (by omega) ?_
    refine e_Pn.run (t' := (25, [(0, (1, 1))], [(0, 0), (0, 46), (1, cd)], w13)) kAlk 2 rfl ?_
    refine e_Pn.callA rfl (fun n9 d9 => u_21 (q14.rf hR)) (fun r16 w17 h15 => ?_)
    obtain ⟨⟨z18, rfl⟩, h15⟩ := h15
    have q19 := q14.tr h15
    show e_Pn 20 elay kcode eI n d 156 (28, [(0, (1, 1))], [(0, z18)], w17) _
    refine e_Pn.run (t' := (30, [(1, (0, z18)), (0, (1, 1))], [(1, 1)], w17)) kAlk 2 rfl ?_
    refine e_Pn.getr (z := cd) kAlk rfl rfl (q19.rf hR).2.1 (by omega) ?_
    refine e_Pn.run (t' := (36, [(1, (0, z18)), (0, (1, 1))], [(0, 0), (0, 49), (1, cd)], w17)) kAlk 2 rfl ?_
    refine e_Pn.callA rfl (fun n9 d9 => u_21 (q19.rf hR)) (fun r21 w22 h20 => ?_)
    obtain ⟨⟨z23, rfl⟩, h20⟩ := h20
    have q24 := q19.tr h20
    show e_Pn 20 elay kcode eI n d 156 (39, [(1, (0, z18)), (0, (1, 1))], [(0, z23)], w22) _
    refine e_Pn.run (t' := (41, [(1, (0, z18)), (0, (1, 1))], [(1, 1)], w22)) kAlk 2 rfl ?_
    refine e_Pn.getr (z := cd) kAlk rfl rfl (q24.rf hR).2.1 (by omega) ?_
    refine e_Pn.run (t' := (47, [(1, (0, z18)), (0, (1, 1))], [(0, 0), (0, 49), (1, cd)], w22)) kAlk 2 rfl ?_
    refine e_Pn.callA rfl (fun n9 d9 => u_21 (q24.rf hR)) (fun r26 w27 h25 => ?_)
    obtain ⟨⟨z28, rfl⟩, h25⟩ := h25
    have q29 := q24.tr h25
    show e_Pn 20 elay kcode eI n d 156 (50, [(1, (0, z18)), (0, (1, 1))], [(0, z28)], w27) _
    refine e_Pn.run (t' := (52, [(1, (0, z18)), (0, (1, 1))], [(1, 1)], w27)) kAlk 2 rfl ?_
    refine e_Pn.getr (z := cd) kAlk rfl rfl (q29.rf hR).2.1 (by omega) ?_
    refine e_Pn.run (t' := (58, [(1, (0, z18)), (0, (1, 1))], [(0, 0), (0, 49), (1, cd)], w27)) kAlk 2 rfl ?_
    refine e_Pn.callA rfl (fun n9 d9 => u_21 (q29.rf hR)) (fun r31 w32 h30 => ?_)
    obtain ⟨⟨z33, rfl⟩, h30⟩ := h30
    have q34 := q29.tr h30
    show e_Pn 20 elay kcode eI n d 156 (61, [(1, (0, z18)), (0, (1, 1))], [(0, z33)], w32) _
    refine e_Pn.run (t' := (64, [(1, (0, z18)), (0, (1, 1))], [(1, 1), (1, 1)], w32)) kAlk 3 rfl ?_
    refine e_Pn.getf (z := w32 1 12) kAlk rfl rfl rfl (fun b35 => ?_)
    refine e_Pn.run (t' := (68, [(1, (0, z18)), (0, (1, 1))], [(0, 1), (0, w32 1 12), (1, 1)], w32)) kAlk 1 rfl ?_
    refine e_Pn.bin0 kAlk rfl (fun z36 hz36 => ?_)
    refine e_Pn.putf kAlk rfl rfl ?_
    generalize hw37 : e_up w32 1 12 z36 = w37
    have q38 : kq cd w w37 := kq.up q34 hR.1 hw37 (by decide) (fun _ => by decide) (fun g => absurd g.symm hn.1)
    refine e_Pn.run (t' := (73, [(1, (0, z18)), (0, (1, 1))], [(1, 1)], w37)) kAlk 1 rfl ?_
    refine e_Pn.callB rfl (fun k9 hk9 d9 => ihG k9 (by omega) 144 (by decide) d9 _ _ (q38.rf hR)) (fun r40 w41 h39 => ?_)
    obtain ⟨rfl, h39⟩ := h39
    have q42 := q38.tr h39
    show e_Pn 20 elay kcode eI n d 156 (76, [(1, (0, z18)), (0, (1, 1))], [], w41) _
    refine e_Pn.run (t' := (77, [(1, (0, z18)), (0, (1, 1))], [(1, 1)], w41)) kAlk 1 rfl ?_
    refine e_Pn.getr (z := cd) kAlk rfl rfl (q42.rf hR).2.1 (by omega) ?_
    refine e_Pn.run (t' := (83, [(1, (0, z18)), (0, (1, 1))], [(0, 0), (0, 47), (1, cd)], w41)) kAlk 2 rfl ?_
    refine e_Pn.callA rfl (fun n9 d9 => u_21 (q42.rf hR)) (fun r44 w45 h43 => ?_)
    obtain ⟨⟨z46, rfl⟩, h43⟩ := h43
    have q47 := q42.tr h43
    show e_Pn 20 elay kcode eI n d 156 (86, [(1, (0, z18)), (0, (1, 1))], [(0, z46)], w45) _
    refine e_Pn.run (t' := (88, [(1, (0, z18)), (0, (1, 1))], [(1, 1)], w45)) kAlk 2 rfl ?_
    refine e_Pn.getf (z := w45 1 5) kAlk rfl rfl rfl (fun b48 => ?_)
    refine e_Pn.run (t' := (93, [(1, (0, z18)), (0, (1, 1))], [(0, 43), (0, w45 1 5)], w45)) kAlk 1 rfl ?_
    refine e_Pn.if2 kAlk rfl (fun h49 => ?_) (fun h49 => ?_)
    · show e_Pn 20 elay kcode eI n d 156 (119, [(1, (0, z18)), (0, (1, 1))], [], w45) _
      refine e_Pn.run (t' := (120, [(1, (0, z18)), (0, (1, 1))], [(1, 1)], w45)) kAlk 1 rfl ?_
      refine e_Pn.getf (z := w45 1 5) kAlk rfl rfl rfl (fun b50 => ?_)
      refine e_Pn.run (t' := (125, [(1, (0, z18)), (0, (1, 1))], [(0, 44), (0, w45 1 5)], w45)) kAlk 1 rfl ?_
      refine e_Pn.if2 kAlk rfl (fun h51 => ?_) (fun h51 => ?_)
      · show e_Pn 20 elay kcode eI n d 156 (151, [(1, (0, z18)), (0, (1, 1))], [], w45) _
        refine e_Pn.run (t' := (153, [(1, (0, z18)), (0, (1, 1))], [(1, 1), (1, 1)], w45)) kAlk 2 rfl ?_
        refine e_Pn.getf (z := w45 1 12) kAlk rfl rfl rfl (fun b52 => ?_)
        refine e_Pn.run (t' := (157, [(1, (0, z18)), (0, (1, 1))], [(0, 1), (0, w45 1 12), (1, 1)], w45)) kAlk 1 rfl ?_
        refine e_Pn.bin0 kAlk rfl (fun z53 hz53 => ?_)
        refine e_Pn.putf kAlk rfl rfl ?_
        generalize hw54 : e_up w45 1 12 z53 = w54
        have q55 : kq cd w w54 := kq.up q47 hR.1 hw54 (by decide) (fun _ => by decide) (fun g => absurd g.symm hn.1)
        refine e_Pn.run (t' := (162, [(1, (0, z18)), (0, (1, 1))], [(1, 1)], w54)) kAlk 1 rfl ?_
        refine e_Pn.getr (z := cd) kAlk rfl rfl (q55.rf hR).2.1 (by omega) ?_
        refine e_Pn.run (t' := (167, [(1, (0, z18)), (0, (1, 1))], [(0, 3), (0, z18), (1, cd)], w54)) kAlk 2 rfl ?_
        refine e_Pn.bin0 kAlk rfl (fun z56 hz56 => ?_)
        refine e_Pn.run (t' := (169, [(1, (0, z18)), (0, (1, 1))], [(1, 1), (0, z56), (1, cd)], w54)) kAlk 1 rfl ?_
        refine e_Pn.getr (z := cd) kAlk rfl rfl (q55.rf hR).2.1 (by omega) ?_
        refine e_Pn.getf (z := w54 cd 0) kAlk rfl rfl rfl (fun b57 => ?_)
        refine e_Pn.callA rfl (fun n9 d9 => u_22 (q55.rf hR)) (fun r59 w60 h58 => ?_)
        obtain ⟨rfl, h58⟩ := h58
        have q61 := q55.tr h58
        show e_Pn 20 elay kcode eI n d 156 (178, [(1, (0, z18)), (0, (1, 1))], [], w60) _
        refine e_Pn.run (t' := (181, [(1, (0, z18)), (0, (1, 1))], [(0, 23), (1, 1)], w60)) kAlk 2 rfl ?_
        refine e_Pn.callA rfl (fun n9 d9 => u_129 (q61.rf hR)) (fun r63 w64 h62 => ?_)
        obtain ⟨rfl, h62⟩ := h62
        have q65 := q61.tr h62
        show e_Pn 20 elay kcode eI n d 156 (184, [(1, (0, z18)), (0, (1, 1))], [], w64) _
        refine e_Pn.run (t' := (186, [(1, (0, z18)), (0, (1, 1))], [(1, 1), (1, 1)], w64)) kAlk 2 rfl ?_
        refine e_Pn.getf (z := w64 1 11) kAlk rfl rfl rfl (fun b66 => ?_)
        refine e_Pn.run (t' := (190, [(1, (0, z18)), (0, (1, 1))], [(0, 1), (0, w64 1 11), (1, 1)], w64)) kAlk 1 rfl ?_
        refine e_Pn.bin0 kAlk rfl (fun z67 hz67 => ?_)
        refine e_Pn.putf kAlk rfl rfl ?_
        generalize hw68 : e_up w64 1 11 z67 = w68
        have q69 : kq cd w w68 := kq.up q65 hR.1 hw68 (by decide) (fun _ => by decide) (fun g => absurd g.symm hn.1)
        exact e_Pn.ret0 rfl ⟨rfl, q69⟩
      · show e_Pn 20 elay kcode eI n d 156 (128, [(1, (0, z18)), (0, (1, 1))], [], w45) _
        refine e_Pn.run (t' := (129, [(1, (0, z18)), (0, (1, 1))], [(1, 1)], w45)) kAlk 1 rfl ?_
        refine e_Pn.getr (z := cd) kAlk rfl rfl (q47.rf hR).2.1 (by omega) ?_
        refine e_Pn.run (t' := (134, [(1, (0, z18)), (0, (1, 1))], [(0, 2), (0, z18), (1, cd)], w45)) kAlk 2 rfl ?_
        refine e_Pn.bin0 kAlk rfl (fun z70 hz70 => ?_)
        refine e_Pn.run (t' := (136, [(1, (0, z18)), (0, (1, 1))], [(1, 1), (0, z70), (1, cd)], w45)) kAlk 1 rfl ?_
        refine e_Pn.getr (z := cd) kAlk rfl rfl (q47.rf hR).2.1 (by omega) ?_
        refine e_Pn.getf (z := w45 cd 0) kAlk rfl rfl rfl (fun b71 => ?_)
        refine e_Pn.callA rfl (fun n9 d9 => u_22 (q47.rf hR)) (fun r73 w74 h72 => ?_)
        obtain ⟨rfl, h72⟩ := h72
        have q75 := q47.tr h72
        show e_Pn 20 elay kcode eI n d 156 (145, [(1, (0, z18)), (0, (1, 1))], [], w74) _
        refine e_Pn.run (t' := (148, [(1, (0, z18)), (0, (1, 1))], [(0, 48), (1, 1)], w74)) kAlk 2 rfl ?_
        refine e_Pn.callB rfl (fun k9 hk9 d9 => u_157 (q75.rf hR) (fun k hk => ihG k (by omega))) (fun r77 w78 h76 => ?_)
        obtain ⟨rfl, h76⟩ := h76
        have q79 := q75.tr h76
        show e_Pn 20 elay kcode eI n d 156 (151, [(1, (0, z18)), (0, (1, 1))], [], w78) _
        refine e_Pn.run (t' := (153, [(1, (0, z18)), (0, (1, 1))], [(1, 1), (1, 1)], w78)) kAlk 2 rfl ?_
        refine e_Pn.getf (z := w78 1 12) kAlk rfl rfl rfl (fun b80 => ?_)
        refine e_Pn.run (t' := (157, [(1, (0, z18)), (0, (1, 1))], [(0, 1), (0, w78 1 12), (1, 1)], w78)) kAlk 1 rfl ?_
        refine e_Pn.bin0 kAlk rfl (fun z81 hz81 => ?_)
        refine e_Pn.putf kAlk rfl rfl ?_
        generalize hw82 : e_up w78 1 12 z81 = w82
        have q83 : kq cd w w82 := kq.up q79 hR.1 hw82 (by decide) (fun _ => by decide) (fun g => absurd g.symm hn.1)
        refine e_Pn.run (t' := (162, [(1, (0, z18)), (0, (1, 1))], [(1, 1)], w82)) kAlk 1 rfl ?_
        refine e_Pn.getr (z := cd) kAlk rfl rfl (q83.rf hR).2.1 (by omega) ?_
        refine e_Pn.run (t' := (167, [(1, (0, z18)), (0, (1, 1))], [(0, 3), (0, z18), (1, cd)], w82)) kAlk 2 rfl ?_
        refine e_Pn.bin0 kAlk rfl (fun z84 hz84 => ?_)
        refine e_Pn.run (t' := (169, [(1, (0, z18)), (0, (1, 1))], [(1, 1), (0, z84), (1, cd)], w82)) kAlk 1 rfl ?_
        refine e_Pn.getr (z := cd) kAlk rfl rfl (q83.rf hR).2.1 (by omega) ?_
        refine e_Pn.getf (z := w82 cd 0) kAlk rfl rfl rfl (fun b85 => ?_)
        refine e_Pn.callA rfl (fun n9 d9 => u_22 (q83.rf hR)) (fun r87 w88 h86 => ?_)
        obtain ⟨rfl, h86⟩ := h86
        have q89 := q83.tr h86
        show e_Pn 20 elay kcode eI n d 156 (178, [(1, (0, z18)), (0, (1, 1))], [], w88) _
        refine e_Pn.run (t' := (181, [(1, (0, z18)), (0, (1, 1))], [(0, 23), (1, 1)], w88)) kAlk 2 rfl ?_
        refine e_Pn.callA rfl (fun n9 d9 => u_129 (q89.rf hR)) (fun r91 w92 h90 => ?_)
        obtain ⟨rfl, h90⟩ := h90
        have q93 := q89.tr h90
        show e_Pn 20 elay kcode eI n d 156 (184, [(1, (0, z18)), (0, (1, 1))], [], w92) _
        refine e_Pn.run (t' := (186, [(1, (0, z18)), (0, (1, 1))], [(1, 1), (1, 1)], w92)) kAlk 2 rfl ?_
        refine e_Pn.getf (z := w92 1 11) kAlk rfl rfl rfl (fun b94 => ?_)
        refine e_Pn.run (t' := (190, [(1, (0, z18)), (0, (1, 1))], [(0, 1), (0, w92 1 11), (1, 1)], w92)) kAlk 1 rfl ?_
        refine e_Pn.bin0 kAlk rfl (fun z95 hz95 => ?_)
        refine e_Pn.putf kAlk rfl rfl ?_
        generalize hw96 : e_up w92 1 11 z95 = w96
        have q97 : kq cd w w96 := kq.up q93 hR.1 hw96 (by decide) (fun _ => by decide) (fun g => absurd g.symm hn.1)
        exact e_Pn.ret0 rfl ⟨rfl, q97⟩
    · show e_Pn 20 elay kcode eI n d 156 (96, [(1, (0, z18)), (0, (1, 1))], [], w45) _
      refine e_Pn.run (t' := (97, [(1, (0, z18)), (0, (1, 1))], [(1, 1)], w45)) kAlk 1 rfl ?_
      refine e_Pn.getr (z := cd) kAlk rfl rfl (q47.rf hR).2.1 (by omega) ?_
      refine e_Pn.run (t' := (102, [(1, (0, z18)), (0, (1, 1))], [(0, 1), (0, z18), (1, cd)], w45)) kAlk 2 rfl ?_
      refine e_Pn.bin0 kAlk rfl (fun z98 hz98 => ?_)
      refine e_Pn.run (t' := (104, [(1, (0, z18)), (0, (1, 1))], [(1, 1), (0, z98), (1, cd)], w45)) kAlk 1 rfl ?_
      refine e_Pn.getr (z := cd) kAlk rfl rfl (q47.rf hR).2.1 (by omega) ?_
      refine e_Pn.getf (z := w45 cd 0) kAlk rfl rfl rfl (fun b99 => ?_)
      refine e_Pn.callA rfl (fun n9 d9 => u_22 (q47.rf hR)) (fun r101 w102 h100 => ?_)
      obtain ⟨rfl, h100⟩ := h100
      have q103 := q47.tr h100
      show e_Pn 20 elay kcode eI n d 156 (113, [(1, (0, z18)), (0, (1, 1))], [], w102) _
      refine e_Pn.run (t' := (116, [(1, (0, z18)), (0, (1, 1))], [(0, 47), (1, 1)], w102)) kAlk 2 rfl ?_
      refine e_Pn.callB rfl (fun k9 hk9 d9 => u_157 (q103.rf hR) (fun k hk => ihG k (by omega))) (fun r105 w106 h104 => ?_)
      obtain ⟨rfl, h104⟩ := h104
      have q107 := q103.tr h104
      show e_Pn 20 elay kcode eI n d 156 (119, [(1, (0, z18)), (0, (1, 1))], [], w106) _
      refine e_Pn.run (t' := (120, [(1, (0, z18)), (0, (1, 1))], [(1, 1)], w106)) kAlk 1 rfl ?_
      refine e_Pn.getf (z := w106 1 5) kAlk rfl rfl rfl (fun b108 => ?_)
      refine e_Pn.run (t' := (125, [(1, (0, z18)), (0, (1, 1))], [(0, 44), (0, w106 1 5)], w106)) kAlk 1 rfl ?_
      refine e_Pn.if2 kAlk rfl (fun h109 => ?_) (fun h109 => ?_)
      · show e_Pn 20 elay kcode eI n d 156 (151, [(1, (0, z18)), (0, (1, 1))], [], w106) _
        refine e_Pn.run (t' := (153, [(1, (0, z18)), (0, (1, 1))], [(1, 1), (1, 1)], w106)) kAlk 2 rfl ?_
        refine e_Pn.getf (z := w106 1 12) kAlk rfl rfl rfl (fun b110 => ?_)
        refine e_Pn.run (t' := (157, [(1, (0, z18)), (0, (1, 1))], [(0, 1), (0, w106 1 12), (1, 1)], w106)) kAlk 1 rfl ?_
        refine e_Pn.bin0 kAlk rfl (fun z111 hz111 => ?_)
        refine e_Pn.putf kAlk rfl rfl ?_
        generalize hw112 : e_up w106 1 12 z111 = w112
        have q113 : kq cd w w112 := kq.up q107 hR.1 hw112 (by decide) (fun _ => by decide) (fun g => absurd g.symm hn.1)
        refine e_Pn.run (t' := (162, [(1, (0, z18)), (0, (1, 1))], [(1, 1)], w112)) kAlk 1 rfl ?_
        refine e_Pn.getr (z := cd) kAlk rfl rfl (q113.rf hR).2.1 (by omega) ?_
        refine e_Pn.run (t' := (167, [(1, (0, z18)), (0, (1, 1))], [(0, 3), (0, z18), (1, cd)], w112)) kAlk 2 rfl ?_
        refine e_Pn.bin0 kAlk rfl (fun z114 hz114 => ?_)
        refine e_Pn.run (t' := (169, [(1, (0, z18)), (0, (1, 1))], [(1, 1), (0, z114), (1, cd)], w112)) kAlk 1 rfl ?_
        refine e_Pn.getr (z := cd) kAlk rfl rfl (q113.rf hR).2.1 (by omega) ?_
        refine e_Pn.getf (z := w112 cd 0) kAlk rfl rfl rfl (fun b115 => ?_)
        refine e_Pn.callA rfl (fun n9 d9 => u_22 (q113.rf hR)) (fun r117 w118 h116 => ?_)
        obtain ⟨rfl, h116⟩ := h116
        have q119 := q113.tr h116
        show e_Pn 20 elay kcode eI n d 156 (178, [(1, (0, z18)), (0, (1, 1))], [], w118) _
        refine e_Pn.run (t' := (181, [(1, (0, z18)), (0, (1, 1))], [(0, 23), (1, 1)], w118)) kAlk 2 rfl ?_
        refine e_Pn.callA rfl (fun n9 d9 => u_129 (q119.rf hR)) (fun r121 w122 h120 => ?_)
        obtain ⟨rfl, h120⟩ := h120
        have q123 := q119.tr h120
        show e_Pn 20 elay kcode eI n d 156 (184, [(1, (0, z18)), (0, (1, 1))], [], w122) _
        refine e_Pn.run (t' := (186, [(1, (0, z18)), (0, (1, 1))], [(1, 1), (1, 1)], w122)) kAlk 2 rfl ?_
        refine e_Pn.getf (z := w122 1 11) kAlk rfl rfl rfl (fun b124 => ?_)
        refine e_Pn.run (t' := (190, [(1, (0, z18)), (0, (1, 1))], [(0, 1), (0, w122 1 11), (1, 1)], w122)) kAlk 1 rfl ?_
        refine e_Pn.bin0 kAlk rfl (fun z125 hz125 => ?_)
        refine e_Pn.putf kAlk rfl rfl ?_
        generalize hw126 : e_up w122 1 11 z125 = w126
        have q127 : kq cd w w126 := kq.up q123 hR.1 hw126 (by decide) (fun _ => by decide) (fun g => absurd g.symm hn.1)
        exact e_Pn.ret0 rfl ⟨rfl, q127⟩
      · show e_Pn 20 elay kcode eI n d 156 (128, [(1, (0, z18)), (0, (1, 1))], [], w106) _
        refine e_Pn.run (t' := (129, [(1, (0, z18)), (0, (1, 1))], [(1, 1)], w106)) kAlk 1 rfl ?_
        refine e_Pn.getr (z := cd) kAlk rfl rfl (q107.rf hR).2.1 (by omega) ?_
        refine e_Pn.run (t' := (134, [(1, (0, z18)), (0, (1, 1))], [(0, 2), (0, z18), (1, cd)], w106)) kAlk 2 rfl ?_
        refine e_Pn.bin0 kAlk rfl (fun z128 hz128 => ?_)
        refine e_Pn.run (t' := (136, [(1, (0, z18)), (0, (1, 1))], [(1, 1), (0, z128), (1, cd)], w106)) kAlk 1 rfl ?_
        refine e_Pn.getr (z := cd) kAlk rfl rfl (q107.rf hR).2.1 (by omega) ?_
        refine e_Pn.getf (z := w106 cd 0) kAlk rfl rfl rfl (fun b129 => ?_)
        refine e_Pn.callA rfl (fun n9 d9 => u_22 (q107.rf hR)) (fun r131 w132 h130 => ?_)
        obtain ⟨rfl, h130⟩ := h130
        have q133 := q107.tr h130
        show e_Pn 20 elay kcode eI n d 156 (145, [(1, (0, z18)), (0, (1, 1))], [], w132) _
        refine e_Pn.run (t' := (148, [(1, (0, z18)), (0, (1, 1))], [(0, 48), (1, 1)], w132)) kAlk 2 rfl ?_
        refine e_Pn.callB rfl (fun k9 hk9 d9 => u_157 (q133.rf hR) (fun k hk => ihG k (by omega))) (fun r135 w136 h134 => ?_)
        obtain ⟨rfl, h134⟩ := h134
        have q137 := q133.tr h134
        show e_Pn 20 elay kcode eI n d 156 (151, [(1, (0, z18)), (0, (1, 1))], [], w136) _
        refine e_Pn.run (t' := (153, [(1, (0, z18)), (0, (1, 1))], [(1, 1), (1, 1)], w136)) kAlk 2 rfl ?_
        refine e_Pn.getf (z := w136 1 12) kAlk rfl rfl rfl (fun b138 => ?_)
        refine e_Pn.run (t' := (157, [(1, (0, z18)), (0, (1, 1))], [(0, 1), (0, w136 1 12), (1, 1)], w136)) kAlk 1 rfl ?_
        refine e_Pn.bin0 kAlk rfl (fun z139 hz139 => ?_)
        refine e_Pn.putf kAlk rfl rfl ?_
        generalize hw140 : e_up w136 1 12 z139 = w140
        have q141 : kq cd w w140 := kq.up q137 hR.1 hw140 (by decide) (fun _ => by decide) (fun g => absurd g.symm hn.1)
        refine e_Pn.run (t' := (162, [(1, (0, z18)), (0, (1, 1))], [(1, 1)], w140)) kAlk 1 rfl ?_
        refine e_Pn.getr (z := cd) kAlk rfl rfl (q141.rf hR).2.1 (by omega) ?_
        refine e_Pn.run (t' := (167, [(1, (0, z18)), (0, (1, 1))], [(0, 3), (0, z18), (1, cd)], w140)) kAlk 2 rfl ?_
        refine e_Pn.bin0 kAlk rfl (fun z142 hz142 => ?_)
        refine e_Pn.run (t' := (169, [(1, (0, z18)), (0, (1, 1))], [(1, 1), (0, z142), (1, cd)], w140)) kAlk 1 rfl ?_
        refine e_Pn.getr (z := cd) kAlk rfl rfl (q141.rf hR).2.1 (by omega) ?_
        refine e_Pn.getf (z := w140 cd 0) kAlk rfl rfl rfl (fun b143 => ?_)
        refine e_Pn.callA rfl (fun n9 d9 => u_22 (q141.rf hR)) (fun r145 w146 h144 => ?_)
        obtain ⟨rfl, h144⟩ := h144
        have q147 := q141.tr h144
        show e_Pn 20 elay kcode eI n d 156 (178, [(1, (0, z18)), (0, (1, 1))], [], w146) _
        refine e_Pn.run (t' := (181, [(1, (0, z18)), (0, (1, 1))], [(0, 23), (1, 1)], w146)) kAlk 2 rfl ?_
        refine e_Pn.callA rfl (fun n9 d9 => u_129 (q147.rf hR)) (fun r149 w150 h148 => ?_)
        obtain ⟨rfl, h148⟩ := h148
        have q151 := q147.tr h148
        show e_Pn 20 elay kcode eI n d 156 (184, [(1, (0, z18)), (0, (1, 1))], [], w150) _
        refine e_Pn.run (t' := (186, [(1, (0, z18)), (0, (1, 1))], [(1, 1), (1, 1)], w150)) kAlk 2 rfl ?_
        refine e_Pn.getf (z := w150 1 11) kAlk rfl rfl rfl (fun b152 => ?_)
        refine e_Pn.run (t' := (190, [(1, (0, z18)), (0, (1, 1))], [(0, 1), (0, w150 1 11), (1, 1)], w150)) kAlk 1 rfl ?_
        refine e_Pn.bin0 kAlk rfl (fun z153 hz153 => ?_)
        refine e_Pn.putf kAlk rfl rfl ?_
        generalize hw154 : e_up w150 1 11 z153 = w154
        have q155 : kq cd w w154 := kq.up q151 hR.1 hw154 (by decide) (fun _ => by decide) (fun g => absurd g.symm hn.1)
        exact e_Pn.ret0 rfl ⟨rfl, q155⟩
  · show e_Pn 20 elay kcode eI n d 156 (7, [(0, (1, 1))], [], w3) _
    exact e_Pn.ret0 rfl ⟨rfl, q5⟩
theorem kS_all : ∀ n, kS n := fun n => Nat.strongRecOn n (fun n ih M hM => by
  simp only [List.mem_cons, List.not_mem_nil, or_false] at hM
  rcases hM with rfl | rfl | rfl | rfl | rfl
  · exact fun d w cd hR => u_144 hR (fun k hk => ih k hk)
  · exact fun d w cd hR => u_145 hR (fun k hk => ih k hk)
  · exact fun d w cd hR => u_154 hR (fun k hk => ih k hk)
  · exact fun d w cd hR => u_155 hR (fun k hk => ih k hk)
  · exact fun d w cd hR => u_156 hR (fun k hk => ih k hk))
theorem u_157_a {n d : Nat} {w : eW} {cd : Int} (hR : kRw cd w) {x : Int} : e_Pn 20 elay kcode eI n d 157 (0, [(0, (1, 1)), (1, (0, x))], [], w) (fun r w' => r = [] ∧ kq cd w w') := u_157 hR (fun k _ => kS_all k)
theorem u_141 {n d : Nat} {w : eW} {cd : Int} (hR : kRw cd w) : e_Pn 20 elay kcode eI n d 141 (0, [(0, (1, 1))], [], w) (fun r w' => r = [] ∧ kq cd w w') := by
  have hn := hR.1.n
  refine e_Pn.run (t' := (1, [(0, (1, 1))], [(1, 1)], w)) kAlk 1 rfl ?_
  refine e_Pn.getf (z := w 1 5) kAlk rfl rfl rfl (fun b1 => ?_)
  refine e_Pn.run (t' := (5, [(0, (1, 1))], [(0, 1), (0, w 1 5)], w)) kAlk 1 rfl ?_
  refine e_Pn.if2 kAlk rfl (fun h2 => ?_) (fun h2 => ?_)
  · show e_Pn 20 elay kcode eI n d 141 (66, [(0, (1, 1))], [], w) _
    refine e_Pn.run (t' := (68, [(0, (1, 1))], [(0, 1), (1, 1)], w)) kAlk 2 rfl ?_
    refine e_Pn.callA rfl (fun n9 d9 => u_129 (kq.r.rf hR)) (fun r4 w5 h3 => ?_)
    obtain ⟨rfl, h3⟩ := h3
    have q6 := kq.r.tr h3
    show e_Pn 20 elay kcode eI n d 141 (71, [(0, (1, 1))], [], w5) _
    exact e_Pn.ret0 rfl ⟨rfl, q6⟩
  · show e_Pn 20 elay kcode eI n d 141 (8, [(0, (1, 1))], [], w) _
    refine e_Pn.run (t' := (9, [(0, (1, 1))], [(1, 1)], w)) kAlk 1 rfl ?_
    refine e_Pn.callA rfl (fun n9 d9 => u_139 (kq.r.rf hR)) (fun r8 w9 h7 => ?_)
    obtain ⟨rfl, h7⟩ := h7
    have q10 := kq.r.tr h7
    show e_Pn 20 elay kcode eI n d 141 (12, [(0, (1, 1))], [], w9) _
    refine e_Pn.run (t' := (13, [(0, (1, 1))], [(1, 1)], w9)) kAlk 1 rfl ?_
    refine e_Pn.getr (z := cd) kAlk rfl rfl (q10.rf hR).2.1 (by omega) ?_
    refine e_Pn.getf (z := w9 cd 2) kAlk rfl rfl rfl (fun b11 => ?_)
    refine e_Pn.run (t' := (21, [(0, (1, 1))], [(0, 32), (0, w9 cd 2)], w9)) kAlk 1 rfl ?_
    refine e_Pn.if2 kAlk rfl (fun h12 => ?_) (fun h12 => ?_)
    · show e_Pn 20 elay kcode eI n d 141 (56, [(0, (1, 1))], [], w9) _
      refine e_Pn.run (t' := (60, [(0, (1, 1))], [(1, 1), (0, 7), (1, 1)], w9)) kAlk 3 rfl ?_
      refine e_Pn.getf (z := w9 1 6) kAlk rfl rfl rfl (fun b13 => ?_)
      refine e_Pn.callA rfl (fun n9 d9 => u_133 (q10.rf hR)) (fun r15 w16 h14 => ?_)
      obtain ⟨rfl, h14⟩ := h14
      have q17 := q10.tr h14
      show e_Pn 20 elay kcode eI n d 141 (66, [(0, (1, 1))], [], w16) _
      refine e_Pn.run (t' := (68, [(0, (1, 1))], [(0, 1), (1, 1)], w16)) kAlk 2 rfl ?_
      refine e_Pn.callA rfl (fun n9 d9 => u_129 (q17.rf hR)) (fun r19 w20 h18 => ?_)
      obtain ⟨rfl, h18⟩ := h18
      have q21 := q17.tr h18
      show e_Pn 20 elay kcode eI n d 141 (71, [(0, (1, 1))], [], w20) _
      exact e_Pn.ret0 rfl ⟨rfl, q21⟩
    · show e_Pn 20 elay kcode eI n d 141 (24, [(0, (1, 1))], [], w9) _
      refine e_Pn.run (t' := (25, [(0, (1, 1))], [(1, 1)], w9)) kAlk 1 rfl ?_
      refine e_Pn.getr (z := 6) kAlk rfl rfl (q10.rf hR).2.2.2.1 (by omega) ?_
      refine e_Pn.run (t' := (29, [(0, (1, 1))], [(1, 1), (1, 6)], w9)) kAlk 1 rfl ?_
      refine e_Pn.getr (z := cd) kAlk rfl rfl (q10.rf hR).2.1 (by omega) ?_
      refine e_Pn.getf (z := w9 cd 2) kAlk rfl rfl rfl (fun b22 => ?_)
      refine e_Pn.run (t' := (36, [(0, (1, 1))], [(1, 1), (0, w9 cd 2), (1, 6)], w9)) kAlk 1 rfl ?_
      refine e_Pn.getf (z := w9 1 6) kAlk rfl rfl rfl (fun b23 => ?_)
      refine e_Pn.ast kAlk rfl rfl rfl (fun b24 b25 => ?_)
      generalize hw26 : e_up w9 6 (w9 cd 2) (w9 1 6) = w26
      have q27 : kq cd w w26 := kq.up q10 hR.1 hw26 (by decide) (fun g => absurd g (by decide)) (fun g => absurd g.symm hn.2.2.1)
      refine e_Pn.run (t' := (41, [(0, (1, 1))], [(1, 1)], w26)) kAlk 1 rfl ?_
      refine e_Pn.getr (z := cd) kAlk rfl rfl (q27.rf hR).2.1 (by omega) ?_
      refine e_Pn.run (t' := (45, [(0, (1, 1))], [(1, cd), (1, cd)], w26)) kAlk 1 rfl ?_
      refine e_Pn.getf (z := w26 cd 2) kAlk rfl rfl rfl (fun b28 => ?_)
      refine e_Pn.run (t' := (49, [(0, (1, 1))], [(0, 1), (0, w26 cd 2), (1, cd)], w26)) kAlk 1 rfl ?_
      refine e_Pn.bin0 kAlk rfl (fun z29 hz29 => ?_)
      refine e_Pn.putf kAlk rfl rfl ?_
      generalize hw30 : e_up w26 cd 2 z29 = w30
      have q31 : kq cd w w30 := kq.up q27 hR.1 hw30 hn.2.1 (fun g => absurd g hn.1) (fun _ => by decide)
      refine e_Pn.run (t' := (68, [(0, (1, 1))], [(0, 1), (1, 1)], w30)) kAlk 3 rfl ?_
      refine e_Pn.callA rfl (fun n9 d9 => u_129 (q31.rf hR)) (fun r33 w34 h32 => ?_)
      obtain ⟨rfl, h32⟩ := h32
      have q35 := q31.tr h32
      show e_Pn 20 elay kcode eI n d 141 (71, [(0, (1, 1))], [], w34) _
      exact e_Pn.ret0 rfl ⟨rfl, q35⟩
theorem u_140 {n d : Nat} {w : eW} {cd : Int} (hR : kRw cd w) : e_Pn 20 elay kcode eI n d 140 (0, [(0, (1, 1))], [], w) (fun r w' => r = [] ∧ kq cd w w') := by
  have hn := hR.1.n
  refine e_Pn.run (t' := (1, [(0, (1, 1))], [(1, 1)], w)) kAlk 1 rfl ?_
  refine e_Pn.callA rfl (fun n9 d9 => u_123 (kq.r.rf hR)) (fun r2 w3 h1 => ?_)
  obtain ⟨rfl, h1⟩ := h1
  have q4 := kq.r.tr h1
  show e_Pn 20 elay kcode eI n d 140 (4, [(0, (1, 1))], [], w3) _
  refine e_Pn.run (t' := (5, [(0, (1, 1))], [(1, 1)], w3)) kAlk 1 rfl ?_
  refine e_Pn.callA rfl (fun n9 d9 => u_141 (q4.rf hR)) (fun r6 w7 h5 => ?_)
  obtain ⟨rfl, h5⟩ := h5
  have q8 := q4.tr h5
  show e_Pn 20 elay kcode eI n d 140 (8, [(0, (1, 1))], [], w7) _
  refine e_Pn.run (t' := (10, [(1, (0, 0)), (0, (1, 1))], [], w7)) kAlk 2 rfl ?_
  have hL9 : ∀ nn11 : Nat, nn11 ≤ n → ∀ (tl12 : eL) (y15 : Int) (w13 : eW), kq cd w w13 → e_Pn 20 elay kcode eI nn11 d 140 (10, (0, (1, 1)) :: (1, (0, y15)) :: tl12, [], w13) (fun r w' => r = [] ∧ kq cd w w') := by
    intro nn11
    induction nn11 with
    | zero => intro _ tl12 y15 w13 _; exact e_Pn.zero
    | succ nn11 ih10 =>
      intro hnnn11 tl12 y15 w13 q14
      refine e_Pn.runS (t' := (14, (0, (1, 1)) :: (1, (0, y15)) :: tl12, [(0, 4000), (0, y15)], w13)) kAlk 1 rfl ?_
      refine e_Pn.if2 kAlk rfl (fun h16 => ?_) (fun h16 => ?_)
      · show e_Pn 20 elay kcode eI nn11 d 140 (40, (0, (1, 1)) :: (1, (0, y15)) :: tl12, [], w13) _
        refine e_Pn.run (t' := (43, (0, (1, 1)) :: (1, (0, y15)) :: tl12, [(0, 19), (1, 1)], w13)) kAlk 2 rfl ?_
        refine e_Pn.callA rfl (fun n9 d9 => u_129 (q14.rf hR)) (fun r18 w19 h17 => ?_)
        obtain ⟨rfl, h17⟩ := h17
        have q20 := q14.tr h17
        show e_Pn 20 elay kcode eI nn11 d 140 (46, (0, (1, 1)) :: (1, (0, y15)) :: tl12, [], w19) _
        exact e_Pn.ret0 rfl ⟨rfl, q20⟩
      · show e_Pn 20 elay kcode eI nn11 d 140 (17, (0, (1, 1)) :: (1, (0, y15)) :: tl12, [], w13) _
        refine e_Pn.run (t' := (18, (0, (1, 1)) :: (1, (0, y15)) :: tl12, [(1, 1)], w13)) kAlk 1 rfl ?_
        refine e_Pn.getf (z := w13 1 5) kAlk rfl rfl rfl (fun b21 => ?_)
        refine e_Pn.run (t' := (23, (0, (1, 1)) :: (1, (0, y15)) :: tl12, [(0, 18), (0, w13 1 5)], w13)) kAlk 1 rfl ?_
        refine e_Pn.if2 kAlk rfl (fun h22 => ?_) (fun h22 => ?_)
        · show e_Pn 20 elay kcode eI nn11 d 140 (40, (0, (1, 1)) :: (1, (0, y15)) :: tl12, [], w13) _
          refine e_Pn.run (t' := (43, (0, (1, 1)) :: (1, (0, y15)) :: tl12, [(0, 19), (1, 1)], w13)) kAlk 2 rfl ?_
          refine e_Pn.callA rfl (fun n9 d9 => u_129 (q14.rf hR)) (fun r24 w25 h23 => ?_)
          obtain ⟨rfl, h23⟩ := h23
          have q26 := q14.tr h23
          show e_Pn 20 elay kcode eI nn11 d 140 (46, (0, (1, 1)) :: (1, (0, y15)) :: tl12, [], w25) _
          exact e_Pn.ret0 rfl ⟨rfl, q26⟩
        · show e_Pn 20 elay kcode eI nn11 d 140 (26, (0, (1, 1)) :: (1, (0, y15)) :: tl12, [], w13) _
          refine e_Pn.run (t' := (27, (0, (1, 1)) :: (1, (0, y15)) :: tl12, [(1, 1)], w13)) kAlk 1 rfl ?_
          refine e_Pn.callA rfl (fun n9 d9 => u_123 (q14.rf hR)) (fun r28 w29 h27 => ?_)
          obtain ⟨rfl, h27⟩ := h27
          have q30 := q14.tr h27
          show e_Pn 20 elay kcode eI nn11 d 140 (30, (0, (1, 1)) :: (1, (0, y15)) :: tl12, [], w29) _
          refine e_Pn.run (t' := (31, (0, (1, 1)) :: (1, (0, y15)) :: tl12, [(1, 1)], w29)) kAlk 1 rfl ?_
          refine e_Pn.callA rfl (fun n9 d9 => u_141 (q30.rf hR)) (fun r32 w33 h31 => ?_)
          obtain ⟨rfl, h31⟩ := h31
          have q34 := q30.tr h31
          show e_Pn 20 elay kcode eI nn11 d 140 (34, (0, (1, 1)) :: (1, (0, y15)) :: tl12, [], w33) _
          refine e_Pn.incU kAlk rfl rfl (fun z35 => ?_)
          show e_Pn 20 elay kcode eI nn11 d 140 (37, (1, (0, z35)) :: (0, (1, 1)) :: List.filter (e_flt 0 1) tl12, [], w33) _
          refine e_Pn.run (t' := (10, (1, (0, z35)) :: (0, (1, 1)) :: List.filter (e_flt 0 1) tl12, [], w33)) kAlk 1 rfl ?_
          exact e_Pn.ord kAlk [0, 1] rfl rfl ((ih10 (by omega) _ z35 w33 q34).le (by omega))
  exact e_Pn.ord kAlk [0, 1] rfl rfl (hL9 n (Nat.le_refl _) _ 0 w7 q8)
theorem u_142 {n d : Nat} {w : eW} {cd : Int} (hR : kRw cd w) : e_Pn 20 elay kcode eI n d 142 (0, [(0, (1, 1))], [], w) (fun r w' => r = [] ∧ kq cd w w') := by
  have hn := hR.1.n
  refine e_Pn.run (t' := (1, [(0, (1, 1))], [(1, 1)], w)) kAlk 1 rfl ?_
  refine e_Pn.callA rfl (fun n9 d9 => u_123 (kq.r.rf hR)) (fun r2 w3 h1 => ?_)
  obtain ⟨rfl, h1⟩ := h1
  have q4 := kq.r.tr h1
  show e_Pn 20 elay kcode eI n d 142 (4, [(0, (1, 1))], [], w3) _
  refine e_Pn.run (t' := (5, [(0, (1, 1))], [(1, 1)], w3)) kAlk 1 rfl ?_
  refine e_Pn.getf (z := w3 1 5) kAlk rfl rfl rfl (fun b5 => ?_)
  refine e_Pn.run (t' := (9, [(0, (1, 1))], [(0, 1), (0, w3 1 5)], w3)) kAlk 1 rfl ?_
  refine e_Pn.if2 kAlk rfl (fun h6 => ?_) (fun h6 => ?_)
  · show e_Pn 20 elay kcode eI n d 142 (90, [(0, (1, 1))], [], w3) _
    refine e_Pn.run (t' := (92, [(0, (1, 1))], [(0, 1), (1, 1)], w3)) kAlk 2 rfl ?_
    refine e_Pn.callA rfl (fun n9 d9 => u_129 (q4.rf hR)) (fun r8 w9 h7 => ?_)
    obtain ⟨rfl, h7⟩ := h7
    have q10 := q4.tr h7
    show e_Pn 20 elay kcode eI n d 142 (95, [(0, (1, 1))], [], w9) _
    refine e_Pn.run (t' := (98, [(0, (1, 1))], [(0, 20), (1, 1)], w9)) kAlk 2 rfl ?_
    refine e_Pn.callA rfl (fun n9 d9 => u_129 (q10.rf hR)) (fun r12 w13 h11 => ?_)
    obtain ⟨rfl, h11⟩ := h11
    have q14 := q10.tr h11
    show e_Pn 20 elay kcode eI n d 142 (101, [(0, (1, 1))], [], w13) _
    refine e_Pn.run (t' := (103, [(0, (1, 1))], [(0, 0), (1, 1)], w13)) kAlk 2 rfl ?_
    refine e_Pn.putf kAlk rfl rfl ?_
    generalize hw15 : e_up w13 1 12 0 = w15
    have q16 : kq cd w w15 := kq.up q14 hR.1 hw15 (by decide) (fun _ => by decide) (fun g => absurd g.symm hn.1)
    refine e_Pn.run (t' := (108, [(0, (1, 1))], [(0, (-1)), (1, 1)], w15)) kAlk 2 rfl ?_
    refine e_Pn.putf kAlk rfl rfl ?_
    generalize hw17 : e_up w15 1 13 (-1) = w17
    have q18 : kq cd w w17 := kq.up q16 hR.1 hw17 (by decide) (fun _ => by decide) (fun g => absurd g.symm hn.1)
    refine e_Pn.run (t' := (112, [(0, (1, 1))], [(1, 1)], w17)) kAlk 1 rfl ?_
    refine e_Pn.callA rfl (fun n9 d9 => kS_all n9 144 (by decide) d9 _ _ (q18.rf hR)) (fun r20 w21 h19 => ?_)
    obtain ⟨rfl, h19⟩ := h19
    have q22 := q18.tr h19
    show e_Pn 20 elay kcode eI n d 142 (115, [(0, (1, 1))], [], w21) _
    refine e_Pn.run (t' := (118, [(0, (1, 1))], [(0, 23), (1, 1)], w21)) kAlk 2 rfl ?_
    refine e_Pn.callA rfl (fun n9 d9 => u_129 (q22.rf hR)) (fun r24 w25 h23 => ?_)
    obtain ⟨rfl, h23⟩ := h23
    have q26 := q22.tr h23
    show e_Pn 20 elay kcode eI n d 142 (121, [(0, (1, 1))], [], w25) _
    refine e_Pn.run (t' := (122, [(0, (1, 1))], [(1, 1)], w25)) kAlk 1 rfl ?_
    refine e_Pn.getr (z := cd) kAlk rfl rfl (q26.rf hR).2.1 (by omega) ?_
    refine e_Pn.run (t' := (128, [(0, (1, 1))], [(0, 0), (0, 43), (1, cd)], w25)) kAlk 2 rfl ?_
    refine e_Pn.callA rfl (fun n9 d9 => u_21 (q26.rf hR)) (fun r28 w29 h27 => ?_)
    obtain ⟨⟨z30, rfl⟩, h27⟩ := h27
    have q31 := q26.tr h27
    show e_Pn 20 elay kcode eI n d 142 (131, [(0, (1, 1))], [(0, z30)], w29) _
    refine e_Pn.run (t' := (132, [(0, (1, 1))], [], w29)) kAlk 1 rfl ?_
    exact e_Pn.ret0 rfl ⟨rfl, q31⟩
  · show e_Pn 20 elay kcode eI n d 142 (12, [(0, (1, 1))], [], w3) _
    refine e_Pn.run (t' := (13, [(0, (1, 1))], [(1, 1)], w3)) kAlk 1 rfl ?_
    refine e_Pn.callA rfl (fun n9 d9 => u_139 (q4.rf hR)) (fun r33 w34 h32 => ?_)
    obtain ⟨rfl, h32⟩ := h32
    have q35 := q4.tr h32
    show e_Pn 20 elay kcode eI n d 142 (16, [(0, (1, 1))], [], w34) _
    refine e_Pn.run (t' := (17, [(0, (1, 1))], [(1, 1)], w34)) kAlk 1 rfl ?_
    refine e_Pn.getf (z := w34 1 14) kAlk rfl rfl rfl (fun b36 => ?_)
    refine e_Pn.run (t' := (22, [(0, (1, 1))], [(0, 32), (0, w34 1 14)], w34)) kAlk 1 rfl ?_
    refine e_Pn.if2 kAlk rfl (fun h37 => ?_) (fun h37 => ?_)
    · show e_Pn 20 elay kcode eI n d 142 (47, [(0, (1, 1))], [], w34) _
      refine e_Pn.run (t' := (51, [(0, (1, 1))], [(1, 1), (0, 7), (1, 1)], w34)) kAlk 3 rfl ?_
      refine e_Pn.getf (z := w34 1 6) kAlk rfl rfl rfl (fun b38 => ?_)
      refine e_Pn.callA rfl (fun n9 d9 => u_133 (q35.rf hR)) (fun r40 w41 h39 => ?_)
      obtain ⟨rfl, h39⟩ := h39
      have q42 := q35.tr h39
      show e_Pn 20 elay kcode eI n d 142 (57, [(0, (1, 1))], [], w41) _
      refine e_Pn.run (t' := (58, [(0, (1, 1))], [(1, 1)], w41)) kAlk 1 rfl ?_
      refine e_Pn.getf (z := w41 1 14) kAlk rfl rfl rfl (fun b43 => ?_)
      refine e_Pn.run (t' := (64, [(0, (1, 1))], [(0, 500), (0, w41 1 14)], w41)) kAlk 1 rfl ?_
      refine e_Pn.if2 kAlk rfl (fun h44 => ?_) (fun h44 => ?_)
      · show e_Pn 20 elay kcode eI n d 142 (90, [(0, (1, 1))], [], w41) _
        refine e_Pn.run (t' := (92, [(0, (1, 1))], [(0, 1), (1, 1)], w41)) kAlk 2 rfl ?_
        refine e_Pn.callA rfl (fun n9 d9 => u_129 (q42.rf hR)) (fun r46 w47 h45 => ?_)
        obtain ⟨rfl, h45⟩ := h45
        have q48 := q42.tr h45
        show e_Pn 20 elay kcode eI n d 142 (95, [(0, (1, 1))], [], w47) _
        refine e_Pn.run (t' := (98, [(0, (1, 1))], [(0, 20), (1, 1)], w47)) kAlk 2 rfl ?_
        refine e_Pn.callA rfl (fun n9 d9 => u_129 (q48.rf hR)) (fun r50 w51 h49 => ?_)
        obtain ⟨rfl, h49⟩ := h49
        have q52 := q48.tr h49
        show e_Pn 20 elay kcode eI n d 142 (101, [(0, (1, 1))], [], w51) _
        refine e_Pn.run (t' := (103, [(0, (1, 1))], [(0, 0), (1, 1)], w51)) kAlk 2 rfl ?_
        refine e_Pn.putf kAlk rfl rfl ?_
        generalize hw53 : e_up w51 1 12 0 = w53
        have q54 : kq cd w w53 := kq.up q52 hR.1 hw53 (by decide) (fun _ => by decide) (fun g => absurd g.symm hn.1)
        refine e_Pn.run (t' := (108, [(0, (1, 1))], [(0, (-1)), (1, 1)], w53)) kAlk 2 rfl ?_
        refine e_Pn.putf kAlk rfl rfl ?_
        generalize hw55 : e_up w53 1 13 (-1) = w55
        have q56 : kq cd w w55 := kq.up q54 hR.1 hw55 (by decide) (fun _ => by decide) (fun g => absurd g.symm hn.1)
        refine e_Pn.run (t' := (112, [(0, (1, 1))], [(1, 1)], w55)) kAlk 1 rfl ?_
        refine e_Pn.callA rfl (fun n9 d9 => kS_all n9 144 (by decide) d9 _ _ (q56.rf hR)) (fun r58 w59 h57 => ?_)
        obtain ⟨rfl, h57⟩ := h57
        have q60 := q56.tr h57
        show e_Pn 20 elay kcode eI n d 142 (115, [(0, (1, 1))], [], w59) _
        refine e_Pn.run (t' := (118, [(0, (1, 1))], [(0, 23), (1, 1)], w59)) kAlk 2 rfl ?_
        refine e_Pn.callA rfl (fun n9 d9 => u_129 (q60.rf hR)) (fun r62 w63 h61 => ?_)
        obtain ⟨rfl, h61⟩ := h61
        have q64 := q60.tr h61
        show e_Pn 20 elay kcode eI n d 142 (121, [(0, (1, 1))], [], w63) _
        refine e_Pn.run (t' := (122, [(0, (1, 1))], [(1, 1)], w63)) kAlk 1 rfl ?_
        refine e_Pn.getr (z := cd) kAlk rfl rfl (q64.rf hR).2.1 (by omega) ?_
        refine e_Pn.run (t' := (128, [(0, (1, 1))], [(0, 0), (0, 43), (1, cd)], w63)) kAlk 2 rfl ?_
        refine e_Pn.callA rfl (fun n9 d9 => u_21 (q64.rf hR)) (fun r66 w67 h65 => ?_)
        obtain ⟨⟨z68, rfl⟩, h65⟩ := h65
        have q69 := q64.tr h65
        show e_Pn 20 elay kcode eI n d 142 (131, [(0, (1, 1))], [(0, z68)], w67) _
        refine e_Pn.run (t' := (132, [(0, (1, 1))], [], w67)) kAlk 1 rfl ?_
        exact e_Pn.ret0 rfl ⟨rfl, q69⟩
      · show e_Pn 20 elay kcode eI n d 142 (67, [(0, (1, 1))], [], w41) _
        refine e_Pn.run (t' := (68, [(0, (1, 1))], [(1, 1)], w41)) kAlk 1 rfl ?_
        refine e_Pn.getr (z := 7) kAlk rfl rfl (q42.rf hR).2.2.2.2.1 (by omega) ?_
        refine e_Pn.run (t' := (72, [(0, (1, 1))], [(1, 1), (1, 7)], w41)) kAlk 1 rfl ?_
        refine e_Pn.getf (z := w41 1 14) kAlk rfl rfl rfl (fun b70 => ?_)
        refine e_Pn.run (t' := (76, [(0, (1, 1))], [(1, 1), (0, w41 1 14), (1, 7)], w41)) kAlk 1 rfl ?_
        refine e_Pn.getf (z := w41 1 6) kAlk rfl rfl rfl (fun b71 => ?_)
        refine e_Pn.ast kAlk rfl rfl rfl (fun b72 b73 => ?_)
        generalize hw74 : e_up w41 7 (w41 1 14) (w41 1 6) = w74
        have q75 : kq cd w w74 := kq.up q42 hR.1 hw74 (by decide) (fun g => absurd g (by decide)) (fun g => absurd g.symm hn.2.2.2.1)
        refine e_Pn.run (t' := (82, [(0, (1, 1))], [(1, 1), (1, 1)], w74)) kAlk 2 rfl ?_
        refine e_Pn.getf (z := w74 1 14) kAlk rfl rfl rfl (fun b76 => ?_)
        refine e_Pn.run (t' := (86, [(0, (1, 1))], [(0, 1), (0, w74 1 14), (1, 1)], w74)) kAlk 1 rfl ?_
        refine e_Pn.bin0 kAlk rfl (fun z77 hz77 => ?_)
        refine e_Pn.putf kAlk rfl rfl ?_
        generalize hw78 : e_up w74 1 14 z77 = w78
        have q79 : kq cd w w78 := kq.up q75 hR.1 hw78 (by decide) (fun _ => by decide) (fun g => absurd g.symm hn.1)
        refine e_Pn.run (t' := (92, [(0, (1, 1))], [(0, 1), (1, 1)], w78)) kAlk 2 rfl ?_
        refine e_Pn.callA rfl (fun n9 d9 => u_129 (q79.rf hR)) (fun r81 w82 h80 => ?_)
        obtain ⟨rfl, h80⟩ := h80
        have q83 := q79.tr h80
        show e_Pn 20 elay kcode eI n d 142 (95, [(0, (1, 1))], [], w82) _
        refine e_Pn.run (t' := (98, [(0, (1, 1))], [(0, 20), (1, 1)], w82)) kAlk 2 rfl ?_
        refine e_Pn.callA rfl (fun n9 d9 => u_129 (q83.rf hR)) (fun r85 w86 h84 => ?_)
        obtain ⟨rfl, h84⟩ := h84
        have q87 := q83.tr h84
        show e_Pn 20 elay kcode eI n d 142 (101, [(0, (1, 1))], [], w86) _
        refine e_Pn.run (t' := (103, [(0, (1, 1))], [(0, 0), (1, 1)], w86)) kAlk 2 rfl ?_
        refine e_Pn.putf kAlk rfl rfl ?_
        generalize hw88 : e_up w86 1 12 0 = w88
        have q89 : kq cd w w88 := kq.up q87 hR.1 hw88 (by decide) (fun _ => by decide) (fun g => absurd g.symm hn.1)
        refine e_Pn.run (t' := (108, [(0, (1, 1))], [(0, (-1)), (1, 1)], w88)) kAlk 2 rfl ?_
        refine e_Pn.putf kAlk rfl rfl ?_
        generalize hw90 : e_up w88 1 13 (-1) = w90
        have q91 : kq cd w w90 := kq.up q89 hR.1 hw90 (by decide) (fun _ => by decide) (fun g => absurd g.symm hn.1)
        refine e_Pn.run (t' := (112, [(0, (1, 1))], [(1, 1)], w90)) kAlk 1 rfl ?_
        refine e_Pn.callA rfl (fun n9 d9 => kS_all n9 144 (by decide) d9 _ _ (q91.rf hR)) (fun r93 w94 h92 => ?_)
        obtain ⟨rfl, h92⟩ := h92
        have q95 := q91.tr h92
        show e_Pn 20 elay kcode eI n d 142 (115, [(0, (1, 1))], [], w94) _
        refine e_Pn.run (t' := (118, [(0, (1, 1))], [(0, 23), (1, 1)], w94)) kAlk 2 rfl ?_
        refine e_Pn.callA rfl (fun n9 d9 => u_129 (q95.rf hR)) (fun r97 w98 h96 => ?_)
        obtain ⟨rfl, h96⟩ := h96
        have q99 := q95.tr h96
        show e_Pn 20 elay kcode eI n d 142 (121, [(0, (1, 1))], [], w98) _
        refine e_Pn.run (t' := (122, [(0, (1, 1))], [(1, 1)], w98)) kAlk 1 rfl ?_
        refine e_Pn.getr (z := cd) kAlk rfl rfl (q99.rf hR).2.1 (by omega) ?_
        refine e_Pn.run (t' := (128, [(0, (1, 1))], [(0, 0), (0, 43), (1, cd)], w98)) kAlk 2 rfl ?_
        refine e_Pn.callA rfl (fun n9 d9 => u_21 (q99.rf hR)) (fun r101 w102 h100 => ?_)
        obtain ⟨⟨z103, rfl⟩, h100⟩ := h100
        have q104 := q99.tr h100
        show e_Pn 20 elay kcode eI n d 142 (131, [(0, (1, 1))], [(0, z103)], w102) _
        refine e_Pn.run (t' := (132, [(0, (1, 1))], [], w102)) kAlk 1 rfl ?_
        exact e_Pn.ret0 rfl ⟨rfl, q104⟩
    · show e_Pn 20 elay kcode eI n d 142 (25, [(0, (1, 1))], [], w34) _
      refine e_Pn.run (t' := (26, [(0, (1, 1))], [(1, 1)], w34)) kAlk 1 rfl ?_
      refine e_Pn.getr (z := cd) kAlk rfl rfl (q35.rf hR).2.1 (by omega) ?_
      refine e_Pn.getr (z := cd + 1) kAlk rfl rfl (q35.rf hR).2.2.2.2.2.1 (by omega) ?_
      refine e_Pn.run (t' := (33, [(0, (1, 1))], [(1, 1), (1, cd + 1)], w34)) kAlk 1 rfl ?_
      refine e_Pn.getf (z := w34 1 14) kAlk rfl rfl rfl (fun b105 => ?_)
      refine e_Pn.run (t' := (37, [(0, (1, 1))], [(1, 1), (0, w34 1 14), (1, cd + 1)], w34)) kAlk 1 rfl ?_
      refine e_Pn.getr (z := cd) kAlk rfl rfl (q35.rf hR).2.1 (by omega) ?_
      refine e_Pn.getf (z := w34 cd 0) kAlk rfl rfl rfl (fun b106 => ?_)
      refine e_Pn.ast kAlk rfl (lD1 (d := cd) (by omega) hR.1) rfl (fun b107 b108 => ?_)
      generalize hw109 : e_up w34 (cd + 1) (w34 1 14) (w34 cd 0) = w109
      have q110 : kq cd w w109 := kq.up q35 hR.1 hw109 (by omega) (fun g => absurd g (by omega)) (fun g => absurd g (by omega))
      refine e_Pn.run (t' := (58, [(0, (1, 1))], [(1, 1)], w109)) kAlk 2 rfl ?_
      refine e_Pn.getf (z := w109 1 14) kAlk rfl rfl rfl (fun b111 => ?_)
      refine e_Pn.run (t' := (64, [(0, (1, 1))], [(0, 500), (0, w109 1 14)], w109)) kAlk 1 rfl ?_
      refine e_Pn.if2 kAlk rfl (fun h112 => ?_) (fun h112 => ?_)
      · show e_Pn 20 elay kcode eI n d 142 (90, [(0, (1, 1))], [], w109) _
        refine e_Pn.run (t' := (92, [(0, (1, 1))], [(0, 1), (1, 1)], w109)) kAlk 2 rfl ?_
        refine e_Pn.callA rfl (fun n9 d9 => u_129 (q110.rf hR)) (fun r114 w115 h113 => ?_)
        obtain ⟨rfl, h113⟩ := h113
        have q116 := q110.tr h113
        show e_Pn 20 elay kcode eI n d 142 (95, [(0, (1, 1))], [], w115) _
        refine e_Pn.run (t' := (98, [(0, (1, 1))], [(0, 20), (1, 1)], w115)) kAlk 2 rfl ?_
        refine e_Pn.callA rfl (fun n9 d9 => u_129 (q116.rf hR)) (fun r118 w119 h117 => ?_)
        obtain ⟨rfl, h117⟩ := h117
        have q120 := q116.tr h117
        show e_Pn 20 elay kcode eI n d 142 (101, [(0, (1, 1))], [], w119) _
        refine e_Pn.run (t' := (103, [(0, (1, 1))], [(0, 0), (1, 1)], w119)) kAlk 2 rfl ?_
        refine e_Pn.putf kAlk rfl rfl ?_
        generalize hw121 : e_up w119 1 12 0 = w121
        have q122 : kq cd w w121 := kq.up q120 hR.1 hw121 (by decide) (fun _ => by decide) (fun g => absurd g.symm hn.1)
        refine e_Pn.run (t' := (108, [(0, (1, 1))], [(0, (-1)), (1, 1)], w121)) kAlk 2 rfl ?_
        refine e_Pn.putf kAlk rfl rfl ?_
        generalize hw123 : e_up w121 1 13 (-1) = w123
        have q124 : kq cd w w123 := kq.up q122 hR.1 hw123 (by decide) (fun _ => by decide) (fun g => absurd g.symm hn.1)
        refine e_Pn.run (t' := (112, [(0, (1, 1))], [(1, 1)], w123)) kAlk 1 rfl ?_
        refine e_Pn.callA rfl (fun n9 d9 => kS_all n9 144 (by decide) d9 _ _ (q124.rf hR)) (fun r126 w127 h125 => ?_)
        obtain ⟨rfl, h125⟩ := h125
        have q128 := q124.tr h125
        show e_Pn 20 elay kcode eI n d 142 (115, [(0, (1, 1))], [], w127) _
        refine e_Pn.run (t' := (118, [(0, (1, 1))], [(0, 23), (1, 1)], w127)) kAlk 2 rfl ?_
        refine e_Pn.callA rfl (fun n9 d9 => u_129 (q128.rf hR)) (fun r130 w131 h129 => ?_)
        obtain ⟨rfl, h129⟩ := h129
        have q132 := q128.tr h129
        show e_Pn 20 elay kcode eI n d 142 (121, [(0, (1, 1))], [], w131) _
        refine e_Pn.run (t' := (122, [(0, (1, 1))], [(1, 1)], w131)) kAlk 1 rfl ?_
        refine e_Pn.getr (z := cd) kAlk rfl rfl (q132.rf hR).2.1 (by omega) ?_
        refine e_Pn.run (t' := (128, [(0, (1, 1))], [(0, 0), (0, 43), (1, cd)], w131)) kAlk 2 rfl ?_
        refine e_Pn.callA rfl (fun n9 d9 => u_21 (q132.rf hR)) (fun r134 w135 h133 => ?_)
        obtain ⟨⟨z136, rfl⟩, h133⟩ := h133
        have q137 := q132.tr h133
        show e_Pn 20 elay kcode eI n d 142 (131, [(0, (1, 1))], [(0, z136)], w135) _
        refine e_Pn.run (t' := (132, [(0, (1, 1))], [], w135)) kAlk 1 rfl ?_
        exact e_Pn.ret0 rfl ⟨rfl, q137⟩
      · show e_Pn 20 elay kcode eI n d 142 (67, [(0, (1, 1))], [], w109) _
        refine e_Pn.run (t' := (68, [(0, (1, 1))], [(1, 1)], w109)) kAlk 1 rfl ?_
        refine e_Pn.getr (z := 7) kAlk rfl rfl (q110.rf hR).2.2.2.2.1 (by omega) ?_
        refine e_Pn.run (t' := (72, [(0, (1, 1))], [(1, 1), (1, 7)], w109)) kAlk 1 rfl ?_
        refine e_Pn.getf (z := w109 1 14) kAlk rfl rfl rfl (fun b138 => ?_)
        refine e_Pn.run (t' := (76, [(0, (1, 1))], [(1, 1), (0, w109 1 14), (1, 7)], w109)) kAlk 1 rfl ?_
        refine e_Pn.getf (z := w109 1 6) kAlk rfl rfl rfl (fun b139 => ?_)
        refine e_Pn.ast kAlk rfl rfl rfl (fun b140 b141 => ?_)
        generalize hw142 : e_up w109 7 (w109 1 14) (w109 1 6) = w142
        have q143 : kq cd w w142 := kq.up q110 hR.1 hw142 (by decide) (fun g => absurd g (by decide)) (fun g => absurd g.symm hn.2.2.2.1)
        refine e_Pn.run (t' := (82, [(0, (1, 1))], [(1, 1), (1, 1)], w142)) kAlk 2 rfl ?_
        refine e_Pn.getf (z := w142 1 14) kAlk rfl rfl rfl (fun b144 => ?_)
        refine e_Pn.run (t' := (86, [(0, (1, 1))], [(0, 1), (0, w142 1 14), (1, 1)], w142)) kAlk 1 rfl ?_
        refine e_Pn.bin0 kAlk rfl (fun z145 hz145 => ?_)
        refine e_Pn.putf kAlk rfl rfl ?_
        generalize hw146 : e_up w142 1 14 z145 = w146
        have q147 : kq cd w w146 := kq.up q143 hR.1 hw146 (by decide) (fun _ => by decide) (fun g => absurd g.symm hn.1)
        refine e_Pn.run (t' := (92, [(0, (1, 1))], [(0, 1), (1, 1)], w146)) kAlk 2 rfl ?_
        refine e_Pn.callA rfl (fun n9 d9 => u_129 (q147.rf hR)) (fun r149 w150 h148 => ?_)
        obtain ⟨rfl, h148⟩ := h148
        have q151 := q147.tr h148
        show e_Pn 20 elay kcode eI n d 142 (95, [(0, (1, 1))], [], w150) _
        refine e_Pn.run (t' := (98, [(0, (1, 1))], [(0, 20), (1, 1)], w150)) kAlk 2 rfl ?_
        refine e_Pn.callA rfl (fun n9 d9 => u_129 (q151.rf hR)) (fun r153 w154 h152 => ?_)
        obtain ⟨rfl, h152⟩ := h152
        have q155 := q151.tr h152
        show e_Pn 20 elay kcode eI n d 142 (101, [(0, (1, 1))], [], w154) _
        refine e_Pn.run (t' := (103, [(0, (1, 1))], [(0, 0), (1, 1)], w154)) kAlk 2 rfl ?_
        refine e_Pn.putf kAlk rfl rfl ?_
        generalize hw156 : e_up w154 1 12 0 = w156
        have q157 : kq cd w w156 := kq.up q155 hR.1 hw156 (by decide) (fun _ => by decide) (fun g => absurd g.symm hn.1)
        refine e_Pn.run (t' := (108, [(0, (1, 1))], [(0, (-1)), (1, 1)], w156)) kAlk 2 rfl ?_
        refine e_Pn.putf kAlk rfl rfl ?_
        generalize hw158 : e_up w156 1 13 (-1) = w158
        have q159 : kq cd w w158 := kq.up q157 hR.1 hw158 (by decide) (fun _ => by decide) (fun g => absurd g.symm hn.1)
        refine e_Pn.run (t' := (112, [(0, (1, 1))], [(1, 1)], w158)) kAlk 1 rfl ?_
        refine e_Pn.callA rfl (fun n9 d9 => kS_all n9 144 (by decide) d9 _ _ (q159.rf hR)) (fun r161 w162 h160 => ?_)
        obtain ⟨rfl, h160⟩ := h160
        have q163 := q159.tr h160
        show e_Pn 20 elay kcode eI n d 142 (115, [(0, (1, 1))], [], w162) _
        refine e_Pn.run (t' := (118, [(0, (1, 1))], [(0, 23), (1, 1)], w162)) kAlk 2 rfl ?_
        refine e_Pn.callA rfl (fun n9 d9 => u_129 (q163.rf hR)) (fun r165 w166 h164 => ?_)
        obtain ⟨rfl, h164⟩ := h164
        have q167 := q163.tr h164
        show e_Pn 20 elay kcode eI n d 142 (121, [(0, (1, 1))], [], w166) _
        refine e_Pn.run (t' := (122, [(0, (1, 1))], [(1, 1)], w166)) kAlk 1 rfl ?_
        refine e_Pn.getr (z := cd) kAlk rfl rfl (q167.rf hR).2.1 (by omega) ?_
        refine e_Pn.run (t' := (128, [(0, (1, 1))], [(0, 0), (0, 43), (1, cd)], w166)) kAlk 2 rfl ?_
        refine e_Pn.callA rfl (fun n9 d9 => u_21 (q167.rf hR)) (fun r169 w170 h168 => ?_)
        obtain ⟨⟨z171, rfl⟩, h168⟩ := h168
        have q172 := q167.tr h168
        show e_Pn 20 elay kcode eI n d 142 (131, [(0, (1, 1))], [(0, z171)], w170) _
        refine e_Pn.run (t' := (132, [(0, (1, 1))], [], w170)) kAlk 1 rfl ?_
        exact e_Pn.ret0 rfl ⟨rfl, q172⟩
end
