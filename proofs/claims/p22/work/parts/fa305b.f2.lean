noncomputable section
theorem u_159 {n d : Nat} {w : eW} {cd : Int} (hR : kRw cd w) (ihG : ∀ k, k < n → kE k) : e_Pn 20 elay kcode eI n d 159 (0, [(0, (1, 1))], [], w) (fun r w' => r = [] ∧ kq cd w w') := by
  have hn := hR.1.n
  refine e_Pn.run (t' := (1, [(0, (1, 1))], [(1, 1)], w)) kAlk 1 rfl ?_
  refine e_Pn.callB rfl (fun k9 hk9 d9 => ihG k9 (by omega) 160 (by decide) d9 _ _ (kq.r.rf hR)) (fun r2 w3 h1 => ?_)
  obtain ⟨rfl, h1⟩ := h1
  have q4 := kq.r.tr h1
  show e_Pn 20 elay kcode eI n d 159 (4, [(0, (1, 1))], [], w3) _
  refine e_Pn.run (t' := (6, [(1, (0, 0)), (0, (1, 1))], [], w3)) kAlk 2 rfl ?_
  have hL5 : ∀ nn7 : Nat, nn7 ≤ n → ∀ (tl8 : eL) (y11 : Int) (w9 : eW), kq cd w w9 → e_Pn 20 elay kcode eI nn7 d 159 (6, (0, (1, 1)) :: (1, (0, y11)) :: tl8, [], w9) (fun r w' => r = [] ∧ kq cd w w') := by
    intro nn7
    induction nn7 with
    | zero => intro _ tl8 y11 w9 _; exact e_Pn.zero
    | succ nn7 ih6 =>
      intro hnnn7 tl8 y11 w9 q10
      refine e_Pn.runS (t' := (10, (0, (1, 1)) :: (1, (0, y11)) :: tl8, [(0, 4000), (0, y11)], w9)) kAlk 1 rfl ?_
      refine e_Pn.if2 kAlk rfl (fun h12 => ?_) (fun h12 => ?_)
      · show e_Pn 20 elay kcode eI nn7 d 159 (73, (0, (1, 1)) :: (1, (0, y11)) :: tl8, [], w9) _
        exact e_Pn.ret0 rfl ⟨rfl, q10⟩
      · show e_Pn 20 elay kcode eI nn7 d 159 (13, (0, (1, 1)) :: (1, (0, y11)) :: tl8, [], w9) _
        refine e_Pn.run (t' := (14, (0, (1, 1)) :: (1, (0, y11)) :: tl8, [(1, 1)], w9)) kAlk 1 rfl ?_
        refine e_Pn.getf (z := w9 1 5) kAlk rfl rfl rfl (fun b13 => ?_)
        refine e_Pn.run (t' := (19, (0, (1, 1)) :: (1, (0, y11)) :: tl8, [(0, 46), (0, w9 1 5)], w9)) kAlk 1 rfl ?_
        refine e_Pn.if2 kAlk rfl (fun h14 => ?_) (fun h14 => ?_)
        · show e_Pn 20 elay kcode eI nn7 d 159 (73, (0, (1, 1)) :: (1, (0, y11)) :: tl8, [], w9) _
          exact e_Pn.ret0 rfl ⟨rfl, q10⟩
        · show e_Pn 20 elay kcode eI nn7 d 159 (22, (0, (1, 1)) :: (1, (0, y11)) :: tl8, [], w9) _
          refine e_Pn.run (t' := (23, (0, (1, 1)) :: (1, (0, y11)) :: tl8, [(1, 1)], w9)) kAlk 1 rfl ?_
          refine e_Pn.getr (z := cd) kAlk rfl rfl (q10.rf hR).2.1 (by omega) ?_
          refine e_Pn.run (t' := (29, (0, (1, 1)) :: (1, (0, y11)) :: tl8, [(0, 0), (0, 13), (1, cd)], w9)) kAlk 2 rfl ?_
          refine e_Pn.callA rfl (fun n9 d9 => u_21 (q10.rf hR)) (fun r16 w17 h15 => ?_)
          obtain ⟨⟨z18, rfl⟩, h15⟩ := h15
          have q19 := q10.tr h15
          show e_Pn 20 elay kcode eI nn7 d 159 (32, (0, (1, 1)) :: (1, (0, y11)) :: tl8, [(0, z18)], w17) _
          refine e_Pn.run (t' := (34, (2, (0, z18)) :: (0, (1, 1)) :: (1, (0, y11)) :: List.filter (e_flt 0 2) tl8, [(1, 1)], w17)) kAlk 2 rfl ?_
          refine e_Pn.callA rfl (fun n9 d9 => u_123 (q19.rf hR)) (fun r21 w22 h20 => ?_)
          obtain ⟨rfl, h20⟩ := h20
          have q23 := q19.tr h20
          show e_Pn 20 elay kcode eI nn7 d 159 (37, (2, (0, z18)) :: (0, (1, 1)) :: (1, (0, y11)) :: List.filter (e_flt 0 2) tl8, [], w22) _
          refine e_Pn.run (t' := (38, (2, (0, z18)) :: (0, (1, 1)) :: (1, (0, y11)) :: List.filter (e_flt 0 2) tl8, [(1, 1)], w22)) kAlk 1 rfl ?_
          refine e_Pn.callB rfl (fun k9 hk9 d9 => ihG k9 (by omega) 160 (by decide) d9 _ _ (q23.rf hR)) (fun r25 w26 h24 => ?_)
          obtain ⟨rfl, h24⟩ := h24
          have q27 := q23.tr h24
          show e_Pn 20 elay kcode eI nn7 d 159 (41, (2, (0, z18)) :: (0, (1, 1)) :: (1, (0, y11)) :: List.filter (e_flt 0 2) tl8, [], w26) _
          refine e_Pn.run (t' := (42, (2, (0, z18)) :: (0, (1, 1)) :: (1, (0, y11)) :: List.filter (e_flt 0 2) tl8, [(1, 1)], w26)) kAlk 1 rfl ?_
          refine e_Pn.getr (z := cd) kAlk rfl rfl (q27.rf hR).2.1 (by omega) ?_
          refine e_Pn.run (t' := (48, (2, (0, z18)) :: (0, (1, 1)) :: (1, (0, y11)) :: List.filter (e_flt 0 2) tl8, [(0, 0), (0, 11), (1, cd)], w26)) kAlk 2 rfl ?_
          refine e_Pn.callA rfl (fun n9 d9 => u_21 (q27.rf hR)) (fun r29 w30 h28 => ?_)
          obtain ⟨⟨z31, rfl⟩, h28⟩ := h28
          have q32 := q27.tr h28
          show e_Pn 20 elay kcode eI nn7 d 159 (51, (2, (0, z18)) :: (0, (1, 1)) :: (1, (0, y11)) :: List.filter (e_flt 0 2) tl8, [(0, z31)], w30) _
          refine e_Pn.run (t' := (53, (2, (0, z18)) :: (0, (1, 1)) :: (1, (0, y11)) :: List.filter (e_flt 0 2) tl8, [(1, 1)], w30)) kAlk 2 rfl ?_
          refine e_Pn.getr (z := cd) kAlk rfl rfl (q32.rf hR).2.1 (by omega) ?_
          refine e_Pn.run (t' := (58, (2, (0, z18)) :: (0, (1, 1)) :: (1, (0, y11)) :: List.filter (e_flt 0 2) tl8, [(1, 1), (0, z18), (1, cd)], w30)) kAlk 2 rfl ?_
          refine e_Pn.getr (z := cd) kAlk rfl rfl (q32.rf hR).2.1 (by omega) ?_
          refine e_Pn.getf (z := w30 cd 0) kAlk rfl rfl rfl (fun b33 => ?_)
          refine e_Pn.callA rfl (fun n9 d9 => u_22 (q32.rf hR)) (fun r35 w36 h34 => ?_)
          obtain ⟨rfl, h34⟩ := h34
          have q37 := q32.tr h34
          show e_Pn 20 elay kcode eI nn7 d 159 (67, (2, (0, z18)) :: (0, (1, 1)) :: (1, (0, y11)) :: List.filter (e_flt 0 2) tl8, [], w36) _
          refine e_Pn.incU kAlk rfl rfl (fun z38 => ?_)
          show e_Pn 20 elay kcode eI nn7 d 159 (70, (1, (0, z38)) :: (2, (0, z18)) :: (0, (1, 1)) :: List.filter (e_flt 0 1) (List.filter (e_flt 0 2) tl8), [], w36) _
          refine e_Pn.run (t' := (6, (1, (0, z38)) :: (2, (0, z18)) :: (0, (1, 1)) :: List.filter (e_flt 0 1) (List.filter (e_flt 0 2) tl8), [], w36)) kAlk 1 rfl ?_
          exact e_Pn.ord kAlk [0, 1] rfl rfl ((ih6 (by omega) _ z38 w36 q37).le (by omega))
  exact e_Pn.ord kAlk [0, 1] rfl rfl (hL5 n (Nat.le_refl _) _ 0 w3 q4)
set_option maxHeartbeats 4000000 in
theorem u_160 {n d : Nat} {w : eW} {cd : Int} (hR : kRw cd w) (ihG : ∀ k, k < n → kE k) : e_Pn 20 elay kcode eI n d 160 (0, [(0, (1, 1))], [], w) (fun r w' => r = [] ∧ kq cd w w') := by
  have hn := hR.1.n
  refine e_Pn.run (t' := (1, [(0, (1, 1))], [(1, 1)], w)) kAlk 1 rfl ?_
  refine e_Pn.getf (z := w 1 5) kAlk rfl rfl rfl (fun b1 => ?_)
  refine e_Pn.run (t' := (6, [(0, (1, 1))], [(0, 47), (0, w 1 5)], w)) kAlk 1 rfl ?_
  refine e_Pn.if2 kAlk rfl (fun h2 => ?_) (fun h2 => ?_)
  · show e_Pn 20 elay kcode eI n d 160 (47, [(0, (1, 1))], [], w) _
    refine e_Pn.run (t' := (48, [(0, (1, 1))], [(1, 1)], w)) kAlk 1 rfl ?_
    refine e_Pn.callB rfl (fun k9 hk9 d9 => ihG k9 (by omega) 162 (by decide) d9 _ _ (kq.r.rf hR)) (fun r4 w5 h3 => ?_)
    obtain ⟨rfl, h3⟩ := h3
    have q6 := kq.r.tr h3
    show e_Pn 20 elay kcode eI n d 160 (51, [(0, (1, 1))], [], w5) _
    refine e_Pn.run (t' := (52, [(0, (1, 1))], [(1, 1)], w5)) kAlk 1 rfl ?_
    refine e_Pn.callA rfl (fun n9 d9 => u_161 (q6.rf hR)) (fun r8 w9 h7 => ?_)
    obtain ⟨⟨z10, rfl⟩, h7⟩ := h7
    have q11 := q6.tr h7
    show e_Pn 20 elay kcode eI n d 160 (55, [(0, (1, 1))], [(0, z10)], w9) _
    refine e_Pn.run (t' := (59, [(1, (0, z10)), (0, (1, 1))], [(0, 49), (0, z10)], w9)) kAlk 3 rfl ?_
    refine e_Pn.if2 kAlk rfl (fun h12 => ?_) (fun h12 => ?_)
    · show e_Pn 20 elay kcode eI n d 160 (63, [(1, (0, z10)), (0, (1, 1))], [], w9) _
      refine e_Pn.run (t' := (64, [(1, (0, z10)), (0, (1, 1))], [(1, 1)], w9)) kAlk 1 rfl ?_
      refine e_Pn.callA rfl (fun n9 d9 => u_123 (q11.rf hR)) (fun r14 w15 h13 => ?_)
      obtain ⟨rfl, h13⟩ := h13
      have q16 := q11.tr h13
      show e_Pn 20 elay kcode eI n d 160 (67, [(1, (0, z10)), (0, (1, 1))], [], w15) _
      refine e_Pn.run (t' := (68, [(1, (0, z10)), (0, (1, 1))], [(1, 1)], w15)) kAlk 1 rfl ?_
      refine e_Pn.callB rfl (fun k9 hk9 d9 => ihG k9 (by omega) 162 (by decide) d9 _ _ (q16.rf hR)) (fun r18 w19 h17 => ?_)
      obtain ⟨rfl, h17⟩ := h17
      have q20 := q16.tr h17
      show e_Pn 20 elay kcode eI n d 160 (71, [(1, (0, z10)), (0, (1, 1))], [], w19) _
      refine e_Pn.run (t' := (72, [(1, (0, z10)), (0, (1, 1))], [(1, 1)], w19)) kAlk 1 rfl ?_
      refine e_Pn.getr (z := cd) kAlk rfl rfl (q20.rf hR).2.1 (by omega) ?_
      refine e_Pn.run (t' := (77, [(1, (0, z10)), (0, (1, 1))], [(0, 0), (0, z10), (1, cd)], w19)) kAlk 2 rfl ?_
      refine e_Pn.callA rfl (fun n9 d9 => u_21 (q20.rf hR)) (fun r22 w23 h21 => ?_)
      obtain ⟨⟨z24, rfl⟩, h21⟩ := h21
      have q25 := q20.tr h21
      show e_Pn 20 elay kcode eI n d 160 (80, [(1, (0, z10)), (0, (1, 1))], [(0, z24)], w23) _
      refine e_Pn.run (t' := (81, [(1, (0, z10)), (0, (1, 1))], [], w23)) kAlk 1 rfl ?_
      exact e_Pn.ret0 rfl ⟨rfl, q25⟩
    · show e_Pn 20 elay kcode eI n d 160 (62, [(1, (0, z10)), (0, (1, 1))], [], w9) _
      exact e_Pn.ret0 rfl ⟨rfl, q11⟩
  · show e_Pn 20 elay kcode eI n d 160 (9, [(0, (1, 1))], [], w) _
    refine e_Pn.run (t' := (10, [(0, (1, 1))], [(1, 1)], w)) kAlk 1 rfl ?_
    refine e_Pn.callA rfl (fun n9 d9 => u_132 (kq.r.rf hR)) (fun r27 w28 h26 => ?_)
    obtain ⟨⟨z29, rfl⟩, h26⟩ := h26
    have q30 := kq.r.tr h26
    show e_Pn 20 elay kcode eI n d 160 (13, [(0, (1, 1))], [(0, z29)], w28) _
    refine e_Pn.if1 kAlk rfl (fun h31 => ?_) (fun h31 => ?_)
    · show e_Pn 20 elay kcode eI n d 160 (17, [(0, (1, 1))], [], w28) _
      refine e_Pn.run (t' := (18, [(0, (1, 1))], [(1, 1)], w28)) kAlk 1 rfl ?_
      refine e_Pn.callA rfl (fun n9 d9 => u_123 (q30.rf hR)) (fun r33 w34 h32 => ?_)
      obtain ⟨rfl, h32⟩ := h32
      have q35 := q30.tr h32
      show e_Pn 20 elay kcode eI n d 160 (21, [(0, (1, 1))], [], w34) _
      refine e_Pn.run (t' := (22, [(0, (1, 1))], [(1, 1)], w34)) kAlk 1 rfl ?_
      refine e_Pn.callB rfl (fun k9 hk9 d9 => ihG k9 (by omega) 160 (by decide) d9 _ _ (q35.rf hR)) (fun r37 w38 h36 => ?_)
      obtain ⟨rfl, h36⟩ := h36
      have q39 := q35.tr h36
      show e_Pn 20 elay kcode eI n d 160 (25, [(0, (1, 1))], [], w38) _
      refine e_Pn.run (t' := (27, [(0, (1, 1))], [(1, 1), (1, 1)], w38)) kAlk 2 rfl ?_
      refine e_Pn.getf (z := w38 1 11) kAlk rfl rfl rfl (fun b40 => ?_)
      refine e_Pn.run (t' := (31, [(0, (1, 1))], [(0, 1), (0, w38 1 11), (1, 1)], w38)) kAlk 1 rfl ?_
      refine e_Pn.bin0 kAlk rfl (fun z41 hz41 => ?_)
      refine e_Pn.putf kAlk rfl rfl ?_
      generalize hw42 : e_up w38 1 11 z41 = w42
      have q43 : kq cd w w42 := kq.up q39 hR.1 hw42 (by decide) (fun _ => by decide) (fun g => absurd g.symm hn.1)
      refine e_Pn.run (t' := (36, [(0, (1, 1))], [(1, 1)], w42)) kAlk 1 rfl ?_
      refine e_Pn.getr (z := cd) kAlk rfl rfl (q43.rf hR).2.1 (by omega) ?_
      refine e_Pn.run (t' := (42, [(0, (1, 1))], [(0, 0), (0, 10), (1, cd)], w42)) kAlk 2 rfl ?_
      refine e_Pn.callA rfl (fun n9 d9 => u_21 (q43.rf hR)) (fun r45 w46 h44 => ?_)
      obtain ⟨⟨z47, rfl⟩, h44⟩ := h44
      have q48 := q43.tr h44
      show e_Pn 20 elay kcode eI n d 160 (45, [(0, (1, 1))], [(0, z47)], w46) _
      refine e_Pn.run (t' := (46, [(0, (1, 1))], [], w46)) kAlk 1 rfl ?_
      exact e_Pn.ret0 rfl ⟨rfl, q48⟩
    · show e_Pn 20 elay kcode eI n d 160 (16, [(0, (1, 1))], [], w28) _
      exact e_Pn.ret0 rfl ⟨rfl, q30⟩
set_option maxHeartbeats 4000000 in
theorem u_162 {n d : Nat} {w : eW} {cd : Int} (hR : kRw cd w) (ihG : ∀ k, k < n → kE k) : e_Pn 20 elay kcode eI n d 162 (0, [(0, (1, 1))], [], w) (fun r w' => r = [] ∧ kq cd w w') := by
  have hn := hR.1.n
  refine e_Pn.run (t' := (1, [(0, (1, 1))], [(1, 1)], w)) kAlk 1 rfl ?_
  refine e_Pn.callB rfl (fun k9 hk9 d9 => ihG k9 (by omega) 163 (by decide) d9 _ _ (kq.r.rf hR)) (fun r2 w3 h1 => ?_)
  obtain ⟨rfl, h1⟩ := h1
  have q4 := kq.r.tr h1
  show e_Pn 20 elay kcode eI n d 162 (4, [(0, (1, 1))], [], w3) _
  refine e_Pn.run (t' := (6, [(1, (0, 0)), (0, (1, 1))], [], w3)) kAlk 2 rfl ?_
  have hL5 : ∀ nn7 : Nat, nn7 ≤ n → ∀ (tl8 : eL) (y11 : Int) (w9 : eW), kq cd w w9 → e_Pn 20 elay kcode eI nn7 d 162 (6, (0, (1, 1)) :: (1, (0, y11)) :: tl8, [], w9) (fun r w' => r = [] ∧ kq cd w w') := by
    intro nn7
    induction nn7 with
    | zero => intro _ tl8 y11 w9 _; exact e_Pn.zero
    | succ nn7 ih6 =>
      intro hnnn7 tl8 y11 w9 q10
      refine e_Pn.runS (t' := (10, (0, (1, 1)) :: (1, (0, y11)) :: tl8, [(0, 4000), (0, y11)], w9)) kAlk 1 rfl ?_
      refine e_Pn.if2 kAlk rfl (fun h12 => ?_) (fun h12 => ?_)
      · show e_Pn 20 elay kcode eI nn7 d 162 (68, (0, (1, 1)) :: (1, (0, y11)) :: tl8, [], w9) _
        exact e_Pn.ret0 rfl ⟨rfl, q10⟩
      · show e_Pn 20 elay kcode eI nn7 d 162 (13, (0, (1, 1)) :: (1, (0, y11)) :: tl8, [], w9) _
        refine e_Pn.run (t' := (14, (0, (1, 1)) :: (1, (0, y11)) :: tl8, [(1, 1)], w9)) kAlk 1 rfl ?_
        refine e_Pn.getf (z := w9 1 5) kAlk rfl rfl rfl (fun b13 => ?_)
        refine e_Pn.run (t' := (21, (0, (1, 1)) :: (1, (0, y11)) :: tl8, [(0, 9), (0, 8), (0, w9 1 5)], w9)) kAlk 2 rfl ?_
        refine e_Pn.callA rfl (fun n9 d9 => u_242 (q10.rf hR)) (fun r15 w16 h14 => ?_)
        obtain ⟨⟨z17, rfl⟩, h14⟩ := h14
        have q18 := q10.tr h14
        show e_Pn 20 elay kcode eI nn7 d 162 (24, (0, (1, 1)) :: (1, (0, y11)) :: tl8, [(0, z17)], w16) _
        refine e_Pn.if1 kAlk rfl (fun h19 => ?_) (fun h19 => ?_)
        · show e_Pn 20 elay kcode eI nn7 d 162 (68, (0, (1, 1)) :: (1, (0, y11)) :: tl8, [], w16) _
          exact e_Pn.ret0 rfl ⟨rfl, q18⟩
        · show e_Pn 20 elay kcode eI nn7 d 162 (27, (0, (1, 1)) :: (1, (0, y11)) :: tl8, [], w16) _
          refine e_Pn.run (t' := (28, (0, (1, 1)) :: (1, (0, y11)) :: tl8, [(1, 1)], w16)) kAlk 1 rfl ?_
          refine e_Pn.getf (z := w16 1 5) kAlk rfl rfl rfl (fun b20 => ?_)
          refine e_Pn.run (t' := (33, (0, (1, 1)) :: (1, (0, y11)) :: tl8, [(0, 8), (0, w16 1 5)], w16)) kAlk 1 rfl ?_
          refine e_Pn.if2 kAlk rfl (fun h21 => ?_) (fun h21 => ?_)
          · show e_Pn 20 elay kcode eI nn7 d 162 (41, (0, (1, 1)) :: (1, (0, y11)) :: tl8, [], w16) _
            refine e_Pn.run (t' := (45, (2, (0, 15)) :: (0, (1, 1)) :: (1, (0, y11)) :: List.filter (e_flt 0 2) tl8, [(1, 1)], w16)) kAlk 3 rfl ?_
            refine e_Pn.callA rfl (fun n9 d9 => u_123 (q18.rf hR)) (fun r23 w24 h22 => ?_)
            obtain ⟨rfl, h22⟩ := h22
            have q25 := q18.tr h22
            show e_Pn 20 elay kcode eI nn7 d 162 (48, (2, (0, 15)) :: (0, (1, 1)) :: (1, (0, y11)) :: List.filter (e_flt 0 2) tl8, [], w24) _
            refine e_Pn.run (t' := (49, (2, (0, 15)) :: (0, (1, 1)) :: (1, (0, y11)) :: List.filter (e_flt 0 2) tl8, [(1, 1)], w24)) kAlk 1 rfl ?_
            refine e_Pn.callB rfl (fun k9 hk9 d9 => ihG k9 (by omega) 163 (by decide) d9 _ _ (q25.rf hR)) (fun r27 w28 h26 => ?_)
            obtain ⟨rfl, h26⟩ := h26
            have q29 := q25.tr h26
            show e_Pn 20 elay kcode eI nn7 d 162 (52, (2, (0, 15)) :: (0, (1, 1)) :: (1, (0, y11)) :: List.filter (e_flt 0 2) tl8, [], w28) _
            refine e_Pn.run (t' := (53, (2, (0, 15)) :: (0, (1, 1)) :: (1, (0, y11)) :: List.filter (e_flt 0 2) tl8, [(1, 1)], w28)) kAlk 1 rfl ?_
            refine e_Pn.getr (z := cd) kAlk rfl rfl (q29.rf hR).2.1 (by omega) ?_
            refine e_Pn.run (t' := (58, (2, (0, 15)) :: (0, (1, 1)) :: (1, (0, y11)) :: List.filter (e_flt 0 2) tl8, [(0, 0), (0, 15), (1, cd)], w28)) kAlk 2 rfl ?_
            refine e_Pn.callA rfl (fun n9 d9 => u_21 (q29.rf hR)) (fun r31 w32 h30 => ?_)
            obtain ⟨⟨z33, rfl⟩, h30⟩ := h30
            have q34 := q29.tr h30
            show e_Pn 20 elay kcode eI nn7 d 162 (61, (2, (0, 15)) :: (0, (1, 1)) :: (1, (0, y11)) :: List.filter (e_flt 0 2) tl8, [(0, z33)], w32) _
            refine e_Pn.run (t' := (62, (2, (0, 15)) :: (0, (1, 1)) :: (1, (0, y11)) :: List.filter (e_flt 0 2) tl8, [], w32)) kAlk 1 rfl ?_
            refine e_Pn.incU kAlk rfl rfl (fun z35 => ?_)
            show e_Pn 20 elay kcode eI nn7 d 162 (65, (1, (0, z35)) :: (2, (0, 15)) :: (0, (1, 1)) :: List.filter (e_flt 0 1) (List.filter (e_flt 0 2) tl8), [], w32) _
            refine e_Pn.run (t' := (6, (1, (0, z35)) :: (2, (0, 15)) :: (0, (1, 1)) :: List.filter (e_flt 0 1) (List.filter (e_flt 0 2) tl8), [], w32)) kAlk 1 rfl ?_
            exact e_Pn.ord kAlk [0, 1] rfl rfl ((ih6 (by omega) _ z35 w32 q34).le (by omega))
          · show e_Pn 20 elay kcode eI nn7 d 162 (36, (0, (1, 1)) :: (1, (0, y11)) :: tl8, [], w16) _
            refine e_Pn.run (t' := (45, (2, (0, 14)) :: (0, (1, 1)) :: (1, (0, y11)) :: List.filter (e_flt 0 2) tl8, [(1, 1)], w16)) kAlk 4 rfl ?_
            refine e_Pn.callA rfl (fun n9 d9 => u_123 (q18.rf hR)) (fun r37 w38 h36 => ?_)
            obtain ⟨rfl, h36⟩ := h36
            have q39 := q18.tr h36
            show e_Pn 20 elay kcode eI nn7 d 162 (48, (2, (0, 14)) :: (0, (1, 1)) :: (1, (0, y11)) :: List.filter (e_flt 0 2) tl8, [], w38) _
            refine e_Pn.run (t' := (49, (2, (0, 14)) :: (0, (1, 1)) :: (1, (0, y11)) :: List.filter (e_flt 0 2) tl8, [(1, 1)], w38)) kAlk 1 rfl ?_
            refine e_Pn.callB rfl (fun k9 hk9 d9 => ihG k9 (by omega) 163 (by decide) d9 _ _ (q39.rf hR)) (fun r41 w42 h40 => ?_)
            obtain ⟨rfl, h40⟩ := h40
            have q43 := q39.tr h40
            show e_Pn 20 elay kcode eI nn7 d 162 (52, (2, (0, 14)) :: (0, (1, 1)) :: (1, (0, y11)) :: List.filter (e_flt 0 2) tl8, [], w42) _
            refine e_Pn.run (t' := (53, (2, (0, 14)) :: (0, (1, 1)) :: (1, (0, y11)) :: List.filter (e_flt 0 2) tl8, [(1, 1)], w42)) kAlk 1 rfl ?_
            refine e_Pn.getr (z := cd) kAlk rfl rfl (q43.rf hR).2.1 (by omega) ?_
            refine e_Pn.run (t' := (58, (2, (0, 14)) :: (0, (1, 1)) :: (1, (0, y11)) :: List.filter (e_flt 0 2) tl8, [(0, 0), (0, 14), (1, cd)], w42)) kAlk 2 rfl ?_
            refine e_Pn.callA rfl (fun n9 d9 => u_21 (q43.rf hR)) (fun r45 w46 h44 => ?_)
            obtain ⟨⟨z47, rfl⟩, h44⟩ := h44
            have q48 := q43.tr h44
            show e_Pn 20 elay kcode eI nn7 d 162 (61, (2, (0, 14)) :: (0, (1, 1)) :: (1, (0, y11)) :: List.filter (e_flt 0 2) tl8, [(0, z47)], w46) _
            refine e_Pn.run (t' := (62, (2, (0, 14)) :: (0, (1, 1)) :: (1, (0, y11)) :: List.filter (e_flt 0 2) tl8, [], w46)) kAlk 1 rfl ?_
            refine e_Pn.incU kAlk rfl rfl (fun z49 => ?_)
            show e_Pn 20 elay kcode eI nn7 d 162 (65, (1, (0, z49)) :: (2, (0, 14)) :: (0, (1, 1)) :: List.filter (e_flt 0 1) (List.filter (e_flt 0 2) tl8), [], w46) _
            refine e_Pn.run (t' := (6, (1, (0, z49)) :: (2, (0, 14)) :: (0, (1, 1)) :: List.filter (e_flt 0 1) (List.filter (e_flt 0 2) tl8), [], w46)) kAlk 1 rfl ?_
            exact e_Pn.ord kAlk [0, 1] rfl rfl ((ih6 (by omega) _ z49 w46 q48).le (by omega))
  exact e_Pn.ord kAlk [0, 1] rfl rfl (hL5 n (Nat.le_refl _) _ 0 w3 q4)
set_option maxHeartbeats 4000000 in
theorem u_163 {n d : Nat} {w : eW} {cd : Int} (hR : kRw cd w) (ihG : ∀ k, k < n → kE k) : e_Pn 20 elay kcode eI n d 163 (0, [(0, (1, 1))], [], w) (fun r w' => r = [] ∧ kq cd w w') := by
  have hn := hR.1.n
  refine e_Pn.run (t' := (1, [(0, (1, 1))], [(1, 1)], w)) kAlk 1 rfl ?_
  refine e_Pn.callB rfl (fun k9 hk9 d9 => ihG k9 (by omega) 164 (by decide) d9 _ _ (kq.r.rf hR)) (fun r2 w3 h1 => ?_)
  obtain ⟨rfl, h1⟩ := h1
  have q4 := kq.r.tr h1
  show e_Pn 20 elay kcode eI n d 163 (4, [(0, (1, 1))], [], w3) _
  refine e_Pn.run (t' := (6, [(1, (0, 0)), (0, (1, 1))], [], w3)) kAlk 2 rfl ?_
  have hL5 : ∀ nn7 : Nat, nn7 ≤ n → ∀ (tl8 : eL) (y11 : Int) (w9 : eW), kq cd w w9 → e_Pn 20 elay kcode eI nn7 d 163 (6, (0, (1, 1)) :: (1, (0, y11)) :: tl8, [], w9) (fun r w' => r = [] ∧ kq cd w w') := by
    intro nn7
    induction nn7 with
    | zero => intro _ tl8 y11 w9 _; exact e_Pn.zero
    | succ nn7 ih6 =>
      intro hnnn7 tl8 y11 w9 q10
      refine e_Pn.runS (t' := (10, (0, (1, 1)) :: (1, (0, y11)) :: tl8, [(0, 4000), (0, y11)], w9)) kAlk 1 rfl ?_
      refine e_Pn.if2 kAlk rfl (fun h12 => ?_) (fun h12 => ?_)
      · show e_Pn 20 elay kcode eI nn7 d 163 (62, (0, (1, 1)) :: (1, (0, y11)) :: tl8, [], w9) _
        exact e_Pn.ret0 rfl ⟨rfl, q10⟩
      · show e_Pn 20 elay kcode eI nn7 d 163 (13, (0, (1, 1)) :: (1, (0, y11)) :: tl8, [], w9) _
        refine e_Pn.run (t' := (14, (0, (1, 1)) :: (1, (0, y11)) :: tl8, [(1, 1)], w9)) kAlk 1 rfl ?_
        refine e_Pn.getf (z := w9 1 5) kAlk rfl rfl rfl (fun b13 => ?_)
        refine e_Pn.run (t' := (21, (0, (1, 1)) :: (1, (0, y11)) :: tl8, [(0, 12), (0, 10), (0, w9 1 5)], w9)) kAlk 2 rfl ?_
        refine e_Pn.callA rfl (fun n9 d9 => u_242 (q10.rf hR)) (fun r15 w16 h14 => ?_)
        obtain ⟨⟨z17, rfl⟩, h14⟩ := h14
        have q18 := q10.tr h14
        show e_Pn 20 elay kcode eI nn7 d 163 (24, (0, (1, 1)) :: (1, (0, y11)) :: tl8, [(0, z17)], w16) _
        refine e_Pn.if1 kAlk rfl (fun h19 => ?_) (fun h19 => ?_)
        · show e_Pn 20 elay kcode eI nn7 d 163 (62, (0, (1, 1)) :: (1, (0, y11)) :: tl8, [], w16) _
          exact e_Pn.ret0 rfl ⟨rfl, q18⟩
        · show e_Pn 20 elay kcode eI nn7 d 163 (27, (0, (1, 1)) :: (1, (0, y11)) :: tl8, [], w16) _
          refine e_Pn.run (t' := (30, (0, (1, 1)) :: (1, (0, y11)) :: tl8, [(1, 1), (0, 16)], w16)) kAlk 2 rfl ?_
          refine e_Pn.getf (z := w16 1 5) kAlk rfl rfl rfl (fun b20 => ?_)
          refine e_Pn.bin0 kAlk rfl (fun z21 hz21 => ?_)
          refine e_Pn.run (t' := (36, (0, (1, 1)) :: (1, (0, y11)) :: tl8, [(0, 10), (0, z21)], w16)) kAlk 1 rfl ?_
          refine e_Pn.bin0 kAlk rfl (fun z22 hz22 => ?_)
          refine e_Pn.run (t' := (39, (2, (0, z22)) :: (0, (1, 1)) :: (1, (0, y11)) :: List.filter (e_flt 0 2) tl8, [(1, 1)], w16)) kAlk 2 rfl ?_
          refine e_Pn.callA rfl (fun n9 d9 => u_123 (q18.rf hR)) (fun r24 w25 h23 => ?_)
          obtain ⟨rfl, h23⟩ := h23
          have q26 := q18.tr h23
          show e_Pn 20 elay kcode eI nn7 d 163 (42, (2, (0, z22)) :: (0, (1, 1)) :: (1, (0, y11)) :: List.filter (e_flt 0 2) tl8, [], w25) _
          refine e_Pn.run (t' := (43, (2, (0, z22)) :: (0, (1, 1)) :: (1, (0, y11)) :: List.filter (e_flt 0 2) tl8, [(1, 1)], w25)) kAlk 1 rfl ?_
          refine e_Pn.callB rfl (fun k9 hk9 d9 => ihG k9 (by omega) 164 (by decide) d9 _ _ (q26.rf hR)) (fun r28 w29 h27 => ?_)
          obtain ⟨rfl, h27⟩ := h27
          have q30 := q26.tr h27
          show e_Pn 20 elay kcode eI nn7 d 163 (46, (2, (0, z22)) :: (0, (1, 1)) :: (1, (0, y11)) :: List.filter (e_flt 0 2) tl8, [], w29) _
          refine e_Pn.run (t' := (47, (2, (0, z22)) :: (0, (1, 1)) :: (1, (0, y11)) :: List.filter (e_flt 0 2) tl8, [(1, 1)], w29)) kAlk 1 rfl ?_
          refine e_Pn.getr (z := cd) kAlk rfl rfl (q30.rf hR).2.1 (by omega) ?_
          refine e_Pn.run (t' := (52, (2, (0, z22)) :: (0, (1, 1)) :: (1, (0, y11)) :: List.filter (e_flt 0 2) tl8, [(0, 0), (0, z22), (1, cd)], w29)) kAlk 2 rfl ?_
          refine e_Pn.callA rfl (fun n9 d9 => u_21 (q30.rf hR)) (fun r32 w33 h31 => ?_)
          obtain ⟨⟨z34, rfl⟩, h31⟩ := h31
          have q35 := q30.tr h31
          show e_Pn 20 elay kcode eI nn7 d 163 (55, (2, (0, z22)) :: (0, (1, 1)) :: (1, (0, y11)) :: List.filter (e_flt 0 2) tl8, [(0, z34)], w33) _
          refine e_Pn.run (t' := (56, (2, (0, z22)) :: (0, (1, 1)) :: (1, (0, y11)) :: List.filter (e_flt 0 2) tl8, [], w33)) kAlk 1 rfl ?_
          refine e_Pn.incU kAlk rfl rfl (fun z36 => ?_)
          show e_Pn 20 elay kcode eI nn7 d 163 (59, (1, (0, z36)) :: (2, (0, z22)) :: (0, (1, 1)) :: List.filter (e_flt 0 1) (List.filter (e_flt 0 2) tl8), [], w33) _
          refine e_Pn.run (t' := (6, (1, (0, z36)) :: (2, (0, z22)) :: (0, (1, 1)) :: List.filter (e_flt 0 1) (List.filter (e_flt 0 2) tl8), [], w33)) kAlk 1 rfl ?_
          exact e_Pn.ord kAlk [0, 1] rfl rfl ((ih6 (by omega) _ z36 w33 q35).le (by omega))
  exact e_Pn.ord kAlk [0, 1] rfl rfl (hL5 n (Nat.le_refl _) _ 0 w3 q4)
set_option maxHeartbeats 4000000 in
theorem u_164 {n d : Nat} {w : eW} {cd : Int} (hR : kRw cd w) (ihG : ∀ k, k < n → kE k) : e_Pn 20 elay kcode eI n d 164 (0, [(0, (1, 1))], [], w) (fun r w' => r = [] ∧ kq cd w w') := by
  have hn := hR.1.n
  refine e_Pn.run (t' := (1, [(0, (1, 1))], [(1, 1)], w)) kAlk 1 rfl ?_
  refine e_Pn.getf (z := w 1 5) kAlk rfl rfl rfl (fun b1 => ?_)
  refine e_Pn.run (t' := (6, [(0, (1, 1))], [(0, 9), (0, w 1 5)], w)) kAlk 1 rfl ?_
  refine e_Pn.if2 kAlk rfl (fun h2 => ?_) (fun h2 => ?_)
  · show e_Pn 20 elay kcode eI n d 164 (49, [(0, (1, 1))], [], w) _
    refine e_Pn.run (t' := (50, [(0, (1, 1))], [(1, 1)], w)) kAlk 1 rfl ?_
    refine e_Pn.getf (z := w 1 5) kAlk rfl rfl rfl (fun b3 => ?_)
    refine e_Pn.run (t' := (54, [(0, (1, 1))], [(0, 2), (0, w 1 5)], w)) kAlk 1 rfl ?_
    refine e_Pn.if2 kAlk rfl (fun h4 => ?_) (fun h4 => ?_)
    · show e_Pn 20 elay kcode eI n d 164 (68, [(0, (1, 1))], [], w) _
      refine e_Pn.run (t' := (69, [(0, (1, 1))], [(1, 1)], w)) kAlk 1 rfl ?_
      refine e_Pn.getf (z := w 1 5) kAlk rfl rfl rfl (fun b5 => ?_)
      refine e_Pn.run (t' := (73, [(0, (1, 1))], [(0, 1), (0, w 1 5)], w)) kAlk 1 rfl ?_
      refine e_Pn.if2 kAlk rfl (fun h6 => ?_) (fun h6 => ?_)
      · show e_Pn 20 elay kcode eI n d 164 (96, [(0, (1, 1))], [], w) _
        refine e_Pn.run (t' := (97, [(0, (1, 1))], [(1, 1)], w)) kAlk 1 rfl ?_
        refine e_Pn.getf (z := w 1 5) kAlk rfl rfl rfl (fun b7 => ?_)
        refine e_Pn.run (t' := (102, [(0, (1, 1))], [(0, 48), (0, w 1 5)], w)) kAlk 1 rfl ?_
        refine e_Pn.if2 kAlk rfl (fun h8 => ?_) (fun h8 => ?_)
        · show e_Pn 20 elay kcode eI n d 164 (114, [(0, (1, 1))], [], w) _
          refine e_Pn.run (t' := (115, [(0, (1, 1))], [(1, 1)], w)) kAlk 1 rfl ?_
          refine e_Pn.getf (z := w 1 5) kAlk rfl rfl rfl (fun b9 => ?_)
          refine e_Pn.run (t' := (120, [(0, (1, 1))], [(0, 48), (0, w 1 5)], w)) kAlk 1 rfl ?_
          refine e_Pn.if2 kAlk rfl (fun h10 => ?_) (fun h10 => ?_)
          · show e_Pn 20 elay kcode eI n d 164 (127, [(0, (1, 1))], [], w) _
            refine e_Pn.run (t' := (130, [(1, (0, 4)), (0, (1, 1))], [(1, 1)], w)) kAlk 3 rfl ?_
            refine e_Pn.callA rfl (fun n9 d9 => u_123 (kq.r.rf hR)) (fun r12 w13 h11 => ?_)
            obtain ⟨rfl, h11⟩ := h11
            have q14 := kq.r.tr h11
            show e_Pn 20 elay kcode eI n d 164 (133, [(1, (0, 4)), (0, (1, 1))], [], w13) _
            refine e_Pn.run (t' := (134, [(1, (0, 4)), (0, (1, 1))], [(1, 1)], w13)) kAlk 1 rfl ?_
            refine e_Pn.callB rfl (fun k9 hk9 d9 => ihG k9 (by omega) 165 (by decide) d9 _ _ (q14.rf hR)) (fun r16 w17 h15 => ?_)
            obtain ⟨rfl, h15⟩ := h15
            have q18 := q14.tr h15
            show e_Pn 20 elay kcode eI n d 164 (137, [(1, (0, 4)), (0, (1, 1))], [], w17) _
            refine e_Pn.run (t' := (138, [(1, (0, 4)), (0, (1, 1))], [(1, 1)], w17)) kAlk 1 rfl ?_
            refine e_Pn.getr (z := cd) kAlk rfl rfl (q18.rf hR).2.1 (by omega) ?_
            refine e_Pn.run (t' := (143, [(1, (0, 4)), (0, (1, 1))], [(0, 0), (0, 4), (1, cd)], w17)) kAlk 2 rfl ?_
            refine e_Pn.callA rfl (fun n9 d9 => u_21 (q18.rf hR)) (fun r20 w21 h19 => ?_)
            obtain ⟨⟨z22, rfl⟩, h19⟩ := h19
            have q23 := q18.tr h19
            show e_Pn 20 elay kcode eI n d 164 (146, [(1, (0, 4)), (0, (1, 1))], [(0, z22)], w21) _
            refine e_Pn.run (t' := (193, [(1, (0, 4)), (0, (1, 1))], [], w21)) kAlk 2 rfl ?_
            exact e_Pn.ret0 rfl ⟨rfl, q23⟩
          · show e_Pn 20 elay kcode eI n d 164 (123, [(0, (1, 1))], [], w) _
            refine e_Pn.run (t' := (130, [(1, (0, 3)), (0, (1, 1))], [(1, 1)], w)) kAlk 4 rfl ?_
            refine e_Pn.callA rfl (fun n9 d9 => u_123 (kq.r.rf hR)) (fun r25 w26 h24 => ?_)
            obtain ⟨rfl, h24⟩ := h24
            have q27 := kq.r.tr h24
            show e_Pn 20 elay kcode eI n d 164 (133, [(1, (0, 3)), (0, (1, 1))], [], w26) _
            refine e_Pn.run (t' := (134, [(1, (0, 3)), (0, (1, 1))], [(1, 1)], w26)) kAlk 1 rfl ?_
            refine e_Pn.callB rfl (fun k9 hk9 d9 => ihG k9 (by omega) 165 (by decide) d9 _ _ (q27.rf hR)) (fun r29 w30 h28 => ?_)
            obtain ⟨rfl, h28⟩ := h28
            have q31 := q27.tr h28
            show e_Pn 20 elay kcode eI n d 164 (137, [(1, (0, 3)), (0, (1, 1))], [], w30) _
            refine e_Pn.run (t' := (138, [(1, (0, 3)), (0, (1, 1))], [(1, 1)], w30)) kAlk 1 rfl ?_
            refine e_Pn.getr (z := cd) kAlk rfl rfl (q31.rf hR).2.1 (by omega) ?_
            refine e_Pn.run (t' := (143, [(1, (0, 3)), (0, (1, 1))], [(0, 0), (0, 3), (1, cd)], w30)) kAlk 2 rfl ?_
            refine e_Pn.callA rfl (fun n9 d9 => u_21 (q31.rf hR)) (fun r33 w34 h32 => ?_)
            obtain ⟨⟨z35, rfl⟩, h32⟩ := h32
            have q36 := q31.tr h32
            show e_Pn 20 elay kcode eI n d 164 (146, [(1, (0, 3)), (0, (1, 1))], [(0, z35)], w34) _
            refine e_Pn.run (t' := (193, [(1, (0, 3)), (0, (1, 1))], [], w34)) kAlk 2 rfl ?_
            exact e_Pn.ret0 rfl ⟨rfl, q36⟩
        · show e_Pn 20 elay kcode eI n d 164 (105, [(0, (1, 1))], [], w) _
          refine e_Pn.run (t' := (106, [(0, (1, 1))], [(1, 1)], w)) kAlk 1 rfl ?_
          refine e_Pn.getf (z := w 1 5) kAlk rfl rfl rfl (fun b37 => ?_)
          refine e_Pn.run (t' := (111, [(0, (1, 1))], [(0, 49), (0, w 1 5)], w)) kAlk 1 rfl ?_
          refine e_Pn.if2 kAlk rfl (fun h38 => ?_) (fun h38 => ?_)
          · show e_Pn 20 elay kcode eI n d 164 (150, [(0, (1, 1))], [], w) _
            refine e_Pn.run (t' := (151, [(0, (1, 1))], [(1, 1)], w)) kAlk 1 rfl ?_
            refine e_Pn.getf (z := w 1 5) kAlk rfl rfl rfl (fun b39 => ?_)
            refine e_Pn.run (t' := (158, [(0, (1, 1))], [(0, 53), (0, 50), (0, w 1 5)], w)) kAlk 2 rfl ?_
            refine e_Pn.callA rfl (fun n9 d9 => u_242 (kq.r.rf hR)) (fun r41 w42 h40 => ?_)
            obtain ⟨⟨z43, rfl⟩, h40⟩ := h40
            have q44 := kq.r.tr h40
            show e_Pn 20 elay kcode eI n d 164 (161, [(0, (1, 1))], [(0, z43)], w42) _
            refine e_Pn.if1 kAlk rfl (fun h45 => ?_) (fun h45 => ?_)
            · show e_Pn 20 elay kcode eI n d 164 (189, [(0, (1, 1))], [], w42) _
              refine e_Pn.run (t' := (190, [(0, (1, 1))], [(1, 1)], w42)) kAlk 1 rfl ?_
              refine e_Pn.callB rfl (fun k9 hk9 d9 => ihG k9 (by omega) 165 (by decide) d9 _ _ (q44.rf hR)) (fun r47 w48 h46 => ?_)
              obtain ⟨rfl, h46⟩ := h46
              have q49 := q44.tr h46
              show e_Pn 20 elay kcode eI n d 164 (193, [(0, (1, 1))], [], w48) _
              exact e_Pn.ret0 rfl ⟨rfl, q49⟩
            · show e_Pn 20 elay kcode eI n d 164 (164, [(0, (1, 1))], [], w42) _
              refine e_Pn.run (t' := (165, [(0, (1, 1))], [(1, 1)], w42)) kAlk 1 rfl ?_
              refine e_Pn.getr (z := cd) kAlk rfl rfl (q44.rf hR).2.1 (by omega) ?_
              refine e_Pn.run (t' := (170, [(0, (1, 1))], [(1, 1), (0, 5), (1, cd)], w42)) kAlk 2 rfl ?_
              refine e_Pn.getf (z := w42 1 5) kAlk rfl rfl rfl (fun b50 => ?_)
              refine e_Pn.bin0 kAlk rfl (fun z51 hz51 => ?_)
              refine e_Pn.run (t' := (176, [(0, (1, 1))], [(0, 50), (0, z51), (1, cd)], w42)) kAlk 1 rfl ?_
              refine e_Pn.bin0 kAlk rfl (fun z52 hz52 => ?_)
              refine e_Pn.run (t' := (178, [(0, (1, 1))], [(0, 0), (0, z52), (1, cd)], w42)) kAlk 1 rfl ?_
              refine e_Pn.callA rfl (fun n9 d9 => u_21 (q44.rf hR)) (fun r54 w55 h53 => ?_)
              obtain ⟨⟨z56, rfl⟩, h53⟩ := h53
              have q57 := q44.tr h53
              show e_Pn 20 elay kcode eI n d 164 (181, [(0, (1, 1))], [(0, z56)], w55) _
              refine e_Pn.run (t' := (183, [(0, (1, 1))], [(1, 1)], w55)) kAlk 2 rfl ?_
              refine e_Pn.callA rfl (fun n9 d9 => u_123 (q57.rf hR)) (fun r59 w60 h58 => ?_)
              obtain ⟨rfl, h58⟩ := h58
              have q61 := q57.tr h58
              show e_Pn 20 elay kcode eI n d 164 (186, [(0, (1, 1))], [], w60) _
              refine e_Pn.run (t' := (193, [(0, (1, 1))], [], w60)) kAlk 1 rfl ?_
              exact e_Pn.ret0 rfl ⟨rfl, q61⟩
          · show e_Pn 20 elay kcode eI n d 164 (114, [(0, (1, 1))], [], w) _
            refine e_Pn.run (t' := (115, [(0, (1, 1))], [(1, 1)], w)) kAlk 1 rfl ?_
            refine e_Pn.getf (z := w 1 5) kAlk rfl rfl rfl (fun b62 => ?_)
            refine e_Pn.run (t' := (120, [(0, (1, 1))], [(0, 48), (0, w 1 5)], w)) kAlk 1 rfl ?_
            refine e_Pn.if2 kAlk rfl (fun h63 => ?_) (fun h63 => ?_)
            · show e_Pn 20 elay kcode eI n d 164 (127, [(0, (1, 1))], [], w) _
              refine e_Pn.run (t' := (130, [(1, (0, 4)), (0, (1, 1))], [(1, 1)], w)) kAlk 3 rfl ?_
              refine e_Pn.callA rfl (fun n9 d9 => u_123 (kq.r.rf hR)) (fun r65 w66 h64 => ?_)
              obtain ⟨rfl, h64⟩ := h64
              have q67 := kq.r.tr h64
              show e_Pn 20 elay kcode eI n d 164 (133, [(1, (0, 4)), (0, (1, 1))], [], w66) _
              refine e_Pn.run (t' := (134, [(1, (0, 4)), (0, (1, 1))], [(1, 1)], w66)) kAlk 1 rfl ?_
              refine e_Pn.callB rfl (fun k9 hk9 d9 => ihG k9 (by omega) 165 (by decide) d9 _ _ (q67.rf hR)) (fun r69 w70 h68 => ?_)
              obtain ⟨rfl, h68⟩ := h68
              have q71 := q67.tr h68
              show e_Pn 20 elay kcode eI n d 164 (137, [(1, (0, 4)), (0, (1, 1))], [], w70) _
              refine e_Pn.run (t' := (138, [(1, (0, 4)), (0, (1, 1))], [(1, 1)], w70)) kAlk 1 rfl ?_
              refine e_Pn.getr (z := cd) kAlk rfl rfl (q71.rf hR).2.1 (by omega) ?_
              refine e_Pn.run (t' := (143, [(1, (0, 4)), (0, (1, 1))], [(0, 0), (0, 4), (1, cd)], w70)) kAlk 2 rfl ?_
              refine e_Pn.callA rfl (fun n9 d9 => u_21 (q71.rf hR)) (fun r73 w74 h72 => ?_)
              obtain ⟨⟨z75, rfl⟩, h72⟩ := h72
              have q76 := q71.tr h72
              show e_Pn 20 elay kcode eI n d 164 (146, [(1, (0, 4)), (0, (1, 1))], [(0, z75)], w74) _
              refine e_Pn.run (t' := (193, [(1, (0, 4)), (0, (1, 1))], [], w74)) kAlk 2 rfl ?_
              exact e_Pn.ret0 rfl ⟨rfl, q76⟩
            · show e_Pn 20 elay kcode eI n d 164 (123, [(0, (1, 1))], [], w) _
              refine e_Pn.run (t' := (130, [(1, (0, 3)), (0, (1, 1))], [(1, 1)], w)) kAlk 4 rfl ?_
              refine e_Pn.callA rfl (fun n9 d9 => u_123 (kq.r.rf hR)) (fun r78 w79 h77 => ?_)
              obtain ⟨rfl, h77⟩ := h77
              have q80 := kq.r.tr h77
              show e_Pn 20 elay kcode eI n d 164 (133, [(1, (0, 3)), (0, (1, 1))], [], w79) _
              refine e_Pn.run (t' := (134, [(1, (0, 3)), (0, (1, 1))], [(1, 1)], w79)) kAlk 1 rfl ?_
              refine e_Pn.callB rfl (fun k9 hk9 d9 => ihG k9 (by omega) 165 (by decide) d9 _ _ (q80.rf hR)) (fun r82 w83 h81 => ?_)
              obtain ⟨rfl, h81⟩ := h81
              have q84 := q80.tr h81
              show e_Pn 20 elay kcode eI n d 164 (137, [(1, (0, 3)), (0, (1, 1))], [], w83) _
              refine e_Pn.run (t' := (138, [(1, (0, 3)), (0, (1, 1))], [(1, 1)], w83)) kAlk 1 rfl ?_
              refine e_Pn.getr (z := cd) kAlk rfl rfl (q84.rf hR).2.1 (by omega) ?_
              refine e_Pn.run (t' := (143, [(1, (0, 3)), (0, (1, 1))], [(0, 0), (0, 3), (1, cd)], w83)) kAlk 2 rfl ?_
              refine e_Pn.callA rfl (fun n9 d9 => u_21 (q84.rf hR)) (fun r86 w87 h85 => ?_)
              obtain ⟨⟨z88, rfl⟩, h85⟩ := h85
              have q89 := q84.tr h85
              show e_Pn 20 elay kcode eI n d 164 (146, [(1, (0, 3)), (0, (1, 1))], [(0, z88)], w87) _
              refine e_Pn.run (t' := (193, [(1, (0, 3)), (0, (1, 1))], [], w87)) kAlk 2 rfl ?_
              exact e_Pn.ret0 rfl ⟨rfl, q89⟩
      · show e_Pn 20 elay kcode eI n d 164 (76, [(0, (1, 1))], [], w) _
        refine e_Pn.run (t' := (77, [(0, (1, 1))], [(1, 1)], w)) kAlk 1 rfl ?_
        refine e_Pn.getr (z := cd) kAlk rfl rfl (kq.r.rf hR).2.1 (by omega) ?_
        refine e_Pn.run (t' := (82, [(0, (1, 1))], [(1, 1), (0, 2), (1, cd)], w)) kAlk 2 rfl ?_
        refine e_Pn.callA rfl (fun n9 d9 => u_137 (kq.r.rf hR)) (fun r91 w92 h90 => ?_)
        obtain ⟨⟨z93, rfl⟩, h90⟩ := h90
        have q94 := kq.r.tr h90
        show e_Pn 20 elay kcode eI n d 164 (85, [(0, (1, 1))], [(0, z93), (0, 2), (1, cd)], w92) _
        refine e_Pn.callA rfl (fun n9 d9 => u_21 (q94.rf hR)) (fun r96 w97 h95 => ?_)
        obtain ⟨⟨z98, rfl⟩, h95⟩ := h95
        have q99 := q94.tr h95
        show e_Pn 20 elay kcode eI n d 164 (88, [(0, (1, 1))], [(0, z98)], w97) _
        refine e_Pn.run (t' := (90, [(0, (1, 1))], [(1, 1)], w97)) kAlk 2 rfl ?_
        refine e_Pn.callA rfl (fun n9 d9 => u_123 (q99.rf hR)) (fun r101 w102 h100 => ?_)
        obtain ⟨rfl, h100⟩ := h100
        have q103 := q99.tr h100
        show e_Pn 20 elay kcode eI n d 164 (93, [(0, (1, 1))], [], w102) _
        refine e_Pn.run (t' := (193, [(0, (1, 1))], [], w102)) kAlk 1 rfl ?_
        exact e_Pn.ret0 rfl ⟨rfl, q103⟩
    · show e_Pn 20 elay kcode eI n d 164 (57, [(0, (1, 1))], [], w) _
      refine e_Pn.run (t' := (58, [(0, (1, 1))], [(1, 1)], w)) kAlk 1 rfl ?_
      refine e_Pn.callA rfl (fun n9 d9 => u_166 (kq.r.rf hR)) (fun r105 w106 h104 => ?_)
      obtain ⟨rfl, h104⟩ := h104
      have q107 := kq.r.tr h104
      show e_Pn 20 elay kcode eI n d 164 (61, [(0, (1, 1))], [], w106) _
      refine e_Pn.run (t' := (62, [(0, (1, 1))], [(1, 1)], w106)) kAlk 1 rfl ?_
      refine e_Pn.callA rfl (fun n9 d9 => u_123 (q107.rf hR)) (fun r109 w110 h108 => ?_)
      obtain ⟨rfl, h108⟩ := h108
      have q111 := q107.tr h108
      show e_Pn 20 elay kcode eI n d 164 (65, [(0, (1, 1))], [], w110) _
      refine e_Pn.run (t' := (193, [(0, (1, 1))], [], w110)) kAlk 1 rfl ?_
      exact e_Pn.ret0 rfl ⟨rfl, q111⟩
  · show e_Pn 20 elay kcode eI n d 164 (9, [(0, (1, 1))], [], w) _
    refine e_Pn.run (t' := (10, [(0, (1, 1))], [(1, 1)], w)) kAlk 1 rfl ?_
    refine e_Pn.callA rfl (fun n9 d9 => u_132 (kq.r.rf hR)) (fun r113 w114 h112 => ?_)
    obtain ⟨⟨z115, rfl⟩, h112⟩ := h112
    have q116 := kq.r.tr h112
    show e_Pn 20 elay kcode eI n d 164 (13, [(0, (1, 1))], [(0, z115)], w114) _
    refine e_Pn.if1 kAlk rfl (fun h117 => ?_) (fun h117 => ?_)
    · show e_Pn 20 elay kcode eI n d 164 (17, [(0, (1, 1))], [], w114) _
      refine e_Pn.run (t' := (18, [(0, (1, 1))], [(1, 1)], w114)) kAlk 1 rfl ?_
      refine e_Pn.callA rfl (fun n9 d9 => u_123 (q116.rf hR)) (fun r119 w120 h118 => ?_)
      obtain ⟨rfl, h118⟩ := h118
      have q121 := q116.tr h118
      show e_Pn 20 elay kcode eI n d 164 (21, [(0, (1, 1))], [], w120) _
      refine e_Pn.run (t' := (22, [(0, (1, 1))], [(1, 1)], w120)) kAlk 1 rfl ?_
      refine e_Pn.callB rfl (fun k9 hk9 d9 => ihG k9 (by omega) 164 (by decide) d9 _ _ (q121.rf hR)) (fun r123 w124 h122 => ?_)
      obtain ⟨rfl, h122⟩ := h122
      have q125 := q121.tr h122
      show e_Pn 20 elay kcode eI n d 164 (25, [(0, (1, 1))], [], w124) _
      refine e_Pn.run (t' := (27, [(0, (1, 1))], [(1, 1), (1, 1)], w124)) kAlk 2 rfl ?_
      refine e_Pn.getf (z := w124 1 11) kAlk rfl rfl rfl (fun b126 => ?_)
      refine e_Pn.run (t' := (31, [(0, (1, 1))], [(0, 1), (0, w124 1 11), (1, 1)], w124)) kAlk 1 rfl ?_
      refine e_Pn.bin0 kAlk rfl (fun z127 hz127 => ?_)
      refine e_Pn.putf kAlk rfl rfl ?_
      generalize hw128 : e_up w124 1 11 z127 = w128
      have q129 : kq cd w w128 := kq.up q125 hR.1 hw128 (by decide) (fun _ => by decide) (fun g => absurd g.symm hn.1)
      refine e_Pn.run (t' := (36, [(0, (1, 1))], [(1, 1)], w128)) kAlk 1 rfl ?_
      refine e_Pn.getr (z := cd) kAlk rfl rfl (q129.rf hR).2.1 (by omega) ?_
      refine e_Pn.run (t' := (42, [(0, (1, 1))], [(0, 0), (0, 9), (1, cd)], w128)) kAlk 2 rfl ?_
      refine e_Pn.callA rfl (fun n9 d9 => u_21 (q129.rf hR)) (fun r131 w132 h130 => ?_)
      obtain ⟨⟨z133, rfl⟩, h130⟩ := h130
      have q134 := q129.tr h130
      show e_Pn 20 elay kcode eI n d 164 (45, [(0, (1, 1))], [(0, z133)], w132) _
      refine e_Pn.run (t' := (193, [(0, (1, 1))], [], w132)) kAlk 2 rfl ?_
      exact e_Pn.ret0 rfl ⟨rfl, q134⟩
    · show e_Pn 20 elay kcode eI n d 164 (16, [(0, (1, 1))], [], w114) _
      exact e_Pn.ret0 rfl ⟨rfl, q116⟩
set_option maxHeartbeats 4000000 in
theorem u_165 {n d : Nat} {w : eW} {cd : Int} (hR : kRw cd w) (ihG : ∀ k, k < n → kE k) : e_Pn 20 elay kcode eI n d 165 (0, [(0, (1, 1))], [], w) (fun r w' => r = [] ∧ kq cd w w') := by
  have hn := hR.1.n
  refine e_Pn.run (t' := (1, [(0, (1, 1))], [(1, 1)], w)) kAlk 1 rfl ?_
  refine e_Pn.getf (z := w 1 5) kAlk rfl rfl rfl (fun b1 => ?_)
  refine e_Pn.run (t' := (6, [(0, (1, 1))], [(0, 16), (0, w 1 5)], w)) kAlk 1 rfl ?_
  refine e_Pn.if2 kAlk rfl (fun h2 => ?_) (fun h2 => ?_)
  · show e_Pn 20 elay kcode eI n d 165 (14, [(0, (1, 1))], [], w) _
    refine e_Pn.run (t' := (15, [(0, (1, 1))], [(1, 1)], w)) kAlk 1 rfl ?_
    refine e_Pn.callA rfl (fun n9 d9 => u_132 (kq.r.rf hR)) (fun r4 w5 h3 => ?_)
    obtain ⟨⟨z6, rfl⟩, h3⟩ := h3
    have q7 := kq.r.tr h3
    show e_Pn 20 elay kcode eI n d 165 (18, [(0, (1, 1))], [(0, z6)], w5) _
    refine e_Pn.if1 kAlk rfl (fun h8 => ?_) (fun h8 => ?_)
    · show e_Pn 20 elay kcode eI n d 165 (22, [(0, (1, 1))], [], w5) _
      refine e_Pn.run (t' := (23, [(0, (1, 1))], [(1, 1)], w5)) kAlk 1 rfl ?_
      refine e_Pn.callA rfl (fun n9 d9 => u_123 (q7.rf hR)) (fun r10 w11 h9 => ?_)
      obtain ⟨rfl, h9⟩ := h9
      have q12 := q7.tr h9
      show e_Pn 20 elay kcode eI n d 165 (26, [(0, (1, 1))], [], w11) _
      refine e_Pn.run (t' := (27, [(0, (1, 1))], [(1, 1)], w11)) kAlk 1 rfl ?_
      refine e_Pn.callB rfl (fun k9 hk9 d9 => ihG k9 (by omega) 158 (by decide) d9 _ _ (q12.rf hR)) (fun r14 w15 h13 => ?_)
      obtain ⟨rfl, h13⟩ := h13
      have q16 := q12.tr h13
      show e_Pn 20 elay kcode eI n d 165 (30, [(0, (1, 1))], [], w15) _
      refine e_Pn.run (t' := (33, [(0, (1, 1))], [(0, 17), (1, 1)], w15)) kAlk 2 rfl ?_
      refine e_Pn.callA rfl (fun n9 d9 => u_129 (q16.rf hR)) (fun r18 w19 h17 => ?_)
      obtain ⟨rfl, h17⟩ := h17
      have q20 := q16.tr h17
      show e_Pn 20 elay kcode eI n d 165 (36, [(0, (1, 1))], [], w19) _
      refine e_Pn.run (t' := (38, [(0, (1, 1))], [(1, 1), (1, 1)], w19)) kAlk 2 rfl ?_
      refine e_Pn.getf (z := w19 1 11) kAlk rfl rfl rfl (fun b21 => ?_)
      refine e_Pn.run (t' := (42, [(0, (1, 1))], [(0, 1), (0, w19 1 11), (1, 1)], w19)) kAlk 1 rfl ?_
      refine e_Pn.bin0 kAlk rfl (fun z22 hz22 => ?_)
      refine e_Pn.putf kAlk rfl rfl ?_
      generalize hw23 : e_up w19 1 11 z22 = w23
      have q24 : kq cd w w23 := kq.up q20 hR.1 hw23 (by decide) (fun _ => by decide) (fun g => absurd g.symm hn.1)
      exact e_Pn.ret0 rfl ⟨rfl, q24⟩
    · show e_Pn 20 elay kcode eI n d 165 (21, [(0, (1, 1))], [], w5) _
      exact e_Pn.ret0 rfl ⟨rfl, q7⟩
  · show e_Pn 20 elay kcode eI n d 165 (9, [(0, (1, 1))], [], w) _
    refine e_Pn.run (t' := (10, [(0, (1, 1))], [(1, 1)], w)) kAlk 1 rfl ?_
    refine e_Pn.callA rfl (fun n9 d9 => u_130 (kq.r.rf hR)) (fun r26 w27 h25 => ?_)
    obtain ⟨rfl, h25⟩ := h25
    have q28 := kq.r.tr h25
    show e_Pn 20 elay kcode eI n d 165 (13, [(0, (1, 1))], [], w27) _
    exact e_Pn.ret0 rfl ⟨rfl, q28⟩
theorem kE_all : ∀ n, kE n := fun n => Nat.strongRecOn n (fun n ih M hM => by
  simp only [List.mem_cons, List.not_mem_nil, or_false] at hM
  rcases hM with rfl | rfl | rfl | rfl | rfl | rfl | rfl
  · exact fun d w cd hR => u_158 hR (fun k hk => ih k hk)
  · exact fun d w cd hR => u_159 hR (fun k hk => ih k hk)
  · exact fun d w cd hR => u_160 hR (fun k hk => ih k hk)
  · exact fun d w cd hR => u_162 hR (fun k hk => ih k hk)
  · exact fun d w cd hR => u_163 hR (fun k hk => ih k hk)
  · exact fun d w cd hR => u_164 hR (fun k hk => ih k hk)
  · exact fun d w cd hR => u_165 hR (fun k hk => ih k hk))
theorem u_143 {n d : Nat} {w : eW} {cd : Int} (hR : kRw cd w) : e_Pn 20 elay kcode eI n d 143 (0, [(0, (1, 1))], [], w) (fun r w' => (∃ z : Int, r = [(0, z)]) ∧ kq cd w w') := by
  have hn := hR.1.n
  refine e_Pn.run (t' := (1, [(0, (1, 1))], [(1, 1)], w)) kAlk 1 rfl ?_
  refine e_Pn.getf (z := w 1 5) kAlk rfl rfl rfl (fun b1 => ?_)
  refine e_Pn.run (t' := (5, [(0, (1, 1))], [(0, 1), (0, w 1 5)], w)) kAlk 1 rfl ?_
  refine e_Pn.if2 kAlk rfl (fun h2 => ?_) (fun h2 => ?_)
  · show e_Pn 20 elay kcode eI n d 143 (40, [(0, (1, 1))], [], w) _
    refine e_Pn.run (t' := (45, [(0, (1, 1))], [(0, 1)], w)) kAlk 2 rfl ?_
    exact e_Pn.ret4 rfl ⟨⟨_, rfl⟩, kq.r⟩
  · show e_Pn 20 elay kcode eI n d 143 (8, [(0, (1, 1))], [], w) _
    refine e_Pn.run (t' := (9, [(0, (1, 1))], [(1, 1)], w)) kAlk 1 rfl ?_
    refine e_Pn.getf (z := w 1 5) kAlk rfl rfl rfl (fun b3 => ?_)
    refine e_Pn.run (t' := (16, [(0, (1, 1))], [(0, 39), (0, 24), (0, w 1 5)], w)) kAlk 2 rfl ?_
    refine e_Pn.callA rfl (fun n9 d9 => u_242 (kq.r.rf hR)) (fun r5 w6 h4 => ?_)
    obtain ⟨⟨z7, rfl⟩, h4⟩ := h4
    have q8 := kq.r.tr h4
    show e_Pn 20 elay kcode eI n d 143 (19, [(0, (1, 1))], [(0, z7)], w6) _
    refine e_Pn.if1 kAlk rfl (fun h9 => ?_) (fun h9 => ?_)
    · show e_Pn 20 elay kcode eI n d 143 (40, [(0, (1, 1))], [], w6) _
      refine e_Pn.run (t' := (45, [(0, (1, 1))], [(0, 1)], w6)) kAlk 2 rfl ?_
      exact e_Pn.ret4 rfl ⟨⟨_, rfl⟩, q8⟩
    · show e_Pn 20 elay kcode eI n d 143 (22, [(0, (1, 1))], [], w6) _
      refine e_Pn.run (t' := (23, [(0, (1, 1))], [(1, 1)], w6)) kAlk 1 rfl ?_
      refine e_Pn.getf (z := w6 1 5) kAlk rfl rfl rfl (fun b10 => ?_)
      refine e_Pn.run (t' := (28, [(0, (1, 1))], [(0, 41), (0, w6 1 5)], w6)) kAlk 1 rfl ?_
      refine e_Pn.if2 kAlk rfl (fun h11 => ?_) (fun h11 => ?_)
      · show e_Pn 20 elay kcode eI n d 143 (40, [(0, (1, 1))], [], w6) _
        refine e_Pn.run (t' := (45, [(0, (1, 1))], [(0, 1)], w6)) kAlk 2 rfl ?_
        exact e_Pn.ret4 rfl ⟨⟨_, rfl⟩, q8⟩
      · show e_Pn 20 elay kcode eI n d 143 (31, [(0, (1, 1))], [], w6) _
        refine e_Pn.run (t' := (32, [(0, (1, 1))], [(1, 1)], w6)) kAlk 1 rfl ?_
        refine e_Pn.getf (z := w6 1 5) kAlk rfl rfl rfl (fun b12 => ?_)
        refine e_Pn.run (t' := (37, [(0, (1, 1))], [(0, 42), (0, w6 1 5)], w6)) kAlk 1 rfl ?_
        refine e_Pn.if2 kAlk rfl (fun h13 => ?_) (fun h13 => ?_)
        · show e_Pn 20 elay kcode eI n d 143 (44, [(0, (1, 1))], [], w6) _
          refine e_Pn.run (t' := (45, [(0, (1, 1))], [(0, 0)], w6)) kAlk 1 rfl ?_
          exact e_Pn.ret4 rfl ⟨⟨_, rfl⟩, q8⟩
        · show e_Pn 20 elay kcode eI n d 143 (40, [(0, (1, 1))], [], w6) _
          refine e_Pn.run (t' := (45, [(0, (1, 1))], [(0, 1)], w6)) kAlk 2 rfl ?_
          exact e_Pn.ret4 rfl ⟨⟨_, rfl⟩, q8⟩
theorem u_146 {n d : Nat} {w : eW} {cd : Int} (hR : kRw cd w) {x : Int} : e_Pn 20 elay kcode eI n d 146 (0, [(0, (1, 1)), (1, (0, x))], [], w) (fun r w' => r = [] ∧ kq cd w w') := by
  have hn := hR.1.n
  refine e_Pn.run (t' := (1, [(0, (1, 1)), (1, (0, x))], [(1, 1)], w)) kAlk 1 rfl ?_
  refine e_Pn.callA rfl (fun n9 d9 => u_123 (kq.r.rf hR)) (fun r2 w3 h1 => ?_)
  obtain ⟨rfl, h1⟩ := h1
  have q4 := kq.r.tr h1
  show e_Pn 20 elay kcode eI n d 146 (4, [(0, (1, 1)), (1, (0, x))], [], w3) _
  refine e_Pn.run (t' := (7, [(0, (1, 1)), (1, (0, x))], [(0, 19), (1, 1)], w3)) kAlk 2 rfl ?_
  refine e_Pn.callA rfl (fun n9 d9 => u_129 (q4.rf hR)) (fun r6 w7 h5 => ?_)
  obtain ⟨rfl, h5⟩ := h5
  have q8 := q4.tr h5
  show e_Pn 20 elay kcode eI n d 146 (10, [(0, (1, 1)), (1, (0, x))], [], w7) _
  refine e_Pn.run (t' := (11, [(0, (1, 1)), (1, (0, x))], [(1, 1)], w7)) kAlk 1 rfl ?_
  refine e_Pn.getr (z := cd) kAlk rfl rfl (q8.rf hR).2.1 (by omega) ?_
  refine e_Pn.run (t' := (16, [(0, (1, 1)), (1, (0, x))], [(0, 0), (0, x), (1, cd)], w7)) kAlk 2 rfl ?_
  refine e_Pn.callA rfl (fun n9 d9 => u_21 (q8.rf hR)) (fun r10 w11 h9 => ?_)
  obtain ⟨⟨z12, rfl⟩, h9⟩ := h9
  have q13 := q8.tr h9
  show e_Pn 20 elay kcode eI n d 146 (19, [(0, (1, 1)), (1, (0, x))], [(0, z12)], w11) _
  refine e_Pn.run (t' := (20, [(0, (1, 1)), (1, (0, x))], [], w11)) kAlk 1 rfl ?_
  exact e_Pn.ret0 rfl ⟨rfl, q13⟩
theorem u_147 {n d : Nat} {w : eW} {cd : Int} (hR : kRw cd w) {x : Int} : e_Pn 20 elay kcode eI n d 147 (0, [(0, (1, 1)), (1, (0, x))], [], w) (fun r w' => r = [] ∧ kq cd w w') := by
  have hn := hR.1.n
  refine e_Pn.run (t' := (1, [(0, (1, 1)), (1, (0, x))], [(1, 1)], w)) kAlk 1 rfl ?_
  refine e_Pn.callA rfl (fun n9 d9 => u_123 (kq.r.rf hR)) (fun r2 w3 h1 => ?_)
  obtain ⟨rfl, h1⟩ := h1
  have q4 := kq.r.tr h1
  show e_Pn 20 elay kcode eI n d 147 (4, [(0, (1, 1)), (1, (0, x))], [], w3) _
  refine e_Pn.run (t' := (5, [(0, (1, 1)), (1, (0, x))], [(1, 1)], w3)) kAlk 1 rfl ?_
  refine e_Pn.getr (z := cd) kAlk rfl rfl (q4.rf hR).2.1 (by omega) ?_
  refine e_Pn.getf (z := w3 cd 0) kAlk rfl rfl rfl (fun b5 => ?_)
  refine e_Pn.run (t' := (13, [(2, (0, w3 cd 0)), (0, (1, 1)), (1, (0, x))], [(1, 1)], w3)) kAlk 2 rfl ?_
  refine e_Pn.callA rfl (fun n9 d9 => kE_all n9 158 (by decide) d9 _ _ (q4.rf hR)) (fun r7 w8 h6 => ?_)
  obtain ⟨rfl, h6⟩ := h6
  have q9 := q4.tr h6
  show e_Pn 20 elay kcode eI n d 147 (16, [(2, (0, w3 cd 0)), (0, (1, 1)), (1, (0, x))], [], w8) _
  refine e_Pn.run (t' := (19, [(2, (0, w3 cd 0)), (0, (1, 1)), (1, (0, x))], [(0, 19), (1, 1)], w8)) kAlk 2 rfl ?_
  refine e_Pn.callA rfl (fun n9 d9 => u_129 (q9.rf hR)) (fun r11 w12 h10 => ?_)
  obtain ⟨rfl, h10⟩ := h10
  have q13 := q9.tr h10
  show e_Pn 20 elay kcode eI n d 147 (22, [(2, (0, w3 cd 0)), (0, (1, 1)), (1, (0, x))], [], w12) _
  refine e_Pn.run (t' := (23, [(2, (0, w3 cd 0)), (0, (1, 1)), (1, (0, x))], [(1, 1)], w12)) kAlk 1 rfl ?_
  refine e_Pn.getr (z := cd) kAlk rfl rfl (q13.rf hR).2.1 (by omega) ?_
  refine e_Pn.run (t' := (28, [(2, (0, w3 cd 0)), (0, (1, 1)), (1, (0, x))], [(0, w3 cd 0), (0, x), (1, cd)], w12)) kAlk 2 rfl ?_
  refine e_Pn.callA rfl (fun n9 d9 => u_21 (q13.rf hR)) (fun r15 w16 h14 => ?_)
  obtain ⟨⟨z17, rfl⟩, h14⟩ := h14
  have q18 := q13.tr h14
  show e_Pn 20 elay kcode eI n d 147 (31, [(2, (0, w3 cd 0)), (0, (1, 1)), (1, (0, x))], [(0, z17)], w16) _
  refine e_Pn.run (t' := (32, [(2, (0, w3 cd 0)), (0, (1, 1)), (1, (0, x))], [], w16)) kAlk 1 rfl ?_
  exact e_Pn.ret0 rfl ⟨rfl, q18⟩
theorem u_148 {n d : Nat} {w : eW} {cd : Int} (hR : kRw cd w) {x : Int} : e_Pn 20 elay kcode eI n d 148 (0, [(0, (1, 1)), (1, (0, x))], [], w) (fun r w' => r = [] ∧ kq cd w w') := by
  have hn := hR.1.n
  refine e_Pn.run (t' := (1, [(0, (1, 1)), (1, (0, x))], [(1, 1)], w)) kAlk 1 rfl ?_
  refine e_Pn.callA rfl (fun n9 d9 => u_123 (kq.r.rf hR)) (fun r2 w3 h1 => ?_)
  obtain ⟨rfl, h1⟩ := h1
  have q4 := kq.r.tr h1
  show e_Pn 20 elay kcode eI n d 148 (4, [(0, (1, 1)), (1, (0, x))], [], w3) _
  refine e_Pn.run (t' := (5, [(0, (1, 1)), (1, (0, x))], [(1, 1)], w3)) kAlk 1 rfl ?_
  refine e_Pn.getf (z := w3 1 6) kAlk rfl rfl rfl (fun b5 => ?_)
  refine e_Pn.run (t' := (11, [(2, (0, w3 1 6)), (0, (1, 1)), (1, (0, x))], [(0, 1), (1, 1)], w3)) kAlk 3 rfl ?_
  refine e_Pn.callA rfl (fun n9 d9 => u_129 (q4.rf hR)) (fun r7 w8 h6 => ?_)
  obtain ⟨rfl, h6⟩ := h6
  have q9 := q4.tr h6
  show e_Pn 20 elay kcode eI n d 148 (14, [(2, (0, w3 1 6)), (0, (1, 1)), (1, (0, x))], [], w8) _
  refine e_Pn.run (t' := (17, [(2, (0, w3 1 6)), (0, (1, 1)), (1, (0, x))], [(0, 19), (1, 1)], w8)) kAlk 2 rfl ?_
  refine e_Pn.callA rfl (fun n9 d9 => u_129 (q9.rf hR)) (fun r11 w12 h10 => ?_)
  obtain ⟨rfl, h10⟩ := h10
  have q13 := q9.tr h10
  show e_Pn 20 elay kcode eI n d 148 (20, [(2, (0, w3 1 6)), (0, (1, 1)), (1, (0, x))], [], w12) _
  refine e_Pn.run (t' := (21, [(2, (0, w3 1 6)), (0, (1, 1)), (1, (0, x))], [(1, 1)], w12)) kAlk 1 rfl ?_
  refine e_Pn.getr (z := cd) kAlk rfl rfl (q13.rf hR).2.1 (by omega) ?_
  refine e_Pn.run (t' := (26, [(2, (0, w3 1 6)), (0, (1, 1)), (1, (0, x))], [(0, w3 1 6), (0, x), (1, cd)], w12)) kAlk 2 rfl ?_
  refine e_Pn.callA rfl (fun n9 d9 => u_21 (q13.rf hR)) (fun r15 w16 h14 => ?_)
  obtain ⟨⟨z17, rfl⟩, h14⟩ := h14
  have q18 := q13.tr h14
  show e_Pn 20 elay kcode eI n d 148 (29, [(2, (0, w3 1 6)), (0, (1, 1)), (1, (0, x))], [(0, z17)], w16) _
  refine e_Pn.run (t' := (30, [(2, (0, w3 1 6)), (0, (1, 1)), (1, (0, x))], [], w16)) kAlk 1 rfl ?_
  exact e_Pn.ret0 rfl ⟨rfl, q18⟩
theorem u_149 {n d : Nat} {w : eW} {cd : Int} (hR : kRw cd w) : e_Pn 20 elay kcode eI n d 149 (0, [(0, (1, 1))], [], w) (fun r w' => r = [] ∧ kq cd w w') := by
  have hn := hR.1.n
  refine e_Pn.run (t' := (1, [(0, (1, 1))], [(1, 1)], w)) kAlk 1 rfl ?_
  refine e_Pn.callA rfl (fun n9 d9 => u_137 (kq.r.rf hR)) (fun r2 w3 h1 => ?_)
  obtain ⟨⟨z4, rfl⟩, h1⟩ := h1
  have q5 := kq.r.tr h1
  show e_Pn 20 elay kcode eI n d 149 (4, [(0, (1, 1))], [(0, z4)], w3) _
  refine e_Pn.run (t' := (6, [(1, (0, z4)), (0, (1, 1))], [(1, 1)], w3)) kAlk 2 rfl ?_
  refine e_Pn.callA rfl (fun n9 d9 => u_123 (q5.rf hR)) (fun r7 w8 h6 => ?_)
  obtain ⟨rfl, h6⟩ := h6
  have q9 := q5.tr h6
  show e_Pn 20 elay kcode eI n d 149 (9, [(1, (0, z4)), (0, (1, 1))], [], w8) _
  refine e_Pn.run (t' := (12, [(1, (0, z4)), (0, (1, 1))], [(0, 13), (1, 1)], w8)) kAlk 2 rfl ?_
  refine e_Pn.callA rfl (fun n9 d9 => u_129 (q9.rf hR)) (fun r11 w12 h10 => ?_)
  obtain ⟨rfl, h10⟩ := h10
  have q13 := q9.tr h10
  show e_Pn 20 elay kcode eI n d 149 (15, [(1, (0, z4)), (0, (1, 1))], [], w12) _
  refine e_Pn.run (t' := (16, [(1, (0, z4)), (0, (1, 1))], [(1, 1)], w12)) kAlk 1 rfl ?_
  refine e_Pn.callA rfl (fun n9 d9 => kE_all n9 158 (by decide) d9 _ _ (q13.rf hR)) (fun r15 w16 h14 => ?_)
  obtain ⟨rfl, h14⟩ := h14
  have q17 := q13.tr h14
  show e_Pn 20 elay kcode eI n d 149 (19, [(1, (0, z4)), (0, (1, 1))], [], w16) _
  refine e_Pn.run (t' := (22, [(1, (0, z4)), (0, (1, 1))], [(0, 19), (1, 1)], w16)) kAlk 2 rfl ?_
  refine e_Pn.callA rfl (fun n9 d9 => u_129 (q17.rf hR)) (fun r19 w20 h18 => ?_)
  obtain ⟨rfl, h18⟩ := h18
  have q21 := q17.tr h18
  show e_Pn 20 elay kcode eI n d 149 (25, [(1, (0, z4)), (0, (1, 1))], [], w20) _
  refine e_Pn.run (t' := (26, [(1, (0, z4)), (0, (1, 1))], [(1, 1)], w20)) kAlk 1 rfl ?_
  refine e_Pn.getr (z := cd) kAlk rfl rfl (q21.rf hR).2.1 (by omega) ?_
  refine e_Pn.run (t' := (32, [(1, (0, z4)), (0, (1, 1))], [(0, z4), (0, 25), (1, cd)], w20)) kAlk 2 rfl ?_
  refine e_Pn.callA rfl (fun n9 d9 => u_21 (q21.rf hR)) (fun r23 w24 h22 => ?_)
  obtain ⟨⟨z25, rfl⟩, h22⟩ := h22
  have q26 := q21.tr h22
  show e_Pn 20 elay kcode eI n d 149 (35, [(1, (0, z4)), (0, (1, 1))], [(0, z25)], w24) _
  refine e_Pn.run (t' := (36, [(1, (0, z4)), (0, (1, 1))], [], w24)) kAlk 1 rfl ?_
  exact e_Pn.ret0 rfl ⟨rfl, q26⟩
theorem u_150 {n d : Nat} {w : eW} {cd : Int} (hR : kRw cd w) : e_Pn 20 elay kcode eI n d 150 (0, [(0, (1, 1))], [], w) (fun r w' => r = [] ∧ kq cd w w') := by
  have hn := hR.1.n
  refine e_Pn.run (t' := (1, [(0, (1, 1))], [(1, 1)], w)) kAlk 1 rfl ?_
  refine e_Pn.callA rfl (fun n9 d9 => u_123 (kq.r.rf hR)) (fun r2 w3 h1 => ?_)
  obtain ⟨rfl, h1⟩ := h1
  have q4 := kq.r.tr h1
  show e_Pn 20 elay kcode eI n d 150 (4, [(0, (1, 1))], [], w3) _
  refine e_Pn.run (t' := (5, [(0, (1, 1))], [(1, 1)], w3)) kAlk 1 rfl ?_
  refine e_Pn.callA rfl (fun n9 d9 => kE_all n9 158 (by decide) d9 _ _ (q4.rf hR)) (fun r6 w7 h5 => ?_)
  obtain ⟨rfl, h5⟩ := h5
  have q8 := q4.tr h5
  show e_Pn 20 elay kcode eI n d 150 (8, [(0, (1, 1))], [], w7) _
  refine e_Pn.run (t' := (9, [(0, (1, 1))], [(1, 1)], w7)) kAlk 1 rfl ?_
  refine e_Pn.getr (z := cd) kAlk rfl rfl (q8.rf hR).2.1 (by omega) ?_
  refine e_Pn.run (t' := (15, [(0, (1, 1))], [(0, 0), (0, 26), (1, cd)], w7)) kAlk 2 rfl ?_
  refine e_Pn.callA rfl (fun n9 d9 => u_21 (q8.rf hR)) (fun r10 w11 h9 => ?_)
  obtain ⟨⟨z12, rfl⟩, h9⟩ := h9
  have q13 := q8.tr h9
  show e_Pn 20 elay kcode eI n d 150 (18, [(0, (1, 1))], [(0, z12)], w11) _
  refine e_Pn.run (t' := (21, [(1, (0, 1)), (0, (1, 1))], [], w11)) kAlk 3 rfl ?_
  have hL14 : ∀ nn16 : Nat, nn16 ≤ n → ∀ (tl17 : eL) (y20 : Int) (w18 : eW), kq cd w w18 → e_Pn 20 elay kcode eI nn16 d 150 (21, (0, (1, 1)) :: (1, (0, y20)) :: tl17, [], w18) (fun r w' => r = [] ∧ kq cd w w') := by
    intro nn16
    induction nn16 with
    | zero => intro _ tl17 y20 w18 _; exact e_Pn.zero
    | succ nn16 ih15 =>
      intro hnnn16 tl17 y20 w18 q19
      refine e_Pn.runS (t' := (25, (0, (1, 1)) :: (1, (0, y20)) :: tl17, [(0, 4000), (0, y20)], w18)) kAlk 1 rfl ?_
      refine e_Pn.if2 kAlk rfl (fun h21 => ?_) (fun h21 => ?_)
      · show e_Pn 20 elay kcode eI nn16 d 150 (62, (0, (1, 1)) :: (1, (0, y20)) :: tl17, [], w18) _
        refine e_Pn.run (t' := (65, (0, (1, 1)) :: (1, (0, y20)) :: tl17, [(0, 19), (1, 1)], w18)) kAlk 2 rfl ?_
        refine e_Pn.callA rfl (fun n9 d9 => u_129 (q19.rf hR)) (fun r23 w24 h22 => ?_)
        obtain ⟨rfl, h22⟩ := h22
        have q25 := q19.tr h22
        show e_Pn 20 elay kcode eI nn16 d 150 (68, (0, (1, 1)) :: (1, (0, y20)) :: tl17, [], w24) _
        refine e_Pn.run (t' := (69, (0, (1, 1)) :: (1, (0, y20)) :: tl17, [(1, 1)], w24)) kAlk 1 rfl ?_
        refine e_Pn.getr (z := cd) kAlk rfl rfl (q25.rf hR).2.1 (by omega) ?_
        refine e_Pn.run (t' := (75, (0, (1, 1)) :: (1, (0, y20)) :: tl17, [(0, y20), (0, 27), (1, cd)], w24)) kAlk 2 rfl ?_
        refine e_Pn.callA rfl (fun n9 d9 => u_21 (q25.rf hR)) (fun r27 w28 h26 => ?_)
        obtain ⟨⟨z29, rfl⟩, h26⟩ := h26
        have q30 := q25.tr h26
        show e_Pn 20 elay kcode eI nn16 d 150 (78, (0, (1, 1)) :: (1, (0, y20)) :: tl17, [(0, z29)], w28) _
        refine e_Pn.run (t' := (79, (0, (1, 1)) :: (1, (0, y20)) :: tl17, [], w28)) kAlk 1 rfl ?_
        exact e_Pn.ret0 rfl ⟨rfl, q30⟩
      · show e_Pn 20 elay kcode eI nn16 d 150 (28, (0, (1, 1)) :: (1, (0, y20)) :: tl17, [], w18) _
        refine e_Pn.run (t' := (29, (0, (1, 1)) :: (1, (0, y20)) :: tl17, [(1, 1)], w18)) kAlk 1 rfl ?_
        refine e_Pn.getf (z := w18 1 5) kAlk rfl rfl rfl (fun b31 => ?_)
        refine e_Pn.run (t' := (34, (0, (1, 1)) :: (1, (0, y20)) :: tl17, [(0, 18), (0, w18 1 5)], w18)) kAlk 1 rfl ?_
        refine e_Pn.if2 kAlk rfl (fun h32 => ?_) (fun h32 => ?_)
        · show e_Pn 20 elay kcode eI nn16 d 150 (62, (0, (1, 1)) :: (1, (0, y20)) :: tl17, [], w18) _
          refine e_Pn.run (t' := (65, (0, (1, 1)) :: (1, (0, y20)) :: tl17, [(0, 19), (1, 1)], w18)) kAlk 2 rfl ?_
          refine e_Pn.callA rfl (fun n9 d9 => u_129 (q19.rf hR)) (fun r34 w35 h33 => ?_)
          obtain ⟨rfl, h33⟩ := h33
          have q36 := q19.tr h33
          show e_Pn 20 elay kcode eI nn16 d 150 (68, (0, (1, 1)) :: (1, (0, y20)) :: tl17, [], w35) _
          refine e_Pn.run (t' := (69, (0, (1, 1)) :: (1, (0, y20)) :: tl17, [(1, 1)], w35)) kAlk 1 rfl ?_
          refine e_Pn.getr (z := cd) kAlk rfl rfl (q36.rf hR).2.1 (by omega) ?_
          refine e_Pn.run (t' := (75, (0, (1, 1)) :: (1, (0, y20)) :: tl17, [(0, y20), (0, 27), (1, cd)], w35)) kAlk 2 rfl ?_
          refine e_Pn.callA rfl (fun n9 d9 => u_21 (q36.rf hR)) (fun r38 w39 h37 => ?_)
          obtain ⟨⟨z40, rfl⟩, h37⟩ := h37
          have q41 := q36.tr h37
          show e_Pn 20 elay kcode eI nn16 d 150 (78, (0, (1, 1)) :: (1, (0, y20)) :: tl17, [(0, z40)], w39) _
          refine e_Pn.run (t' := (79, (0, (1, 1)) :: (1, (0, y20)) :: tl17, [], w39)) kAlk 1 rfl ?_
          exact e_Pn.ret0 rfl ⟨rfl, q41⟩
        · show e_Pn 20 elay kcode eI nn16 d 150 (37, (0, (1, 1)) :: (1, (0, y20)) :: tl17, [], w18) _
          refine e_Pn.run (t' := (38, (0, (1, 1)) :: (1, (0, y20)) :: tl17, [(1, 1)], w18)) kAlk 1 rfl ?_
          refine e_Pn.callA rfl (fun n9 d9 => u_123 (q19.rf hR)) (fun r43 w44 h42 => ?_)
          obtain ⟨rfl, h42⟩ := h42
          have q45 := q19.tr h42
          show e_Pn 20 elay kcode eI nn16 d 150 (41, (0, (1, 1)) :: (1, (0, y20)) :: tl17, [], w44) _
          refine e_Pn.run (t' := (42, (0, (1, 1)) :: (1, (0, y20)) :: tl17, [(1, 1)], w44)) kAlk 1 rfl ?_
          refine e_Pn.callA rfl (fun n9 d9 => kE_all n9 158 (by decide) d9 _ _ (q45.rf hR)) (fun r47 w48 h46 => ?_)
          obtain ⟨rfl, h46⟩ := h46
          have q49 := q45.tr h46
          show e_Pn 20 elay kcode eI nn16 d 150 (45, (0, (1, 1)) :: (1, (0, y20)) :: tl17, [], w48) _
          refine e_Pn.run (t' := (46, (0, (1, 1)) :: (1, (0, y20)) :: tl17, [(1, 1)], w48)) kAlk 1 rfl ?_
          refine e_Pn.getr (z := cd) kAlk rfl rfl (q49.rf hR).2.1 (by omega) ?_
          refine e_Pn.run (t' := (52, (0, (1, 1)) :: (1, (0, y20)) :: tl17, [(0, y20), (0, 26), (1, cd)], w48)) kAlk 2 rfl ?_
          refine e_Pn.callA rfl (fun n9 d9 => u_21 (q49.rf hR)) (fun r51 w52 h50 => ?_)
          obtain ⟨⟨z53, rfl⟩, h50⟩ := h50
          have q54 := q49.tr h50
          show e_Pn 20 elay kcode eI nn16 d 150 (55, (0, (1, 1)) :: (1, (0, y20)) :: tl17, [(0, z53)], w52) _
          refine e_Pn.run (t' := (56, (0, (1, 1)) :: (1, (0, y20)) :: tl17, [], w52)) kAlk 1 rfl ?_
          refine e_Pn.incU kAlk rfl rfl (fun z55 => ?_)
          show e_Pn 20 elay kcode eI nn16 d 150 (59, (1, (0, z55)) :: (0, (1, 1)) :: List.filter (e_flt 0 1) tl17, [], w52) _
          refine e_Pn.run (t' := (21, (1, (0, z55)) :: (0, (1, 1)) :: List.filter (e_flt 0 1) tl17, [], w52)) kAlk 1 rfl ?_
          exact e_Pn.ord kAlk [0, 1] rfl rfl ((ih15 (by omega) _ z55 w52 q54).le (by omega))
  exact e_Pn.ord kAlk [0, 1] rfl rfl (hL14 n (Nat.le_refl _) _ 1 w11 q13)
theorem u_151 {n d : Nat} {w : eW} {cd : Int} (hR : kRw cd w) : e_Pn 20 elay kcode eI n d 151 (0, [(0, (1, 1))], [], w) (fun r w' => r = [] ∧ kq cd w w') := by
  have hn := hR.1.n
  refine e_Pn.run (t' := (1, [(0, (1, 1))], [(1, 1)], w)) kAlk 1 rfl ?_
  refine e_Pn.callA rfl (fun n9 d9 => u_123 (kq.r.rf hR)) (fun r2 w3 h1 => ?_)
  obtain ⟨rfl, h1⟩ := h1
  have q4 := kq.r.tr h1
  show e_Pn 20 elay kcode eI n d 151 (4, [(0, (1, 1))], [], w3) _
  refine e_Pn.run (t' := (5, [(0, (1, 1))], [(1, 1)], w3)) kAlk 1 rfl ?_
  refine e_Pn.callA rfl (fun n9 d9 => kE_all n9 158 (by decide) d9 _ _ (q4.rf hR)) (fun r6 w7 h5 => ?_)
  obtain ⟨rfl, h5⟩ := h5
  have q8 := q4.tr h5
  show e_Pn 20 elay kcode eI n d 151 (8, [(0, (1, 1))], [], w7) _
  refine e_Pn.run (t' := (11, [(0, (1, 1))], [(0, 18), (1, 1)], w7)) kAlk 2 rfl ?_
  refine e_Pn.callA rfl (fun n9 d9 => u_129 (q8.rf hR)) (fun r10 w11 h9 => ?_)
  obtain ⟨rfl, h9⟩ := h9
  have q12 := q8.tr h9
  show e_Pn 20 elay kcode eI n d 151 (14, [(0, (1, 1))], [], w11) _
  refine e_Pn.run (t' := (15, [(0, (1, 1))], [(1, 1)], w11)) kAlk 1 rfl ?_
  refine e_Pn.callA rfl (fun n9 d9 => kE_all n9 158 (by decide) d9 _ _ (q12.rf hR)) (fun r14 w15 h13 => ?_)
  obtain ⟨rfl, h13⟩ := h13
  have q16 := q12.tr h13
  show e_Pn 20 elay kcode eI n d 151 (18, [(0, (1, 1))], [], w15) _
  refine e_Pn.run (t' := (21, [(0, (1, 1))], [(0, 19), (1, 1)], w15)) kAlk 2 rfl ?_
  refine e_Pn.callA rfl (fun n9 d9 => u_129 (q16.rf hR)) (fun r18 w19 h17 => ?_)
  obtain ⟨rfl, h17⟩ := h17
  have q20 := q16.tr h17
  show e_Pn 20 elay kcode eI n d 151 (24, [(0, (1, 1))], [], w19) _
  refine e_Pn.run (t' := (25, [(0, (1, 1))], [(1, 1)], w19)) kAlk 1 rfl ?_
  refine e_Pn.getr (z := cd) kAlk rfl rfl (q20.rf hR).2.1 (by omega) ?_
  refine e_Pn.run (t' := (31, [(0, (1, 1))], [(0, 0), (0, 30), (1, cd)], w19)) kAlk 2 rfl ?_
  refine e_Pn.callA rfl (fun n9 d9 => u_21 (q20.rf hR)) (fun r22 w23 h21 => ?_)
  obtain ⟨⟨z24, rfl⟩, h21⟩ := h21
  have q25 := q20.tr h21
  show e_Pn 20 elay kcode eI n d 151 (34, [(0, (1, 1))], [(0, z24)], w23) _
  refine e_Pn.run (t' := (35, [(0, (1, 1))], [], w23)) kAlk 1 rfl ?_
  exact e_Pn.ret0 rfl ⟨rfl, q25⟩
theorem u_152 {n d : Nat} {w : eW} {cd : Int} (hR : kRw cd w) : e_Pn 20 elay kcode eI n d 152 (0, [(0, (1, 1))], [], w) (fun r w' => r = [] ∧ kq cd w w') := by
  have hn := hR.1.n
  refine e_Pn.run (t' := (1, [(0, (1, 1))], [(1, 1)], w)) kAlk 1 rfl ?_
  refine e_Pn.callA rfl (fun n9 d9 => u_123 (kq.r.rf hR)) (fun r2 w3 h1 => ?_)
  obtain ⟨rfl, h1⟩ := h1
  have q4 := kq.r.tr h1
  show e_Pn 20 elay kcode eI n d 152 (4, [(0, (1, 1))], [], w3) _
  refine e_Pn.run (t' := (5, [(0, (1, 1))], [(1, 1)], w3)) kAlk 1 rfl ?_
  refine e_Pn.callA rfl (fun n9 d9 => kE_all n9 158 (by decide) d9 _ _ (q4.rf hR)) (fun r6 w7 h5 => ?_)
  obtain ⟨rfl, h5⟩ := h5
  have q8 := q4.tr h5
  show e_Pn 20 elay kcode eI n d 152 (8, [(0, (1, 1))], [], w7) _
  refine e_Pn.run (t' := (11, [(0, (1, 1))], [(0, 18), (1, 1)], w7)) kAlk 2 rfl ?_
  refine e_Pn.callA rfl (fun n9 d9 => u_129 (q8.rf hR)) (fun r10 w11 h9 => ?_)
  obtain ⟨rfl, h9⟩ := h9
  have q12 := q8.tr h9
  show e_Pn 20 elay kcode eI n d 152 (14, [(0, (1, 1))], [], w11) _
  refine e_Pn.run (t' := (15, [(0, (1, 1))], [(1, 1)], w11)) kAlk 1 rfl ?_
  refine e_Pn.getf (z := w11 1 6) kAlk rfl rfl rfl (fun b13 => ?_)
  refine e_Pn.run (t' := (21, [(1, (0, w11 1 6)), (0, (1, 1))], [(0, 1), (1, 1)], w11)) kAlk 3 rfl ?_
  refine e_Pn.callA rfl (fun n9 d9 => u_129 (q12.rf hR)) (fun r15 w16 h14 => ?_)
  obtain ⟨rfl, h14⟩ := h14
  have q17 := q12.tr h14
  show e_Pn 20 elay kcode eI n d 152 (24, [(1, (0, w11 1 6)), (0, (1, 1))], [], w16) _
  refine e_Pn.run (t' := (27, [(1, (0, w11 1 6)), (0, (1, 1))], [(0, 19), (1, 1)], w16)) kAlk 2 rfl ?_
  refine e_Pn.callA rfl (fun n9 d9 => u_129 (q17.rf hR)) (fun r19 w20 h18 => ?_)
  obtain ⟨rfl, h18⟩ := h18
  have q21 := q17.tr h18
  show e_Pn 20 elay kcode eI n d 152 (30, [(1, (0, w11 1 6)), (0, (1, 1))], [], w20) _
  refine e_Pn.run (t' := (31, [(1, (0, w11 1 6)), (0, (1, 1))], [(1, 1)], w20)) kAlk 1 rfl ?_
  refine e_Pn.getr (z := cd) kAlk rfl rfl (q21.rf hR).2.1 (by omega) ?_
  refine e_Pn.run (t' := (37, [(1, (0, w11 1 6)), (0, (1, 1))], [(0, w11 1 6), (0, 39), (1, cd)], w20)) kAlk 2 rfl ?_
  refine e_Pn.callA rfl (fun n9 d9 => u_21 (q21.rf hR)) (fun r23 w24 h22 => ?_)
  obtain ⟨⟨z25, rfl⟩, h22⟩ := h22
  have q26 := q21.tr h22
  show e_Pn 20 elay kcode eI n d 152 (40, [(1, (0, w11 1 6)), (0, (1, 1))], [(0, z25)], w24) _
  refine e_Pn.run (t' := (41, [(1, (0, w11 1 6)), (0, (1, 1))], [], w24)) kAlk 1 rfl ?_
  exact e_Pn.ret0 rfl ⟨rfl, q26⟩
theorem u_153 {n d : Nat} {w : eW} {cd : Int} (hR : kRw cd w) : e_Pn 20 elay kcode eI n d 153 (0, [(0, (1, 1))], [], w) (fun r w' => r = [] ∧ kq cd w w') := by
  have hn := hR.1.n
  refine e_Pn.run (t' := (1, [(0, (1, 1))], [(1, 1)], w)) kAlk 1 rfl ?_
  refine e_Pn.getf (z := w 1 13) kAlk rfl rfl rfl (fun b1 => ?_)
  refine e_Pn.if1 kAlk rfl (fun h2 => ?_) (fun h2 => ?_)
  · show e_Pn 20 elay kcode eI n d 153 (17, [(0, (1, 1))], [], w) _
    refine e_Pn.run (t' := (18, [(0, (1, 1))], [(1, 1)], w)) kAlk 1 rfl ?_
    refine e_Pn.callA rfl (fun n9 d9 => u_123 (kq.r.rf hR)) (fun r4 w5 h3 => ?_)
    obtain ⟨rfl, h3⟩ := h3
    have q6 := kq.r.tr h3
    show e_Pn 20 elay kcode eI n d 153 (21, [(0, (1, 1))], [], w5) _
    refine e_Pn.run (t' := (24, [(0, (1, 1))], [(0, 19), (1, 1)], w5)) kAlk 2 rfl ?_
    refine e_Pn.callA rfl (fun n9 d9 => u_129 (q6.rf hR)) (fun r8 w9 h7 => ?_)
    obtain ⟨rfl, h7⟩ := h7
    have q10 := q6.tr h7
    show e_Pn 20 elay kcode eI n d 153 (27, [(0, (1, 1))], [], w9) _
    refine e_Pn.run (t' := (28, [(0, (1, 1))], [(1, 1)], w9)) kAlk 1 rfl ?_
    refine e_Pn.getr (z := cd) kAlk rfl rfl (q10.rf hR).2.1 (by omega) ?_
    refine e_Pn.run (t' := (34, [(0, (1, 1))], [(1, 1), (0, 44), (1, cd)], w9)) kAlk 2 rfl ?_
    refine e_Pn.getf (z := w9 1 13) kAlk rfl rfl rfl (fun b11 => ?_)
    refine e_Pn.run (t' := (38, [(0, (1, 1))], [(0, 0), (0, w9 1 13), (0, 44), (1, cd)], w9)) kAlk 1 rfl ?_
    refine e_Pn.m2U kAlk rfl (fun z12 => ?_)
    refine e_Pn.callA rfl (fun n9 d9 => u_21 (q10.rf hR)) (fun r14 w15 h13 => ?_)
    obtain ⟨⟨z16, rfl⟩, h13⟩ := h13
    have q17 := q10.tr h13
    show e_Pn 20 elay kcode eI n d 153 (44, [(0, (1, 1))], [(0, z16)], w15) _
    refine e_Pn.run (t' := (45, [(0, (1, 1))], [], w15)) kAlk 1 rfl ?_
    exact e_Pn.ret0 rfl ⟨rfl, q17⟩
  · show e_Pn 20 elay kcode eI n d 153 (7, [(0, (1, 1))], [], w) _
    refine e_Pn.run (t' := (11, [(0, (1, 1))], [(1, 1), (0, 6), (1, 1)], w)) kAlk 3 rfl ?_
    refine e_Pn.getf (z := w 1 6) kAlk rfl rfl rfl (fun b18 => ?_)
    refine e_Pn.callA rfl (fun n9 d9 => u_133 (kq.r.rf hR)) (fun r20 w21 h19 => ?_)
    obtain ⟨rfl, h19⟩ := h19
    have q22 := kq.r.tr h19
    show e_Pn 20 elay kcode eI n d 153 (17, [(0, (1, 1))], [], w21) _
    refine e_Pn.run (t' := (18, [(0, (1, 1))], [(1, 1)], w21)) kAlk 1 rfl ?_
    refine e_Pn.callA rfl (fun n9 d9 => u_123 (q22.rf hR)) (fun r24 w25 h23 => ?_)
    obtain ⟨rfl, h23⟩ := h23
    have q26 := q22.tr h23
    show e_Pn 20 elay kcode eI n d 153 (21, [(0, (1, 1))], [], w25) _
    refine e_Pn.run (t' := (24, [(0, (1, 1))], [(0, 19), (1, 1)], w25)) kAlk 2 rfl ?_
    refine e_Pn.callA rfl (fun n9 d9 => u_129 (q26.rf hR)) (fun r28 w29 h27 => ?_)
    obtain ⟨rfl, h27⟩ := h27
    have q30 := q26.tr h27
    show e_Pn 20 elay kcode eI n d 153 (27, [(0, (1, 1))], [], w29) _
    refine e_Pn.run (t' := (28, [(0, (1, 1))], [(1, 1)], w29)) kAlk 1 rfl ?_
    refine e_Pn.getr (z := cd) kAlk rfl rfl (q30.rf hR).2.1 (by omega) ?_
    refine e_Pn.run (t' := (34, [(0, (1, 1))], [(1, 1), (0, 44), (1, cd)], w29)) kAlk 2 rfl ?_
    refine e_Pn.getf (z := w29 1 13) kAlk rfl rfl rfl (fun b31 => ?_)
    refine e_Pn.run (t' := (38, [(0, (1, 1))], [(0, 0), (0, w29 1 13), (0, 44), (1, cd)], w29)) kAlk 1 rfl ?_
    refine e_Pn.m2U kAlk rfl (fun z32 => ?_)
    refine e_Pn.callA rfl (fun n9 d9 => u_21 (q30.rf hR)) (fun r34 w35 h33 => ?_)
    obtain ⟨⟨z36, rfl⟩, h33⟩ := h33
    have q37 := q30.tr h33
    show e_Pn 20 elay kcode eI n d 153 (44, [(0, (1, 1))], [(0, z36)], w35) _
    refine e_Pn.run (t' := (45, [(0, (1, 1))], [], w35)) kAlk 1 rfl ?_
    exact e_Pn.ret0 rfl ⟨rfl, q37⟩
def kS (k : Nat) : Prop := ∀ M, M ∈ [144, 145, 154, 155, 156] → kP M k
theorem u_157 {n d : Nat} {w : eW} {cd : Int} (hR : kRw cd w) {x : Int} (ihG : ∀ k, k < n → kS k) : e_Pn 20 elay kcode eI n d 157 (0, [(0, (1, 1)), (1, (0, x))], [], w) (fun r w' => r = [] ∧ kq cd w w') := by
  have hn := hR.1.n
  refine e_Pn.run (t' := (1, [(0, (1, 1)), (1, (0, x))], [(1, 1)], w)) kAlk 1 rfl ?_
  refine e_Pn.callA rfl (fun n9 d9 => u_123 (kq.r.rf hR)) (fun r2 w3 h1 => ?_)
  obtain ⟨rfl, h1⟩ := h1
  have q4 := kq.r.tr h1
  show e_Pn 20 elay kcode eI n d 157 (4, [(0, (1, 1)), (1, (0, x))], [], w3) _
  refine e_Pn.run (t' := (7, [(0, (1, 1)), (1, (0, x))], [(0, 20), (1, 1)], w3)) kAlk 2 rfl ?_
  refine e_Pn.callA rfl (fun n9 d9 => u_129 (q4.rf hR)) (fun r6 w7 h5 => ?_)
  obtain ⟨rfl, h5⟩ := h5
  have q8 := q4.tr h5
  show e_Pn 20 elay kcode eI n d 157 (10, [(0, (1, 1)), (1, (0, x))], [], w7) _
  refine e_Pn.run (t' := (11, [(0, (1, 1)), (1, (0, x))], [(1, 1)], w7)) kAlk 1 rfl ?_
  refine e_Pn.callB rfl (fun k9 hk9 d9 => ihG k9 (by omega) 144 (by decide) d9 _ _ (q8.rf hR)) (fun r10 w11 h9 => ?_)
  obtain ⟨rfl, h9⟩ := h9
  have q12 := q8.tr h9
  show e_Pn 20 elay kcode eI n d 157 (14, [(0, (1, 1)), (1, (0, x))], [], w11) _
  refine e_Pn.run (t' := (15, [(0, (1, 1)), (1, (0, x))], [(1, 1)], w11)) kAlk 1 rfl ?_
  refine e_Pn.getr (z := cd) kAlk rfl rfl (q12.rf hR).2.1 (by omega) ?_
  refine e_Pn.run (t' := (20, [(0, (1, 1)), (1, (0, x))], [(0, 0), (0, x), (1, cd)], w11)) kAlk 2 rfl ?_
  refine e_Pn.callA rfl (fun n9 d9 => u_21 (q12.rf hR)) (fun r14 w15 h13 => ?_)
  obtain ⟨⟨z16, rfl⟩, h13⟩ := h13
  have q17 := q12.tr h13
  show e_Pn 20 elay kcode eI n d 157 (23, [(0, (1, 1)), (1, (0, x))], [(0, z16)], w15) _
  refine e_Pn.run (t' := (24, [(0, (1, 1)), (1, (0, x))], [], w15)) kAlk 1 rfl ?_
  exact e_Pn.ret0 rfl ⟨rfl, q17⟩
set_option maxHeartbeats 4000000 in
theorem u_144 {n d : Nat} {w : eW} {cd : Int} (hR : kRw cd w) (ihG : ∀ k, k < n → kS k) : e_Pn 20 elay kcode eI n d 144 (0, [(0, (1, 1))], [], w) (fun r w' => r = [] ∧ kq cd w w') := by
  have hn := hR.1.n
  refine e_Pn.run (t' := (2, [(1, (0, 0)), (0, (1, 1))], [], w)) kAlk 2 rfl ?_
  have hL1 : ∀ nn3 : Nat, nn3 ≤ n → ∀ (tl4 : eL) (y7 : Int) (w5 : eW), kq cd w w5 → e_Pn 20 elay kcode eI nn3 d 144 (2, (0, (1, 1)) :: (1, (0, y7)) :: tl4, [], w5) (fun r w' => r = [] ∧ kq cd w w') := by
    intro nn3
    induction nn3 with
    | zero => intro _ tl4 y7 w5 _; exact e_Pn.zero
    | succ nn3 ih2 =>
      intro hnnn3 tl4 y7 w5 q6
      refine e_Pn.runS (t' := (6, (0, (1, 1)) :: (1, (0, y7)) :: tl4, [(0, 4000), (0, y7)], w5)) kAlk 1 rfl ?_
      refine e_Pn.if2 kAlk rfl (fun h8 => ?_) (fun h8 => ?_)
      · show e_Pn 20 elay kcode eI nn3 d 144 (26, (0, (1, 1)) :: (1, (0, y7)) :: tl4, [], w5) _
        exact e_Pn.ret0 rfl ⟨rfl, q6⟩
      · show e_Pn 20 elay kcode eI nn3 d 144 (9, (0, (1, 1)) :: (1, (0, y7)) :: tl4, [], w5) _
        refine e_Pn.run (t' := (10, (0, (1, 1)) :: (1, (0, y7)) :: tl4, [(1, 1)], w5)) kAlk 1 rfl ?_
        refine e_Pn.callA rfl (fun n9 d9 => u_143 (q6.rf hR)) (fun r10 w11 h9 => ?_)
        obtain ⟨⟨z12, rfl⟩, h9⟩ := h9
        have q13 := q6.tr h9
        show e_Pn 20 elay kcode eI nn3 d 144 (13, (0, (1, 1)) :: (1, (0, y7)) :: tl4, [(0, z12)], w11) _
        refine e_Pn.if1 kAlk rfl (fun h14 => ?_) (fun h14 => ?_)
        · show e_Pn 20 elay kcode eI nn3 d 144 (26, (0, (1, 1)) :: (1, (0, y7)) :: tl4, [], w11) _
          exact e_Pn.ret0 rfl ⟨rfl, q13⟩
        · show e_Pn 20 elay kcode eI nn3 d 144 (16, (0, (1, 1)) :: (1, (0, y7)) :: tl4, [], w11) _
          refine e_Pn.run (t' := (17, (0, (1, 1)) :: (1, (0, y7)) :: tl4, [(1, 1)], w11)) kAlk 1 rfl ?_
          refine e_Pn.callB rfl (fun k9 hk9 d9 => ihG k9 (by omega) 145 (by decide) d9 _ _ (q13.rf hR)) (fun r16 w17 h15 => ?_)
          obtain ⟨rfl, h15⟩ := h15
          have q18 := q13.tr h15
          show e_Pn 20 elay kcode eI nn3 d 144 (20, (0, (1, 1)) :: (1, (0, y7)) :: tl4, [], w17) _
          refine e_Pn.incU kAlk rfl rfl (fun z19 => ?_)
          show e_Pn 20 elay kcode eI nn3 d 144 (23, (1, (0, z19)) :: (0, (1, 1)) :: List.filter (e_flt 0 1) tl4, [], w17) _
          refine e_Pn.run (t' := (2, (1, (0, z19)) :: (0, (1, 1)) :: List.filter (e_flt 0 1) tl4, [], w17)) kAlk 1 rfl ?_
          exact e_Pn.ord kAlk [0, 1] rfl rfl ((ih2 (by omega) _ z19 w17 q18).le (by omega))
  exact e_Pn.ord kAlk [0, 1] rfl rfl (hL1 n (Nat.le_refl _) _ 0 w kq.r)
set_option maxHeartbeats 4000000 in
theorem u_145 {n d : Nat} {w : eW} {cd : Int} (hR : kRw cd w) (ihG : ∀ k, k < n → kS k) : e_Pn 20 elay kcode eI n d 145 (0, [(0, (1, 1))], [], w) (fun r w' => r = [] ∧ kq cd w w') := by
  have hn := hR.1.n
  refine e_Pn.run (t' := (1, [(0, (1, 1))], [(1, 1)], w)) kAlk 1 rfl ?_
  refine e_Pn.getf (z := w 1 5) kAlk rfl rfl rfl (fun b1 => ?_)
  refine e_Pn.run (t' := (6, [(0, (1, 1))], [(0, 41), (0, w 1 5)], w)) kAlk 1 rfl ?_
  refine e_Pn.if2 kAlk rfl (fun h2 => ?_) (fun h2 => ?_)
  · show e_Pn 20 elay kcode eI n d 145 (20, [(0, (1, 1))], [], w) _
    refine e_Pn.run (t' := (21, [(0, (1, 1))], [(1, 1)], w)) kAlk 1 rfl ?_
    refine e_Pn.getf (z := w 1 5) kAlk rfl rfl rfl (fun b3 => ?_)
    have a204 : e_Pn 20 elay kcode eI n d 145 (204, [(0, (1, 1))], [], w) (fun r w' => r = [] ∧ kq cd w w') := by
      refine e_Pn.run (t' := (205, [(0, (1, 1))], [(1, 1)], w)) kAlk 1 rfl ?_
      refine e_Pn.callA rfl (fun n9 d9 => u_149 (kq.r.rf hR)) (fun r5 w6 h4 => ?_)
      obtain ⟨rfl, h4⟩ := h4
      have q7 := kq.r.tr h4
      show e_Pn 20 elay kcode eI n d 145 (208, [(0, (1, 1))], [], w6) _
      refine e_Pn.run (t' := (356, [(0, (1, 1))], [], w6)) kAlk 1 rfl ?_
      exact e_Pn.ret0 rfl ⟨rfl, q7⟩
    have a211 : e_Pn 20 elay kcode eI n d 145 (211, [(0, (1, 1))], [], w) (fun r w' => r = [] ∧ kq cd w w') := by
      refine e_Pn.run (t' := (212, [(0, (1, 1))], [(1, 1)], w)) kAlk 1 rfl ?_
      refine e_Pn.callA rfl (fun n9 d9 => u_150 (kq.r.rf hR)) (fun r9 w10 h8 => ?_)
      obtain ⟨rfl, h8⟩ := h8
      have q11 := kq.r.tr h8
      show e_Pn 20 elay kcode eI n d 145 (215, [(0, (1, 1))], [], w10) _
      refine e_Pn.run (t' := (356, [(0, (1, 1))], [], w10)) kAlk 1 rfl ?_
      exact e_Pn.ret0 rfl ⟨rfl, q11⟩
    have a218 : e_Pn 20 elay kcode eI n d 145 (218, [(0, (1, 1))], [], w) (fun r w' => r = [] ∧ kq cd w w') := by
      refine e_Pn.run (t' := (221, [(0, (1, 1))], [(0, 28), (1, 1)], w)) kAlk 2 rfl ?_
      refine e_Pn.callA rfl (fun n9 d9 => u_147 (kq.r.rf hR)) (fun r13 w14 h12 => ?_)
      obtain ⟨rfl, h12⟩ := h12
      have q15 := kq.r.tr h12
      show e_Pn 20 elay kcode eI n d 145 (224, [(0, (1, 1))], [], w14) _
      refine e_Pn.run (t' := (356, [(0, (1, 1))], [], w14)) kAlk 1 rfl ?_
      exact e_Pn.ret0 rfl ⟨rfl, q15⟩
    have a227 : e_Pn 20 elay kcode eI n d 145 (227, [(0, (1, 1))], [], w) (fun r w' => r = [] ∧ kq cd w w') := by
      refine e_Pn.run (t' := (230, [(0, (1, 1))], [(0, 29), (1, 1)], w)) kAlk 2 rfl ?_
      refine e_Pn.callA rfl (fun n9 d9 => u_147 (kq.r.rf hR)) (fun r17 w18 h16 => ?_)
      obtain ⟨rfl, h16⟩ := h16
      have q19 := kq.r.tr h16
      show e_Pn 20 elay kcode eI n d 145 (233, [(0, (1, 1))], [], w18) _
      refine e_Pn.run (t' := (356, [(0, (1, 1))], [], w18)) kAlk 1 rfl ?_
      exact e_Pn.ret0 rfl ⟨rfl, q19⟩
    have a236 : e_Pn 20 elay kcode eI n d 145 (236, [(0, (1, 1))], [], w) (fun r w' => r = [] ∧ kq cd w w') := by
      refine e_Pn.run (t' := (237, [(0, (1, 1))], [(1, 1)], w)) kAlk 1 rfl ?_
      refine e_Pn.callA rfl (fun n9 d9 => u_151 (kq.r.rf hR)) (fun r21 w22 h20 => ?_)
      obtain ⟨rfl, h20⟩ := h20
      have q23 := kq.r.tr h20
      show e_Pn 20 elay kcode eI n d 145 (240, [(0, (1, 1))], [], w22) _
      refine e_Pn.run (t' := (356, [(0, (1, 1))], [], w22)) kAlk 1 rfl ?_
      exact e_Pn.ret0 rfl ⟨rfl, q23⟩
    have a243 : e_Pn 20 elay kcode eI n d 145 (243, [(0, (1, 1))], [], w) (fun r w' => r = [] ∧ kq cd w w') := by
      refine e_Pn.run (t' := (246, [(0, (1, 1))], [(0, 31), (1, 1)], w)) kAlk 2 rfl ?_
      refine e_Pn.callA rfl (fun n9 d9 => u_147 (kq.r.rf hR)) (fun r25 w26 h24 => ?_)
      obtain ⟨rfl, h24⟩ := h24
      have q27 := kq.r.tr h24
      show e_Pn 20 elay kcode eI n d 145 (249, [(0, (1, 1))], [], w26) _
      refine e_Pn.run (t' := (356, [(0, (1, 1))], [], w26)) kAlk 1 rfl ?_
      exact e_Pn.ret0 rfl ⟨rfl, q27⟩
    have a252 : e_Pn 20 elay kcode eI n d 145 (252, [(0, (1, 1))], [], w) (fun r w' => r = [] ∧ kq cd w w') := by
      refine e_Pn.run (t' := (255, [(0, (1, 1))], [(0, 32), (1, 1)], w)) kAlk 2 rfl ?_
      refine e_Pn.callA rfl (fun n9 d9 => u_147 (kq.r.rf hR)) (fun r29 w30 h28 => ?_)
      obtain ⟨rfl, h28⟩ := h28
      have q31 := kq.r.tr h28
      show e_Pn 20 elay kcode eI n d 145 (258, [(0, (1, 1))], [], w30) _
      refine e_Pn.run (t' := (356, [(0, (1, 1))], [], w30)) kAlk 1 rfl ?_
      exact e_Pn.ret0 rfl ⟨rfl, q31⟩
    have a261 : e_Pn 20 elay kcode eI n d 145 (261, [(0, (1, 1))], [], w) (fun r w' => r = [] ∧ kq cd w w') := by
      refine e_Pn.run (t' := (264, [(0, (1, 1))], [(0, 33), (1, 1)], w)) kAlk 2 rfl ?_
      refine e_Pn.callA rfl (fun n9 d9 => u_148 (kq.r.rf hR)) (fun r33 w34 h32 => ?_)
      obtain ⟨rfl, h32⟩ := h32
      have q35 := kq.r.tr h32
      show e_Pn 20 elay kcode eI n d 145 (267, [(0, (1, 1))], [], w34) _
      refine e_Pn.run (t' := (356, [(0, (1, 1))], [], w34)) kAlk 1 rfl ?_
      exact e_Pn.ret0 rfl ⟨rfl, q35⟩
    have a270 : e_Pn 20 elay kcode eI n d 145 (270, [(0, (1, 1))], [], w) (fun r w' => r = [] ∧ kq cd w w') := by
      refine e_Pn.run (t' := (273, [(0, (1, 1))], [(0, 34), (1, 1)], w)) kAlk 2 rfl ?_
      refine e_Pn.callA rfl (fun n9 d9 => u_148 (kq.r.rf hR)) (fun r37 w38 h36 => ?_)
      obtain ⟨rfl, h36⟩ := h36
      have q39 := kq.r.tr h36
      show e_Pn 20 elay kcode eI n d 145 (276, [(0, (1, 1))], [], w38) _
      refine e_Pn.run (t' := (356, [(0, (1, 1))], [], w38)) kAlk 1 rfl ?_
      exact e_Pn.ret0 rfl ⟨rfl, q39⟩
    have a279 : e_Pn 20 elay kcode eI n d 145 (279, [(0, (1, 1))], [], w) (fun r w' => r = [] ∧ kq cd w w') := by
      refine e_Pn.run (t' := (282, [(0, (1, 1))], [(0, 35), (1, 1)], w)) kAlk 2 rfl ?_
      refine e_Pn.callA rfl (fun n9 d9 => u_147 (kq.r.rf hR)) (fun r41 w42 h40 => ?_)
      obtain ⟨rfl, h40⟩ := h40
      have q43 := kq.r.tr h40
      show e_Pn 20 elay kcode eI n d 145 (285, [(0, (1, 1))], [], w42) _
      refine e_Pn.run (t' := (356, [(0, (1, 1))], [], w42)) kAlk 1 rfl ?_
      exact e_Pn.ret0 rfl ⟨rfl, q43⟩
    have a288 : e_Pn 20 elay kcode eI n d 145 (288, [(0, (1, 1))], [], w) (fun r w' => r = [] ∧ kq cd w w') := by
      refine e_Pn.run (t' := (291, [(0, (1, 1))], [(0, 36), (1, 1)], w)) kAlk 2 rfl ?_
      refine e_Pn.callA rfl (fun n9 d9 => u_147 (kq.r.rf hR)) (fun r45 w46 h44 => ?_)
      obtain ⟨rfl, h44⟩ := h44
      have q47 := kq.r.tr h44
      show e_Pn 20 elay kcode eI n d 145 (294, [(0, (1, 1))], [], w46) _
      refine e_Pn.run (t' := (356, [(0, (1, 1))], [], w46)) kAlk 1 rfl ?_
      exact e_Pn.ret0 rfl ⟨rfl, q47⟩
    have a297 : e_Pn 20 elay kcode eI n d 145 (297, [(0, (1, 1))], [], w) (fun r w' => r = [] ∧ kq cd w w') := by
      refine e_Pn.run (t' := (300, [(0, (1, 1))], [(0, 37), (1, 1)], w)) kAlk 2 rfl ?_
      refine e_Pn.callA rfl (fun n9 d9 => u_146 (kq.r.rf hR)) (fun r49 w50 h48 => ?_)
      obtain ⟨rfl, h48⟩ := h48
      have q51 := kq.r.tr h48
      show e_Pn 20 elay kcode eI n d 145 (303, [(0, (1, 1))], [], w50) _
      refine e_Pn.run (t' := (356, [(0, (1, 1))], [], w50)) kAlk 1 rfl ?_
      exact e_Pn.ret0 rfl ⟨rfl, q51⟩
    have a306 : e_Pn 20 elay kcode eI n d 145 (306, [(0, (1, 1))], [], w) (fun r w' => r = [] ∧ kq cd w w') := by
      refine e_Pn.run (t' := (309, [(0, (1, 1))], [(0, 38), (1, 1)], w)) kAlk 2 rfl ?_
      refine e_Pn.callA rfl (fun n9 d9 => u_146 (kq.r.rf hR)) (fun r53 w54 h52 => ?_)
      obtain ⟨rfl, h52⟩ := h52
      have q55 := kq.r.tr h52
      show e_Pn 20 elay kcode eI n d 145 (312, [(0, (1, 1))], [], w54) _
      refine e_Pn.run (t' := (356, [(0, (1, 1))], [], w54)) kAlk 1 rfl ?_
      exact e_Pn.ret0 rfl ⟨rfl, q55⟩
    have a315 : e_Pn 20 elay kcode eI n d 145 (315, [(0, (1, 1))], [], w) (fun r w' => r = [] ∧ kq cd w w') := by
      refine e_Pn.run (t' := (316, [(0, (1, 1))], [(1, 1)], w)) kAlk 1 rfl ?_
      refine e_Pn.callA rfl (fun n9 d9 => u_152 (kq.r.rf hR)) (fun r57 w58 h56 => ?_)
      obtain ⟨rfl, h56⟩ := h56
      have q59 := kq.r.tr h56
      show e_Pn 20 elay kcode eI n d 145 (319, [(0, (1, 1))], [], w58) _
      refine e_Pn.run (t' := (356, [(0, (1, 1))], [], w58)) kAlk 1 rfl ?_
      exact e_Pn.ret0 rfl ⟨rfl, q59⟩
    have a322 : e_Pn 20 elay kcode eI n d 145 (322, [(0, (1, 1))], [], w) (fun r w' => r = [] ∧ kq cd w w') := by
      refine e_Pn.run (t' := (325, [(0, (1, 1))], [(0, 42), (1, 1)], w)) kAlk 2 rfl ?_
      refine e_Pn.callA rfl (fun n9 d9 => u_146 (kq.r.rf hR)) (fun r61 w62 h60 => ?_)
      obtain ⟨rfl, h60⟩ := h60
      have q63 := kq.r.tr h60
      show e_Pn 20 elay kcode eI n d 145 (328, [(0, (1, 1))], [], w62) _
      refine e_Pn.run (t' := (356, [(0, (1, 1))], [], w62)) kAlk 1 rfl ?_
      exact e_Pn.ret0 rfl ⟨rfl, q63⟩
    have a331 : e_Pn 20 elay kcode eI n d 145 (331, [(0, (1, 1))], [], w) (fun r w' => r = [] ∧ kq cd w w') := by
      refine e_Pn.run (t' := (332, [(0, (1, 1))], [(1, 1)], w)) kAlk 1 rfl ?_
      refine e_Pn.callA rfl (fun n9 d9 => u_153 (kq.r.rf hR)) (fun r65 w66 h64 => ?_)
      obtain ⟨rfl, h64⟩ := h64
      have q67 := kq.r.tr h64
      show e_Pn 20 elay kcode eI n d 145 (335, [(0, (1, 1))], [], w66) _
      refine e_Pn.run (t' := (356, [(0, (1, 1))], [], w66)) kAlk 1 rfl ?_
      exact e_Pn.ret0 rfl ⟨rfl, q67⟩
    have a338 : e_Pn 20 elay kcode eI n d 145 (338, [(0, (1, 1))], [], w) (fun r w' => r = [] ∧ kq cd w w') := by
      refine e_Pn.run (t' := (339, [(0, (1, 1))], [(1, 1)], w)) kAlk 1 rfl ?_
      refine e_Pn.callB rfl (fun k9 hk9 d9 => ihG k9 (by omega) 154 (by decide) d9 _ _ (kq.r.rf hR)) (fun r69 w70 h68 => ?_)
      obtain ⟨rfl, h68⟩ := h68
      have q71 := kq.r.tr h68
      show e_Pn 20 elay kcode eI n d 145 (342, [(0, (1, 1))], [], w70) _
      refine e_Pn.run (t' := (356, [(0, (1, 1))], [], w70)) kAlk 1 rfl ?_
      exact e_Pn.ret0 rfl ⟨rfl, q71⟩
    have a345 : e_Pn 20 elay kcode eI n d 145 (345, [(0, (1, 1))], [], w) (fun r w' => r = [] ∧ kq cd w w') := by
      refine e_Pn.run (t' := (346, [(0, (1, 1))], [(1, 1)], w)) kAlk 1 rfl ?_
      refine e_Pn.callB rfl (fun k9 hk9 d9 => ihG k9 (by omega) 155 (by decide) d9 _ _ (kq.r.rf hR)) (fun r73 w74 h72 => ?_)
      obtain ⟨rfl, h72⟩ := h72
      have q75 := kq.r.tr h72
      show e_Pn 20 elay kcode eI n d 145 (349, [(0, (1, 1))], [], w74) _
      refine e_Pn.run (t' := (356, [(0, (1, 1))], [], w74)) kAlk 1 rfl ?_
      exact e_Pn.ret0 rfl ⟨rfl, q75⟩
    have a352 : e_Pn 20 elay kcode eI n d 145 (352, [(0, (1, 1))], [], w) (fun r w' => r = [] ∧ kq cd w w') := by
      refine e_Pn.run (t' := (353, [(0, (1, 1))], [(1, 1)], w)) kAlk 1 rfl ?_
      refine e_Pn.callB rfl (fun k9 hk9 d9 => ihG k9 (by omega) 156 (by decide) d9 _ _ (kq.r.rf hR)) (fun r77 w78 h76 => ?_)
      obtain ⟨rfl, h76⟩ := h76
      have q79 := kq.r.tr h76
      show e_Pn 20 elay kcode eI n d 145 (356, [(0, (1, 1))], [], w78) _
      exact e_Pn.ret0 rfl ⟨rfl, q79⟩
    exact e_Pn.swU kAlk rfl ⟨a352, a204, a352, a352, a352, a352, a352, a352, a352, a352, a352, a352, a352, a352, a352, a352, a352, a352, a352, a352, a352, a352, a352, a352, a211, a218, a227, a236, a243, a252, a261, a270, a279, a288, a297, a306, a315, a322, a331, a338, a352, a345, a352, trivial⟩
  · show e_Pn 20 elay kcode eI n d 145 (9, [(0, (1, 1))], [], w) _
    refine e_Pn.run (t' := (10, [(0, (1, 1))], [(1, 1)], w)) kAlk 1 rfl ?_
    refine e_Pn.getr (z := cd) kAlk rfl rfl (kq.r.rf hR).2.1 (by omega) ?_
    refine e_Pn.run (t' := (16, [(0, (1, 1))], [(0, 0), (0, 50), (1, cd)], w)) kAlk 2 rfl ?_
    refine e_Pn.callA rfl (fun n9 d9 => u_21 (kq.r.rf hR)) (fun r81 w82 h80 => ?_)
    obtain ⟨⟨z83, rfl⟩, h80⟩ := h80
    have q84 := kq.r.tr h80
    show e_Pn 20 elay kcode eI n d 145 (19, [(0, (1, 1))], [(0, z83)], w82) _
    refine e_Pn.run (t' := (21, [(0, (1, 1))], [(1, 1)], w82)) kAlk 2 rfl ?_
    refine e_Pn.getf (z := w82 1 5) kAlk rfl rfl rfl (fun b85 => ?_)
    have a204 : e_Pn 20 elay kcode eI n d 145 (204, [(0, (1, 1))], [], w82) (fun r w' => r = [] ∧ kq cd w w') := by
      refine e_Pn.run (t' := (205, [(0, (1, 1))], [(1, 1)], w82)) kAlk 1 rfl ?_
      refine e_Pn.callA rfl (fun n9 d9 => u_149 (q84.rf hR)) (fun r87 w88 h86 => ?_)
      obtain ⟨rfl, h86⟩ := h86
      have q89 := q84.tr h86
      show e_Pn 20 elay kcode eI n d 145 (208, [(0, (1, 1))], [], w88) _
      refine e_Pn.run (t' := (356, [(0, (1, 1))], [], w88)) kAlk 1 rfl ?_
      exact e_Pn.ret0 rfl ⟨rfl, q89⟩
    have a211 : e_Pn 20 elay kcode eI n d 145 (211, [(0, (1, 1))], [], w82) (fun r w' => r = [] ∧ kq cd w w') := by
      refine e_Pn.run (t' := (212, [(0, (1, 1))], [(1, 1)], w82)) kAlk 1 rfl ?_
      refine e_Pn.callA rfl (fun n9 d9 => u_150 (q84.rf hR)) (fun r91 w92 h90 => ?_)
      obtain ⟨rfl, h90⟩ := h90
      have q93 := q84.tr h90
      show e_Pn 20 elay kcode eI n d 145 (215, [(0, (1, 1))], [], w92) _
      refine e_Pn.run (t' := (356, [(0, (1, 1))], [], w92)) kAlk 1 rfl ?_
      exact e_Pn.ret0 rfl ⟨rfl, q93⟩
    have a218 : e_Pn 20 elay kcode eI n d 145 (218, [(0, (1, 1))], [], w82) (fun r w' => r = [] ∧ kq cd w w') := by
      refine e_Pn.run (t' := (221, [(0, (1, 1))], [(0, 28), (1, 1)], w82)) kAlk 2 rfl ?_
      refine e_Pn.callA rfl (fun n9 d9 => u_147 (q84.rf hR)) (fun r95 w96 h94 => ?_)
      obtain ⟨rfl, h94⟩ := h94
      have q97 := q84.tr h94
      show e_Pn 20 elay kcode eI n d 145 (224, [(0, (1, 1))], [], w96) _
      refine e_Pn.run (t' := (356, [(0, (1, 1))], [], w96)) kAlk 1 rfl ?_
      exact e_Pn.ret0 rfl ⟨rfl, q97⟩
    have a227 : e_Pn 20 elay kcode eI n d 145 (227, [(0, (1, 1))], [], w82) (fun r w' => r = [] ∧ kq cd w w') := by
      refine e_Pn.run (t' := (230, [(0, (1, 1))], [(0, 29), (1, 1)], w82)) kAlk 2 rfl ?_
      refine e_Pn.callA rfl (fun n9 d9 => u_147 (q84.rf hR)) (fun r99 w100 h98 => ?_)
      obtain ⟨rfl, h98⟩ := h98
      have q101 := q84.tr h98
      show e_Pn 20 elay kcode eI n d 145 (233, [(0, (1, 1))], [], w100) _
      refine e_Pn.run (t' := (356, [(0, (1, 1))], [], w100)) kAlk 1 rfl ?_
      exact e_Pn.ret0 rfl ⟨rfl, q101⟩
    have a236 : e_Pn 20 elay kcode eI n d 145 (236, [(0, (1, 1))], [], w82) (fun r w' => r = [] ∧ kq cd w w') := by
      refine e_Pn.run (t' := (237, [(0, (1, 1))], [(1, 1)], w82)) kAlk 1 rfl ?_
      refine e_Pn.callA rfl (fun n9 d9 => u_151 (q84.rf hR)) (fun r103 w104 h102 => ?_)
      obtain ⟨rfl, h102⟩ := h102
      have q105 := q84.tr h102
      show e_Pn 20 elay kcode eI n d 145 (240, [(0, (1, 1))], [], w104) _
      refine e_Pn.run (t' := (356, [(0, (1, 1))], [], w104)) kAlk 1 rfl ?_
      exact e_Pn.ret0 rfl ⟨rfl, q105⟩
    have a243 : e_Pn 20 elay kcode eI n d 145 (243, [(0, (1, 1))], [], w82) (fun r w' => r = [] ∧ kq cd w w') := by
      refine e_Pn.run (t' := (246, [(0, (1, 1))], [(0, 31), (1, 1)], w82)) kAlk 2 rfl ?_
      refine e_Pn.callA rfl (fun n9 d9 => u_147 (q84.rf hR)) (fun r107 w108 h106 => ?_)
      obtain ⟨rfl, h106⟩ := h106
      have q109 := q84.tr h106
      show e_Pn 20 elay kcode eI n d 145 (249, [(0, (1, 1))], [], w108) _
      refine e_Pn.run (t' := (356, [(0, (1, 1))], [], w108)) kAlk 1 rfl ?_
      exact e_Pn.ret0 rfl ⟨rfl, q109⟩
    have a252 : e_Pn 20 elay kcode eI n d 145 (252, [(0, (1, 1))], [], w82) (fun r w' => r = [] ∧ kq cd w w') := by
      refine e_Pn.run (t' := (255, [(0, (1, 1))], [(0, 32), (1, 1)], w82)) kAlk 2 rfl ?_
      refine e_Pn.callA rfl (fun n9 d9 => u_147 (q84.rf hR)) (fun r111 w112 h110 => ?_)
      obtain ⟨rfl, h110⟩ := h110
      have q113 := q84.tr h110
      show e_Pn 20 elay kcode eI n d 145 (258, [(0, (1, 1))], [], w112) _
      refine e_Pn.run (t' := (356, [(0, (1, 1))], [], w112)) kAlk 1 rfl ?_
      exact e_Pn.ret0 rfl ⟨rfl, q113⟩
    have a261 : e_Pn 20 elay kcode eI n d 145 (261, [(0, (1, 1))], [], w82) (fun r w' => r = [] ∧ kq cd w w') := by
      refine e_Pn.run (t' := (264, [(0, (1, 1))], [(0, 33), (1, 1)], w82)) kAlk 2 rfl ?_
      refine e_Pn.callA rfl (fun n9 d9 => u_148 (q84.rf hR)) (fun r115 w116 h114 => ?_)
      obtain ⟨rfl, h114⟩ := h114
      have q117 := q84.tr h114
      show e_Pn 20 elay kcode eI n d 145 (267, [(0, (1, 1))], [], w116) _
      refine e_Pn.run (t' := (356, [(0, (1, 1))], [], w116)) kAlk 1 rfl ?_
      exact e_Pn.ret0 rfl ⟨rfl, q117⟩
    have a270 : e_Pn 20 elay kcode eI n d 145 (270, [(0, (1, 1))], [], w82) (fun r w' => r = [] ∧ kq cd w w') := by
      refine e_Pn.run (t' := (273, [(0, (1, 1))], [(0, 34), (1, 1)], w82)) kAlk 2 rfl ?_
      refine e_Pn.callA rfl (fun n9 d9 => u_148 (q84.rf hR)) (fun r119 w120 h118 => ?_)
      obtain ⟨rfl, h118⟩ := h118
      have q121 := q84.tr h118
      show e_Pn 20 elay kcode eI n d 145 (276, [(0, (1, 1))], [], w120) _
      refine e_Pn.run (t' := (356, [(0, (1, 1))], [], w120)) kAlk 1 rfl ?_
      exact e_Pn.ret0 rfl ⟨rfl, q121⟩
    have a279 : e_Pn 20 elay kcode eI n d 145 (279, [(0, (1, 1))], [], w82) (fun r w' => r = [] ∧ kq cd w w') := by
      refine e_Pn.run (t' := (282, [(0, (1, 1))], [(0, 35), (1, 1)], w82)) kAlk 2 rfl ?_
      refine e_Pn.callA rfl (fun n9 d9 => u_147 (q84.rf hR)) (fun r123 w124 h122 => ?_)
      obtain ⟨rfl, h122⟩ := h122
      have q125 := q84.tr h122
      show e_Pn 20 elay kcode eI n d 145 (285, [(0, (1, 1))], [], w124) _
      refine e_Pn.run (t' := (356, [(0, (1, 1))], [], w124)) kAlk 1 rfl ?_
      exact e_Pn.ret0 rfl ⟨rfl, q125⟩
    have a288 : e_Pn 20 elay kcode eI n d 145 (288, [(0, (1, 1))], [], w82) (fun r w' => r = [] ∧ kq cd w w') := by
      refine e_Pn.run (t' := (291, [(0, (1, 1))], [(0, 36), (1, 1)], w82)) kAlk 2 rfl ?_
      refine e_Pn.callA rfl (fun n9 d9 => u_147 (q84.rf hR)) (fun r127 w128 h126 => ?_)
      obtain ⟨rfl, h126⟩ := h126
      have q129 := q84.tr h126
      show e_Pn 20 elay kcode eI n d 145 (294, [(0, (1, 1))], [], w128) _
      refine e_Pn.run (t' := (356, [(0, (1, 1))], [], w128)) kAlk 1 rfl ?_
      exact e_Pn.ret0 rfl ⟨rfl, q129⟩
    have a297 : e_Pn 20 elay kcode eI n d 145 (297, [(0, (1, 1))], [], w82) (fun r w' => r = [] ∧ kq cd w w') := by
      refine e_Pn.run (t' := (300, [(0, (1, 1))], [(0, 37), (1, 1)], w82)) kAlk 2 rfl ?_
      refine e_Pn.callA rfl (fun n9 d9 => u_146 (q84.rf hR)) (fun r131 w132 h130 => ?_)
      obtain ⟨rfl, h130⟩ := h130
      have q133 := q84.tr h130
      show e_Pn 20 elay kcode eI n d 145 (303, [(0, (1, 1))], [], w132) _
      refine e_Pn.run (t' := (356, [(0, (1, 1))], [], w132)) kAlk 1 rfl ?_
      exact e_Pn.ret0 rfl ⟨rfl, q133⟩
    have a306 : e_Pn 20 elay kcode eI n d 145 (306, [(0, (1, 1))], [], w82) (fun r w' => r = [] ∧ kq cd w w') := by
      refine e_Pn.run (t' := (309, [(0, (1, 1))], [(0, 38), (1, 1)], w82)) kAlk 2 rfl ?_
      refine e_Pn.callA rfl (fun n9 d9 => u_146 (q84.rf hR)) (fun r135 w136 h134 => ?_)
      obtain ⟨rfl, h134⟩ := h134
      have q137 := q84.tr h134
      show e_Pn 20 elay kcode eI n d 145 (312, [(0, (1, 1))], [], w136) _
      refine e_Pn.run (t' := (356, [(0, (1, 1))], [], w136)) kAlk 1 rfl ?_
      exact e_Pn.ret0 rfl ⟨rfl, q137⟩
    have a315 : e_Pn 20 elay kcode eI n d 145 (315, [(0, (1, 1))], [], w82) (fun r w' => r = [] ∧ kq cd w w') := by
      refine e_Pn.run (t' := (316, [(0, (1, 1))], [(1, 1)], w82)) kAlk 1 rfl ?_
      refine e_Pn.callA rfl (fun n9 d9 => u_152 (q84.rf hR)) (fun r139 w140 h138 => ?_)
      obtain ⟨rfl, h138⟩ := h138
      have q141 := q84.tr h138
      show e_Pn 20 elay kcode eI n d 145 (319, [(0, (1, 1))], [], w140) _
      refine e_Pn.run (t' := (356, [(0, (1, 1))], [], w140)) kAlk 1 rfl ?_
      exact e_Pn.ret0 rfl ⟨rfl, q141⟩
    have a322 : e_Pn 20 elay kcode eI n d 145 (322, [(0, (1, 1))], [], w82) (fun r w' => r = [] ∧ kq cd w w') := by
      refine e_Pn.run (t' := (325, [(0, (1, 1))], [(0, 42), (1, 1)], w82)) kAlk 2 rfl ?_
      refine e_Pn.callA rfl (fun n9 d9 => u_146 (q84.rf hR)) (fun r143 w144 h142 => ?_)
      obtain ⟨rfl, h142⟩ := h142
      have q145 := q84.tr h142
      show e_Pn 20 elay kcode eI n d 145 (328, [(0, (1, 1))], [], w144) _
      refine e_Pn.run (t' := (356, [(0, (1, 1))], [], w144)) kAlk 1 rfl ?_
      exact e_Pn.ret0 rfl ⟨rfl, q145⟩
    have a331 : e_Pn 20 elay kcode eI n d 145 (331, [(0, (1, 1))], [], w82) (fun r w' => r = [] ∧ kq cd w w') := by
      refine e_Pn.run (t' := (332, [(0, (1, 1))], [(1, 1)], w82)) kAlk 1 rfl ?_
      refine e_Pn.callA rfl (fun n9 d9 => u_153 (q84.rf hR)) (fun r147 w148 h146 => ?_)
      obtain ⟨rfl, h146⟩ := h146
      have q149 := q84.tr h146
      show e_Pn 20 elay kcode eI n d 145 (335, [(0, (1, 1))], [], w148) _
      refine e_Pn.run (t' := (356, [(0, (1, 1))], [], w148)) kAlk 1 rfl ?_
      exact e_Pn.ret0 rfl ⟨rfl, q149⟩
    have a338 : e_Pn 20 elay kcode eI n d 145 (338, [(0, (1, 1))], [], w82) (fun r w' => r = [] ∧ kq cd w w') := by
      refine e_Pn.run (t' := (339, [(0, (1, 1))], [(1, 1)], w82)) kAlk 1 rfl ?_
      refine e_Pn.callB rfl (fun k9 hk9 d9 => ihG k9 (by omega) 154 (by decide) d9 _ _ (q84.rf hR)) (fun r151 w152 h150 => ?_)
      obtain ⟨rfl, h150⟩ := h150
      have q153 := q84.tr h150
      show e_Pn 20 elay kcode eI n d 145 (342, [(0, (1, 1))], [], w152) _
      refine e_Pn.run (t' := (356, [(0, (1, 1))], [], w152)) kAlk 1 rfl ?_
      exact e_Pn.ret0 rfl ⟨rfl, q153⟩
    have a345 : e_Pn 20 elay kcode eI n d 145 (345, [(0, (1, 1))], [], w82) (fun r w' => r = [] ∧ kq cd w w') := by
      refine e_Pn.run (t' := (346, [(0, (1, 1))], [(1, 1)], w82)) kAlk 1 rfl ?_
      refine e_Pn.callB rfl (fun k9 hk9 d9 => ihG k9 (by omega) 155 (by decide) d9 _ _ (q84.rf hR)) (fun r155 w156 h154 => ?_)
      obtain ⟨rfl, h154⟩ := h154
      have q157 := q84.tr h154
      show e_Pn 20 elay kcode eI n d 145 (349, [(0, (1, 1))], [], w156) _
      refine e_Pn.run (t' := (356, [(0, (1, 1))], [], w156)) kAlk 1 rfl ?_
      exact e_Pn.ret0 rfl ⟨rfl, q157⟩
    have a352 : e_Pn 20 elay kcode eI n d 145 (352, [(0, (1, 1))], [], w82) (fun r w' => r = [] ∧ kq cd w w') := by
      refine e_Pn.run (t' := (353, [(0, (1, 1))], [(1, 1)], w82)) kAlk 1 rfl ?_
      refine e_Pn.callB rfl (fun k9 hk9 d9 => ihG k9 (by omega) 156 (by decide) d9 _ _ (q84.rf hR)) (fun r159 w160 h158 => ?_)
      obtain ⟨rfl, h158⟩ := h158
      have q161 := q84.tr h158
      show e_Pn 20 elay kcode eI n d 145 (356, [(0, (1, 1))], [], w160) _
      exact e_Pn.ret0 rfl ⟨rfl, q161⟩
    exact e_Pn.swU kAlk rfl ⟨a352, a204, a352, a352, a352, a352, a352, a352, a352, a352, a352, a352, a352, a352, a352, a352, a352, a352, a352, a352, a352, a352, a352, a352, a211, a218, a227, a236, a243, a252, a261, a270, a279, a288, a297, a306, a315, a322, a331, a338, a352, a345, a352, trivial⟩
set_option maxHeartbeats 4000000 in
theorem u_154 {n d : Nat} {w : eW} {cd : Int} (hR : kRw cd w) (ihG : ∀ k, k < n → kS k) : e_Pn 20 elay kcode eI n d 154 (0, [(0, (1, 1))], [], w) (fun r w' => r = [] ∧ kq cd w w') := by
  have hn := hR.1.n
  refine e_Pn.run (t' := (1, [(0, (1, 1))], [(1, 1)], w)) kAlk 1 rfl ?_
  refine e_Pn.callA rfl (fun n9 d9 => u_132 (kq.r.rf hR)) (fun r2 w3 h1 => ?_)
  obtain ⟨⟨z4, rfl⟩, h1⟩ := h1
  have q5 := kq.r.tr h1
  show e_Pn 20 elay kcode eI n d 154 (4, [(0, (1, 1))], [(0, z4)], w3) _
  refine e_Pn.if1 kAlk rfl (fun h6 => ?_) (fun h6 => ?_)
  · show e_Pn 20 elay kcode eI n d 154 (8, [(0, (1, 1))], [], w3) _
    refine e_Pn.run (t' := (9, [(0, (1, 1))], [(1, 1)], w3)) kAlk 1 rfl ?_
    refine e_Pn.callA rfl (fun n9 d9 => u_123 (q5.rf hR)) (fun r8 w9 h7 => ?_)
    obtain ⟨rfl, h7⟩ := h7
    have q10 := q5.tr h7
    show e_Pn 20 elay kcode eI n d 154 (12, [(0, (1, 1))], [], w9) _
    refine e_Pn.run (t' := (13, [(0, (1, 1))], [(1, 1)], w9)) kAlk 1 rfl ?_
    refine e_Pn.callA rfl (fun n9 d9 => kE_all n9 158 (by decide) d9 _ _ (q10.rf hR)) (fun r12 w13 h11 => ?_)
    obtain ⟨rfl, h11⟩ := h11
    have q14 := q10.tr h11
    show e_Pn 20 elay kcode eI n d 154 (16, [(0, (1, 1))], [], w13) _
    refine e_Pn.run (t' := (19, [(0, (1, 1))], [(0, 20), (1, 1)], w13)) kAlk 2 rfl ?_
    refine e_Pn.callA rfl (fun n9 d9 => u_129 (q14.rf hR)) (fun r16 w17 h15 => ?_)
    obtain ⟨rfl, h15⟩ := h15
    have q18 := q14.tr h15
    show e_Pn 20 elay kcode eI n d 154 (22, [(0, (1, 1))], [], w17) _
    refine e_Pn.run (t' := (23, [(0, (1, 1))], [(1, 1)], w17)) kAlk 1 rfl ?_
    refine e_Pn.getr (z := cd) kAlk rfl rfl (q18.rf hR).2.1 (by omega) ?_
    refine e_Pn.run (t' := (29, [(0, (1, 1))], [(0, 0), (0, 41), (1, cd)], w17)) kAlk 2 rfl ?_
    refine e_Pn.callA rfl (fun n9 d9 => u_21 (q18.rf hR)) (fun r20 w21 h19 => ?_)
    obtain ⟨⟨z22, rfl⟩, h19⟩ := h19
    have q23 := q18.tr h19
    show e_Pn 20 elay kcode eI n d 154 (32, [(0, (1, 1))], [(0, z22)], w21) _
    refine e_Pn.run (t' := (34, [(1, (0, z22)), (0, (1, 1))], [(1, 1)], w21)) kAlk 2 rfl ?_
    refine e_Pn.callB rfl (fun k9 hk9 d9 => ihG k9 (by omega) 144 (by decide) d9 _ _ (q23.rf hR)) (fun r25 w26 h24 => ?_)
    obtain ⟨rfl, h24⟩ := h24
    have q27 := q23.tr h24
    show e_Pn 20 elay kcode eI n d 154 (37, [(1, (0, z22)), (0, (1, 1))], [], w26) _
    refine e_Pn.run (t' := (38, [(1, (0, z22)), (0, (1, 1))], [(1, 1)], w26)) kAlk 1 rfl ?_
    refine e_Pn.getf (z := w26 1 5) kAlk rfl rfl rfl (fun b28 => ?_)
    refine e_Pn.run (t' := (43, [(1, (0, z22)), (0, (1, 1))], [(0, 40), (0, w26 1 5)], w26)) kAlk 1 rfl ?_
    refine e_Pn.if2 kAlk rfl (fun h29 => ?_) (fun h29 => ?_)
    · show e_Pn 20 elay kcode eI n d 154 (88, [(1, (0, z22)), (0, (1, 1))], [], w26) _
      refine e_Pn.run (t' := (89, [(1, (0, z22)), (0, (1, 1))], [(1, 1)], w26)) kAlk 1 rfl ?_
      refine e_Pn.getr (z := cd) kAlk rfl rfl (q27.rf hR).2.1 (by omega) ?_
      refine e_Pn.run (t' := (94, [(1, (0, z22)), (0, (1, 1))], [(1, 1), (0, z22), (1, cd)], w26)) kAlk 2 rfl ?_
      refine e_Pn.getr (z := cd) kAlk rfl rfl (q27.rf hR).2.1 (by omega) ?_
      refine e_Pn.getf (z := w26 cd 0) kAlk rfl rfl rfl (fun b30 => ?_)
      refine e_Pn.callA rfl (fun n9 d9 => u_22 (q27.rf hR)) (fun r32 w33 h31 => ?_)
      obtain ⟨rfl, h31⟩ := h31
      have q34 := q27.tr h31
      show e_Pn 20 elay kcode eI n d 154 (103, [(1, (0, z22)), (0, (1, 1))], [], w33) _
      refine e_Pn.run (t' := (106, [(1, (0, z22)), (0, (1, 1))], [(0, 23), (1, 1)], w33)) kAlk 2 rfl ?_
      refine e_Pn.callA rfl (fun n9 d9 => u_129 (q34.rf hR)) (fun r36 w37 h35 => ?_)
      obtain ⟨rfl, h35⟩ := h35
      have q38 := q34.tr h35
      show e_Pn 20 elay kcode eI n d 154 (109, [(1, (0, z22)), (0, (1, 1))], [], w37) _
      refine e_Pn.run (t' := (111, [(1, (0, z22)), (0, (1, 1))], [(1, 1), (1, 1)], w37)) kAlk 2 rfl ?_
      refine e_Pn.getf (z := w37 1 11) kAlk rfl rfl rfl (fun b39 => ?_)
      refine e_Pn.run (t' := (115, [(1, (0, z22)), (0, (1, 1))], [(0, 1), (0, w37 1 11), (1, 1)], w37)) kAlk 1 rfl ?_
      refine e_Pn.bin0 kAlk rfl (fun z40 hz40 => ?_)
      refine e_Pn.putf kAlk rfl rfl ?_
      generalize hw41 : e_up w37 1 11 z40 = w41
      have q42 : kq cd w w41 := kq.up q38 hR.1 hw41 (by decide) (fun _ => by decide) (fun g => absurd g.symm hn.1)
      exact e_Pn.ret0 rfl ⟨rfl, q42⟩
    · show e_Pn 20 elay kcode eI n d 154 (46, [(1, (0, z22)), (0, (1, 1))], [], w26) _
      refine e_Pn.run (t' := (47, [(1, (0, z22)), (0, (1, 1))], [(1, 1)], w26)) kAlk 1 rfl ?_
      refine e_Pn.callA rfl (fun n9 d9 => u_123 (q27.rf hR)) (fun r44 w45 h43 => ?_)
      obtain ⟨rfl, h43⟩ := h43
      have q46 := q27.tr h43
      show e_Pn 20 elay kcode eI n d 154 (50, [(1, (0, z22)), (0, (1, 1))], [], w45) _
      refine e_Pn.run (t' := (53, [(1, (0, z22)), (0, (1, 1))], [(0, 20), (1, 1)], w45)) kAlk 2 rfl ?_
      refine e_Pn.callA rfl (fun n9 d9 => u_129 (q46.rf hR)) (fun r48 w49 h47 => ?_)
      obtain ⟨rfl, h47⟩ := h47
      have q50 := q46.tr h47
      show e_Pn 20 elay kcode eI n d 154 (56, [(1, (0, z22)), (0, (1, 1))], [], w49) _
      refine e_Pn.run (t' := (57, [(1, (0, z22)), (0, (1, 1))], [(1, 1)], w49)) kAlk 1 rfl ?_
      refine e_Pn.getr (z := cd) kAlk rfl rfl (q50.rf hR).2.1 (by omega) ?_
      refine e_Pn.run (t' := (63, [(1, (0, z22)), (0, (1, 1))], [(0, 0), (0, 40), (1, cd)], w49)) kAlk 2 rfl ?_
      refine e_Pn.callA rfl (fun n9 d9 => u_21 (q50.rf hR)) (fun r52 w53 h51 => ?_)
      obtain ⟨⟨z54, rfl⟩, h51⟩ := h51
      have q55 := q50.tr h51
      show e_Pn 20 elay kcode eI n d 154 (66, [(1, (0, z22)), (0, (1, 1))], [(0, z54)], w53) _
      refine e_Pn.run (t' := (68, [(2, (0, z54)), (1, (0, z22)), (0, (1, 1))], [(1, 1)], w53)) kAlk 2 rfl ?_
      refine e_Pn.getr (z := cd) kAlk rfl rfl (q55.rf hR).2.1 (by omega) ?_
      refine e_Pn.run (t' := (73, [(2, (0, z54)), (1, (0, z22)), (0, (1, 1))], [(1, 1), (0, z22), (1, cd)], w53)) kAlk 2 rfl ?_
      refine e_Pn.getr (z := cd) kAlk rfl rfl (q55.rf hR).2.1 (by omega) ?_
      refine e_Pn.getf (z := w53 cd 0) kAlk rfl rfl rfl (fun b56 => ?_)
      refine e_Pn.callA rfl (fun n9 d9 => u_22 (q55.rf hR)) (fun r58 w59 h57 => ?_)
      obtain ⟨rfl, h57⟩ := h57
      have q60 := q55.tr h57
      show e_Pn 20 elay kcode eI n d 154 (82, [(2, (0, z54)), (1, (0, z22)), (0, (1, 1))], [], w59) _
      refine e_Pn.run (t' := (85, [(1, (0, z54)), (2, (0, z54)), (0, (1, 1))], [(1, 1)], w59)) kAlk 3 rfl ?_
      refine e_Pn.callB rfl (fun k9 hk9 d9 => ihG k9 (by omega) 144 (by decide) d9 _ _ (q60.rf hR)) (fun r62 w63 h61 => ?_)
      obtain ⟨rfl, h61⟩ := h61
      have q64 := q60.tr h61
      show e_Pn 20 elay kcode eI n d 154 (88, [(1, (0, z54)), (2, (0, z54)), (0, (1, 1))], [], w63) _
      refine e_Pn.run (t' := (89, [(1, (0, z54)), (2, (0, z54)), (0, (1, 1))], [(1, 1)], w63)) kAlk 1 rfl ?_
      refine e_Pn.getr (z := cd) kAlk rfl rfl (q64.rf hR).2.1 (by omega) ?_
      refine e_Pn.run (t' := (94, [(1, (0, z54)), (2, (0, z54)), (0, (1, 1))], [(1, 1), (0, z54), (1, cd)], w63)) kAlk 2 rfl ?_
      refine e_Pn.getr (z := cd) kAlk rfl rfl (q64.rf hR).2.1 (by omega) ?_
      refine e_Pn.getf (z := w63 cd 0) kAlk rfl rfl rfl (fun b65 => ?_)
      refine e_Pn.callA rfl (fun n9 d9 => u_22 (q64.rf hR)) (fun r67 w68 h66 => ?_)
      obtain ⟨rfl, h66⟩ := h66
      have q69 := q64.tr h66
      show e_Pn 20 elay kcode eI n d 154 (103, [(1, (0, z54)), (2, (0, z54)), (0, (1, 1))], [], w68) _
      refine e_Pn.run (t' := (106, [(1, (0, z54)), (2, (0, z54)), (0, (1, 1))], [(0, 23), (1, 1)], w68)) kAlk 2 rfl ?_
      refine e_Pn.callA rfl (fun n9 d9 => u_129 (q69.rf hR)) (fun r71 w72 h70 => ?_)
      obtain ⟨rfl, h70⟩ := h70
      have q73 := q69.tr h70
      show e_Pn 20 elay kcode eI n d 154 (109, [(1, (0, z54)), (2, (0, z54)), (0, (1, 1))], [], w72) _
      refine e_Pn.run (t' := (111, [(1, (0, z54)), (2, (0, z54)), (0, (1, 1))], [(1, 1), (1, 1)], w72)) kAlk 2 rfl ?_
      refine e_Pn.getf (z := w72 1 11) kAlk rfl rfl rfl (fun b74 => ?_)
      refine e_Pn.run (t' := (115, [(1, (0, z54)), (2, (0, z54)), (0, (1, 1))], [(0, 1), (0, w72 1 11), (1, 1)], w72)) kAlk 1 rfl ?_
      refine e_Pn.bin0 kAlk rfl (fun z75 hz75 => ?_)
      refine e_Pn.putf kAlk rfl rfl ?_
      generalize hw76 : e_up w72 1 11 z75 = w76
      have q77 : kq cd w w76 := kq.up q73 hR.1 hw76 (by decide) (fun _ => by decide) (fun g => absurd g.symm hn.1)
      exact e_Pn.ret0 rfl ⟨rfl, q77⟩
  · show e_Pn 20 elay kcode eI n d 154 (7, [(0, (1, 1))], [], w3) _
    exact e_Pn.ret0 rfl ⟨rfl, q5⟩
set_option maxHeartbeats 4000000 in
theorem u_155 {n d : Nat} {w : eW} {cd : Int} (hR : kRw cd w) (ihG : ∀ k, k < n → kS k) : e_Pn 20 elay kcode eI n d 155 (0, [(0, (1, 1))], [], w) (fun r w' => r = [] ∧ kq cd w w') := by
  have hn := hR.1.n
  refine e_Pn.run (t' := (1, [(0, (1, 1))], [(1, 1)], w)) kAlk 1 rfl ?_
  refine e_Pn.callA rfl (fun n9 d9 => u_132 (kq.r.rf hR)) (fun r2 w3 h1 => ?_)
  obtain ⟨⟨z4, rfl⟩, h1⟩ := h1
  have q5 := kq.r.tr h1
  show e_Pn 20 elay kcode eI n d 155 (4, [(0, (1, 1))], [(0, z4)], w3) _
  refine e_Pn.if1 kAlk rfl (fun h6 => ?_) (fun h6 => ?_)
  · show e_Pn 20 elay kcode eI n d 155 (8, [(0, (1, 1))], [], w3) _
    refine e_Pn.run (t' := (9, [(0, (1, 1))], [(1, 1)], w3)) kAlk 1 rfl ?_
    refine e_Pn.getf (z := w3 1 13) kAlk rfl rfl rfl (fun b7 => ?_)
    refine e_Pn.run (t' := (15, [(1, (0, w3 1 13)), (0, (1, 1))], [(1, 1), (1, 1)], w3)) kAlk 3 rfl ?_
    refine e_Pn.getr (z := cd) kAlk rfl rfl (q5.rf hR).2.1 (by omega) ?_
    refine e_Pn.run (t' := (21, [(1, (0, w3 1 13)), (0, (1, 1))], [(1, 1), (0, 45), (1, cd), (1, 1)], w3)) kAlk 2 rfl ?_
    refine e_Pn.getf (z := w3 1 12) kAlk rfl rfl rfl (fun b8 => ?_)
    refine e_Pn.callA rfl (fun n9 d9 => u_21 (q5.rf hR)) (fun r10 w11 h9 => ?_)
    obtain ⟨⟨z12, rfl⟩, h9⟩ := h9
    have q13 := q5.tr h9
    show e_Pn 20 elay kcode eI n d 155 (27, [(1, (0, w3 1 13)), (0, (1, 1))], [(0, z12), (1, 1)], w11) _
    refine e_Pn.putf kAlk rfl rfl ?_
    generalize hw14 : e_up w11 1 13 z12 = w14
    have q15 : kq cd w w14 := kq.up q13 hR.1 hw14 (by decide) (fun _ => by decide) (fun g => absurd g.symm hn.1)
    refine e_Pn.run (t' := (31, [(1, (0, w3 1 13)), (0, (1, 1))], [(1, 1)], w14)) kAlk 1 rfl ?_
    refine e_Pn.getf (z := w14 1 13) kAlk rfl rfl rfl (fun b16 => ?_)
    refine e_Pn.run (t' := (36, [(2, (0, w14 1 13)), (1, (0, w3 1 13)), (0, (1, 1))], [(1, 1)], w14)) kAlk 2 rfl ?_
    refine e_Pn.getr (z := cd) kAlk rfl rfl (q15.rf hR).2.1 (by omega) ?_
    refine e_Pn.run (t' := (42, [(2, (0, w14 1 13)), (1, (0, w3 1 13)), (0, (1, 1))], [(0, 0), (0, 49), (1, cd)], w14)) kAlk 2 rfl ?_
    refine e_Pn.callA rfl (fun n9 d9 => u_21 (q15.rf hR)) (fun r18 w19 h17 => ?_)
    obtain ⟨⟨z20, rfl⟩, h17⟩ := h17
    have q21 := q15.tr h17
    show e_Pn 20 elay kcode eI n d 155 (45, [(2, (0, w14 1 13)), (1, (0, w3 1 13)), (0, (1, 1))], [(0, z20)], w19) _
    refine e_Pn.run (t' := (47, [(2, (0, w14 1 13)), (1, (0, w3 1 13)), (0, (1, 1))], [(1, 1)], w19)) kAlk 2 rfl ?_
    refine e_Pn.getr (z := cd) kAlk rfl rfl (q21.rf hR).2.1 (by omega) ?_
    refine e_Pn.run (t' := (53, [(2, (0, w14 1 13)), (1, (0, w3 1 13)), (0, (1, 1))], [(0, 0), (0, 50), (1, cd)], w19)) kAlk 2 rfl ?_
    refine e_Pn.callA rfl (fun n9 d9 => u_21 (q21.rf hR)) (fun r23 w24 h22 => ?_)
    obtain ⟨⟨z25, rfl⟩, h22⟩ := h22
    have q26 := q21.tr h22
    show e_Pn 20 elay kcode eI n d 155 (56, [(2, (0, w14 1 13)), (1, (0, w3 1 13)), (0, (1, 1))], [(0, z25)], w24) _
    refine e_Pn.run (t' := (58, [(3, (0, z25)), (2, (0, w14 1 13)), (1, (0, w3 1 13)), (0, (1, 1))], [(1, 1)], w24)) kAlk 2 rfl ?_
    refine e_Pn.callA rfl (fun n9 d9 => u_123 (q26.rf hR)) (fun r28 w29 h27 => ?_)
    obtain ⟨rfl, h27⟩ := h27
    have q30 := q26.tr h27
    show e_Pn 20 elay kcode eI n d 155 (61, [(3, (0, z25)), (2, (0, w14 1 13)), (1, (0, w3 1 13)), (0, (1, 1))], [], w29) _
    refine e_Pn.run (t' := (62, [(3, (0, z25)), (2, (0, w14 1 13)), (1, (0, w3 1 13)), (0, (1, 1))], [(1, 1)], w29)) kAlk 1 rfl ?_
    refine e_Pn.callA rfl (fun n9 d9 => kE_all n9 158 (by decide) d9 _ _ (q30.rf hR)) (fun r32 w33 h31 => ?_)
    obtain ⟨rfl, h31⟩ := h31
    have q34 := q30.tr h31
    show e_Pn 20 elay kcode eI n d 155 (65, [(3, (0, z25)), (2, (0, w14 1 13)), (1, (0, w3 1 13)), (0, (1, 1))], [], w33) _
    refine e_Pn.run (t' := (68, [(3, (0, z25)), (2, (0, w14 1 13)), (1, (0, w3 1 13)), (0, (1, 1))], [(0, 20), (1, 1)], w33)) kAlk 2 rfl ?_
    refine e_Pn.callA rfl (fun n9 d9 => u_129 (q34.rf hR)) (fun r36 w37 h35 => ?_)
    obtain ⟨rfl, h35⟩ := h35
    have q38 := q34.tr h35
    show e_Pn 20 elay kcode eI n d 155 (71, [(3, (0, z25)), (2, (0, w14 1 13)), (1, (0, w3 1 13)), (0, (1, 1))], [], w37) _
    refine e_Pn.run (t' := (72, [(3, (0, z25)), (2, (0, w14 1 13)), (1, (0, w3 1 13)), (0, (1, 1))], [(1, 1)], w37)) kAlk 1 rfl ?_
    refine e_Pn.getr (z := cd) kAlk rfl rfl (q38.rf hR).2.1 (by omega) ?_
    refine e_Pn.run (t' := (78, [(3, (0, z25)), (2, (0, w14 1 13)), (1, (0, w3 1 13)), (0, (1, 1))], [(0, 0), (0, 41), (1, cd)], w37)) kAlk 2 rfl ?_
    refine e_Pn.callA rfl (fun n9 d9 => u_21 (q38.rf hR)) (fun r40 w41 h39 => ?_)
    obtain ⟨⟨z42, rfl⟩, h39⟩ := h39
    have q43 := q38.tr h39
    show e_Pn 20 elay kcode eI n d 155 (81, [(3, (0, z25)), (2, (0, w14 1 13)), (1, (0, w3 1 13)), (0, (1, 1))], [(0, z42)], w41) _
    refine e_Pn.run (t' := (84, [(4, (0, z42)), (3, (0, z25)), (2, (0, w14 1 13)), (1, (0, w3 1 13)), (0, (1, 1))], [(1, 1)], w41)) kAlk 2 rfl ?_
    refine e_Pn.callB rfl (fun k9 hk9 d9 => ihG k9 (by omega) 144 (by decide) d9 _ _ (q43.rf hR)) (fun r45 w46 h44 => ?_)
    obtain ⟨rfl, h44⟩ := h44
    have q47 := q43.tr h44
    show e_Pn 20 elay kcode eI n d 155 (87, [(4, (0, z42)), (3, (0, z25)), (2, (0, w14 1 13)), (1, (0, w3 1 13)), (0, (1, 1))], [], w46) _
    refine e_Pn.run (t' := (90, [(4, (0, z42)), (3, (0, z25)), (2, (0, w14 1 13)), (1, (0, w3 1 13)), (0, (1, 1))], [(0, 23), (1, 1)], w46)) kAlk 2 rfl ?_
    refine e_Pn.callA rfl (fun n9 d9 => u_129 (q47.rf hR)) (fun r49 w50 h48 => ?_)
    obtain ⟨rfl, h48⟩ := h48
    have q51 := q47.tr h48
    show e_Pn 20 elay kcode eI n d 155 (93, [(4, (0, z42)), (3, (0, z25)), (2, (0, w14 1 13)), (1, (0, w3 1 13)), (0, (1, 1))], [], w50) _
    refine e_Pn.run (t' := (94, [(4, (0, z42)), (3, (0, z25)), (2, (0, w14 1 13)), (1, (0, w3 1 13)), (0, (1, 1))], [(1, 1)], w50)) kAlk 1 rfl ?_
    refine e_Pn.getr (z := cd) kAlk rfl rfl (q51.rf hR).2.1 (by omega) ?_
    refine e_Pn.run (t' := (100, [(4, (0, z42)), (3, (0, z25)), (2, (0, w14 1 13)), (1, (0, w3 1 13)), (0, (1, 1))], [(0, z25), (0, 40), (1, cd)], w50)) kAlk 2 rfl ?_
    refine e_Pn.callA rfl (fun n9 d9 => u_21 (q51.rf hR)) (fun r53 w54 h52 => ?_)
    obtain ⟨⟨z55, rfl⟩, h52⟩ := h52
    have q56 := q51.tr h52
    show e_Pn 20 elay kcode eI n d 155 (103, [(4, (0, z42)), (3, (0, z25)), (2, (0, w14 1 13)), (1, (0, w3 1 13)), (0, (1, 1))], [(0, z55)], w54) _
    refine e_Pn.run (t' := (105, [(4, (0, z42)), (3, (0, z25)), (2, (0, w14 1 13)), (1, (0, w3 1 13)), (0, (1, 1))], [(1, 1)], w54)) kAlk 2 rfl ?_
    refine e_Pn.getr (z := cd) kAlk rfl rfl (q56.rf hR).2.1 (by omega) ?_
    refine e_Pn.run (t' := (111, [(4, (0, z42)), (3, (0, z25)), (2, (0, w14 1 13)), (1, (0, w3 1 13)), (0, (1, 1))], [(1, 1), (0, z42), (1, cd)], w54)) kAlk 2 rfl ?_
    refine e_Pn.getr (z := cd) kAlk rfl rfl (q56.rf hR).2.1 (by omega) ?_
    refine e_Pn.getf (z := w54 cd 0) kAlk rfl rfl rfl (fun b57 => ?_)
    refine e_Pn.callA rfl (fun n9 d9 => u_22 (q56.rf hR)) (fun r59 w60 h58 => ?_)
    obtain ⟨rfl, h58⟩ := h58
    have q61 := q56.tr h58
    show e_Pn 20 elay kcode eI n d 155 (120, [(4, (0, z42)), (3, (0, z25)), (2, (0, w14 1 13)), (1, (0, w3 1 13)), (0, (1, 1))], [], w60) _
    refine e_Pn.run (t' := (121, [(4, (0, z42)), (3, (0, z25)), (2, (0, w14 1 13)), (1, (0, w3 1 13)), (0, (1, 1))], [(1, 1)], w60)) kAlk 1 rfl ?_
    refine e_Pn.getr (z := cd) kAlk rfl rfl (q61.rf hR).2.1 (by omega) ?_
    refine e_Pn.run (t' := (126, [(4, (0, z42)), (3, (0, z25)), (2, (0, w14 1 13)), (1, (0, w3 1 13)), (0, (1, 1))], [(0, 1), (0, w14 1 13), (1, cd)], w60)) kAlk 2 rfl ?_
    refine e_Pn.bin0 kAlk rfl (fun z62 hz62 => ?_)
    refine e_Pn.run (t' := (128, [(4, (0, z42)), (3, (0, z25)), (2, (0, w14 1 13)), (1, (0, w3 1 13)), (0, (1, 1))], [(1, 1), (0, z62), (1, cd)], w60)) kAlk 1 rfl ?_
    refine e_Pn.getr (z := cd) kAlk rfl rfl (q61.rf hR).2.1 (by omega) ?_
    refine e_Pn.getf (z := w60 cd 0) kAlk rfl rfl rfl (fun b63 => ?_)
    refine e_Pn.callA rfl (fun n9 d9 => u_22 (q61.rf hR)) (fun r65 w66 h64 => ?_)
    obtain ⟨rfl, h64⟩ := h64
    have q67 := q61.tr h64
    show e_Pn 20 elay kcode eI n d 155 (137, [(4, (0, z42)), (3, (0, z25)), (2, (0, w14 1 13)), (1, (0, w3 1 13)), (0, (1, 1))], [], w66) _
    refine e_Pn.run (t' := (139, [(4, (0, z42)), (3, (0, z25)), (2, (0, w14 1 13)), (1, (0, w3 1 13)), (0, (1, 1))], [(0, w3 1 13), (1, 1)], w66)) kAlk 2 rfl ?_
    refine e_Pn.putf kAlk rfl rfl ?_
    generalize hw68 : e_up w66 1 13 (w3 1 13) = w68
    have q69 : kq cd w w68 := kq.up q67 hR.1 hw68 (by decide) (fun _ => by decide) (fun g => absurd g.symm hn.1)
    refine e_Pn.run (t' := (144, [(4, (0, z42)), (3, (0, z25)), (2, (0, w14 1 13)), (1, (0, w3 1 13)), (0, (1, 1))], [(1, 1), (1, 1)], w68)) kAlk 2 rfl ?_
    refine e_Pn.getf (z := w68 1 11) kAlk rfl rfl rfl (fun b70 => ?_)
    refine e_Pn.run (t' := (148, [(4, (0, z42)), (3, (0, z25)), (2, (0, w14 1 13)), (1, (0, w3 1 13)), (0, (1, 1))], [(0, 1), (0, w68 1 11), (1, 1)], w68)) kAlk 1 rfl ?_
    refine e_Pn.bin0 kAlk rfl (fun z71 hz71 => ?_)
    refine e_Pn.putf kAlk rfl rfl ?_
    generalize hw72 : e_up w68 1 11 z71 = w72
    have q73 : kq cd w w72 := kq.up q69 hR.1 hw72 (by decide) (fun _ => by decide) (fun g => absurd g.symm hn.1)
    exact e_Pn.ret0 rfl ⟨rfl, q73⟩
  · show e_Pn 20 elay kcode eI n d 155 (7, [(0, (1, 1))], [], w3) _
    exact e_Pn.ret0 rfl ⟨rfl, q5⟩
set_option maxHeartbeats 4000000 in
end
