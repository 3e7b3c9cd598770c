noncomputable section
/-! the text as a whole -/
/-- as the text begins -/
def tz0 (N cd : Int) (w v : eW) : Prop := Rk N cd 0 w v ∧ NR N cd (w 1 6 + 0) w v ∧ CN cd (-1) w v ∧ (w 1 11 = 0 ∧ v 275 83 = 0 ∧ v 275 82 = -1) ∧ v 275 94 = 0 ∧ w cd 0 = 0
/-- as the text is read, without a fault of tokens -/
def tzE (N cd : Int) (w v : eW) : Prop := rpA N w v ∧ (w 1 1 = 0 ∧ v 275 88 = 0) ∧ kRw cd w ∧ mRw v ∧ (∃ B, B ≤ 4001 ∧ NR N cd B w v) ∧ CN cd (-1) w v ∧ (0 ≤ w cd 0 ∧ w cd 0 < 4000) ∧ cn1 v ≤ 500
theorem tzE.of {N cd s o l m t ka : Int} {w v w1 v1 v2 : eW} (h : st N cd w v w1 v1 s o 0 (-1) l m t ka) (f : e_fr mTq v1 v2) (h1 : w1 cd 0 < 4000) (h2 : cn1 v1 ≤ 500) (h3 : w1 1 6 ≤ 4000) : tzE N cd w1 v2 := by
  have G : ∀ c k, ¬ (c = 275 ∧ 84 ≤ k ∧ k ≤ 87) → v2 c k = v1 c k := f
  have ev := nmE.of f (fun i => by unfold mTq; omega) (by unfold mTq; omega)
  obtain ⟨⟨a1, a2, a3⟩, a4, a5, a6, a7, a8⟩ := h.1.1
  refine ⟨⟨⟨a1, (G 275 9 (by omega)).trans a2, a3⟩, fun i i0 i1 => by rw [G 281 i (by omega)]; exact a4 i i0 i1, a5, a6, mLT_Tq f a7, mLH_Tq f a8⟩, ⟨h.1.2.1.1.1, (G 275 88 (by omega)).trans h.1.2.1.1.2⟩, h.1.2.2.2.1, mRw.fr2 f (fun k q => by unfold mTq at q; omega) h.1.2.2.2.2.1, ⟨w1 1 6 + 0, by omega, h.2.1.fr (nwE.r cd w1) ev⟩, h.2.2.1.fr rfl rfl ev, ⟨h.1.2.2.2.2.2.1.1, h1⟩, by rw [cn1.E ev]; exact h2⟩
/-- the model reads the end of the text once more -/
theorem tendQ {N cd s o b pz l m t ka : Int} {w v w1 v1 : eW} (h : st N cd w v w1 v1 s o b pz l m t ka) {d' : Nat} {r' : List eV} {v2 : eW} (hM : e_Rn 20 elay ecode eI d' 327 (0, [(0, (1, 275))], [], v1) r' v2) : r' = [] ∧ e_fr mTq v1 v2 := by
  have hA := h.1.1
  have kk := h.1.2.1.2.1
  have nn := hA.1
  obtain ⟨u1, u2, -⟩ := hM.pn (fun nq => e_Ok.pnA (D0 := 600) (fun D hD => l_327 (by omega) hA.2.2.2.2.1 hA.2.2.2.2.2 hA.1.2.1 (by omega) rfl (by omega)) nq d')
  exact ⟨u1, u2⟩
theorem nf3_kRa_cd_0 {cd : Int} (h : isCd cd) : ¬ kRa cd 0 := by
  have h1 := h.n
  have h2 := h.m
  unfold kRa
  omega
theorem pf3_kGs_1_12 {cd : Int} : kGs cd 1 12 := by unfold kGs; omega
theorem nf3_kGs_cd_0 {cd : Int} (h : isCd cd) : ¬ kGs cd cd 0 := by
  have h1 := h.n
  have h2 := h.m
  unfold kGs
  omega
theorem nf3_kGs_1_5 {cd : Int} (h : isCd cd) : ¬ kGs cd 1 5 := by
  have h1 := h.n
  have h2 := h.m
  unfold kGs
  omega
theorem nf3_kGs_1_6 {cd : Int} (h : isCd cd) : ¬ kGs cd 1 6 := by
  have h1 := h.n
  have h2 := h.m
  unfold kGs
  omega
theorem nf3_kGs_1_8 {cd : Int} (h : isCd cd) : ¬ kGs cd 1 8 := by
  have h1 := h.n
  have h2 := h.m
  unfold kGs
  omega
theorem pf3_kGs_1_13 {cd : Int} : kGs cd 1 13 := by unfold kGs; omega
theorem nf3_kEm_1_5 {cd : Int} (h : isCd cd) : ¬ kEm cd 1 5 := by
  have h1 := h.n
  have h2 := h.m
  unfold kEm
  omega
theorem nf3_kEm_1_6 {cd : Int} (h : isCd cd) : ¬ kEm cd 1 6 := by
  have h1 := h.n
  have h2 := h.m
  unfold kEm
  omega
theorem nf3_kEm_1_8 {cd : Int} (h : isCd cd) : ¬ kEm cd 1 8 := by
  have h1 := h.n
  have h2 := h.m
  unfold kEm
  omega
theorem nf3_mEm_275_83 : ¬ mEm 275 83 := by
  unfold mEm
  omega
theorem nf3_mEm_275_82 : ¬ mEm 275 82 := by
  unfold mEm
  omega
theorem nf3_mEm_275_80 : ¬ mEm 275 80 := by
  unfold mEm
  omega
set_option maxHeartbeats 4000000 in
theorem e_txtC {n : Nat} {N cd : Int} {w v : eW} {Q : List eV → eW → Prop} (hz : tz0 N cd w v) {d d' : Nat} {r' : List eV} {v' : eW} (hr0 : r' = []) (K1 : ∀ n', n' ≤ n → ∀ (tl : eL) (y : Int) (w1 : eW), tzE N cd w1 v' → e_Pn 20 elay kcode eI n' d 119 (108, (0, (1, 1)) :: (1, (0, y)) :: tl, [], w1) Q) (K2 : ∀ w1, rpF w1 v' → Q [] w1) : ∀ nn28 : Nat, nn28 ≤ n → ∀ (tl29 tl30 : eL) (y3 : Int) (yl : Int) (yt : Int) (wl32 vl33 : eW), st N cd w v wl32 vl33 0 0 0 (-1) yl (v 275 82) yt 0 ∧ (0 ≤ y3 ∧ 7 * y3 ≤ wl32 1 6) ∧ (wl32 cd 0 ≤ 4000 * y3 ∧ y3 ≤ 4000 * (wl32 1 6 - wl32 cd 0)) ∧ (8 * cn1 vl33 ≤ wl32 1 6) → e_Rn 20 elay ecode eI d' 353 (67, (0, (1, 275)) :: tl30, [], vl33) r' v' → e_Pn 20 elay kcode eI nn28 d 119 (71, (0, (1, 1)) :: (1, (0, y3)) :: tl29, [], wl32) Q := by
  have h0 := st.refl (ka := 0) hz.1 hz.2.1 hz.2.2.1
  have hm := hz.1.2.2.2.1.1.m
  have hn := hz.1.2.2.2.1.1.n
  have hcd := hz.1.2.2.2.1.1
  have hzo := hz.2.2.2
  have hza : all0 v := fun i i0 i1 => by omega
  have hzc : cn1 v = 0 := by unfold cn1; rw [hz.2.2.2.2.1]; rfl
  have q1 := st.nums h0
  have q1c := q1.2.2.2.1
  intro nn28
  induction nn28 with
  | zero => intro _ tl29 tl30 y3 yl yt wl32 vl33 _ _; exact e_Pn.zero
  | succ nn28 ih27 =>
    intro hn tl29 tl30 y3 yl yt wl32 vl33 hj31 hM
    obtain ⟨hj31, j34, j35, j36⟩ := hj31
    have q37 := st.nums hj31
    have q37c := q37.2.2.2.1
    refine e_Pn.runS (t' := (75, (0, (1, 1)) :: (1, (0, y3)) :: tl29, [(0, 4000), (0, y3)], wl32)) kAlk 1 rfl ?_
    refine e_Pn.if2 kAlk rfl (fun h38 => ?_) (fun h38 => ?_)
    · replace h38 : (y3 : Int) ≥ 4000 := h38
      exfalso; omega
    · replace h38 : (y3 : Int) < 4000 := by have q : ¬ ((y3 : Int) ≥ 4000) := h38; omega
      refine e_Pn.run (t' := (79, (0, (1, 1)) :: (1, (0, y3)) :: tl29, [(1, 1)], wl32)) kAlk 1 rfl ?_
      refine e_Pn.getf (z := wl32 1 5) kAlk rfl rfl rfl (fun b39 => ?_)
      refine e_Pn.run (t' := (84, (0, (1, 1)) :: (1, (0, y3)) :: tl29, [(0, 22), (0, wl32 1 5)], wl32)) kAlk 1 rfl ?_
      refine e_Pn.if2 kAlk rfl (fun h40 => ?_) (fun h40 => ?_)
      · replace h40 : (wl32 1 5 : Int) ≠ 22 := h40
        refine e_Pn.run (t' := (98, (0, (1, 1)) :: (1, (0, y3)) :: tl29, [(1, 1)], wl32)) kAlk 1 rfl ?_
        refine e_Pn.getf (z := wl32 1 5) kAlk rfl rfl rfl (fun b41 => ?_)
        refine e_Pn.if1 kAlk rfl (fun h42 => ?_) (fun h42 => ?_)
        · replace h42 : (wl32 1 5 : Int) = 0 := h42
          replace hM := hM.st (t' := (68, (0, (1, 275)) :: tl30, [(1, 275)], vl33)) (fun _ _ q => e_Pn.run eAlk 1 rfl q)
          obtain ⟨b43, hM⟩ := hM.of (fun _ _ q => e_Pn.getf (z := 0) eAlk rfl rfl hj31.1.2.1.1.2 q)
          rcases hM.or (fun _ _ q1 q2 => e_Pn.if1 eAlk rfl q1 q2) with ⟨h44, hM⟩ | ⟨h44, hM⟩
          · replace h44 : (0 : Int) ≠ 0 := h44
            exfalso; omega
          · replace h44 : (0 : Int) = 0 := by have q : ¬ ((0 : Int) ≠ 0) := h44; omega
            replace hM := hM.st (t' := (76, (0, (1, 275)) :: tl30, [(0, 1), (1, 275)], vl33)) (fun _ _ q => e_Pn.run eAlk 2 rfl q)
            obtain ⟨dc45, r46, v47, hc48, hM⟩ := hM.ca rfl
            obtain ⟨z49, rfl, rfl, z49q⟩ := hc48.pn (fun nq => l_332)
            replace z49q := isS (kM_key (k := 1) hj31.1.2.1.2.2.1 (by decide)) rfl rfl z49q
            obtain rfl : z49 = 0 := by omega
            clear z49q
            replace hM : e_Rn 20 elay ecode eI d' 353 (79, (0, (1, 275)) :: tl30, [(0, 0)], vl33) r' v' := hM
            rcases hM.or (fun _ _ q1 q2 => e_Pn.if1 eAlk rfl q1 q2) with ⟨h50, hM⟩ | ⟨h50, hM⟩
            · replace h50 : (0 : Int) = 0 := h50
              replace hM := hM.st (t' := (131, (0, (1, 275)) :: tl30, [(1, 275), (1, 275)], vl33)) (fun _ _ q => e_Pn.run eAlk 2 rfl q)
              obtain ⟨b51, hM⟩ := hM.of (fun _ _ q => e_Pn.getf (z := 0) eAlk rfl rfl (kM_k0 hj31.1.2.1.2.2.1 (by first | decide | omega)) q)
              rcases hM.or (fun _ _ q1 q2 => e_Pn.if1 eAlk rfl q1 q2) with ⟨h52, hM⟩ | ⟨h52, hM⟩
              · replace h52 : (0 : Int) ≠ 0 := h52
                exfalso; omega
              · replace h52 : (0 : Int) = 0 := by have q : ¬ ((0 : Int) ≠ 0) := h52; omega
                replace hM := hM.st (t' := (142, (0, (1, 275)) :: tl30, [(0, 1), (1, 275)], vl33)) (fun _ _ q => e_Pn.run eAlk 2 rfl q)
                obtain ⟨dhc53, r54, v55, hc53, hM⟩ := hM.ca rfl
                replace hc53 : e_Rn 20 elay ecode eI dhc53 334 (0, [(0, (1, 275)), (1, (0, 1))], [], vl33) r54 v55 := hc53
                replace hc53 := hc53.st (t' := (1, [(0, (1, 275)), (1, (0, 1))], [(1, 275)], vl33)) (fun _ _ q => e_Pn.run eAlk 1 rfl q)
                obtain ⟨b56, hc53⟩ := hc53.of (fun _ _ q => e_Pn.getf (z := 0) eAlk rfl rfl hj31.1.2.1.1.2 q)
                rcases hc53.or (fun _ _ q1 q2 => e_Pn.if1 eAlk rfl q1 q2) with ⟨h57, hc53⟩ | ⟨h57, hc53⟩
                · replace h57 : (0 : Int) = 0 := h57
                  have kw58 : (wl32 1 5 : Int) ≠ 1 := fun e9 => absurd (kM_k1 hj31.1.2.1.2.2.1 e9) (by first | decide | omega)
                  replace hc53 := hc53.st (t' := (9, [(0, (1, 275)), (1, (0, 1))], [(0, 1)], vl33)) (fun _ _ q => e_Pn.run eAlk 1 rfl q)
                  rcases hc53.or (fun _ _ q1 q2 => e_Pn.if1 eAlk rfl q1 q2) with ⟨h59, hc53⟩ | ⟨h59, hc53⟩
                  · replace h59 : (1 : Int) = 0 := h59
                    exfalso; omega
                  · replace h59 : (1 : Int) ≠ 0 := by have q : ¬ ((1 : Int) = 0) := h59; omega
                    replace hc53 := hc53.st (t' := (13, [(0, (1, 275)), (1, (0, 1))], [(1, 275)], vl33)) (fun _ _ q => e_Pn.run eAlk 1 rfl q)
                    obtain ⟨dc60, r61, v62, hc63, hc53⟩ := hc53.ca rfl
                    obtain ⟨rfl, s64⟩ := tendQ hj31 hc63
                    replace hc53 : e_Rn 20 elay ecode eI dhc53 334 (16, [(0, (1, 275)), (1, (0, 1))], [], v62) r54 v55 := hc53
                    replace hc53 := hc53.st (t' := (24, [(0, (1, 275)), (1, (0, 1))], [], v62)) (fun _ _ q => e_Pn.run eAlk 1 rfl q)
                    obtain ⟨rfl, rfl⟩ := hc53.re0 rfl
                    replace hM : e_Rn 20 elay ecode eI d' 353 (145, (0, (1, 275)) :: tl30, [], v62) r' v' := hM
                    obtain ⟨-, rfl⟩ := hM.re0 rfl
                    exact e_Pn.ord kAlk [0, 1] rfl rfl (K1 _ (by first | decide | omega) _ y3 wl32 (tzE.of hj31 s64 (by first | decide | omega) (by first | decide | omega) (by first | decide | omega)))
                · replace h57 : (0 : Int) ≠ 0 := by have q : ¬ ((0 : Int) = 0) := h57; omega
                  exact (kM_no hj31.1.2.1.2.2.1 (fun a b => decide ((a : Int) ≠ 22) && decide ((a : Int) = 0) && decide ((0 : Int) ≠ 0)) (fun a b c => true) (by decide) (by decide) (by simp only [Bool.and_eq_true, decide_eq_true_eq]; exact ⟨⟨h40, h42⟩, h57⟩) rfl).elim
            · replace h50 : (0 : Int) ≠ 0 := by have q : ¬ ((0 : Int) = 0) := h50; omega
              exfalso; omega
        · replace h42 : (wl32 1 5 : Int) ≠ 0 := by have q : ¬ ((wl32 1 5 : Int) = 0) := h42; omega
          refine e_Pn.run (t' := (105, (0, (1, 1)) :: (1, (0, y3)) :: tl29, [(1, 1)], wl32)) kAlk 1 rfl ?_
          replace hM := hM.st (t' := (68, (0, (1, 275)) :: tl30, [(1, 275)], vl33)) (fun _ _ q => e_Pn.run eAlk 1 rfl q)
          obtain ⟨b65, hM⟩ := hM.of (fun _ _ q => e_Pn.getf (z := 0) eAlk rfl rfl hj31.1.2.1.1.2 q)
          rcases hM.or (fun _ _ q1 q2 => e_Pn.if1 eAlk rfl q1 q2) with ⟨h66, hM⟩ | ⟨h66, hM⟩
          · replace h66 : (0 : Int) ≠ 0 := h66
            exfalso; omega
          · replace h66 : (0 : Int) = 0 := by have q : ¬ ((0 : Int) ≠ 0) := h66; omega
            replace hM := hM.st (t' := (76, (0, (1, 275)) :: tl30, [(0, 1), (1, 275)], vl33)) (fun _ _ q => e_Pn.run eAlk 2 rfl q)
            obtain ⟨dc67, r68, v69, hc70, hM⟩ := hM.ca rfl
            obtain ⟨z71, rfl, rfl, z71q⟩ := hc70.pn (fun nq => l_332)
            replace z71q := isS (kM_key (k := 1) hj31.1.2.1.2.2.1 (by decide)) rfl rfl z71q
            obtain rfl : z71 = 0 := by omega
            clear z71q
            replace hM : e_Rn 20 elay ecode eI d' 353 (79, (0, (1, 275)) :: tl30, [(0, 0)], vl33) r' v' := hM
            rcases hM.or (fun _ _ q1 q2 => e_Pn.if1 eAlk rfl q1 q2) with ⟨h72, hM⟩ | ⟨h72, hM⟩
            · replace h72 : (0 : Int) = 0 := h72
              replace hM := hM.st (t' := (131, (0, (1, 275)) :: tl30, [(1, 275), (1, 275)], vl33)) (fun _ _ q => e_Pn.run eAlk 2 rfl q)
              obtain ⟨b73, hM⟩ := hM.of (fun _ _ q => e_Pn.getf (z := vl33 275 84) eAlk rfl rfl rfl q)
              rcases hM.or (fun _ _ q1 q2 => e_Pn.if1 eAlk rfl q1 q2) with ⟨h74, hM⟩ | ⟨h74, hM⟩
              · replace h74 : (vl33 275 84 : Int) ≠ 0 := h74
                replace hM := hM.st (t' := (142, (0, (1, 275)) :: tl30, [(0, 0), (1, 275)], vl33)) (fun _ _ q => e_Pn.run eAlk 1 rfl q)
                obtain ⟨dhc75, r76, v77, hc75, hM⟩ := hM.ca rfl
                replace hc75 : e_Rn 20 elay ecode eI dhc75 334 (0, [(0, (1, 275)), (1, (0, 0))], [], vl33) r76 v77 := hc75
                replace hc75 := hc75.st (t' := (1, [(0, (1, 275)), (1, (0, 0))], [(1, 275)], vl33)) (fun _ _ q => e_Pn.run eAlk 1 rfl q)
                obtain ⟨b78, hc75⟩ := hc75.of (fun _ _ q => e_Pn.getf (z := 0) eAlk rfl rfl hj31.1.2.1.1.2 q)
                rcases hc75.or (fun _ _ q1 q2 => e_Pn.if1 eAlk rfl q1 q2) with ⟨h79, hc75⟩ | ⟨h79, hc75⟩
                · replace h79 : (0 : Int) = 0 := h79
                  replace hc75 := hc75.st (t' := (9, [(0, (1, 275)), (1, (0, 0))], [(0, 0)], vl33)) (fun _ _ q => e_Pn.run eAlk 1 rfl q)
                  rcases hc75.or (fun _ _ q1 q2 => e_Pn.if1 eAlk rfl q1 q2) with ⟨h81, hc75⟩ | ⟨h81, hc75⟩
                  · replace h81 : (0 : Int) = 0 := h81
                    replace hc75 := hc75.st (t' := (21, [(0, (1, 275)), (1, (0, 0))], [(0, 2), (1, 275)], vl33)) (fun _ _ q => e_Pn.run eAlk 2 rfl q)
                    obtain ⟨dc83, r84, v85, hc86, hc75⟩ := hc75.ca rfl
                    have uhc86 := hc86.pn (fun nq => u_333 hj31.1.2.2.2.2.1)
                    refine e_Pn.callA rfl (fun nq dq => e_Pn.and (t_130 hj31.1.2.1 (x := 2) (by decide) (d' := dc83) hc86) (u_130 hj31.1.2.2.2.1)) (fun r87 w88 h89 => ?_)
                    obtain ⟨⟨rfl, rfl, h89⟩, -, h89k⟩ := h89
                    replace hc75 : e_Rn 20 elay ecode eI dhc75 334 (24, [(0, (1, 275)), (1, (0, 0))], [], v85) r76 v77 := hc75
                    obtain ⟨rfl, m90⟩ := (e_Rn.le eAlk [0, 1] rfl rfl hc75).pn (fun nq => v_334_24 (uhc86.2.rf hj31.1.2.2.2.2.1) _ 0 v85 mq.r)
                    replace hM : e_Rn 20 elay ecode eI d' 353 (145, (0, (1, 275)) :: tl30, [], v77) r' v' := hM
                    obtain ⟨rfl, m91⟩ := (e_Rn.le eAlk [0] rfl rfl hM).pn (fun nq => v_353_145 (m90.rf (uhc86.2.rf hj31.1.2.2.2.2.1)) _  v77 mq.r)
                    show e_Pn 20 elay kcode eI nn28 d 119 (108, (0, (1, 1)) :: (1, (0, y3)) :: tl29, [], w88) _
                    refine e_Pn.ord kAlk [0, 1] rfl rfl ((v_119_108 (h89k.rf hj31.1.2.2.2.1) (rpF.k h89 kq.r (cd := cd)) _ y3 w88 kq.r).imp (fun r93 w94 k92 => ?_))
                    obtain ⟨rfl, k92⟩ := k92
                    exact K2 _ (rpF.tail h89 k92 (m90.tr m91))
                  · replace h81 : (0 : Int) ≠ 0 := by have q : ¬ ((0 : Int) = 0) := h81; omega
                    exact (kM_no hj31.1.2.1.2.2.1 (fun a b => decide ((a : Int) ≠ 22) && decide ((a : Int) ≠ 0) && decide ((b : Int) ≠ 0) && decide ((0 : Int) ≠ 0)) (fun a b c => true) (by decide) (by decide) (by simp only [Bool.and_eq_true, decide_eq_true_eq]; exact ⟨⟨⟨h40, h42⟩, h74⟩, h81⟩) rfl).elim
                · replace h79 : (0 : Int) ≠ 0 := by have q : ¬ ((0 : Int) = 0) := h79; omega
                  exact (kM_no hj31.1.2.1.2.2.1 (fun a b => decide ((a : Int) ≠ 22) && decide ((a : Int) ≠ 0) && decide ((b : Int) ≠ 0) && decide ((0 : Int) ≠ 0)) (fun a b c => true) (by decide) (by decide) (by simp only [Bool.and_eq_true, decide_eq_true_eq]; exact ⟨⟨⟨h40, h42⟩, h74⟩, h79⟩) rfl).elim
              · replace h74 : (vl33 275 84 : Int) = 0 := by have q : ¬ ((vl33 275 84 : Int) ≠ 0) := h74; omega
                exact (kM_no hj31.1.2.1.2.2.1 (fun a b => decide ((a : Int) ≠ 22) && decide ((a : Int) ≠ 0) && decide ((b : Int) = 0)) (fun a b c => true) (by decide) (by decide) (by simp only [Bool.and_eq_true, decide_eq_true_eq]; exact ⟨⟨h40, h42⟩, h74⟩) rfl).elim
            · replace h72 : (0 : Int) ≠ 0 := by have q : ¬ ((0 : Int) = 0) := h72; omega
              exfalso; omega
      · replace h40 : (wl32 1 5 : Int) = 22 := by have q : ¬ ((wl32 1 5 : Int) ≠ 22) := h40; omega
        refine e_Pn.run (t' := (88, (0, (1, 1)) :: (1, (0, y3)) :: tl29, [(1, 1)], wl32)) kAlk 1 rfl ?_
        refine e_Pn.callI rfl (fun nq95 dq96 => ?_)
        show e_Pn 20 elay kcode eI nq95 dq96 142 (0, [(0, (1, 1))], [], wl32) _
        refine e_Pn.run (t' := (1, [(0, (1, 1))], [(1, 1)], wl32)) kAlk 1 rfl ?_
        replace hM := hM.st (t' := (68, (0, (1, 275)) :: tl30, [(1, 275)], vl33)) (fun _ _ q => e_Pn.run eAlk 1 rfl q)
        obtain ⟨b97, hM⟩ := hM.of (fun _ _ q => e_Pn.getf (z := 0) eAlk rfl rfl hj31.1.2.1.1.2 q)
        rcases hM.or (fun _ _ q1 q2 => e_Pn.if1 eAlk rfl q1 q2) with ⟨h98, hM⟩ | ⟨h98, hM⟩
        · replace h98 : (0 : Int) ≠ 0 := h98
          exfalso; omega
        · replace h98 : (0 : Int) = 0 := by have q : ¬ ((0 : Int) ≠ 0) := h98; omega
          replace hM := hM.st (t' := (76, (0, (1, 275)) :: tl30, [(0, 1), (1, 275)], vl33)) (fun _ _ q => e_Pn.run eAlk 2 rfl q)
          obtain ⟨dc99, r100, v101, hc102, hM⟩ := hM.ca rfl
          obtain ⟨z103, rfl, rfl, z103q⟩ := hc102.pn (fun nq => l_332)
          replace z103q := isS (kM_key (k := 1) hj31.1.2.1.2.2.1 (by decide)) rfl rfl z103q
          obtain rfl : z103 = 1 := by omega
          clear z103q
          replace hM : e_Rn 20 elay ecode eI d' 353 (79, (0, (1, 275)) :: tl30, [(0, 1)], vl33) r' v' := hM
          rcases hM.or (fun _ _ q1 q2 => e_Pn.if1 eAlk rfl q1 q2) with ⟨h104, hM⟩ | ⟨h104, hM⟩
          · replace h104 : (1 : Int) = 0 := h104
            exfalso; omega
          · replace h104 : (1 : Int) ≠ 0 := by have q : ¬ ((1 : Int) = 0) := h104; omega
            replace hM := hM.st (t' := (83, (0, (1, 275)) :: tl30, [(1, 275)], vl33)) (fun _ _ q => e_Pn.run eAlk 1 rfl q)
            obtain ⟨dc105, r106, v107, hc108, hM⟩ := hM.ca rfl
            refine e_Pn.callA rfl (fun nq dq => t_123b hj31.1.1 hj31.1.2.1.1 hj31.1.2.1.2.1.2.1 (st.nx hj31) (d' := dc105) hc108) (fun r109 w110 h111 => ?_)
            obtain ⟨rfl, rfl, h111⟩ := h111
            have s112 := st.ad (k := 2) hj31 h111 (st.len2 hj31 (by first | decide | omega)) (by first | decide | omega)
            have s112n := h111.2.2.2.1
            have s112m := st.len2 hj31 (by first | decide | omega)
            have s112x := cn1.E (TK.nm h111)
            have s112y : w110 cd 0 = wl32 cd 0 := h111.2.2.2.2.1 cd 0 (nf3_kRa_cd_0 hcd)
            have s112g : w 1 6 + 1 ≤ w110 1 6 := by omega
            have q113 := st.nums s112
            clear q37
            have q113c := q113.2.2.2.1
            show e_Pn 20 elay kcode eI nq95 dq96 142 (4, [(0, (1, 1))], [], w110) _
            replace hM : e_Rn 20 elay ecode eI d' 353 (86, (0, (1, 275)) :: tl30, [], v107) r' v' := hM
            refine e_Pn.run (t' := (5, [(0, (1, 1))], [(1, 1)], w110)) kAlk 1 rfl ?_
            refine e_Pn.getf (z := w110 1 5) kAlk rfl rfl rfl (fun b114 => ?_)
            refine e_Pn.run (t' := (9, [(0, (1, 1))], [(0, 1), (0, w110 1 5)], w110)) kAlk 1 rfl ?_
            refine e_Pn.if2 kAlk rfl (fun h115 => ?_) (fun h115 => ?_)
            · replace h115 : (w110 1 5 : Int) ≠ 1 := h115
              refine e_Pn.run (t' := (92, [(0, (1, 1))], [(0, 1), (1, 1)], w110)) kAlk 2 rfl ?_
              replace hM := hM.st (t' := (89, (0, (1, 275)) :: tl30, [(1, 275), (0, 1), (1, 275)], v107)) (fun _ _ q => e_Pn.run eAlk 3 rfl q)
              obtain ⟨b116, hM⟩ := hM.of (fun _ _ q => e_Pn.getf (z := v107 275 78) eAlk rfl rfl rfl q)
              obtain ⟨dhc117, r118, v119, hc117, hM⟩ := hM.ca rfl
              replace hc117 : e_Rn 20 elay ecode eI dhc117 338 (0, [(0, (1, 275)), (1, (0, 1)), (2, (0, v107 275 78))], [], v107) r118 v119 := hc117
              replace hc117 := hc117.st (t' := (1, [(0, (1, 275)), (1, (0, 1)), (2, (0, v107 275 78))], [(1, 275)], v107)) (fun _ _ q => e_Pn.run eAlk 1 rfl q)
              obtain ⟨b120, hc117⟩ := hc117.of (fun _ _ q => e_Pn.getf (z := 0) eAlk rfl rfl s112.1.2.1.1.2 q)
              rcases hc117.or (fun _ _ q1 q2 => e_Pn.if1 eAlk rfl q1 q2) with ⟨h121, hc117⟩ | ⟨h121, hc117⟩
              · replace h121 : (0 : Int) ≠ 0 := h121
                exfalso; omega
              · replace h121 : (0 : Int) = 0 := by have q : ¬ ((0 : Int) ≠ 0) := h121; omega
                have kw122 : (w110 1 5 : Int) ≠ 1 := fun e9 => absurd (kM_k1 s112.1.2.1.2.2.1 e9) (by first | decide | omega)
                replace hc117 := hc117.st (t' := (8, [(0, (1, 275)), (1, (0, 1)), (2, (0, v107 275 78))], [(1, 275)], v107)) (fun _ _ q => e_Pn.run eAlk 1 rfl q)
                obtain ⟨b123, hc117⟩ := hc117.of (fun _ _ q => e_Pn.getf (z := v107 275 84) eAlk rfl rfl rfl q)
                replace hc117 := hc117.st (t' := (12, [(0, (1, 275)), (1, (0, 1)), (2, (0, v107 275 78))], [(0, 1), (0, v107 275 84)], v107)) (fun _ _ q => e_Pn.run eAlk 1 rfl q)
                rcases hc117.or (fun _ _ q1 q2 => e_Pn.if2 eAlk rfl q1 q2) with ⟨h124, hc117⟩ | ⟨h124, hc117⟩
                · replace h124 : (v107 275 84 : Int) ≠ 1 := h124
                  replace hc117 := hc117.st (t' := (78, [(0, (1, 275)), (1, (0, 1)), (2, (0, v107 275 78))], [(1, 275), (1, 275)], v107)) (fun _ _ q => e_Pn.run eAlk 2 rfl q)
                  obtain ⟨b125, hc117⟩ := hc117.of (fun _ _ q => e_Pn.getf (z := v107 275 84) eAlk rfl rfl rfl q)
                  replace hc117 := hc117.st (t' := (82, [(0, (1, 275)), (1, (0, 1)), (2, (0, v107 275 78))], [(0, 1), (0, v107 275 84), (1, 275)], v107)) (fun _ _ q => e_Pn.run eAlk 1 rfl q)
                  rcases hc117.or (fun _ _ q1 q2 => e_Pn.if2 eAlk rfl q1 q2) with ⟨h126, hc117⟩ | ⟨h126, hc117⟩
                  · replace h126 : (v107 275 84 : Int) ≠ 1 := h126
                    replace hc117 := hc117.st (t' := (90, [(0, (1, 275)), (1, (0, 1)), (2, (0, v107 275 78))], [(0, 0), (1, 275)], v107)) (fun _ _ q => e_Pn.run eAlk 1 rfl q)
                    obtain ⟨dc127, r128, v129, hc130, hc117⟩ := hc117.ca rfl
                    have uhc130 := hc130.pn (fun nq => u_334 s112.1.2.2.2.2.1)
                    refine e_Pn.callA rfl (fun nq dq => e_Pn.and (t_129b s112.1.1 s112.1.2.1 (by first | decide | omega) (d' := dc127) hc130) (u_129 s112.1.2.2.2.1)) (fun r131 w132 h133 => ?_)
                    obtain ⟨⟨rfl, rfl, h133⟩, -, h133k⟩ := h133
                    rcases h133.symm with h133 | ⟨h133c, h133⟩
                    · skip
                      replace hc117 : e_Rn 20 elay ecode eI dhc117 338 (93, [(0, (1, 275)), (1, (0, 1)), (2, (0, v107 275 78))], [], v129) r118 v119 := hc117
                      obtain ⟨rfl, m134⟩ := (e_Rn.le eAlk [0, 1, 2] rfl rfl hc117).pn (fun nq => v_338_93 (uhc130.2.rf s112.1.2.2.2.2.1) _ 1 (v107 275 78) v129 mq.r)
                      replace hM : e_Rn 20 elay ecode eI d' 353 (95, (0, (1, 275)) :: tl30, [], v119) r' v' := hM
                      obtain ⟨rfl, m135⟩ := (e_Rn.le eAlk [0] rfl rfl hM).pn (fun nq => v_353_95 (m134.rf (uhc130.2.rf s112.1.2.2.2.2.1)) _  v119 mq.r)
                      show e_Pn 20 elay kcode eI nq95 dq96 142 (95, [(0, (1, 1))], [], w132) _
                      refine e_Pn.ord kAlk [0] rfl rfl ((v_142_95 (h133k.rf s112.1.2.2.2.1) _  w132 kq.r).imp (fun r137 w138 k136 => ?_))
                      obtain ⟨rfl, k136⟩ := k136
                      show e_Pn 20 elay kcode eI nn28 d 119 (91, (0, (1, 1)) :: (1, (0, y3)) :: tl29, [], w138) _
                      refine e_Pn.ord kAlk [0, 1] rfl rfl ((v_119_91 (k136.rf (h133k.rf s112.1.2.2.2.1)) (rpF.k h133 k136) _ y3 w138 kq.r).imp (fun r140 w141 k139 => ?_))
                      obtain ⟨rfl, k139⟩ := k139
                      exact K2 _ (rpF.tail h133 (k136.tr k139) (m134.tr m135))
                    exfalso; omega
                  · replace h126 : (v107 275 84 : Int) = 1 := by have q : ¬ ((v107 275 84 : Int) ≠ 1) := h126; omega
                    exfalso; omega
                · replace h124 : (v107 275 84 : Int) = 1 := by have q : ¬ ((v107 275 84 : Int) ≠ 1) := h124; omega
                  exact (kM_no s112.1.2.1.2.2.1 (fun a b => decide ((a : Int) ≠ 1) && decide ((b : Int) = 1)) (fun a b c => true) (by decide) (by decide) (by simp only [Bool.and_eq_true, decide_eq_true_eq]; exact ⟨h115, h124⟩) rfl).elim
            · replace h115 : (w110 1 5 : Int) = 1 := by have q : ¬ ((w110 1 5 : Int) ≠ 1) := h115; omega
              refine e_Pn.run (t' := (13, [(0, (1, 1))], [(1, 1)], w110)) kAlk 1 rfl ?_
              have hOw143 := NR.names s112.2.1 (by first | decide | omega)
              refine e_Pn.callA rfl (fun nq dq => l_139 s112.1.2.2.2.1 s112.1.1.2.2.1 s112.1.1.2.2.2.1 s112.1.1.1.1 (by first | decide | omega) hOw143.1 hOw143.2 (NR.v32 s112.2.1) (NR.r500 s112.2.1)) (fun r142 w143 h144 => ?_)
              obtain ⟨rfl, w143c⟩ := h144
              replace w143c := chkQ.of w143c
              have w143f := chkQ.fr w143c
              have w143a := TK.apart hj31 h111 (by first | decide | omega) (by first | decide | omega)
              have w143k := kRw.rc s112.1.2.2.2.1 w143f
              have w143l : 0 ≤ w143 cd 0 ∧ w143 cd 0 ≤ 4000 := by rw [w143f cd 0 (by unfold kRc; omega)]; exact s112.1.2.2.2.2.2.1
              have w143e : w143 1 5 = w110 1 5 ∧ w143 1 6 = w110 1 6 ∧ w143 1 8 = w110 1 8 := ⟨w143f 1 5 (by unfold kRc; omega), w143f 1 6 (by unfold kRc; omega), w143f 1 8 (by unfold kRc; omega)⟩
              show e_Pn 20 elay kcode eI nq95 dq96 142 (16, [(0, (1, 1))], [], w143) _
              refine e_Pn.run (t' := (17, [(0, (1, 1))], [(1, 1)], w143)) kAlk 1 rfl ?_
              refine e_Pn.getf (z := w110 1 14) kAlk rfl rfl ((w143f 1 14 (by unfold kRc; omega)).trans rfl) (fun b145 => ?_)
              refine e_Pn.run (t' := (22, [(0, (1, 1))], [(0, 32), (0, w110 1 14)], w143)) kAlk 1 rfl ?_
              refine e_Pn.if2 kAlk rfl (fun h146 => ?_) (fun h146 => ?_)
              · replace h146 : (w110 1 14 : Int) ≥ 32 := h146
                refine e_Pn.run (t' := (51, [(0, (1, 1))], [(1, 1), (0, 7), (1, 1)], w143)) kAlk 3 rfl ?_
                refine e_Pn.getf (z := w110 1 6) kAlk rfl rfl ((w143f 1 6 (by unfold kRc; omega)).trans rfl) (fun b147 => ?_)
                refine e_Pn.callA rfl (fun nq dq => l_133) (fun r148 w149 h150 => ?_)
                obtain ⟨rfl, w149c⟩ := h150
                have w149f := cplQ.fr w149c
                have w149k := kRw.rc w143k w149f
                have w149l : 0 ≤ w149 cd 0 ∧ w149 cd 0 ≤ 4000 := by rw [w149f cd 0 (by unfold kRc; omega)]; exact w143l
                have w149e : w149 1 5 = w143 1 5 ∧ w149 1 6 = w143 1 6 ∧ w149 1 8 = w143 1 8 := ⟨w149f 1 5 (by unfold kRc; omega), w149f 1 6 (by unfold kRc; omega), w149f 1 8 (by unfold kRc; omega)⟩
                show e_Pn 20 elay kcode eI nq95 dq96 142 (57, [(0, (1, 1))], [], w149) _
                refine e_Pn.run (t' := (58, [(0, (1, 1))], [(1, 1)], w149)) kAlk 1 rfl ?_
                refine e_Pn.getf (z := w110 1 14) kAlk rfl rfl ((w149f 1 14 (by unfold kRc; omega)).trans ((w143f 1 14 (by unfold kRc; omega)).trans rfl)) (fun b151 => ?_)
                refine e_Pn.run (t' := (64, [(0, (1, 1))], [(0, 500), (0, w110 1 14)], w149)) kAlk 1 rfl ?_
                refine e_Pn.if2 kAlk rfl (fun h152 => ?_) (fun h152 => ?_)
                · replace h152 : (w110 1 14 : Int) ≥ 500 := h152
                  refine e_Pn.run (t' := (92, [(0, (1, 1))], [(0, 1), (1, 1)], w149)) kAlk 2 rfl ?_
                  replace hM := hM.st (t' := (89, (0, (1, 275)) :: tl30, [(1, 275), (0, 1), (1, 275)], v107)) (fun _ _ q => e_Pn.run eAlk 3 rfl q)
                  obtain ⟨b153, hM⟩ := hM.of (fun _ _ q => e_Pn.getf (z := v107 275 78) eAlk rfl rfl rfl q)
                  obtain ⟨dhc154, r155, v156, hc154, hM⟩ := hM.ca rfl
                  replace hc154 : e_Rn 20 elay ecode eI dhc154 338 (0, [(0, (1, 275)), (1, (0, 1)), (2, (0, v107 275 78))], [], v107) r155 v156 := hc154
                  replace hc154 := hc154.st (t' := (1, [(0, (1, 275)), (1, (0, 1)), (2, (0, v107 275 78))], [(1, 275)], v107)) (fun _ _ q => e_Pn.run eAlk 1 rfl q)
                  obtain ⟨b157, hc154⟩ := hc154.of (fun _ _ q => e_Pn.getf (z := 0) eAlk rfl rfl s112.1.2.1.1.2 q)
                  rcases hc154.or (fun _ _ q1 q2 => e_Pn.if1 eAlk rfl q1 q2) with ⟨h158, hc154⟩ | ⟨h158, hc154⟩
                  · replace h158 : (0 : Int) ≠ 0 := h158
                    exfalso; omega
                  · replace h158 : (0 : Int) = 0 := by have q : ¬ ((0 : Int) ≠ 0) := h158; omega
                    replace hc154 := hc154.st (t' := (8, [(0, (1, 275)), (1, (0, 1)), (2, (0, v107 275 78))], [(1, 275)], v107)) (fun _ _ q => e_Pn.run eAlk 1 rfl q)
                    obtain ⟨b159, hc154⟩ := hc154.of (fun _ _ q => e_Pn.getf (z := 1) eAlk rfl rfl (kM_k1 s112.1.2.1.2.2.1 (by first | decide | omega)) q)
                    replace hc154 := hc154.st (t' := (12, [(0, (1, 275)), (1, (0, 1)), (2, (0, v107 275 78))], [(0, 1), (0, 1)], v107)) (fun _ _ q => e_Pn.run eAlk 1 rfl q)
                    rcases hc154.or (fun _ _ q1 q2 => e_Pn.if2 eAlk rfl q1 q2) with ⟨h160, hc154⟩ | ⟨h160, hc154⟩
                    · replace h160 : (1 : Int) ≠ 1 := h160
                      exfalso; omega
                    · replace h160 : (1 : Int) = 1 := by have q : ¬ ((1 : Int) ≠ 1) := h160; omega
                      replace hc154 := hc154.st (t' := (16, [(0, (1, 275)), (1, (0, 1)), (2, (0, v107 275 78))], [(1, 275)], v107)) (fun _ _ q => e_Pn.run eAlk 1 rfl q)
                      replace hc154 := hc154.st (fun _ _ q => e_Pn.getr (z := 341) eAlk rfl rfl (s112.1.2.2.2.2.1 (90, 341) (by decide)) (by first | decide | omega) q)
                      replace hc154 := hc154.st (t' := (20, [(0, (1, 275)), (1, (0, 1)), (2, (0, v107 275 78))], [(1, 275), (1, 341)], v107)) (fun _ _ q => e_Pn.run eAlk 1 rfl q)
                      obtain ⟨b161, hc154⟩ := hc154.of (fun _ _ q => e_Pn.getf (z := v107 275 94) eAlk rfl rfl rfl q)
                      replace hc154 := hc154.st (t' := (24, [(0, (1, 275)), (1, (0, 1)), (2, (0, v107 275 78))], [(0, 1), (0, v107 275 94), (1, 341)], v107)) (fun _ _ q => e_Pn.run eAlk 1 rfl q)
                      obtain ⟨b162, b163, hc154⟩ := hc154.of2 (fun _ _ q => e_Pn.ast eAlk rfl rfl rfl q)
                      generalize hv164 : e_up v107 341 (v107 275 94) 1 = v164 at hc154
                      have v164m := mRw.upd hv164 (fun _ => by first | decide | omega) s112.1.2.2.2.2.1
                      replace hc154 := hc154.st (t' := (26, [(0, (1, 275)), (1, (0, 1)), (2, (0, v107 275 78))], [(1, 275)], v164)) (fun _ _ q => e_Pn.run eAlk 1 rfl q)
                      replace hc154 := hc154.st (fun _ _ q => e_Pn.getr (z := 342) eAlk rfl rfl (by rw [← hv164]; exact (e_up_ne _ _ (Or.inl (by first | decide | omega))).trans (s112.1.2.2.2.2.1 (91, 342) (by decide))) (by first | decide | omega) q)
                      replace hc154 := hc154.st (t' := (30, [(0, (1, 275)), (1, (0, 1)), (2, (0, v107 275 78))], [(1, 275), (1, 342)], v164)) (fun _ _ q => e_Pn.run eAlk 1 rfl q)
                      obtain ⟨b165, hc154⟩ := hc154.of (fun _ _ q => e_Pn.getf (z := v107 275 94) eAlk rfl rfl (by rw [← hv164]; exact (e_up_ne _ _ (Or.inl (by first | decide | omega))).trans rfl) q)
                      replace hc154 := hc154.st (t' := (34, [(0, (1, 275)), (1, (0, 1)), (2, (0, v107 275 78))], [(1, 275), (0, v107 275 94), (1, 342)], v164)) (fun _ _ q => e_Pn.run eAlk 1 rfl q)
                      obtain ⟨b166, hc154⟩ := hc154.of (fun _ _ q => e_Pn.getf (z := v107 275 86) eAlk rfl rfl (by rw [← hv164]; exact (e_up_ne _ _ (Or.inl (by first | decide | omega))).trans rfl) q)
                      obtain ⟨b167, b168, hc154⟩ := hc154.of2 (fun _ _ q => e_Pn.ast eAlk rfl rfl rfl q)
                      generalize hv169 : e_up v164 342 (v107 275 94) (v107 275 86) = v169 at hc154
                      have v169m := mRw.upd hv169 (fun _ => by first | decide | omega) v164m
                      replace hc154 := hc154.st (t' := (39, [(0, (1, 275)), (1, (0, 1)), (2, (0, v107 275 78))], [(1, 275)], v169)) (fun _ _ q => e_Pn.run eAlk 1 rfl q)
                      replace hc154 := hc154.st (fun _ _ q => e_Pn.getr (z := 343) eAlk rfl rfl (by rw [← hv169]; exact (e_up_ne _ _ (Or.inl (by first | decide | omega))).trans (by rw [← hv164]; exact (e_up_ne _ _ (Or.inl (by first | decide | omega))).trans (s112.1.2.2.2.2.1 (92, 343) (by decide)))) (by first | decide | omega) q)
                      replace hc154 := hc154.st (t' := (43, [(0, (1, 275)), (1, (0, 1)), (2, (0, v107 275 78))], [(1, 275), (1, 343)], v169)) (fun _ _ q => e_Pn.run eAlk 1 rfl q)
                      obtain ⟨b170, hc154⟩ := hc154.of (fun _ _ q => e_Pn.getf (z := v107 275 94) eAlk rfl rfl (by rw [← hv169]; exact (e_up_ne _ _ (Or.inl (by first | decide | omega))).trans (by rw [← hv164]; exact (e_up_ne _ _ (Or.inl (by first | decide | omega))).trans rfl)) q)
                      replace hc154 := hc154.st (t' := (47, [(0, (1, 275)), (1, (0, 1)), (2, (0, v107 275 78))], [(1, 275), (0, v107 275 94), (1, 343)], v169)) (fun _ _ q => e_Pn.run eAlk 1 rfl q)
                      obtain ⟨b171, hc154⟩ := hc154.of (fun _ _ q => e_Pn.getf (z := v107 275 87) eAlk rfl rfl (by rw [← hv169]; exact (e_up_ne _ _ (Or.inl (by first | decide | omega))).trans (by rw [← hv164]; exact (e_up_ne _ _ (Or.inl (by first | decide | omega))).trans rfl)) q)
                      replace hc154 := hc154.st (t' := (51, [(0, (1, 275)), (1, (0, 1)), (2, (0, v107 275 78))], [(1, 275), (0, v107 275 87), (0, v107 275 94), (1, 343)], v169)) (fun _ _ q => e_Pn.run eAlk 1 rfl q)
                      obtain ⟨b172, hc154⟩ := hc154.of (fun _ _ q => e_Pn.getf (z := v107 275 86) eAlk rfl rfl (by rw [← hv169]; exact (e_up_ne _ _ (Or.inl (by first | decide | omega))).trans (by rw [← hv164]; exact (e_up_ne _ _ (Or.inl (by first | decide | omega))).trans rfl)) q)
                      replace hc154 := hc154.st (fun _ _ q => e_Pn.sub' (z := v107 275 87 - v107 275 86) eAlk rfl (by first | decide | omega) (by first | decide | omega) q)
                      obtain ⟨b173, b174, hc154⟩ := hc154.of2 (fun _ _ q => e_Pn.ast eAlk rfl rfl rfl q)
                      generalize hv175 : e_up v169 343 (v107 275 94) (v107 275 87 - v107 275 86) = v175 at hc154
                      have v175m := mRw.upd hv175 (fun _ => by first | decide | omega) v169m
                      replace hc154 := hc154.st (t' := (57, [(0, (1, 275)), (1, (0, 1)), (2, (0, v107 275 78))], [(1, 275)], v175)) (fun _ _ q => e_Pn.run eAlk 1 rfl q)
                      replace hc154 := hc154.st (fun _ _ q => e_Pn.getr (z := 344) eAlk rfl rfl (by rw [← hv175]; exact (e_up_ne _ _ (Or.inl (by first | decide | omega))).trans (by rw [← hv169]; exact (e_up_ne _ _ (Or.inl (by first | decide | omega))).trans (by rw [← hv164]; exact (e_up_ne _ _ (Or.inl (by first | decide | omega))).trans (s112.1.2.2.2.2.1 (93, 344) (by decide))))) (by first | decide | omega) q)
                      replace hc154 := hc154.st (t' := (61, [(0, (1, 275)), (1, (0, 1)), (2, (0, v107 275 78))], [(1, 275), (1, 344)], v175)) (fun _ _ q => e_Pn.run eAlk 1 rfl q)
                      obtain ⟨b176, hc154⟩ := hc154.of (fun _ _ q => e_Pn.getf (z := v107 275 94) eAlk rfl rfl (by rw [← hv175]; exact (e_up_ne _ _ (Or.inl (by first | decide | omega))).trans (by rw [← hv169]; exact (e_up_ne _ _ (Or.inl (by first | decide | omega))).trans (by rw [← hv164]; exact (e_up_ne _ _ (Or.inl (by first | decide | omega))).trans rfl))) q)
                      replace hc154 := hc154.st (t' := (65, [(0, (1, 275)), (1, (0, 1)), (2, (0, v107 275 78))], [(0, v107 275 78), (0, v107 275 94), (1, 344)], v175)) (fun _ _ q => e_Pn.run eAlk 1 rfl q)
                      obtain ⟨b177, b178, hc154⟩ := hc154.of2 (fun _ _ q => e_Pn.ast eAlk rfl rfl rfl q)
                      generalize hv179 : e_up v175 344 (v107 275 94) (v107 275 78) = v179 at hc154
                      have v179m := mRw.upd hv179 (fun _ => by first | decide | omega) v175m
                      replace hc154 := hc154.st (t' := (68, [(0, (1, 275)), (1, (0, 1)), (2, (0, v107 275 78))], [(1, 275), (1, 275)], v179)) (fun _ _ q => e_Pn.run eAlk 2 rfl q)
                      obtain ⟨b180, hc154⟩ := hc154.of (fun _ _ q => e_Pn.getf (z := v107 275 94) eAlk rfl rfl (by rw [← hv179]; exact (e_up_ne _ _ (Or.inl (by first | decide | omega))).trans (by rw [← hv175]; exact (e_up_ne _ _ (Or.inl (by first | decide | omega))).trans (by rw [← hv169]; exact (e_up_ne _ _ (Or.inl (by first | decide | omega))).trans (by rw [← hv164]; exact (e_up_ne _ _ (Or.inl (by first | decide | omega))).trans rfl)))) q)
                      replace hc154 := hc154.st (t' := (72, [(0, (1, 275)), (1, (0, 1)), (2, (0, v107 275 78))], [(0, 1), (0, v107 275 94), (1, 275)], v179)) (fun _ _ q => e_Pn.run eAlk 1 rfl q)
                      replace hc154 := hc154.st (fun _ _ q => e_Pn.add (z := v107 275 94 + 1) eAlk rfl (by first | decide | omega) (by first | decide | omega) q)
                      replace hc154 := hc154.st (fun _ _ q => e_Pn.putf eAlk rfl rfl q)
                      generalize hv181 : e_up v179 275 94 (v107 275 94 + 1) = v181 at hc154
                      have v181m := mRw.upd hv181 (fun _ => by first | decide | omega) v179m
                      replace hc154 := hc154.st (t' := (78, [(0, (1, 275)), (1, (0, 1)), (2, (0, v107 275 78))], [(1, 275), (1, 275)], v181)) (fun _ _ q => e_Pn.run eAlk 2 rfl q)
                      obtain ⟨b182, hc154⟩ := hc154.of (fun _ _ q => e_Pn.getf (z := 1) eAlk rfl rfl (by rw [← hv181]; exact (e_up_ne _ _ (Or.inr (by first | decide | omega))).trans (by rw [← hv179]; exact (e_up_ne _ _ (Or.inl (by first | decide | omega))).trans (by rw [← hv175]; exact (e_up_ne _ _ (Or.inl (by first | decide | omega))).trans (by rw [← hv169]; exact (e_up_ne _ _ (Or.inl (by first | decide | omega))).trans (by rw [← hv164]; exact (e_up_ne _ _ (Or.inl (by first | decide | omega))).trans (kM_k1 s112.1.2.1.2.2.1 (by first | decide | omega))))))) q)
                      replace hc154 := hc154.st (t' := (82, [(0, (1, 275)), (1, (0, 1)), (2, (0, v107 275 78))], [(0, 1), (0, 1), (1, 275)], v181)) (fun _ _ q => e_Pn.run eAlk 1 rfl q)
                      rcases hc154.or (fun _ _ q1 q2 => e_Pn.if2 eAlk rfl q1 q2) with ⟨h183, hc154⟩ | ⟨h183, hc154⟩
                      · replace h183 : (1 : Int) ≠ 1 := h183
                        exfalso; omega
                      · replace h183 : (1 : Int) = 1 := by have q : ¬ ((1 : Int) ≠ 1) := h183; omega
                        replace hc154 := hc154.st (t' := (90, [(0, (1, 275)), (1, (0, 1)), (2, (0, v107 275 78))], [(0, 1), (1, 275)], v181)) (fun _ _ q => e_Pn.run eAlk 2 rfl q)
                        have as18494 : v107 275 94 = v107 275 94 := rfl
                        have as18486 : v107 275 86 = v107 275 86 := rfl
                        have as18487 : v107 275 87 = v107 275 87 := rfl
                        obtain ⟨as184, as184g⟩ := nmA.mk hv164 hv169 hv175 hv179 hv181 (by first | decide | omega) (by first | decide | omega)
                        have s184 := st.rou (x := 0) (by decide) s112 (by first | decide | omega) w143c (Or.inr ⟨by rw [(show w143 1 14 = w110 1 14 from ((w143f 1 14 (by unfold kRc; omega)).trans rfl))]; omega, w149c⟩) (Or.inr ⟨by rw [(show w149 1 14 = w110 1 14 from ((w149f 1 14 (by unfold kRc; omega)).trans ((w143f 1 14 (by unfold kRc; omega)).trans rfl)))]; omega, rfl⟩) as184 (by first | decide | omega) (by first | decide | omega) as184g
                        have s184c := cn1.A as184 (by first | decide | omega)
                        have s184d : w149 cd 0 = w110 cd 0 ∧ w149 1 6 = w110 1 6 := ⟨((w149f cd 0 (by unfold kRc; omega)).trans ((w143f cd 0 (by unfold kRc; omega)).trans rfl)), ((w149f 1 6 (by unfold kRc; omega)).trans ((w143f 1 6 (by unfold kRc; omega)).trans rfl))⟩
                        have q185 := st.nums s184
                        clear q113
                        have q185c := q185.2.2.2.1
                        obtain ⟨dc186, r187, v188, hc189, hc154⟩ := hc154.ca rfl
                        have uhc189 := hc189.pn (fun nq => u_334 s184.1.2.2.2.2.1)
                        refine e_Pn.callA rfl (fun nq dq => e_Pn.and (t_129b s184.1.1 s184.1.2.1 (by first | decide | omega) (d' := dc186) hc189) (u_129 s184.1.2.2.2.1)) (fun r190 w191 h192 => ?_)
                        obtain ⟨⟨rfl, rfl, h192⟩, -, h192k⟩ := h192
                        rcases h192.symm with h192 | ⟨h192c, h192⟩
                        · skip
                          replace hc154 : e_Rn 20 elay ecode eI dhc154 338 (93, [(0, (1, 275)), (1, (0, 1)), (2, (0, v107 275 78))], [], v188) r155 v156 := hc154
                          obtain ⟨rfl, m193⟩ := (e_Rn.le eAlk [0, 1, 2] rfl rfl hc154).pn (fun nq => v_338_93 (uhc189.2.rf s184.1.2.2.2.2.1) _ 1 (v107 275 78) v188 mq.r)
                          replace hM : e_Rn 20 elay ecode eI d' 353 (95, (0, (1, 275)) :: tl30, [], v156) r' v' := hM
                          obtain ⟨rfl, m194⟩ := (e_Rn.le eAlk [0] rfl rfl hM).pn (fun nq => v_353_95 (m193.rf (uhc189.2.rf s184.1.2.2.2.2.1)) _  v156 mq.r)
                          show e_Pn 20 elay kcode eI nq95 dq96 142 (95, [(0, (1, 1))], [], w191) _
                          refine e_Pn.ord kAlk [0] rfl rfl ((v_142_95 (h192k.rf s184.1.2.2.2.1) _  w191 kq.r).imp (fun r196 w197 k195 => ?_))
                          obtain ⟨rfl, k195⟩ := k195
                          show e_Pn 20 elay kcode eI nn28 d 119 (91, (0, (1, 1)) :: (1, (0, y3)) :: tl29, [], w197) _
                          refine e_Pn.ord kAlk [0, 1] rfl rfl ((v_119_91 (k195.rf (h192k.rf s184.1.2.2.2.1)) (rpF.k h192 k195) _ y3 w197 kq.r).imp (fun r199 w200 k198 => ?_))
                          obtain ⟨rfl, k198⟩ := k198
                          exact K2 _ (rpF.tail h192 (k195.tr k198) (m193.tr m194))
                        have s201 := st.ad (k := 1) s184 h192 (st.len1 s184 (by first | decide | omega)) (by first | decide | omega)
                        have s201n := h192.2.2.2.1
                        have s201m := st.len1 s184 (by first | decide | omega)
                        have s201x := cn1.E (TK.nm h192)
                        have s201y : w191 cd 0 = w149 cd 0 := h192.2.2.2.2.1 cd 0 (nf3_kRa_cd_0 hcd)
                        have s201g : w 1 6 + 1 ≤ w191 1 6 := by omega
                        have q202 := st.nums s201
                        clear q185
                        have q202c := q202.2.2.2.1
                        show e_Pn 20 elay kcode eI nq95 dq96 142 (95, [(0, (1, 1))], [], w191) _
                        replace hc154 : e_Rn 20 elay ecode eI dhc154 338 (93, [(0, (1, 275)), (1, (0, 1)), (2, (0, v107 275 78))], [], v188) r155 v156 := hc154
                        refine e_Pn.run (t' := (98, [(0, (1, 1))], [(0, 20), (1, 1)], w191)) kAlk 2 rfl ?_
                        obtain ⟨rfl, rfl⟩ := hc154.re0 rfl
                        replace hM : e_Rn 20 elay ecode eI d' 353 (95, (0, (1, 275)) :: tl30, [], v188) r' v' := hM
                        replace hM := hM.st (t' := (99, (0, (1, 275)) :: tl30, [(0, 58), (1, 275), (1, 275)], v188)) (fun _ _ q => e_Pn.run eAlk 3 rfl q)
                        obtain ⟨dc203, r204, v205, hc206, hM⟩ := hM.ca rfl
                        obtain ⟨z207, rfl, rfl, z207q⟩ := hc206.pn (fun nq => l_331)
                        replace z207q := isS (kM_s58 s201.1.2.1.2.2.1) rfl rfl z207q
                        replace hM : e_Rn 20 elay ecode eI d' 353 (102, (0, (1, 275)) :: tl30, [(0, z207), (1, 275)], v188) r' v' := hM
                        obtain ⟨dc208, r209, v210, hc211, hM⟩ := hM.ca rfl
                        have uhc211 := hc211.pn (fun nq => u_334 s201.1.2.2.2.2.1)
                        refine e_Pn.callA rfl (fun nq dq => e_Pn.and (t_129b s201.1.1 s201.1.2.1 z207q (d' := dc208) hc211) (u_129 s201.1.2.2.2.1)) (fun r212 w213 h214 => ?_)
                        obtain ⟨⟨rfl, rfl, h214⟩, -, h214k⟩ := h214
                        rcases h214.symm with h214 | ⟨h214c, h214⟩
                        · skip
                          replace hM : e_Rn 20 elay ecode eI d' 353 (105, (0, (1, 275)) :: tl30, [], v210) r' v' := hM
                          obtain ⟨rfl, m215⟩ := (e_Rn.le eAlk [0] rfl rfl hM).pn (fun nq => v_353_105 (uhc211.2.rf s201.1.2.2.2.2.1) _  v210 mq.r)
                          show e_Pn 20 elay kcode eI nq95 dq96 142 (101, [(0, (1, 1))], [], w213) _
                          refine e_Pn.ord kAlk [0] rfl rfl ((v_142_101 (h214k.rf s201.1.2.2.2.1) _  w213 kq.r).imp (fun r217 w218 k216 => ?_))
                          obtain ⟨rfl, k216⟩ := k216
                          show e_Pn 20 elay kcode eI nn28 d 119 (91, (0, (1, 1)) :: (1, (0, y3)) :: tl29, [], w218) _
                          refine e_Pn.ord kAlk [0, 1] rfl rfl ((v_119_91 (k216.rf (h214k.rf s201.1.2.2.2.1)) (rpF.k h214 k216) _ y3 w218 kq.r).imp (fun r220 w221 k219 => ?_))
                          obtain ⟨rfl, k219⟩ := k219
                          exact K2 _ (rpF.tail h214 (k216.tr k219) m215)
                        clear z207q
                        have s222 := st.ad (k := 1) s201 h214 (st.len1 s201 (by first | decide | omega)) (by first | decide | omega)
                        have s222n := h214.2.2.2.1
                        have s222m := st.len1 s201 (by first | decide | omega)
                        have s222x := cn1.E (TK.nm h214)
                        have s222y : w213 cd 0 = w191 cd 0 := h214.2.2.2.2.1 cd 0 (nf3_kRa_cd_0 hcd)
                        have s222g : w 1 6 + 1 ≤ w213 1 6 := by omega
                        have q223 := st.nums s222
                        clear q202
                        have q223c := q223.2.2.2.1
                        show e_Pn 20 elay kcode eI nq95 dq96 142 (101, [(0, (1, 1))], [], w213) _
                        replace hM : e_Rn 20 elay ecode eI d' 353 (105, (0, (1, 275)) :: tl30, [], v210) r' v' := hM
                        refine e_Pn.run (t' := (103, [(0, (1, 1))], [(0, 0), (1, 1)], w213)) kAlk 2 rfl ?_
                        refine e_Pn.putf kAlk rfl rfl ?_
                        generalize hw224 : e_up w213 1 12 0 = w224
                        have w224g : e_fr (kGs cd) w213 w224 := (e_fr.up (e_fr.refl w213) hw224 pf3_kGs_1_12)
                        have w224k := kRw.gs s222.1.2.2.2.1 w224g
                        have w224l : 0 ≤ w224 cd 0 ∧ w224 cd 0 ≤ 4000 := by rw [w224g cd 0 (nf3_kGs_cd_0 hcd)]; exact s222.1.2.2.2.2.2.1
                        have w224e : w224 1 5 = w213 1 5 ∧ w224 1 6 = w213 1 6 ∧ w224 1 8 = w213 1 8 := ⟨w224g 1 5 (nf3_kGs_1_5 hcd), w224g 1 6 (nf3_kGs_1_6 hcd), w224g 1 8 (nf3_kGs_1_8 hcd)⟩
                        refine e_Pn.run (t' := (108, [(0, (1, 1))], [(0, (-1)), (1, 1)], w224)) kAlk 2 rfl ?_
                        refine e_Pn.putf kAlk rfl rfl ?_
                        generalize hw225 : e_up w224 1 13 (-1) = w225
                        have w225g : e_fr (kGs cd) w224 w225 := (e_fr.up (e_fr.refl w224) hw225 pf3_kGs_1_13)
                        have w225k := kRw.gs w224k w225g
                        have w225l : 0 ≤ w225 cd 0 ∧ w225 cd 0 ≤ 4000 := by rw [w225g cd 0 (nf3_kGs_cd_0 hcd)]; exact w224l
                        have w225e : w225 1 5 = w224 1 5 ∧ w225 1 6 = w224 1 6 ∧ w225 1 8 = w224 1 8 := ⟨w225g 1 5 (nf3_kGs_1_5 hcd), w225g 1 6 (nf3_kGs_1_6 hcd), w225g 1 8 (nf3_kGs_1_8 hcd)⟩
                        refine e_Pn.run (t' := (112, [(0, (1, 1))], [(1, 1)], w225)) kAlk 1 rfl ?_
                        replace hM := hM.st (t' := (106, (0, (1, 275)) :: tl30, [(1, 275)], v210)) (fun _ _ q => e_Pn.run eAlk 1 rfl q)
                        have e227a : w225 1 11 = w213 1 11 := (Eq.trans (show w225 1 11 = w224 1 11 by rw [← hw225]; exact e_up_ne _ _ (Or.inr (by first | decide | omega))) (show w224 1 11 = w213 1 11 by rw [← hw224]; exact e_up_ne _ _ (Or.inr (by first | decide | omega))))
                        have e227b : v210 275 83 = v210 275 83 := rfl
                        have e227c : w225 1 13 = (-1) := (by rw [← hw225]; exact e_up_eq _ _ _ _)
                        have e227d : v210 275 82 = v210 275 82 := rfl
                        have e227f : w225 1 12 = 0 := (Eq.trans (show w225 1 12 = w224 1 12 by rw [← hw225]; exact e_up_ne _ _ (Or.inr (by first | decide | omega))) (by rw [← hw224]; exact e_up_eq _ _ _ _))
                        have e227e : v210 275 80 = v210 275 80 := rfl
                        have s226 := st.gen (o' := 0) (l' := (-1)) (m' := v 275 82) (t' := 0) (b' := 0) s222 (e_fr.up (e_fr.up (e_fr.refl w213) hw224 pf3_kGs_1_12) hw225 pf3_kGs_1_13) (e_fr.refl v210) (by first | decide | omega) (by first | decide | omega) (by first | decide | omega) (by first | decide | omega)
                        have q228 := st.nums s226
                        clear q223 e227a e227b e227c e227d e227e e227f
                        have q228c := q228.2.2.2.1
                        obtain ⟨dc229, r230, v231, hc232, hM⟩ := hM.ca rfl
                        have uhc232 := hc232.pn (fun nq => uS_all nq 348 (by decide) _ _ s226.1.2.2.2.2.1)
                        have z236 : st0 N cd w225 v210 := st.z s226 (by first | decide | omega) (by first | decide | omega) (by first | decide | omega)
                        refine e_Pn.callA rfl (fun nq dq => e_Pn.and (sE_all nq _ _ dq _ _ _ z236 (by first | decide | omega) hc232) (kS_all nq 144 (by decide) dq _ _ s226.1.2.2.2.1)) (fun r233 w234 h235 => ?_)
                        obtain ⟨⟨rfl, rfl, h235⟩, -, h235k⟩ := h235
                        rcases h235.symm with h235 | h235
                        · skip
                          replace hM : e_Rn 20 elay ecode eI d' 353 (109, (0, (1, 275)) :: tl30, [], v231) r' v' := hM
                          obtain ⟨rfl, m237⟩ := (e_Rn.le eAlk [0] rfl rfl hM).pn (fun nq => v_353_109 (uhc232.2.rf s226.1.2.2.2.2.1) _  v231 mq.r)
                          show e_Pn 20 elay kcode eI nq95 dq96 142 (115, [(0, (1, 1))], [], w234) _
                          refine e_Pn.ord kAlk [0] rfl rfl ((v_142_115 (h235k.rf s226.1.2.2.2.1) _  w234 kq.r).imp (fun r239 w240 k238 => ?_))
                          obtain ⟨rfl, k238⟩ := k238
                          show e_Pn 20 elay kcode eI nn28 d 119 (91, (0, (1, 1)) :: (1, (0, y3)) :: tl29, [], w240) _
                          refine e_Pn.ord kAlk [0, 1] rfl rfl ((v_119_91 (k238.rf (h235k.rf s226.1.2.2.2.1)) (rpF.k h235 k238) _ y3 w240 kq.r).imp (fun r242 w243 k241 => ?_))
                          obtain ⟨rfl, k241⟩ := k241
                          exact K2 _ (rpF.tail h235 (k238.tr k241) m237)
                        have h235x := cn1.X h235.2.2.2.2.2.2.2 (by first | decide | omega)
                        have h235p : w225 1 6 ≤ w234 1 6 := h235.2.2.2.2.2.1.2.2
                        replace h235 := st.low h235 (ka' := 0) (by decide)
                        have s244 := st.re (l' := (-1)) (m' := v 275 82) (t' := 0) (st.tr s226 h235) (Int.le_refl _) rfl (by first | decide | omega) (by first | decide | omega) (by first | decide | omega)
                        have q245 := st.nums s244
                        clear q228
                        have q245c := q245.2.2.2.1
                        show e_Pn 20 elay kcode eI nq95 dq96 142 (115, [(0, (1, 1))], [], w234) _
                        replace hM : e_Rn 20 elay ecode eI d' 353 (109, (0, (1, 275)) :: tl30, [], v231) r' v' := hM
                        refine e_Pn.run (t' := (118, [(0, (1, 1))], [(0, 23), (1, 1)], w234)) kAlk 2 rfl ?_
                        replace hM := hM.st (t' := (112, (0, (1, 275)) :: tl30, [(0, 2), (1, 275), (1, 275)], v231)) (fun _ _ q => e_Pn.run eAlk 3 rfl q)
                        obtain ⟨dc246, r247, v248, hc249, hM⟩ := hM.ca rfl
                        obtain ⟨z250, rfl, rfl, z250q⟩ := hc249.pn (fun nq => l_332)
                        replace z250q := isS (kM_key (k := 2) s244.1.2.1.2.2.1 (by decide)) rfl rfl z250q
                        replace hM : e_Rn 20 elay ecode eI d' 353 (115, (0, (1, 275)) :: tl30, [(0, z250), (1, 275)], v231) r' v' := hM
                        obtain ⟨dc251, r252, v253, hc254, hM⟩ := hM.ca rfl
                        have uhc254 := hc254.pn (fun nq => u_334 s244.1.2.2.2.2.1)
                        refine e_Pn.callA rfl (fun nq dq => e_Pn.and (t_129b s244.1.1 s244.1.2.1 z250q (d' := dc251) hc254) (u_129 s244.1.2.2.2.1)) (fun r255 w256 h257 => ?_)
                        obtain ⟨⟨rfl, rfl, h257⟩, -, h257k⟩ := h257
                        rcases h257.symm with h257 | ⟨h257c, h257⟩
                        · skip
                          replace hM : e_Rn 20 elay ecode eI d' 353 (118, (0, (1, 275)) :: tl30, [], v253) r' v' := hM
                          obtain ⟨rfl, m258⟩ := (e_Rn.le eAlk [0] rfl rfl hM).pn (fun nq => v_353_118 (uhc254.2.rf s244.1.2.2.2.2.1) _  v253 mq.r)
                          show e_Pn 20 elay kcode eI nq95 dq96 142 (121, [(0, (1, 1))], [], w256) _
                          refine e_Pn.ord kAlk [0] rfl rfl ((v_142_121 (h257k.rf s244.1.2.2.2.1) _  w256 kq.r).imp (fun r260 w261 k259 => ?_))
                          obtain ⟨rfl, k259⟩ := k259
                          show e_Pn 20 elay kcode eI nn28 d 119 (91, (0, (1, 1)) :: (1, (0, y3)) :: tl29, [], w261) _
                          refine e_Pn.ord kAlk [0, 1] rfl rfl ((v_119_91 (k259.rf (h257k.rf s244.1.2.2.2.1)) (rpF.k h257 k259) _ y3 w261 kq.r).imp (fun r263 w264 k262 => ?_))
                          obtain ⟨rfl, k262⟩ := k262
                          exact K2 _ (rpF.tail h257 (k259.tr k262) m258)
                        clear z250q
                        have s265 := st.ad (k := 3) s244 h257 (st.len3 s244 (Or.inl h257c)) (by first | decide | omega)
                        have s265n := h257.2.2.2.1
                        have s265m := st.len3 s244 (Or.inl h257c)
                        have s265x := cn1.E (TK.nm h257)
                        have s265y : w256 cd 0 = w234 cd 0 := h257.2.2.2.2.1 cd 0 (nf3_kRa_cd_0 hcd)
                        have s265g : w 1 6 + 1 ≤ w256 1 6 := by omega
                        have q266 := st.nums s265
                        clear q245
                        have q266c := q266.2.2.2.1
                        show e_Pn 20 elay kcode eI nq95 dq96 142 (121, [(0, (1, 1))], [], w256) _
                        replace hM : e_Rn 20 elay ecode eI d' 353 (118, (0, (1, 275)) :: tl30, [], v253) r' v' := hM
                        refine e_Pn.run (t' := (122, [(0, (1, 1))], [(1, 1)], w256)) kAlk 1 rfl ?_
                        refine e_Pn.getr (z := cd) kAlk rfl rfl s265.1.2.2.2.1.2.1 (by first | decide | omega) ?_
                        refine e_Pn.run (t' := (128, [(0, (1, 1))], [(0, 0), (0, 43), (1, cd)], w256)) kAlk 2 rfl ?_
                        refine e_Pn.callA rfl (fun nq dq => l_21 s265.1.2.2.2.1 (op := 43) (od := 0) (by first | decide | omega) (by first | decide | omega) s265.1.2.2.2.2.2.1) (fun r267 w268 h269 => ?_)
                        obtain ⟨z270, rfl, w268f, w268q⟩ := h269
                        have w268k := kRw.em s265.1.2.2.2.1 w268f
                        have w268l := (emQ.len w268q s265.1.2.2.2.2.2.1).1
                        have w268e : w268 1 5 = w256 1 5 ∧ w268 1 6 = w256 1 6 ∧ w268 1 8 = w256 1 8 := ⟨w268f 1 5 (nf3_kEm_1_5 hcd), w268f 1 6 (nf3_kEm_1_6 hcd), w268f 1 8 (nf3_kEm_1_8 hcd)⟩
                        have s271 := st.em s265 w268f w268q (by first | decide | omega) (by unfold isCl3; omega)
                        have q272 := st.nums s271
                        clear q266
                        have q272c := q272.2.2.2.1
                        have z270r : 0 ≤ z270 ∧ z270 ≤ 4000 := emQ.z w268q s265.1.2.2.2.2.2.1
                        show e_Pn 20 elay kcode eI nq95 dq96 142 (131, [(0, (1, 1))], [(0, z270)], w268) _
                        refine e_Pn.run (t' := (132, [(0, (1, 1))], [], w268)) kAlk 1 rfl ?_
                        refine e_Pn.ret0 rfl ?_
                        show e_Pn 20 elay kcode eI nn28 d 119 (91, (0, (1, 1)) :: (1, (0, y3)) :: tl29, [], w268) _
                        refine e_Pn.inc (z := y3 + 1) kAlk rfl rfl (by first | decide | omega) (by first | decide | omega) ?_
                        show e_Pn 20 elay kcode eI nn28 d 119 (94, (1, (0, y3 + 1)) :: (0, (1, 1)) :: List.filter (e_flt 0 1) tl29, [], w268) _
                        refine e_Pn.run (t' := (71, (1, (0, y3 + 1)) :: (0, (1, 1)) :: List.filter (e_flt 0 1) tl29, [], w268)) kAlk 1 rfl ?_
                        replace hM := hM.st (t' := (122, (0, (1, 275)) :: tl30, [(0, 0), (0, 45), (1, 275)], v253)) (fun _ _ q => e_Pn.run eAlk 3 rfl q)
                        obtain ⟨dc273, r274, v275, hc276, hM⟩ := hM.ca rfl
                        obtain ⟨⟨z277, rfl⟩, v275f⟩ := hc276.pn (fun nq => x_336 s265.1.2.2.2.2.1)
                        have v275m := mfr.rf v275f s265.1.2.2.2.2.1
                        replace hM : e_Rn 20 elay ecode eI d' 353 (125, (0, (1, 275)) :: tl30, [(0, z277)], v275) r' v' := hM
                        replace hM := hM.st (t' := (67, (0, (1, 275)) :: tl30, [], v275)) (fun _ _ q => e_Pn.run eAlk 2 rfl q)
                        have e279a : w268 1 11 = w268 1 11 := rfl
                        have e279b : v275 275 83 = v253 275 83 := (v275f 275 83 nf3_mEm_275_83)
                        have e279c : w268 1 13 = w268 1 13 := rfl
                        have e279d : v275 275 82 = v253 275 82 := (v275f 275 82 nf3_mEm_275_82)
                        have e279f : w268 1 12 = w268 1 12 := rfl
                        have e279e : v275 275 80 = v253 275 80 := (v275f 275 80 nf3_mEm_275_80)
                        have s278 := st.gen (o' := 0) (l' := (-1)) (m' := v 275 82) (t' := 0) (b' := 0) s271 (e_fr.refl w268) (e_fr.trans (e_fr.refl v253) (e_fr.mono v275f (fun c k q => by unfold mEm at q; unfold mGs; omega))) (by first | decide | omega) (by first | decide | omega) (by first | decide | omega) (by first | decide | omega)
                        have s278x := cn1.E (nmE.of (show e_fr mGs v253 v275 from (e_fr.trans (e_fr.refl v253) (e_fr.mono v275f (fun c k q => by unfold mEm at q; unfold mGs; omega)))) (fun i => by unfold mGs; omega) (by unfold mGs; omega))
                        have q280 := st.nums s278
                        clear q272 e279a e279b e279c e279d e279e e279f
                        have q280c := q280.2.2.2.1
                        exact e_Pn.ord kAlk [0, 1] rfl rfl (ih27 (by first | decide | omega) _ _ (y3 + 1) ((-1)) 0 w268 v275 ⟨(st.re s278 (by first | decide | omega) (by first | decide | omega) (by first | decide | omega) (by first | decide | omega) (by first | decide | omega)), (by first | decide | omega), (by first | decide | omega), (by first | decide | omega)⟩ (e_Rn.le eAlk [0] rfl rfl hM))
                · replace h152 : (w110 1 14 : Int) < 500 := by have q : ¬ ((w110 1 14 : Int) ≥ 500) := h152; omega
                  refine e_Pn.run (t' := (68, [(0, (1, 1))], [(1, 1)], w149)) kAlk 1 rfl ?_
                  refine e_Pn.getr (z := 7) kAlk rfl rfl ((w149f 1 16 (by unfold kRc; omega)).trans ((w143f 1 16 (by unfold kRc; omega)).trans s112.1.2.2.2.1.2.2.2.2.1)) (by first | decide | omega) ?_
                  refine e_Pn.run (t' := (72, [(0, (1, 1))], [(1, 1), (1, 7)], w149)) kAlk 1 rfl ?_
                  refine e_Pn.getf (z := w110 1 14) kAlk rfl rfl ((w149f 1 14 (by unfold kRc; omega)).trans ((w143f 1 14 (by unfold kRc; omega)).trans rfl)) (fun b281 => ?_)
                  refine e_Pn.run (t' := (76, [(0, (1, 1))], [(1, 1), (0, w110 1 14), (1, 7)], w149)) kAlk 1 rfl ?_
                  refine e_Pn.getf (z := w110 1 6) kAlk rfl rfl ((w149f 1 6 (by unfold kRc; omega)).trans ((w143f 1 6 (by unfold kRc; omega)).trans rfl)) (fun b282 => ?_)
                  refine e_Pn.ast kAlk rfl rfl rfl (fun b283 b284 => ?_)
                  generalize hw285 : e_up w149 7 (w110 1 14) (w110 1 6) = w285
                  have w285g : e_fr (kVs cd) w149 w285 := e_fr.up (e_fr.refl w149) hw285 (by unfold kVs; omega)
                  have w285k := kRw.vs w149k w285g
                  have w285l : 0 ≤ w285 cd 0 ∧ w285 cd 0 ≤ 4000 := by rw [w285g cd 0 (by unfold kVs; omega)]; exact w149l
                  have w285e : w285 1 5 = w149 1 5 ∧ w285 1 6 = w149 1 6 ∧ w285 1 8 = w149 1 8 := ⟨w285g 1 5 (by unfold kVs; omega), w285g 1 6 (by unfold kVs; omega), w285g 1 8 (by unfold kVs; omega)⟩
                  refine e_Pn.run (t' := (82, [(0, (1, 1))], [(1, 1), (1, 1)], w285)) kAlk 2 rfl ?_
                  refine e_Pn.getf (z := w110 1 14) kAlk rfl rfl (by rw [← hw285]; exact (e_up_ne _ _ (Or.inl (by first | decide | omega))).trans ((w149f 1 14 (by unfold kRc; omega)).trans ((w143f 1 14 (by unfold kRc; omega)).trans rfl))) (fun b286 => ?_)
                  refine e_Pn.run (t' := (86, [(0, (1, 1))], [(0, 1), (0, w110 1 14), (1, 1)], w285)) kAlk 1 rfl ?_
                  refine e_Pn.add (z := w110 1 14 + 1) kAlk rfl (by first | decide | omega) (by first | decide | omega) ?_
                  refine e_Pn.putf kAlk rfl rfl ?_
                  generalize hw287 : e_up w285 1 14 (w110 1 14 + 1) = w287
                  have w287g : e_fr (kVs cd) w285 w287 := e_fr.up (e_fr.refl w285) hw287 (by unfold kVs; omega)
                  have w287k := kRw.vs w285k w287g
                  have w287l : 0 ≤ w287 cd 0 ∧ w287 cd 0 ≤ 4000 := by rw [w287g cd 0 (by unfold kVs; omega)]; exact w285l
                  have w287e : w287 1 5 = w285 1 5 ∧ w287 1 6 = w285 1 6 ∧ w287 1 8 = w285 1 8 := ⟨w287g 1 5 (by unfold kVs; omega), w287g 1 6 (by unfold kVs; omega), w287g 1 8 (by unfold kVs; omega)⟩
                  refine e_Pn.run (t' := (92, [(0, (1, 1))], [(0, 1), (1, 1)], w287)) kAlk 2 rfl ?_
                  replace hM := hM.st (t' := (89, (0, (1, 275)) :: tl30, [(1, 275), (0, 1), (1, 275)], v107)) (fun _ _ q => e_Pn.run eAlk 3 rfl q)
                  obtain ⟨b288, hM⟩ := hM.of (fun _ _ q => e_Pn.getf (z := v107 275 78) eAlk rfl rfl rfl q)
                  obtain ⟨dhc289, r290, v291, hc289, hM⟩ := hM.ca rfl
                  replace hc289 : e_Rn 20 elay ecode eI dhc289 338 (0, [(0, (1, 275)), (1, (0, 1)), (2, (0, v107 275 78))], [], v107) r290 v291 := hc289
                  replace hc289 := hc289.st (t' := (1, [(0, (1, 275)), (1, (0, 1)), (2, (0, v107 275 78))], [(1, 275)], v107)) (fun _ _ q => e_Pn.run eAlk 1 rfl q)
                  obtain ⟨b292, hc289⟩ := hc289.of (fun _ _ q => e_Pn.getf (z := 0) eAlk rfl rfl s112.1.2.1.1.2 q)
                  rcases hc289.or (fun _ _ q1 q2 => e_Pn.if1 eAlk rfl q1 q2) with ⟨h293, hc289⟩ | ⟨h293, hc289⟩
                  · replace h293 : (0 : Int) ≠ 0 := h293
                    exfalso; omega
                  · replace h293 : (0 : Int) = 0 := by have q : ¬ ((0 : Int) ≠ 0) := h293; omega
                    replace hc289 := hc289.st (t' := (8, [(0, (1, 275)), (1, (0, 1)), (2, (0, v107 275 78))], [(1, 275)], v107)) (fun _ _ q => e_Pn.run eAlk 1 rfl q)
                    obtain ⟨b294, hc289⟩ := hc289.of (fun _ _ q => e_Pn.getf (z := 1) eAlk rfl rfl (kM_k1 s112.1.2.1.2.2.1 (by first | decide | omega)) q)
                    replace hc289 := hc289.st (t' := (12, [(0, (1, 275)), (1, (0, 1)), (2, (0, v107 275 78))], [(0, 1), (0, 1)], v107)) (fun _ _ q => e_Pn.run eAlk 1 rfl q)
                    rcases hc289.or (fun _ _ q1 q2 => e_Pn.if2 eAlk rfl q1 q2) with ⟨h295, hc289⟩ | ⟨h295, hc289⟩
                    · replace h295 : (1 : Int) ≠ 1 := h295
                      exfalso; omega
                    · replace h295 : (1 : Int) = 1 := by have q : ¬ ((1 : Int) ≠ 1) := h295; omega
                      replace hc289 := hc289.st (t' := (16, [(0, (1, 275)), (1, (0, 1)), (2, (0, v107 275 78))], [(1, 275)], v107)) (fun _ _ q => e_Pn.run eAlk 1 rfl q)
                      replace hc289 := hc289.st (fun _ _ q => e_Pn.getr (z := 341) eAlk rfl rfl (s112.1.2.2.2.2.1 (90, 341) (by decide)) (by first | decide | omega) q)
                      replace hc289 := hc289.st (t' := (20, [(0, (1, 275)), (1, (0, 1)), (2, (0, v107 275 78))], [(1, 275), (1, 341)], v107)) (fun _ _ q => e_Pn.run eAlk 1 rfl q)
                      obtain ⟨b296, hc289⟩ := hc289.of (fun _ _ q => e_Pn.getf (z := v107 275 94) eAlk rfl rfl rfl q)
                      replace hc289 := hc289.st (t' := (24, [(0, (1, 275)), (1, (0, 1)), (2, (0, v107 275 78))], [(0, 1), (0, v107 275 94), (1, 341)], v107)) (fun _ _ q => e_Pn.run eAlk 1 rfl q)
                      obtain ⟨b297, b298, hc289⟩ := hc289.of2 (fun _ _ q => e_Pn.ast eAlk rfl rfl rfl q)
                      generalize hv299 : e_up v107 341 (v107 275 94) 1 = v299 at hc289
                      have v299m := mRw.upd hv299 (fun _ => by first | decide | omega) s112.1.2.2.2.2.1
                      replace hc289 := hc289.st (t' := (26, [(0, (1, 275)), (1, (0, 1)), (2, (0, v107 275 78))], [(1, 275)], v299)) (fun _ _ q => e_Pn.run eAlk 1 rfl q)
                      replace hc289 := hc289.st (fun _ _ q => e_Pn.getr (z := 342) eAlk rfl rfl (by rw [← hv299]; exact (e_up_ne _ _ (Or.inl (by first | decide | omega))).trans (s112.1.2.2.2.2.1 (91, 342) (by decide))) (by first | decide | omega) q)
                      replace hc289 := hc289.st (t' := (30, [(0, (1, 275)), (1, (0, 1)), (2, (0, v107 275 78))], [(1, 275), (1, 342)], v299)) (fun _ _ q => e_Pn.run eAlk 1 rfl q)
                      obtain ⟨b300, hc289⟩ := hc289.of (fun _ _ q => e_Pn.getf (z := v107 275 94) eAlk rfl rfl (by rw [← hv299]; exact (e_up_ne _ _ (Or.inl (by first | decide | omega))).trans rfl) q)
                      replace hc289 := hc289.st (t' := (34, [(0, (1, 275)), (1, (0, 1)), (2, (0, v107 275 78))], [(1, 275), (0, v107 275 94), (1, 342)], v299)) (fun _ _ q => e_Pn.run eAlk 1 rfl q)
                      obtain ⟨b301, hc289⟩ := hc289.of (fun _ _ q => e_Pn.getf (z := v107 275 86) eAlk rfl rfl (by rw [← hv299]; exact (e_up_ne _ _ (Or.inl (by first | decide | omega))).trans rfl) q)
                      obtain ⟨b302, b303, hc289⟩ := hc289.of2 (fun _ _ q => e_Pn.ast eAlk rfl rfl rfl q)
                      generalize hv304 : e_up v299 342 (v107 275 94) (v107 275 86) = v304 at hc289
                      have v304m := mRw.upd hv304 (fun _ => by first | decide | omega) v299m
                      replace hc289 := hc289.st (t' := (39, [(0, (1, 275)), (1, (0, 1)), (2, (0, v107 275 78))], [(1, 275)], v304)) (fun _ _ q => e_Pn.run eAlk 1 rfl q)
                      replace hc289 := hc289.st (fun _ _ q => e_Pn.getr (z := 343) eAlk rfl rfl (by rw [← hv304]; exact (e_up_ne _ _ (Or.inl (by first | decide | omega))).trans (by rw [← hv299]; exact (e_up_ne _ _ (Or.inl (by first | decide | omega))).trans (s112.1.2.2.2.2.1 (92, 343) (by decide)))) (by first | decide | omega) q)
                      replace hc289 := hc289.st (t' := (43, [(0, (1, 275)), (1, (0, 1)), (2, (0, v107 275 78))], [(1, 275), (1, 343)], v304)) (fun _ _ q => e_Pn.run eAlk 1 rfl q)
                      obtain ⟨b305, hc289⟩ := hc289.of (fun _ _ q => e_Pn.getf (z := v107 275 94) eAlk rfl rfl (by rw [← hv304]; exact (e_up_ne _ _ (Or.inl (by first | decide | omega))).trans (by rw [← hv299]; exact (e_up_ne _ _ (Or.inl (by first | decide | omega))).trans rfl)) q)
                      replace hc289 := hc289.st (t' := (47, [(0, (1, 275)), (1, (0, 1)), (2, (0, v107 275 78))], [(1, 275), (0, v107 275 94), (1, 343)], v304)) (fun _ _ q => e_Pn.run eAlk 1 rfl q)
                      obtain ⟨b306, hc289⟩ := hc289.of (fun _ _ q => e_Pn.getf (z := v107 275 87) eAlk rfl rfl (by rw [← hv304]; exact (e_up_ne _ _ (Or.inl (by first | decide | omega))).trans (by rw [← hv299]; exact (e_up_ne _ _ (Or.inl (by first | decide | omega))).trans rfl)) q)
                      replace hc289 := hc289.st (t' := (51, [(0, (1, 275)), (1, (0, 1)), (2, (0, v107 275 78))], [(1, 275), (0, v107 275 87), (0, v107 275 94), (1, 343)], v304)) (fun _ _ q => e_Pn.run eAlk 1 rfl q)
                      obtain ⟨b307, hc289⟩ := hc289.of (fun _ _ q => e_Pn.getf (z := v107 275 86) eAlk rfl rfl (by rw [← hv304]; exact (e_up_ne _ _ (Or.inl (by first | decide | omega))).trans (by rw [← hv299]; exact (e_up_ne _ _ (Or.inl (by first | decide | omega))).trans rfl)) q)
                      replace hc289 := hc289.st (fun _ _ q => e_Pn.sub' (z := v107 275 87 - v107 275 86) eAlk rfl (by first | decide | omega) (by first | decide | omega) q)
                      obtain ⟨b308, b309, hc289⟩ := hc289.of2 (fun _ _ q => e_Pn.ast eAlk rfl rfl rfl q)
                      generalize hv310 : e_up v304 343 (v107 275 94) (v107 275 87 - v107 275 86) = v310 at hc289
                      have v310m := mRw.upd hv310 (fun _ => by first | decide | omega) v304m
                      replace hc289 := hc289.st (t' := (57, [(0, (1, 275)), (1, (0, 1)), (2, (0, v107 275 78))], [(1, 275)], v310)) (fun _ _ q => e_Pn.run eAlk 1 rfl q)
                      replace hc289 := hc289.st (fun _ _ q => e_Pn.getr (z := 344) eAlk rfl rfl (by rw [← hv310]; exact (e_up_ne _ _ (Or.inl (by first | decide | omega))).trans (by rw [← hv304]; exact (e_up_ne _ _ (Or.inl (by first | decide | omega))).trans (by rw [← hv299]; exact (e_up_ne _ _ (Or.inl (by first | decide | omega))).trans (s112.1.2.2.2.2.1 (93, 344) (by decide))))) (by first | decide | omega) q)
                      replace hc289 := hc289.st (t' := (61, [(0, (1, 275)), (1, (0, 1)), (2, (0, v107 275 78))], [(1, 275), (1, 344)], v310)) (fun _ _ q => e_Pn.run eAlk 1 rfl q)
                      obtain ⟨b311, hc289⟩ := hc289.of (fun _ _ q => e_Pn.getf (z := v107 275 94) eAlk rfl rfl (by rw [← hv310]; exact (e_up_ne _ _ (Or.inl (by first | decide | omega))).trans (by rw [← hv304]; exact (e_up_ne _ _ (Or.inl (by first | decide | omega))).trans (by rw [← hv299]; exact (e_up_ne _ _ (Or.inl (by first | decide | omega))).trans rfl))) q)
                      replace hc289 := hc289.st (t' := (65, [(0, (1, 275)), (1, (0, 1)), (2, (0, v107 275 78))], [(0, v107 275 78), (0, v107 275 94), (1, 344)], v310)) (fun _ _ q => e_Pn.run eAlk 1 rfl q)
                      obtain ⟨b312, b313, hc289⟩ := hc289.of2 (fun _ _ q => e_Pn.ast eAlk rfl rfl rfl q)
                      generalize hv314 : e_up v310 344 (v107 275 94) (v107 275 78) = v314 at hc289
                      have v314m := mRw.upd hv314 (fun _ => by first | decide | omega) v310m
                      replace hc289 := hc289.st (t' := (68, [(0, (1, 275)), (1, (0, 1)), (2, (0, v107 275 78))], [(1, 275), (1, 275)], v314)) (fun _ _ q => e_Pn.run eAlk 2 rfl q)
                      obtain ⟨b315, hc289⟩ := hc289.of (fun _ _ q => e_Pn.getf (z := v107 275 94) eAlk rfl rfl (by rw [← hv314]; exact (e_up_ne _ _ (Or.inl (by first | decide | omega))).trans (by rw [← hv310]; exact (e_up_ne _ _ (Or.inl (by first | decide | omega))).trans (by rw [← hv304]; exact (e_up_ne _ _ (Or.inl (by first | decide | omega))).trans (by rw [← hv299]; exact (e_up_ne _ _ (Or.inl (by first | decide | omega))).trans rfl)))) q)
                      replace hc289 := hc289.st (t' := (72, [(0, (1, 275)), (1, (0, 1)), (2, (0, v107 275 78))], [(0, 1), (0, v107 275 94), (1, 275)], v314)) (fun _ _ q => e_Pn.run eAlk 1 rfl q)
                      replace hc289 := hc289.st (fun _ _ q => e_Pn.add (z := v107 275 94 + 1) eAlk rfl (by first | decide | omega) (by first | decide | omega) q)
                      replace hc289 := hc289.st (fun _ _ q => e_Pn.putf eAlk rfl rfl q)
                      generalize hv316 : e_up v314 275 94 (v107 275 94 + 1) = v316 at hc289
                      have v316m := mRw.upd hv316 (fun _ => by first | decide | omega) v314m
                      replace hc289 := hc289.st (t' := (78, [(0, (1, 275)), (1, (0, 1)), (2, (0, v107 275 78))], [(1, 275), (1, 275)], v316)) (fun _ _ q => e_Pn.run eAlk 2 rfl q)
                      obtain ⟨b317, hc289⟩ := hc289.of (fun _ _ q => e_Pn.getf (z := 1) eAlk rfl rfl (by rw [← hv316]; exact (e_up_ne _ _ (Or.inr (by first | decide | omega))).trans (by rw [← hv314]; exact (e_up_ne _ _ (Or.inl (by first | decide | omega))).trans (by rw [← hv310]; exact (e_up_ne _ _ (Or.inl (by first | decide | omega))).trans (by rw [← hv304]; exact (e_up_ne _ _ (Or.inl (by first | decide | omega))).trans (by rw [← hv299]; exact (e_up_ne _ _ (Or.inl (by first | decide | omega))).trans (kM_k1 s112.1.2.1.2.2.1 (by first | decide | omega))))))) q)
                      replace hc289 := hc289.st (t' := (82, [(0, (1, 275)), (1, (0, 1)), (2, (0, v107 275 78))], [(0, 1), (0, 1), (1, 275)], v316)) (fun _ _ q => e_Pn.run eAlk 1 rfl q)
                      rcases hc289.or (fun _ _ q1 q2 => e_Pn.if2 eAlk rfl q1 q2) with ⟨h318, hc289⟩ | ⟨h318, hc289⟩
                      · replace h318 : (1 : Int) ≠ 1 := h318
                        exfalso; omega
                      · replace h318 : (1 : Int) = 1 := by have q : ¬ ((1 : Int) ≠ 1) := h318; omega
                        replace hc289 := hc289.st (t' := (90, [(0, (1, 275)), (1, (0, 1)), (2, (0, v107 275 78))], [(0, 1), (1, 275)], v316)) (fun _ _ q => e_Pn.run eAlk 2 rfl q)
                        have as31994 : v107 275 94 = v107 275 94 := rfl
                        have as31986 : v107 275 86 = v107 275 86 := rfl
                        have as31987 : v107 275 87 = v107 275 87 := rfl
                        obtain ⟨as319, as319g⟩ := nmA.mk hv299 hv304 hv310 hv314 hv316 (by first | decide | omega) (by first | decide | omega)
                        have s319 := st.rou (x := 0) (by decide) s112 (by first | decide | omega) w143c (Or.inr ⟨by rw [(show w143 1 14 = w110 1 14 from ((w143f 1 14 (by unfold kRc; omega)).trans rfl))]; omega, w149c⟩) (Or.inl ⟨by rw [(show w149 1 14 = w110 1 14 from ((w149f 1 14 (by unfold kRc; omega)).trans ((w143f 1 14 (by unfold kRc; omega)).trans rfl)))]; omega, by rw [(show w149 1 14 = w110 1 14 from ((w149f 1 14 (by unfold kRc; omega)).trans ((w143f 1 14 (by unfold kRc; omega)).trans rfl))), hw285, hw287]⟩) as319 (by first | decide | omega) (by first | decide | omega) as319g
                        have s319c := cn1.A as319 (by first | decide | omega)
                        have s319d : w287 cd 0 = w110 cd 0 ∧ w287 1 6 = w110 1 6 := ⟨(by rw [← hw287]; exact (e_up_ne _ _ (Or.inr (by first | decide | omega))).trans (by rw [← hw285]; exact (e_up_ne _ _ (Or.inr (by first | decide | omega))).trans ((w149f cd 0 (by unfold kRc; omega)).trans ((w143f cd 0 (by unfold kRc; omega)).trans rfl)))), (by rw [← hw287]; exact (e_up_ne _ _ (Or.inr (by first | decide | omega))).trans (by rw [← hw285]; exact (e_up_ne _ _ (Or.inl (by first | decide | omega))).trans ((w149f 1 6 (by unfold kRc; omega)).trans ((w143f 1 6 (by unfold kRc; omega)).trans rfl))))⟩
                        have q320 := st.nums s319
                        clear q113
                        have q320c := q320.2.2.2.1
                        obtain ⟨dc321, r322, v323, hc324, hc289⟩ := hc289.ca rfl
                        have uhc324 := hc324.pn (fun nq => u_334 s319.1.2.2.2.2.1)
                        refine e_Pn.callA rfl (fun nq dq => e_Pn.and (t_129b s319.1.1 s319.1.2.1 (by first | decide | omega) (d' := dc321) hc324) (u_129 s319.1.2.2.2.1)) (fun r325 w326 h327 => ?_)
                        obtain ⟨⟨rfl, rfl, h327⟩, -, h327k⟩ := h327
                        rcases h327.symm with h327 | ⟨h327c, h327⟩
                        · skip
                          replace hc289 : e_Rn 20 elay ecode eI dhc289 338 (93, [(0, (1, 275)), (1, (0, 1)), (2, (0, v107 275 78))], [], v323) r290 v291 := hc289
                          obtain ⟨rfl, m328⟩ := (e_Rn.le eAlk [0, 1, 2] rfl rfl hc289).pn (fun nq => v_338_93 (uhc324.2.rf s319.1.2.2.2.2.1) _ 1 (v107 275 78) v323 mq.r)
                          replace hM : e_Rn 20 elay ecode eI d' 353 (95, (0, (1, 275)) :: tl30, [], v291) r' v' := hM
                          obtain ⟨rfl, m329⟩ := (e_Rn.le eAlk [0] rfl rfl hM).pn (fun nq => v_353_95 (m328.rf (uhc324.2.rf s319.1.2.2.2.2.1)) _  v291 mq.r)
                          show e_Pn 20 elay kcode eI nq95 dq96 142 (95, [(0, (1, 1))], [], w326) _
                          refine e_Pn.ord kAlk [0] rfl rfl ((v_142_95 (h327k.rf s319.1.2.2.2.1) _  w326 kq.r).imp (fun r331 w332 k330 => ?_))
                          obtain ⟨rfl, k330⟩ := k330
                          show e_Pn 20 elay kcode eI nn28 d 119 (91, (0, (1, 1)) :: (1, (0, y3)) :: tl29, [], w332) _
                          refine e_Pn.ord kAlk [0, 1] rfl rfl ((v_119_91 (k330.rf (h327k.rf s319.1.2.2.2.1)) (rpF.k h327 k330) _ y3 w332 kq.r).imp (fun r334 w335 k333 => ?_))
                          obtain ⟨rfl, k333⟩ := k333
                          exact K2 _ (rpF.tail h327 (k330.tr k333) (m328.tr m329))
                        have s336 := st.ad (k := 1) s319 h327 (st.len1 s319 (by first | decide | omega)) (by first | decide | omega)
                        have s336n := h327.2.2.2.1
                        have s336m := st.len1 s319 (by first | decide | omega)
                        have s336x := cn1.E (TK.nm h327)
                        have s336y : w326 cd 0 = w287 cd 0 := h327.2.2.2.2.1 cd 0 (nf3_kRa_cd_0 hcd)
                        have s336g : w 1 6 + 1 ≤ w326 1 6 := by omega
                        have q337 := st.nums s336
                        clear q320
                        have q337c := q337.2.2.2.1
                        show e_Pn 20 elay kcode eI nq95 dq96 142 (95, [(0, (1, 1))], [], w326) _
                        replace hc289 : e_Rn 20 elay ecode eI dhc289 338 (93, [(0, (1, 275)), (1, (0, 1)), (2, (0, v107 275 78))], [], v323) r290 v291 := hc289
                        refine e_Pn.run (t' := (98, [(0, (1, 1))], [(0, 20), (1, 1)], w326)) kAlk 2 rfl ?_
                        obtain ⟨rfl, rfl⟩ := hc289.re0 rfl
                        replace hM : e_Rn 20 elay ecode eI d' 353 (95, (0, (1, 275)) :: tl30, [], v323) r' v' := hM
                        replace hM := hM.st (t' := (99, (0, (1, 275)) :: tl30, [(0, 58), (1, 275), (1, 275)], v323)) (fun _ _ q => e_Pn.run eAlk 3 rfl q)
                        obtain ⟨dc338, r339, v340, hc341, hM⟩ := hM.ca rfl
                        obtain ⟨z342, rfl, rfl, z342q⟩ := hc341.pn (fun nq => l_331)
                        replace z342q := isS (kM_s58 s336.1.2.1.2.2.1) rfl rfl z342q
                        replace hM : e_Rn 20 elay ecode eI d' 353 (102, (0, (1, 275)) :: tl30, [(0, z342), (1, 275)], v323) r' v' := hM
                        obtain ⟨dc343, r344, v345, hc346, hM⟩ := hM.ca rfl
                        have uhc346 := hc346.pn (fun nq => u_334 s336.1.2.2.2.2.1)
                        refine e_Pn.callA rfl (fun nq dq => e_Pn.and (t_129b s336.1.1 s336.1.2.1 z342q (d' := dc343) hc346) (u_129 s336.1.2.2.2.1)) (fun r347 w348 h349 => ?_)
                        obtain ⟨⟨rfl, rfl, h349⟩, -, h349k⟩ := h349
                        rcases h349.symm with h349 | ⟨h349c, h349⟩
                        · skip
                          replace hM : e_Rn 20 elay ecode eI d' 353 (105, (0, (1, 275)) :: tl30, [], v345) r' v' := hM
                          obtain ⟨rfl, m350⟩ := (e_Rn.le eAlk [0] rfl rfl hM).pn (fun nq => v_353_105 (uhc346.2.rf s336.1.2.2.2.2.1) _  v345 mq.r)
                          show e_Pn 20 elay kcode eI nq95 dq96 142 (101, [(0, (1, 1))], [], w348) _
                          refine e_Pn.ord kAlk [0] rfl rfl ((v_142_101 (h349k.rf s336.1.2.2.2.1) _  w348 kq.r).imp (fun r352 w353 k351 => ?_))
                          obtain ⟨rfl, k351⟩ := k351
                          show e_Pn 20 elay kcode eI nn28 d 119 (91, (0, (1, 1)) :: (1, (0, y3)) :: tl29, [], w353) _
                          refine e_Pn.ord kAlk [0, 1] rfl rfl ((v_119_91 (k351.rf (h349k.rf s336.1.2.2.2.1)) (rpF.k h349 k351) _ y3 w353 kq.r).imp (fun r355 w356 k354 => ?_))
                          obtain ⟨rfl, k354⟩ := k354
                          exact K2 _ (rpF.tail h349 (k351.tr k354) m350)
                        clear z342q
                        have s357 := st.ad (k := 1) s336 h349 (st.len1 s336 (by first | decide | omega)) (by first | decide | omega)
                        have s357n := h349.2.2.2.1
                        have s357m := st.len1 s336 (by first | decide | omega)
                        have s357x := cn1.E (TK.nm h349)
                        have s357y : w348 cd 0 = w326 cd 0 := h349.2.2.2.2.1 cd 0 (nf3_kRa_cd_0 hcd)
                        have s357g : w 1 6 + 1 ≤ w348 1 6 := by omega
                        have q358 := st.nums s357
                        clear q337
                        have q358c := q358.2.2.2.1
                        show e_Pn 20 elay kcode eI nq95 dq96 142 (101, [(0, (1, 1))], [], w348) _
                        replace hM : e_Rn 20 elay ecode eI d' 353 (105, (0, (1, 275)) :: tl30, [], v345) r' v' := hM
                        refine e_Pn.run (t' := (103, [(0, (1, 1))], [(0, 0), (1, 1)], w348)) kAlk 2 rfl ?_
                        refine e_Pn.putf kAlk rfl rfl ?_
                        generalize hw359 : e_up w348 1 12 0 = w359
                        have w359g : e_fr (kGs cd) w348 w359 := (e_fr.up (e_fr.refl w348) hw359 pf3_kGs_1_12)
                        have w359k := kRw.gs s357.1.2.2.2.1 w359g
                        have w359l : 0 ≤ w359 cd 0 ∧ w359 cd 0 ≤ 4000 := by rw [w359g cd 0 (nf3_kGs_cd_0 hcd)]; exact s357.1.2.2.2.2.2.1
                        have w359e : w359 1 5 = w348 1 5 ∧ w359 1 6 = w348 1 6 ∧ w359 1 8 = w348 1 8 := ⟨w359g 1 5 (nf3_kGs_1_5 hcd), w359g 1 6 (nf3_kGs_1_6 hcd), w359g 1 8 (nf3_kGs_1_8 hcd)⟩
                        refine e_Pn.run (t' := (108, [(0, (1, 1))], [(0, (-1)), (1, 1)], w359)) kAlk 2 rfl ?_
                        refine e_Pn.putf kAlk rfl rfl ?_
                        generalize hw360 : e_up w359 1 13 (-1) = w360
                        have w360g : e_fr (kGs cd) w359 w360 := (e_fr.up (e_fr.refl w359) hw360 pf3_kGs_1_13)
                        have w360k := kRw.gs w359k w360g
                        have w360l : 0 ≤ w360 cd 0 ∧ w360 cd 0 ≤ 4000 := by rw [w360g cd 0 (nf3_kGs_cd_0 hcd)]; exact w359l
                        have w360e : w360 1 5 = w359 1 5 ∧ w360 1 6 = w359 1 6 ∧ w360 1 8 = w359 1 8 := ⟨w360g 1 5 (nf3_kGs_1_5 hcd), w360g 1 6 (nf3_kGs_1_6 hcd), w360g 1 8 (nf3_kGs_1_8 hcd)⟩
                        refine e_Pn.run (t' := (112, [(0, (1, 1))], [(1, 1)], w360)) kAlk 1 rfl ?_
                        replace hM := hM.st (t' := (106, (0, (1, 275)) :: tl30, [(1, 275)], v345)) (fun _ _ q => e_Pn.run eAlk 1 rfl q)
                        have e362a : w360 1 11 = w348 1 11 := (Eq.trans (show w360 1 11 = w359 1 11 by rw [← hw360]; exact e_up_ne _ _ (Or.inr (by first | decide | omega))) (show w359 1 11 = w348 1 11 by rw [← hw359]; exact e_up_ne _ _ (Or.inr (by first | decide | omega))))
                        have e362b : v345 275 83 = v345 275 83 := rfl
                        have e362c : w360 1 13 = (-1) := (by rw [← hw360]; exact e_up_eq _ _ _ _)
                        have e362d : v345 275 82 = v345 275 82 := rfl
                        have e362f : w360 1 12 = 0 := (Eq.trans (show w360 1 12 = w359 1 12 by rw [← hw360]; exact e_up_ne _ _ (Or.inr (by first | decide | omega))) (by rw [← hw359]; exact e_up_eq _ _ _ _))
                        have e362e : v345 275 80 = v345 275 80 := rfl
                        have s361 := st.gen (o' := 0) (l' := (-1)) (m' := v 275 82) (t' := 0) (b' := 0) s357 (e_fr.up (e_fr.up (e_fr.refl w348) hw359 pf3_kGs_1_12) hw360 pf3_kGs_1_13) (e_fr.refl v345) (by first | decide | omega) (by first | decide | omega) (by first | decide | omega) (by first | decide | omega)
                        have q363 := st.nums s361
                        clear q358 e362a e362b e362c e362d e362e e362f
                        have q363c := q363.2.2.2.1
                        obtain ⟨dc364, r365, v366, hc367, hM⟩ := hM.ca rfl
                        have uhc367 := hc367.pn (fun nq => uS_all nq 348 (by decide) _ _ s361.1.2.2.2.2.1)
                        have z371 : st0 N cd w360 v345 := st.z s361 (by first | decide | omega) (by first | decide | omega) (by first | decide | omega)
                        refine e_Pn.callA rfl (fun nq dq => e_Pn.and (sE_all nq _ _ dq _ _ _ z371 (by first | decide | omega) hc367) (kS_all nq 144 (by decide) dq _ _ s361.1.2.2.2.1)) (fun r368 w369 h370 => ?_)
                        obtain ⟨⟨rfl, rfl, h370⟩, -, h370k⟩ := h370
                        rcases h370.symm with h370 | h370
                        · skip
                          replace hM : e_Rn 20 elay ecode eI d' 353 (109, (0, (1, 275)) :: tl30, [], v366) r' v' := hM
                          obtain ⟨rfl, m372⟩ := (e_Rn.le eAlk [0] rfl rfl hM).pn (fun nq => v_353_109 (uhc367.2.rf s361.1.2.2.2.2.1) _  v366 mq.r)
                          show e_Pn 20 elay kcode eI nq95 dq96 142 (115, [(0, (1, 1))], [], w369) _
                          refine e_Pn.ord kAlk [0] rfl rfl ((v_142_115 (h370k.rf s361.1.2.2.2.1) _  w369 kq.r).imp (fun r374 w375 k373 => ?_))
                          obtain ⟨rfl, k373⟩ := k373
                          show e_Pn 20 elay kcode eI nn28 d 119 (91, (0, (1, 1)) :: (1, (0, y3)) :: tl29, [], w375) _
                          refine e_Pn.ord kAlk [0, 1] rfl rfl ((v_119_91 (k373.rf (h370k.rf s361.1.2.2.2.1)) (rpF.k h370 k373) _ y3 w375 kq.r).imp (fun r377 w378 k376 => ?_))
                          obtain ⟨rfl, k376⟩ := k376
                          exact K2 _ (rpF.tail h370 (k373.tr k376) m372)
                        have h370x := cn1.X h370.2.2.2.2.2.2.2 (by first | decide | omega)
                        have h370p : w360 1 6 ≤ w369 1 6 := h370.2.2.2.2.2.1.2.2
                        replace h370 := st.low h370 (ka' := 0) (by decide)
                        have s379 := st.re (l' := (-1)) (m' := v 275 82) (t' := 0) (st.tr s361 h370) (Int.le_refl _) rfl (by first | decide | omega) (by first | decide | omega) (by first | decide | omega)
                        have q380 := st.nums s379
                        clear q363
                        have q380c := q380.2.2.2.1
                        show e_Pn 20 elay kcode eI nq95 dq96 142 (115, [(0, (1, 1))], [], w369) _
                        replace hM : e_Rn 20 elay ecode eI d' 353 (109, (0, (1, 275)) :: tl30, [], v366) r' v' := hM
                        refine e_Pn.run (t' := (118, [(0, (1, 1))], [(0, 23), (1, 1)], w369)) kAlk 2 rfl ?_
                        replace hM := hM.st (t' := (112, (0, (1, 275)) :: tl30, [(0, 2), (1, 275), (1, 275)], v366)) (fun _ _ q => e_Pn.run eAlk 3 rfl q)
                        obtain ⟨dc381, r382, v383, hc384, hM⟩ := hM.ca rfl
                        obtain ⟨z385, rfl, rfl, z385q⟩ := hc384.pn (fun nq => l_332)
                        replace z385q := isS (kM_key (k := 2) s379.1.2.1.2.2.1 (by decide)) rfl rfl z385q
                        replace hM : e_Rn 20 elay ecode eI d' 353 (115, (0, (1, 275)) :: tl30, [(0, z385), (1, 275)], v366) r' v' := hM
                        obtain ⟨dc386, r387, v388, hc389, hM⟩ := hM.ca rfl
                        have uhc389 := hc389.pn (fun nq => u_334 s379.1.2.2.2.2.1)
                        refine e_Pn.callA rfl (fun nq dq => e_Pn.and (t_129b s379.1.1 s379.1.2.1 z385q (d' := dc386) hc389) (u_129 s379.1.2.2.2.1)) (fun r390 w391 h392 => ?_)
                        obtain ⟨⟨rfl, rfl, h392⟩, -, h392k⟩ := h392
                        rcases h392.symm with h392 | ⟨h392c, h392⟩
                        · skip
                          replace hM : e_Rn 20 elay ecode eI d' 353 (118, (0, (1, 275)) :: tl30, [], v388) r' v' := hM
                          obtain ⟨rfl, m393⟩ := (e_Rn.le eAlk [0] rfl rfl hM).pn (fun nq => v_353_118 (uhc389.2.rf s379.1.2.2.2.2.1) _  v388 mq.r)
                          show e_Pn 20 elay kcode eI nq95 dq96 142 (121, [(0, (1, 1))], [], w391) _
                          refine e_Pn.ord kAlk [0] rfl rfl ((v_142_121 (h392k.rf s379.1.2.2.2.1) _  w391 kq.r).imp (fun r395 w396 k394 => ?_))
                          obtain ⟨rfl, k394⟩ := k394
                          show e_Pn 20 elay kcode eI nn28 d 119 (91, (0, (1, 1)) :: (1, (0, y3)) :: tl29, [], w396) _
                          refine e_Pn.ord kAlk [0, 1] rfl rfl ((v_119_91 (k394.rf (h392k.rf s379.1.2.2.2.1)) (rpF.k h392 k394) _ y3 w396 kq.r).imp (fun r398 w399 k397 => ?_))
                          obtain ⟨rfl, k397⟩ := k397
                          exact K2 _ (rpF.tail h392 (k394.tr k397) m393)
                        clear z385q
                        have s400 := st.ad (k := 3) s379 h392 (st.len3 s379 (Or.inl h392c)) (by first | decide | omega)
                        have s400n := h392.2.2.2.1
                        have s400m := st.len3 s379 (Or.inl h392c)
                        have s400x := cn1.E (TK.nm h392)
                        have s400y : w391 cd 0 = w369 cd 0 := h392.2.2.2.2.1 cd 0 (nf3_kRa_cd_0 hcd)
                        have s400g : w 1 6 + 1 ≤ w391 1 6 := by omega
                        have q401 := st.nums s400
                        clear q380
                        have q401c := q401.2.2.2.1
                        show e_Pn 20 elay kcode eI nq95 dq96 142 (121, [(0, (1, 1))], [], w391) _
                        replace hM : e_Rn 20 elay ecode eI d' 353 (118, (0, (1, 275)) :: tl30, [], v388) r' v' := hM
                        refine e_Pn.run (t' := (122, [(0, (1, 1))], [(1, 1)], w391)) kAlk 1 rfl ?_
                        refine e_Pn.getr (z := cd) kAlk rfl rfl s400.1.2.2.2.1.2.1 (by first | decide | omega) ?_
                        refine e_Pn.run (t' := (128, [(0, (1, 1))], [(0, 0), (0, 43), (1, cd)], w391)) kAlk 2 rfl ?_
                        refine e_Pn.callA rfl (fun nq dq => l_21 s400.1.2.2.2.1 (op := 43) (od := 0) (by first | decide | omega) (by first | decide | omega) s400.1.2.2.2.2.2.1) (fun r402 w403 h404 => ?_)
                        obtain ⟨z405, rfl, w403f, w403q⟩ := h404
                        have w403k := kRw.em s400.1.2.2.2.1 w403f
                        have w403l := (emQ.len w403q s400.1.2.2.2.2.2.1).1
                        have w403e : w403 1 5 = w391 1 5 ∧ w403 1 6 = w391 1 6 ∧ w403 1 8 = w391 1 8 := ⟨w403f 1 5 (nf3_kEm_1_5 hcd), w403f 1 6 (nf3_kEm_1_6 hcd), w403f 1 8 (nf3_kEm_1_8 hcd)⟩
                        have s406 := st.em s400 w403f w403q (by first | decide | omega) (by unfold isCl3; omega)
                        have q407 := st.nums s406
                        clear q401
                        have q407c := q407.2.2.2.1
                        have z405r : 0 ≤ z405 ∧ z405 ≤ 4000 := emQ.z w403q s400.1.2.2.2.2.2.1
                        show e_Pn 20 elay kcode eI nq95 dq96 142 (131, [(0, (1, 1))], [(0, z405)], w403) _
                        refine e_Pn.run (t' := (132, [(0, (1, 1))], [], w403)) kAlk 1 rfl ?_
                        refine e_Pn.ret0 rfl ?_
                        show e_Pn 20 elay kcode eI nn28 d 119 (91, (0, (1, 1)) :: (1, (0, y3)) :: tl29, [], w403) _
                        refine e_Pn.inc (z := y3 + 1) kAlk rfl rfl (by first | decide | omega) (by first | decide | omega) ?_
                        show e_Pn 20 elay kcode eI nn28 d 119 (94, (1, (0, y3 + 1)) :: (0, (1, 1)) :: List.filter (e_flt 0 1) tl29, [], w403) _
                        refine e_Pn.run (t' := (71, (1, (0, y3 + 1)) :: (0, (1, 1)) :: List.filter (e_flt 0 1) tl29, [], w403)) kAlk 1 rfl ?_
                        replace hM := hM.st (t' := (122, (0, (1, 275)) :: tl30, [(0, 0), (0, 45), (1, 275)], v388)) (fun _ _ q => e_Pn.run eAlk 3 rfl q)
                        obtain ⟨dc408, r409, v410, hc411, hM⟩ := hM.ca rfl
                        obtain ⟨⟨z412, rfl⟩, v410f⟩ := hc411.pn (fun nq => x_336 s400.1.2.2.2.2.1)
                        have v410m := mfr.rf v410f s400.1.2.2.2.2.1
                        replace hM : e_Rn 20 elay ecode eI d' 353 (125, (0, (1, 275)) :: tl30, [(0, z412)], v410) r' v' := hM
                        replace hM := hM.st (t' := (67, (0, (1, 275)) :: tl30, [], v410)) (fun _ _ q => e_Pn.run eAlk 2 rfl q)
                        have e414a : w403 1 11 = w403 1 11 := rfl
                        have e414b : v410 275 83 = v388 275 83 := (v410f 275 83 nf3_mEm_275_83)
                        have e414c : w403 1 13 = w403 1 13 := rfl
                        have e414d : v410 275 82 = v388 275 82 := (v410f 275 82 nf3_mEm_275_82)
                        have e414f : w403 1 12 = w403 1 12 := rfl
                        have e414e : v410 275 80 = v388 275 80 := (v410f 275 80 nf3_mEm_275_80)
                        have s413 := st.gen (o' := 0) (l' := (-1)) (m' := v 275 82) (t' := 0) (b' := 0) s406 (e_fr.refl w403) (e_fr.trans (e_fr.refl v388) (e_fr.mono v410f (fun c k q => by unfold mEm at q; unfold mGs; omega))) (by first | decide | omega) (by first | decide | omega) (by first | decide | omega) (by first | decide | omega)
                        have s413x := cn1.E (nmE.of (show e_fr mGs v388 v410 from (e_fr.trans (e_fr.refl v388) (e_fr.mono v410f (fun c k q => by unfold mEm at q; unfold mGs; omega)))) (fun i => by unfold mGs; omega) (by unfold mGs; omega))
                        have q415 := st.nums s413
                        clear q407 e414a e414b e414c e414d e414e e414f
                        have q415c := q415.2.2.2.1
                        exact e_Pn.ord kAlk [0, 1] rfl rfl (ih27 (by first | decide | omega) _ _ (y3 + 1) ((-1)) 0 w403 v410 ⟨(st.re s413 (by first | decide | omega) (by first | decide | omega) (by first | decide | omega) (by first | decide | omega) (by first | decide | omega)), (by first | decide | omega), (by first | decide | omega), (by first | decide | omega)⟩ (e_Rn.le eAlk [0] rfl rfl hM))
              · replace h146 : (w110 1 14 : Int) < 32 := by have q : ¬ ((w110 1 14 : Int) ≥ 32) := h146; omega
                refine e_Pn.run (t' := (26, [(0, (1, 1))], [(1, 1)], w143)) kAlk 1 rfl ?_
                refine e_Pn.getr (z := cd) kAlk rfl rfl ((w143f 1 3 (by unfold kRc; omega)).trans s112.1.2.2.2.1.2.1) (by first | decide | omega) ?_
                refine e_Pn.getr (z := cd + 1) kAlk rfl rfl ((w143f cd 3 (by unfold kRc; omega)).trans s112.1.2.2.2.1.2.2.2.2.2.1) (by first | decide | omega) ?_
                refine e_Pn.run (t' := (33, [(0, (1, 1))], [(1, 1), (1, cd + 1)], w143)) kAlk 1 rfl ?_
                refine e_Pn.getf (z := w110 1 14) kAlk rfl rfl ((w143f 1 14 (by unfold kRc; omega)).trans rfl) (fun b416 => ?_)
                refine e_Pn.run (t' := (37, [(0, (1, 1))], [(1, 1), (0, w110 1 14), (1, cd + 1)], w143)) kAlk 1 rfl ?_
                refine e_Pn.getr (z := cd) kAlk rfl rfl ((w143f 1 3 (by unfold kRc; omega)).trans s112.1.2.2.2.1.2.1) (by first | decide | omega) ?_
                refine e_Pn.getf (z := w110 cd 0) kAlk rfl rfl ((w143f cd 0 (by unfold kRc; omega)).trans rfl) (fun b417 => ?_)
                refine e_Pn.ast kAlk rfl (lD1 (d := cd) (by first | decide | omega) hcd) rfl (fun b418 b419 => ?_)
                generalize hw420 : e_up w143 (cd + 1) (w110 1 14) (w110 cd 0) = w420
                have w420g : e_fr (kVs cd) w143 w420 := e_fr.up (e_fr.refl w143) hw420 (by unfold kVs; omega)
                have w420k := kRw.vs w143k w420g
                have w420l : 0 ≤ w420 cd 0 ∧ w420 cd 0 ≤ 4000 := by rw [w420g cd 0 (by unfold kVs; omega)]; exact w143l
                have w420e : w420 1 5 = w143 1 5 ∧ w420 1 6 = w143 1 6 ∧ w420 1 8 = w143 1 8 := ⟨w420g 1 5 (by unfold kVs; omega), w420g 1 6 (by unfold kVs; omega), w420g 1 8 (by unfold kVs; omega)⟩
                refine e_Pn.run (t' := (58, [(0, (1, 1))], [(1, 1)], w420)) kAlk 2 rfl ?_
                refine e_Pn.getf (z := w110 1 14) kAlk rfl rfl (by rw [← hw420]; exact (e_up_ne _ _ (Or.inl (by first | decide | omega))).trans ((w143f 1 14 (by unfold kRc; omega)).trans rfl)) (fun b421 => ?_)
                refine e_Pn.run (t' := (64, [(0, (1, 1))], [(0, 500), (0, w110 1 14)], w420)) kAlk 1 rfl ?_
                refine e_Pn.if2 kAlk rfl (fun h422 => ?_) (fun h422 => ?_)
                · replace h422 : (w110 1 14 : Int) ≥ 500 := h422
                  exfalso; omega
                · replace h422 : (w110 1 14 : Int) < 500 := by have q : ¬ ((w110 1 14 : Int) ≥ 500) := h422; omega
                  refine e_Pn.run (t' := (68, [(0, (1, 1))], [(1, 1)], w420)) kAlk 1 rfl ?_
                  refine e_Pn.getr (z := 7) kAlk rfl rfl (by rw [← hw420]; exact (e_up_ne _ _ (Or.inl (by first | decide | omega))).trans ((w143f 1 16 (by unfold kRc; omega)).trans s112.1.2.2.2.1.2.2.2.2.1)) (by first | decide | omega) ?_
                  refine e_Pn.run (t' := (72, [(0, (1, 1))], [(1, 1), (1, 7)], w420)) kAlk 1 rfl ?_
                  refine e_Pn.getf (z := w110 1 14) kAlk rfl rfl (by rw [← hw420]; exact (e_up_ne _ _ (Or.inl (by first | decide | omega))).trans ((w143f 1 14 (by unfold kRc; omega)).trans rfl)) (fun b423 => ?_)
                  refine e_Pn.run (t' := (76, [(0, (1, 1))], [(1, 1), (0, w110 1 14), (1, 7)], w420)) kAlk 1 rfl ?_
                  refine e_Pn.getf (z := w110 1 6) kAlk rfl rfl (by rw [← hw420]; exact (e_up_ne _ _ (Or.inl (by first | decide | omega))).trans ((w143f 1 6 (by unfold kRc; omega)).trans rfl)) (fun b424 => ?_)
                  refine e_Pn.ast kAlk rfl rfl rfl (fun b425 b426 => ?_)
                  generalize hw427 : e_up w420 7 (w110 1 14) (w110 1 6) = w427
                  have w427g : e_fr (kVs cd) w420 w427 := e_fr.up (e_fr.refl w420) hw427 (by unfold kVs; omega)
                  have w427k := kRw.vs w420k w427g
                  have w427l : 0 ≤ w427 cd 0 ∧ w427 cd 0 ≤ 4000 := by rw [w427g cd 0 (by unfold kVs; omega)]; exact w420l
                  have w427e : w427 1 5 = w420 1 5 ∧ w427 1 6 = w420 1 6 ∧ w427 1 8 = w420 1 8 := ⟨w427g 1 5 (by unfold kVs; omega), w427g 1 6 (by unfold kVs; omega), w427g 1 8 (by unfold kVs; omega)⟩
                  refine e_Pn.run (t' := (82, [(0, (1, 1))], [(1, 1), (1, 1)], w427)) kAlk 2 rfl ?_
                  refine e_Pn.getf (z := w110 1 14) kAlk rfl rfl (by rw [← hw427]; exact (e_up_ne _ _ (Or.inl (by first | decide | omega))).trans (by rw [← hw420]; exact (e_up_ne _ _ (Or.inl (by first | decide | omega))).trans ((w143f 1 14 (by unfold kRc; omega)).trans rfl))) (fun b428 => ?_)
                  refine e_Pn.run (t' := (86, [(0, (1, 1))], [(0, 1), (0, w110 1 14), (1, 1)], w427)) kAlk 1 rfl ?_
                  refine e_Pn.add (z := w110 1 14 + 1) kAlk rfl (by first | decide | omega) (by first | decide | omega) ?_
                  refine e_Pn.putf kAlk rfl rfl ?_
                  generalize hw429 : e_up w427 1 14 (w110 1 14 + 1) = w429
                  have w429g : e_fr (kVs cd) w427 w429 := e_fr.up (e_fr.refl w427) hw429 (by unfold kVs; omega)
                  have w429k := kRw.vs w427k w429g
                  have w429l : 0 ≤ w429 cd 0 ∧ w429 cd 0 ≤ 4000 := by rw [w429g cd 0 (by unfold kVs; omega)]; exact w427l
                  have w429e : w429 1 5 = w427 1 5 ∧ w429 1 6 = w427 1 6 ∧ w429 1 8 = w427 1 8 := ⟨w429g 1 5 (by unfold kVs; omega), w429g 1 6 (by unfold kVs; omega), w429g 1 8 (by unfold kVs; omega)⟩
                  refine e_Pn.run (t' := (92, [(0, (1, 1))], [(0, 1), (1, 1)], w429)) kAlk 2 rfl ?_
                  replace hM := hM.st (t' := (89, (0, (1, 275)) :: tl30, [(1, 275), (0, 1), (1, 275)], v107)) (fun _ _ q => e_Pn.run eAlk 3 rfl q)
                  obtain ⟨b430, hM⟩ := hM.of (fun _ _ q => e_Pn.getf (z := v107 275 78) eAlk rfl rfl rfl q)
                  obtain ⟨dhc431, r432, v433, hc431, hM⟩ := hM.ca rfl
                  replace hc431 : e_Rn 20 elay ecode eI dhc431 338 (0, [(0, (1, 275)), (1, (0, 1)), (2, (0, v107 275 78))], [], v107) r432 v433 := hc431
                  replace hc431 := hc431.st (t' := (1, [(0, (1, 275)), (1, (0, 1)), (2, (0, v107 275 78))], [(1, 275)], v107)) (fun _ _ q => e_Pn.run eAlk 1 rfl q)
                  obtain ⟨b434, hc431⟩ := hc431.of (fun _ _ q => e_Pn.getf (z := 0) eAlk rfl rfl s112.1.2.1.1.2 q)
                  rcases hc431.or (fun _ _ q1 q2 => e_Pn.if1 eAlk rfl q1 q2) with ⟨h435, hc431⟩ | ⟨h435, hc431⟩
                  · replace h435 : (0 : Int) ≠ 0 := h435
                    exfalso; omega
                  · replace h435 : (0 : Int) = 0 := by have q : ¬ ((0 : Int) ≠ 0) := h435; omega
                    replace hc431 := hc431.st (t' := (8, [(0, (1, 275)), (1, (0, 1)), (2, (0, v107 275 78))], [(1, 275)], v107)) (fun _ _ q => e_Pn.run eAlk 1 rfl q)
                    obtain ⟨b436, hc431⟩ := hc431.of (fun _ _ q => e_Pn.getf (z := 1) eAlk rfl rfl (kM_k1 s112.1.2.1.2.2.1 (by first | decide | omega)) q)
                    replace hc431 := hc431.st (t' := (12, [(0, (1, 275)), (1, (0, 1)), (2, (0, v107 275 78))], [(0, 1), (0, 1)], v107)) (fun _ _ q => e_Pn.run eAlk 1 rfl q)
                    rcases hc431.or (fun _ _ q1 q2 => e_Pn.if2 eAlk rfl q1 q2) with ⟨h437, hc431⟩ | ⟨h437, hc431⟩
                    · replace h437 : (1 : Int) ≠ 1 := h437
                      exfalso; omega
                    · replace h437 : (1 : Int) = 1 := by have q : ¬ ((1 : Int) ≠ 1) := h437; omega
                      replace hc431 := hc431.st (t' := (16, [(0, (1, 275)), (1, (0, 1)), (2, (0, v107 275 78))], [(1, 275)], v107)) (fun _ _ q => e_Pn.run eAlk 1 rfl q)
                      replace hc431 := hc431.st (fun _ _ q => e_Pn.getr (z := 341) eAlk rfl rfl (s112.1.2.2.2.2.1 (90, 341) (by decide)) (by first | decide | omega) q)
                      replace hc431 := hc431.st (t' := (20, [(0, (1, 275)), (1, (0, 1)), (2, (0, v107 275 78))], [(1, 275), (1, 341)], v107)) (fun _ _ q => e_Pn.run eAlk 1 rfl q)
                      obtain ⟨b438, hc431⟩ := hc431.of (fun _ _ q => e_Pn.getf (z := v107 275 94) eAlk rfl rfl rfl q)
                      replace hc431 := hc431.st (t' := (24, [(0, (1, 275)), (1, (0, 1)), (2, (0, v107 275 78))], [(0, 1), (0, v107 275 94), (1, 341)], v107)) (fun _ _ q => e_Pn.run eAlk 1 rfl q)
                      obtain ⟨b439, b440, hc431⟩ := hc431.of2 (fun _ _ q => e_Pn.ast eAlk rfl rfl rfl q)
                      generalize hv441 : e_up v107 341 (v107 275 94) 1 = v441 at hc431
                      have v441m := mRw.upd hv441 (fun _ => by first | decide | omega) s112.1.2.2.2.2.1
                      replace hc431 := hc431.st (t' := (26, [(0, (1, 275)), (1, (0, 1)), (2, (0, v107 275 78))], [(1, 275)], v441)) (fun _ _ q => e_Pn.run eAlk 1 rfl q)
                      replace hc431 := hc431.st (fun _ _ q => e_Pn.getr (z := 342) eAlk rfl rfl (by rw [← hv441]; exact (e_up_ne _ _ (Or.inl (by first | decide | omega))).trans (s112.1.2.2.2.2.1 (91, 342) (by decide))) (by first | decide | omega) q)
                      replace hc431 := hc431.st (t' := (30, [(0, (1, 275)), (1, (0, 1)), (2, (0, v107 275 78))], [(1, 275), (1, 342)], v441)) (fun _ _ q => e_Pn.run eAlk 1 rfl q)
                      obtain ⟨b442, hc431⟩ := hc431.of (fun _ _ q => e_Pn.getf (z := v107 275 94) eAlk rfl rfl (by rw [← hv441]; exact (e_up_ne _ _ (Or.inl (by first | decide | omega))).trans rfl) q)
                      replace hc431 := hc431.st (t' := (34, [(0, (1, 275)), (1, (0, 1)), (2, (0, v107 275 78))], [(1, 275), (0, v107 275 94), (1, 342)], v441)) (fun _ _ q => e_Pn.run eAlk 1 rfl q)
                      obtain ⟨b443, hc431⟩ := hc431.of (fun _ _ q => e_Pn.getf (z := v107 275 86) eAlk rfl rfl (by rw [← hv441]; exact (e_up_ne _ _ (Or.inl (by first | decide | omega))).trans rfl) q)
                      obtain ⟨b444, b445, hc431⟩ := hc431.of2 (fun _ _ q => e_Pn.ast eAlk rfl rfl rfl q)
                      generalize hv446 : e_up v441 342 (v107 275 94) (v107 275 86) = v446 at hc431
                      have v446m := mRw.upd hv446 (fun _ => by first | decide | omega) v441m
                      replace hc431 := hc431.st (t' := (39, [(0, (1, 275)), (1, (0, 1)), (2, (0, v107 275 78))], [(1, 275)], v446)) (fun _ _ q => e_Pn.run eAlk 1 rfl q)
                      replace hc431 := hc431.st (fun _ _ q => e_Pn.getr (z := 343) eAlk rfl rfl (by rw [← hv446]; exact (e_up_ne _ _ (Or.inl (by first | decide | omega))).trans (by rw [← hv441]; exact (e_up_ne _ _ (Or.inl (by first | decide | omega))).trans (s112.1.2.2.2.2.1 (92, 343) (by decide)))) (by first | decide | omega) q)
                      replace hc431 := hc431.st (t' := (43, [(0, (1, 275)), (1, (0, 1)), (2, (0, v107 275 78))], [(1, 275), (1, 343)], v446)) (fun _ _ q => e_Pn.run eAlk 1 rfl q)
                      obtain ⟨b447, hc431⟩ := hc431.of (fun _ _ q => e_Pn.getf (z := v107 275 94) eAlk rfl rfl (by rw [← hv446]; exact (e_up_ne _ _ (Or.inl (by first | decide | omega))).trans (by rw [← hv441]; exact (e_up_ne _ _ (Or.inl (by first | decide | omega))).trans rfl)) q)
                      replace hc431 := hc431.st (t' := (47, [(0, (1, 275)), (1, (0, 1)), (2, (0, v107 275 78))], [(1, 275), (0, v107 275 94), (1, 343)], v446)) (fun _ _ q => e_Pn.run eAlk 1 rfl q)
                      obtain ⟨b448, hc431⟩ := hc431.of (fun _ _ q => e_Pn.getf (z := v107 275 87) eAlk rfl rfl (by rw [← hv446]; exact (e_up_ne _ _ (Or.inl (by first | decide | omega))).trans (by rw [← hv441]; exact (e_up_ne _ _ (Or.inl (by first | decide | omega))).trans rfl)) q)
                      replace hc431 := hc431.st (t' := (51, [(0, (1, 275)), (1, (0, 1)), (2, (0, v107 275 78))], [(1, 275), (0, v107 275 87), (0, v107 275 94), (1, 343)], v446)) (fun _ _ q => e_Pn.run eAlk 1 rfl q)
                      obtain ⟨b449, hc431⟩ := hc431.of (fun _ _ q => e_Pn.getf (z := v107 275 86) eAlk rfl rfl (by rw [← hv446]; exact (e_up_ne _ _ (Or.inl (by first | decide | omega))).trans (by rw [← hv441]; exact (e_up_ne _ _ (Or.inl (by first | decide | omega))).trans rfl)) q)
                      replace hc431 := hc431.st (fun _ _ q => e_Pn.sub' (z := v107 275 87 - v107 275 86) eAlk rfl (by first | decide | omega) (by first | decide | omega) q)
                      obtain ⟨b450, b451, hc431⟩ := hc431.of2 (fun _ _ q => e_Pn.ast eAlk rfl rfl rfl q)
                      generalize hv452 : e_up v446 343 (v107 275 94) (v107 275 87 - v107 275 86) = v452 at hc431
                      have v452m := mRw.upd hv452 (fun _ => by first | decide | omega) v446m
                      replace hc431 := hc431.st (t' := (57, [(0, (1, 275)), (1, (0, 1)), (2, (0, v107 275 78))], [(1, 275)], v452)) (fun _ _ q => e_Pn.run eAlk 1 rfl q)
                      replace hc431 := hc431.st (fun _ _ q => e_Pn.getr (z := 344) eAlk rfl rfl (by rw [← hv452]; exact (e_up_ne _ _ (Or.inl (by first | decide | omega))).trans (by rw [← hv446]; exact (e_up_ne _ _ (Or.inl (by first | decide | omega))).trans (by rw [← hv441]; exact (e_up_ne _ _ (Or.inl (by first | decide | omega))).trans (s112.1.2.2.2.2.1 (93, 344) (by decide))))) (by first | decide | omega) q)
                      replace hc431 := hc431.st (t' := (61, [(0, (1, 275)), (1, (0, 1)), (2, (0, v107 275 78))], [(1, 275), (1, 344)], v452)) (fun _ _ q => e_Pn.run eAlk 1 rfl q)
                      obtain ⟨b453, hc431⟩ := hc431.of (fun _ _ q => e_Pn.getf (z := v107 275 94) eAlk rfl rfl (by rw [← hv452]; exact (e_up_ne _ _ (Or.inl (by first | decide | omega))).trans (by rw [← hv446]; exact (e_up_ne _ _ (Or.inl (by first | decide | omega))).trans (by rw [← hv441]; exact (e_up_ne _ _ (Or.inl (by first | decide | omega))).trans rfl))) q)
                      replace hc431 := hc431.st (t' := (65, [(0, (1, 275)), (1, (0, 1)), (2, (0, v107 275 78))], [(0, v107 275 78), (0, v107 275 94), (1, 344)], v452)) (fun _ _ q => e_Pn.run eAlk 1 rfl q)
                      obtain ⟨b454, b455, hc431⟩ := hc431.of2 (fun _ _ q => e_Pn.ast eAlk rfl rfl rfl q)
                      generalize hv456 : e_up v452 344 (v107 275 94) (v107 275 78) = v456 at hc431
                      have v456m := mRw.upd hv456 (fun _ => by first | decide | omega) v452m
                      replace hc431 := hc431.st (t' := (68, [(0, (1, 275)), (1, (0, 1)), (2, (0, v107 275 78))], [(1, 275), (1, 275)], v456)) (fun _ _ q => e_Pn.run eAlk 2 rfl q)
                      obtain ⟨b457, hc431⟩ := hc431.of (fun _ _ q => e_Pn.getf (z := v107 275 94) eAlk rfl rfl (by rw [← hv456]; exact (e_up_ne _ _ (Or.inl (by first | decide | omega))).trans (by rw [← hv452]; exact (e_up_ne _ _ (Or.inl (by first | decide | omega))).trans (by rw [← hv446]; exact (e_up_ne _ _ (Or.inl (by first | decide | omega))).trans (by rw [← hv441]; exact (e_up_ne _ _ (Or.inl (by first | decide | omega))).trans rfl)))) q)
                      replace hc431 := hc431.st (t' := (72, [(0, (1, 275)), (1, (0, 1)), (2, (0, v107 275 78))], [(0, 1), (0, v107 275 94), (1, 275)], v456)) (fun _ _ q => e_Pn.run eAlk 1 rfl q)
                      replace hc431 := hc431.st (fun _ _ q => e_Pn.add (z := v107 275 94 + 1) eAlk rfl (by first | decide | omega) (by first | decide | omega) q)
                      replace hc431 := hc431.st (fun _ _ q => e_Pn.putf eAlk rfl rfl q)
                      generalize hv458 : e_up v456 275 94 (v107 275 94 + 1) = v458 at hc431
                      have v458m := mRw.upd hv458 (fun _ => by first | decide | omega) v456m
                      replace hc431 := hc431.st (t' := (78, [(0, (1, 275)), (1, (0, 1)), (2, (0, v107 275 78))], [(1, 275), (1, 275)], v458)) (fun _ _ q => e_Pn.run eAlk 2 rfl q)
                      obtain ⟨b459, hc431⟩ := hc431.of (fun _ _ q => e_Pn.getf (z := 1) eAlk rfl rfl (by rw [← hv458]; exact (e_up_ne _ _ (Or.inr (by first | decide | omega))).trans (by rw [← hv456]; exact (e_up_ne _ _ (Or.inl (by first | decide | omega))).trans (by rw [← hv452]; exact (e_up_ne _ _ (Or.inl (by first | decide | omega))).trans (by rw [← hv446]; exact (e_up_ne _ _ (Or.inl (by first | decide | omega))).trans (by rw [← hv441]; exact (e_up_ne _ _ (Or.inl (by first | decide | omega))).trans (kM_k1 s112.1.2.1.2.2.1 (by first | decide | omega))))))) q)
                      replace hc431 := hc431.st (t' := (82, [(0, (1, 275)), (1, (0, 1)), (2, (0, v107 275 78))], [(0, 1), (0, 1), (1, 275)], v458)) (fun _ _ q => e_Pn.run eAlk 1 rfl q)
                      rcases hc431.or (fun _ _ q1 q2 => e_Pn.if2 eAlk rfl q1 q2) with ⟨h460, hc431⟩ | ⟨h460, hc431⟩
                      · replace h460 : (1 : Int) ≠ 1 := h460
                        exfalso; omega
                      · replace h460 : (1 : Int) = 1 := by have q : ¬ ((1 : Int) ≠ 1) := h460; omega
                        replace hc431 := hc431.st (t' := (90, [(0, (1, 275)), (1, (0, 1)), (2, (0, v107 275 78))], [(0, 1), (1, 275)], v458)) (fun _ _ q => e_Pn.run eAlk 2 rfl q)
                        have as46194 : v107 275 94 = v107 275 94 := rfl
                        have as46186 : v107 275 86 = v107 275 86 := rfl
                        have as46187 : v107 275 87 = v107 275 87 := rfl
                        obtain ⟨as461, as461g⟩ := nmA.mk hv441 hv446 hv452 hv456 hv458 (by first | decide | omega) (by first | decide | omega)
                        have s461 := st.rou (by decide) s112 (by first | decide | omega) w143c (Or.inl ⟨by rw [(show w143 1 14 = w110 1 14 from ((w143f 1 14 (by unfold kRc; omega)).trans rfl))]; omega, by rw [(show w143 1 14 = w110 1 14 from ((w143f 1 14 (by unfold kRc; omega)).trans rfl)), hw420]⟩) (Or.inl ⟨by rw [(show w420 1 14 = w110 1 14 from (by rw [← hw420]; exact (e_up_ne _ _ (Or.inl (by first | decide | omega))).trans ((w143f 1 14 (by unfold kRc; omega)).trans rfl)))]; omega, by rw [(show w420 1 14 = w110 1 14 from (by rw [← hw420]; exact (e_up_ne _ _ (Or.inl (by first | decide | omega))).trans ((w143f 1 14 (by unfold kRc; omega)).trans rfl))), hw427, hw429]⟩) as461 (by first | decide | omega) (by first | decide | omega) as461g
                        have s461c := cn1.A as461 (by first | decide | omega)
                        have s461d : w429 cd 0 = w110 cd 0 ∧ w429 1 6 = w110 1 6 := ⟨(by rw [← hw429]; exact (e_up_ne _ _ (Or.inr (by first | decide | omega))).trans (by rw [← hw427]; exact (e_up_ne _ _ (Or.inl (by first | decide | omega))).trans (by rw [← hw420]; exact (e_up_ne _ _ (Or.inl (by first | decide | omega))).trans ((w143f cd 0 (by unfold kRc; omega)).trans rfl)))), (by rw [← hw429]; exact (e_up_ne _ _ (Or.inr (by first | decide | omega))).trans (by rw [← hw427]; exact (e_up_ne _ _ (Or.inl (by first | decide | omega))).trans (by rw [← hw420]; exact (e_up_ne _ _ (Or.inl (by first | decide | omega))).trans ((w143f 1 6 (by unfold kRc; omega)).trans rfl))))⟩
                        have q462 := st.nums s461
                        clear q113
                        have q462c := q462.2.2.2.1
                        obtain ⟨dc463, r464, v465, hc466, hc431⟩ := hc431.ca rfl
                        have uhc466 := hc466.pn (fun nq => u_334 s461.1.2.2.2.2.1)
                        refine e_Pn.callA rfl (fun nq dq => e_Pn.and (t_129b s461.1.1 s461.1.2.1 (by first | decide | omega) (d' := dc463) hc466) (u_129 s461.1.2.2.2.1)) (fun r467 w468 h469 => ?_)
                        obtain ⟨⟨rfl, rfl, h469⟩, -, h469k⟩ := h469
                        rcases h469.symm with h469 | ⟨h469c, h469⟩
                        · skip
                          replace hc431 : e_Rn 20 elay ecode eI dhc431 338 (93, [(0, (1, 275)), (1, (0, 1)), (2, (0, v107 275 78))], [], v465) r432 v433 := hc431
                          obtain ⟨rfl, m470⟩ := (e_Rn.le eAlk [0, 1, 2] rfl rfl hc431).pn (fun nq => v_338_93 (uhc466.2.rf s461.1.2.2.2.2.1) _ 1 (v107 275 78) v465 mq.r)
                          replace hM : e_Rn 20 elay ecode eI d' 353 (95, (0, (1, 275)) :: tl30, [], v433) r' v' := hM
                          obtain ⟨rfl, m471⟩ := (e_Rn.le eAlk [0] rfl rfl hM).pn (fun nq => v_353_95 (m470.rf (uhc466.2.rf s461.1.2.2.2.2.1)) _  v433 mq.r)
                          show e_Pn 20 elay kcode eI nq95 dq96 142 (95, [(0, (1, 1))], [], w468) _
                          refine e_Pn.ord kAlk [0] rfl rfl ((v_142_95 (h469k.rf s461.1.2.2.2.1) _  w468 kq.r).imp (fun r473 w474 k472 => ?_))
                          obtain ⟨rfl, k472⟩ := k472
                          show e_Pn 20 elay kcode eI nn28 d 119 (91, (0, (1, 1)) :: (1, (0, y3)) :: tl29, [], w474) _
                          refine e_Pn.ord kAlk [0, 1] rfl rfl ((v_119_91 (k472.rf (h469k.rf s461.1.2.2.2.1)) (rpF.k h469 k472) _ y3 w474 kq.r).imp (fun r476 w477 k475 => ?_))
                          obtain ⟨rfl, k475⟩ := k475
                          exact K2 _ (rpF.tail h469 (k472.tr k475) (m470.tr m471))
                        have s478 := st.ad (k := 1) s461 h469 (st.len1 s461 (by first | decide | omega)) (by first | decide | omega)
                        have s478n := h469.2.2.2.1
                        have s478m := st.len1 s461 (by first | decide | omega)
                        have s478x := cn1.E (TK.nm h469)
                        have s478y : w468 cd 0 = w429 cd 0 := h469.2.2.2.2.1 cd 0 (nf3_kRa_cd_0 hcd)
                        have s478g : w 1 6 + 1 ≤ w468 1 6 := by omega
                        have q479 := st.nums s478
                        clear q462
                        have q479c := q479.2.2.2.1
                        show e_Pn 20 elay kcode eI nq95 dq96 142 (95, [(0, (1, 1))], [], w468) _
                        replace hc431 : e_Rn 20 elay ecode eI dhc431 338 (93, [(0, (1, 275)), (1, (0, 1)), (2, (0, v107 275 78))], [], v465) r432 v433 := hc431
                        refine e_Pn.run (t' := (98, [(0, (1, 1))], [(0, 20), (1, 1)], w468)) kAlk 2 rfl ?_
                        obtain ⟨rfl, rfl⟩ := hc431.re0 rfl
                        replace hM : e_Rn 20 elay ecode eI d' 353 (95, (0, (1, 275)) :: tl30, [], v465) r' v' := hM
                        replace hM := hM.st (t' := (99, (0, (1, 275)) :: tl30, [(0, 58), (1, 275), (1, 275)], v465)) (fun _ _ q => e_Pn.run eAlk 3 rfl q)
                        obtain ⟨dc480, r481, v482, hc483, hM⟩ := hM.ca rfl
                        obtain ⟨z484, rfl, rfl, z484q⟩ := hc483.pn (fun nq => l_331)
                        replace z484q := isS (kM_s58 s478.1.2.1.2.2.1) rfl rfl z484q
                        replace hM : e_Rn 20 elay ecode eI d' 353 (102, (0, (1, 275)) :: tl30, [(0, z484), (1, 275)], v465) r' v' := hM
                        obtain ⟨dc485, r486, v487, hc488, hM⟩ := hM.ca rfl
                        have uhc488 := hc488.pn (fun nq => u_334 s478.1.2.2.2.2.1)
                        refine e_Pn.callA rfl (fun nq dq => e_Pn.and (t_129b s478.1.1 s478.1.2.1 z484q (d' := dc485) hc488) (u_129 s478.1.2.2.2.1)) (fun r489 w490 h491 => ?_)
                        obtain ⟨⟨rfl, rfl, h491⟩, -, h491k⟩ := h491
                        rcases h491.symm with h491 | ⟨h491c, h491⟩
                        · skip
                          replace hM : e_Rn 20 elay ecode eI d' 353 (105, (0, (1, 275)) :: tl30, [], v487) r' v' := hM
                          obtain ⟨rfl, m492⟩ := (e_Rn.le eAlk [0] rfl rfl hM).pn (fun nq => v_353_105 (uhc488.2.rf s478.1.2.2.2.2.1) _  v487 mq.r)
                          show e_Pn 20 elay kcode eI nq95 dq96 142 (101, [(0, (1, 1))], [], w490) _
                          refine e_Pn.ord kAlk [0] rfl rfl ((v_142_101 (h491k.rf s478.1.2.2.2.1) _  w490 kq.r).imp (fun r494 w495 k493 => ?_))
                          obtain ⟨rfl, k493⟩ := k493
                          show e_Pn 20 elay kcode eI nn28 d 119 (91, (0, (1, 1)) :: (1, (0, y3)) :: tl29, [], w495) _
                          refine e_Pn.ord kAlk [0, 1] rfl rfl ((v_119_91 (k493.rf (h491k.rf s478.1.2.2.2.1)) (rpF.k h491 k493) _ y3 w495 kq.r).imp (fun r497 w498 k496 => ?_))
                          obtain ⟨rfl, k496⟩ := k496
                          exact K2 _ (rpF.tail h491 (k493.tr k496) m492)
                        clear z484q
                        have s499 := st.ad (k := 1) s478 h491 (st.len1 s478 (by first | decide | omega)) (by first | decide | omega)
                        have s499n := h491.2.2.2.1
                        have s499m := st.len1 s478 (by first | decide | omega)
                        have s499x := cn1.E (TK.nm h491)
                        have s499y : w490 cd 0 = w468 cd 0 := h491.2.2.2.2.1 cd 0 (nf3_kRa_cd_0 hcd)
                        have s499g : w 1 6 + 1 ≤ w490 1 6 := by omega
                        have q500 := st.nums s499
                        clear q479
                        have q500c := q500.2.2.2.1
                        show e_Pn 20 elay kcode eI nq95 dq96 142 (101, [(0, (1, 1))], [], w490) _
                        replace hM : e_Rn 20 elay ecode eI d' 353 (105, (0, (1, 275)) :: tl30, [], v487) r' v' := hM
                        refine e_Pn.run (t' := (103, [(0, (1, 1))], [(0, 0), (1, 1)], w490)) kAlk 2 rfl ?_
                        refine e_Pn.putf kAlk rfl rfl ?_
                        generalize hw501 : e_up w490 1 12 0 = w501
                        have w501g : e_fr (kGs cd) w490 w501 := (e_fr.up (e_fr.refl w490) hw501 pf3_kGs_1_12)
                        have w501k := kRw.gs s499.1.2.2.2.1 w501g
                        have w501l : 0 ≤ w501 cd 0 ∧ w501 cd 0 ≤ 4000 := by rw [w501g cd 0 (nf3_kGs_cd_0 hcd)]; exact s499.1.2.2.2.2.2.1
                        have w501e : w501 1 5 = w490 1 5 ∧ w501 1 6 = w490 1 6 ∧ w501 1 8 = w490 1 8 := ⟨w501g 1 5 (nf3_kGs_1_5 hcd), w501g 1 6 (nf3_kGs_1_6 hcd), w501g 1 8 (nf3_kGs_1_8 hcd)⟩
                        refine e_Pn.run (t' := (108, [(0, (1, 1))], [(0, (-1)), (1, 1)], w501)) kAlk 2 rfl ?_
                        refine e_Pn.putf kAlk rfl rfl ?_
                        generalize hw502 : e_up w501 1 13 (-1) = w502
                        have w502g : e_fr (kGs cd) w501 w502 := (e_fr.up (e_fr.refl w501) hw502 pf3_kGs_1_13)
                        have w502k := kRw.gs w501k w502g
                        have w502l : 0 ≤ w502 cd 0 ∧ w502 cd 0 ≤ 4000 := by rw [w502g cd 0 (nf3_kGs_cd_0 hcd)]; exact w501l
                        have w502e : w502 1 5 = w501 1 5 ∧ w502 1 6 = w501 1 6 ∧ w502 1 8 = w501 1 8 := ⟨w502g 1 5 (nf3_kGs_1_5 hcd), w502g 1 6 (nf3_kGs_1_6 hcd), w502g 1 8 (nf3_kGs_1_8 hcd)⟩
                        refine e_Pn.run (t' := (112, [(0, (1, 1))], [(1, 1)], w502)) kAlk 1 rfl ?_
                        replace hM := hM.st (t' := (106, (0, (1, 275)) :: tl30, [(1, 275)], v487)) (fun _ _ q => e_Pn.run eAlk 1 rfl q)
                        have e504a : w502 1 11 = w490 1 11 := (Eq.trans (show w502 1 11 = w501 1 11 by rw [← hw502]; exact e_up_ne _ _ (Or.inr (by first | decide | omega))) (show w501 1 11 = w490 1 11 by rw [← hw501]; exact e_up_ne _ _ (Or.inr (by first | decide | omega))))
                        have e504b : v487 275 83 = v487 275 83 := rfl
                        have e504c : w502 1 13 = (-1) := (by rw [← hw502]; exact e_up_eq _ _ _ _)
                        have e504d : v487 275 82 = v487 275 82 := rfl
                        have e504f : w502 1 12 = 0 := (Eq.trans (show w502 1 12 = w501 1 12 by rw [← hw502]; exact e_up_ne _ _ (Or.inr (by first | decide | omega))) (by rw [← hw501]; exact e_up_eq _ _ _ _))
                        have e504e : v487 275 80 = v487 275 80 := rfl
                        have s503 := st.gen (o' := 0) (l' := (-1)) (m' := v 275 82) (t' := 0) (b' := 0) s499 (e_fr.up (e_fr.up (e_fr.refl w490) hw501 pf3_kGs_1_12) hw502 pf3_kGs_1_13) (e_fr.refl v487) (by first | decide | omega) (by first | decide | omega) (by first | decide | omega) (by first | decide | omega)
                        have q505 := st.nums s503
                        clear q500 e504a e504b e504c e504d e504e e504f
                        have q505c := q505.2.2.2.1
                        obtain ⟨dc506, r507, v508, hc509, hM⟩ := hM.ca rfl
                        have uhc509 := hc509.pn (fun nq => uS_all nq 348 (by decide) _ _ s503.1.2.2.2.2.1)
                        have z513 : st0 N cd w502 v487 := st.z s503 (by first | decide | omega) (by first | decide | omega) (by first | decide | omega)
                        refine e_Pn.callA rfl (fun nq dq => e_Pn.and (sE_all nq _ _ dq _ _ _ z513 (by first | decide | omega) hc509) (kS_all nq 144 (by decide) dq _ _ s503.1.2.2.2.1)) (fun r510 w511 h512 => ?_)
                        obtain ⟨⟨rfl, rfl, h512⟩, -, h512k⟩ := h512
                        rcases h512.symm with h512 | h512
                        · skip
                          replace hM : e_Rn 20 elay ecode eI d' 353 (109, (0, (1, 275)) :: tl30, [], v508) r' v' := hM
                          obtain ⟨rfl, m514⟩ := (e_Rn.le eAlk [0] rfl rfl hM).pn (fun nq => v_353_109 (uhc509.2.rf s503.1.2.2.2.2.1) _  v508 mq.r)
                          show e_Pn 20 elay kcode eI nq95 dq96 142 (115, [(0, (1, 1))], [], w511) _
                          refine e_Pn.ord kAlk [0] rfl rfl ((v_142_115 (h512k.rf s503.1.2.2.2.1) _  w511 kq.r).imp (fun r516 w517 k515 => ?_))
                          obtain ⟨rfl, k515⟩ := k515
                          show e_Pn 20 elay kcode eI nn28 d 119 (91, (0, (1, 1)) :: (1, (0, y3)) :: tl29, [], w517) _
                          refine e_Pn.ord kAlk [0, 1] rfl rfl ((v_119_91 (k515.rf (h512k.rf s503.1.2.2.2.1)) (rpF.k h512 k515) _ y3 w517 kq.r).imp (fun r519 w520 k518 => ?_))
                          obtain ⟨rfl, k518⟩ := k518
                          exact K2 _ (rpF.tail h512 (k515.tr k518) m514)
                        have h512x := cn1.X h512.2.2.2.2.2.2.2 (by first | decide | omega)
                        have h512p : w502 1 6 ≤ w511 1 6 := h512.2.2.2.2.2.1.2.2
                        replace h512 := st.low h512 (ka' := 0) (by decide)
                        have s521 := st.re (l' := (-1)) (m' := v 275 82) (t' := 0) (st.tr s503 h512) (Int.le_refl _) rfl (by first | decide | omega) (by first | decide | omega) (by first | decide | omega)
                        have q522 := st.nums s521
                        clear q505
                        have q522c := q522.2.2.2.1
                        show e_Pn 20 elay kcode eI nq95 dq96 142 (115, [(0, (1, 1))], [], w511) _
                        replace hM : e_Rn 20 elay ecode eI d' 353 (109, (0, (1, 275)) :: tl30, [], v508) r' v' := hM
                        refine e_Pn.run (t' := (118, [(0, (1, 1))], [(0, 23), (1, 1)], w511)) kAlk 2 rfl ?_
                        replace hM := hM.st (t' := (112, (0, (1, 275)) :: tl30, [(0, 2), (1, 275), (1, 275)], v508)) (fun _ _ q => e_Pn.run eAlk 3 rfl q)
                        obtain ⟨dc523, r524, v525, hc526, hM⟩ := hM.ca rfl
                        obtain ⟨z527, rfl, rfl, z527q⟩ := hc526.pn (fun nq => l_332)
                        replace z527q := isS (kM_key (k := 2) s521.1.2.1.2.2.1 (by decide)) rfl rfl z527q
                        replace hM : e_Rn 20 elay ecode eI d' 353 (115, (0, (1, 275)) :: tl30, [(0, z527), (1, 275)], v508) r' v' := hM
                        obtain ⟨dc528, r529, v530, hc531, hM⟩ := hM.ca rfl
                        have uhc531 := hc531.pn (fun nq => u_334 s521.1.2.2.2.2.1)
                        refine e_Pn.callA rfl (fun nq dq => e_Pn.and (t_129b s521.1.1 s521.1.2.1 z527q (d' := dc528) hc531) (u_129 s521.1.2.2.2.1)) (fun r532 w533 h534 => ?_)
                        obtain ⟨⟨rfl, rfl, h534⟩, -, h534k⟩ := h534
                        rcases h534.symm with h534 | ⟨h534c, h534⟩
                        · skip
                          replace hM : e_Rn 20 elay ecode eI d' 353 (118, (0, (1, 275)) :: tl30, [], v530) r' v' := hM
                          obtain ⟨rfl, m535⟩ := (e_Rn.le eAlk [0] rfl rfl hM).pn (fun nq => v_353_118 (uhc531.2.rf s521.1.2.2.2.2.1) _  v530 mq.r)
                          show e_Pn 20 elay kcode eI nq95 dq96 142 (121, [(0, (1, 1))], [], w533) _
                          refine e_Pn.ord kAlk [0] rfl rfl ((v_142_121 (h534k.rf s521.1.2.2.2.1) _  w533 kq.r).imp (fun r537 w538 k536 => ?_))
                          obtain ⟨rfl, k536⟩ := k536
                          show e_Pn 20 elay kcode eI nn28 d 119 (91, (0, (1, 1)) :: (1, (0, y3)) :: tl29, [], w538) _
                          refine e_Pn.ord kAlk [0, 1] rfl rfl ((v_119_91 (k536.rf (h534k.rf s521.1.2.2.2.1)) (rpF.k h534 k536) _ y3 w538 kq.r).imp (fun r540 w541 k539 => ?_))
                          obtain ⟨rfl, k539⟩ := k539
                          exact K2 _ (rpF.tail h534 (k536.tr k539) m535)
                        clear z527q
                        have s542 := st.ad (k := 3) s521 h534 (st.len3 s521 (Or.inl h534c)) (by first | decide | omega)
                        have s542n := h534.2.2.2.1
                        have s542m := st.len3 s521 (Or.inl h534c)
                        have s542x := cn1.E (TK.nm h534)
                        have s542y : w533 cd 0 = w511 cd 0 := h534.2.2.2.2.1 cd 0 (nf3_kRa_cd_0 hcd)
                        have s542g : w 1 6 + 1 ≤ w533 1 6 := by omega
                        have q543 := st.nums s542
                        clear q522
                        have q543c := q543.2.2.2.1
                        show e_Pn 20 elay kcode eI nq95 dq96 142 (121, [(0, (1, 1))], [], w533) _
                        replace hM : e_Rn 20 elay ecode eI d' 353 (118, (0, (1, 275)) :: tl30, [], v530) r' v' := hM
                        refine e_Pn.run (t' := (122, [(0, (1, 1))], [(1, 1)], w533)) kAlk 1 rfl ?_
                        refine e_Pn.getr (z := cd) kAlk rfl rfl s542.1.2.2.2.1.2.1 (by first | decide | omega) ?_
                        refine e_Pn.run (t' := (128, [(0, (1, 1))], [(0, 0), (0, 43), (1, cd)], w533)) kAlk 2 rfl ?_
                        refine e_Pn.callA rfl (fun nq dq => l_21 s542.1.2.2.2.1 (op := 43) (od := 0) (by first | decide | omega) (by first | decide | omega) s542.1.2.2.2.2.2.1) (fun r544 w545 h546 => ?_)
                        obtain ⟨z547, rfl, w545f, w545q⟩ := h546
                        have w545k := kRw.em s542.1.2.2.2.1 w545f
                        have w545l := (emQ.len w545q s542.1.2.2.2.2.2.1).1
                        have w545e : w545 1 5 = w533 1 5 ∧ w545 1 6 = w533 1 6 ∧ w545 1 8 = w533 1 8 := ⟨w545f 1 5 (nf3_kEm_1_5 hcd), w545f 1 6 (nf3_kEm_1_6 hcd), w545f 1 8 (nf3_kEm_1_8 hcd)⟩
                        have s548 := st.em s542 w545f w545q (by first | decide | omega) (by unfold isCl3; omega)
                        have q549 := st.nums s548
                        clear q543
                        have q549c := q549.2.2.2.1
                        have z547r : 0 ≤ z547 ∧ z547 ≤ 4000 := emQ.z w545q s542.1.2.2.2.2.2.1
                        show e_Pn 20 elay kcode eI nq95 dq96 142 (131, [(0, (1, 1))], [(0, z547)], w545) _
                        refine e_Pn.run (t' := (132, [(0, (1, 1))], [], w545)) kAlk 1 rfl ?_
                        refine e_Pn.ret0 rfl ?_
                        show e_Pn 20 elay kcode eI nn28 d 119 (91, (0, (1, 1)) :: (1, (0, y3)) :: tl29, [], w545) _
                        refine e_Pn.inc (z := y3 + 1) kAlk rfl rfl (by first | decide | omega) (by first | decide | omega) ?_
                        show e_Pn 20 elay kcode eI nn28 d 119 (94, (1, (0, y3 + 1)) :: (0, (1, 1)) :: List.filter (e_flt 0 1) tl29, [], w545) _
                        refine e_Pn.run (t' := (71, (1, (0, y3 + 1)) :: (0, (1, 1)) :: List.filter (e_flt 0 1) tl29, [], w545)) kAlk 1 rfl ?_
                        replace hM := hM.st (t' := (122, (0, (1, 275)) :: tl30, [(0, 0), (0, 45), (1, 275)], v530)) (fun _ _ q => e_Pn.run eAlk 3 rfl q)
                        obtain ⟨dc550, r551, v552, hc553, hM⟩ := hM.ca rfl
                        obtain ⟨⟨z554, rfl⟩, v552f⟩ := hc553.pn (fun nq => x_336 s542.1.2.2.2.2.1)
                        have v552m := mfr.rf v552f s542.1.2.2.2.2.1
                        replace hM : e_Rn 20 elay ecode eI d' 353 (125, (0, (1, 275)) :: tl30, [(0, z554)], v552) r' v' := hM
                        replace hM := hM.st (t' := (67, (0, (1, 275)) :: tl30, [], v552)) (fun _ _ q => e_Pn.run eAlk 2 rfl q)
                        have e556a : w545 1 11 = w545 1 11 := rfl
                        have e556b : v552 275 83 = v530 275 83 := (v552f 275 83 nf3_mEm_275_83)
                        have e556c : w545 1 13 = w545 1 13 := rfl
                        have e556d : v552 275 82 = v530 275 82 := (v552f 275 82 nf3_mEm_275_82)
                        have e556f : w545 1 12 = w545 1 12 := rfl
                        have e556e : v552 275 80 = v530 275 80 := (v552f 275 80 nf3_mEm_275_80)
                        have s555 := st.gen (o' := 0) (l' := (-1)) (m' := v 275 82) (t' := 0) (b' := 0) s548 (e_fr.refl w545) (e_fr.trans (e_fr.refl v530) (e_fr.mono v552f (fun c k q => by unfold mEm at q; unfold mGs; omega))) (by first | decide | omega) (by first | decide | omega) (by first | decide | omega) (by first | decide | omega)
                        have s555x := cn1.E (nmE.of (show e_fr mGs v530 v552 from (e_fr.trans (e_fr.refl v530) (e_fr.mono v552f (fun c k q => by unfold mEm at q; unfold mGs; omega)))) (fun i => by unfold mGs; omega) (by unfold mGs; omega))
                        have q557 := st.nums s555
                        clear q549 e556a e556b e556c e556d e556e e556f
                        have q557c := q557.2.2.2.1
                        exact e_Pn.ord kAlk [0, 1] rfl rfl (ih27 (by first | decide | omega) _ _ (y3 + 1) ((-1)) 0 w545 v552 ⟨(st.re s555 (by first | decide | omega) (by first | decide | omega) (by first | decide | omega) (by first | decide | omega) (by first | decide | omega)), (by first | decide | omega), (by first | decide | omega), (by first | decide | omega)⟩ (e_Rn.le eAlk [0] rfl rfl hM))
end
