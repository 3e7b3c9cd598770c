noncomputable section
set_option maxHeartbeats 4000000 in
theorem e_txt {n : Nat} {N cd : Int} {w v : eW} {Q : List eV → eW → Prop} (hz : tz0 N cd w v) {d d' : Nat} {r' : List eV} {v' : eW} (hM : e_Rn 20 elay ecode eI d' 353 (0, [(0, (1, 275))], [], v) r' v') (K1 : ∀ n', n' ≤ n → ∀ (tl : eL) (y : Int) (w1 : eW), tzE N cd w1 v' → e_Pn 20 elay kcode eI n' d 119 (108, (0, (1, 1)) :: (1, (0, y)) :: tl, [], w1) Q) (K2 : ∀ w1, rpF w1 v' → Q [] w1) : r' = [] ∧ e_Pn 20 elay kcode eI n d 119 (41, [(0, (1, 1))], [], w) Q := by
  have h0 := st.refl (ka := 0) hz.1 hz.2.1 hz.2.2.1
  have hm := hz.1.2.2.2.1.1.m
  have hn := hz.1.2.2.2.1.1.n
  have hcd := hz.1.2.2.2.1.1
  have hzo := hz.2.2.2
  have hr0 : r' = [] := (hM.pn (fun nq => u_353 hz.1.2.2.2.2.1)).1
  refine ⟨hr0, ?_⟩
  have hza : all0 v := fun i i0 i1 => by omega
  have hzc : cn1 v = 0 := by unfold cn1; rw [hz.2.2.2.2.1]; rfl
  have q1 := st.nums h0
  have q1c := q1.2.2.2.1
  refine e_Pn.run (t' := (43, [(1, (0, 0)), (0, (1, 1))], [], w)) kAlk 2 rfl ?_
  have hL2 : ∀ nn4 : Nat, nn4 ≤ n → ∀ (tl5 tl6 : eL) (y1 : Int) (wl8 vl9 : eW), st N cd w v wl8 vl9 0 0 0 (-1) (w 1 13) (v 275 82) (w 1 12) 0 ∧ (0 ≤ y1 ∧ 4 * y1 ≤ wl8 1 6) ∧ (wl8 cd 0 = 0) ∧ (all0 vl9) ∧ (cn1 vl9 = 0) → e_Rn 20 elay ecode eI d' 353 (0, (0, (1, 275)) :: tl6, [], vl9) r' v' → e_Pn 20 elay kcode eI nn4 d 119 (43, (0, (1, 1)) :: (1, (0, y1)) :: tl5, [], wl8) Q := by
    intro nn4
    induction nn4 with
    | zero => intro _ tl5 tl6 y1 wl8 vl9 _ _; exact e_Pn.zero
    | succ nn4 ih3 =>
      intro hn tl5 tl6 y1 wl8 vl9 hj7 hM
      obtain ⟨hj7, j10, j11, j12, j13⟩ := hj7
      have q14 := st.nums hj7
      have q14c := q14.2.2.2.1
      refine e_Pn.runS (t' := (47, (0, (1, 1)) :: (1, (0, y1)) :: tl5, [(0, 4000), (0, y1)], wl8)) kAlk 1 rfl ?_
      refine e_Pn.if2 kAlk rfl (fun h15 => ?_) (fun h15 => ?_)
      · replace h15 : (y1 : Int) ≥ 4000 := h15
        exfalso; omega
      · replace h15 : (y1 : Int) < 4000 := by have q : ¬ ((y1 : Int) ≥ 4000) := h15; omega
        refine e_Pn.run (t' := (51, (0, (1, 1)) :: (1, (0, y1)) :: tl5, [(1, 1)], wl8)) kAlk 1 rfl ?_
        refine e_Pn.getf (z := wl8 1 5) kAlk rfl rfl rfl (fun b16 => ?_)
        refine e_Pn.run (t' := (56, (0, (1, 1)) :: (1, (0, y1)) :: tl5, [(0, 21), (0, wl8 1 5)], wl8)) kAlk 1 rfl ?_
        refine e_Pn.if2 kAlk rfl (fun h17 => ?_) (fun h17 => ?_)
        · replace h17 : (wl8 1 5 : Int) ≠ 21 := h17
          refine e_Pn.run (t' := (71, (1, (0, 0)) :: (0, (1, 1)) :: List.filter (e_flt 0 1) tl5, [], wl8)) kAlk 2 rfl ?_
          replace hM := hM.st (t' := (1, (0, (1, 275)) :: tl6, [(1, 275)], vl9)) (fun _ _ q => e_Pn.run eAlk 1 rfl q)
          obtain ⟨b18, hM⟩ := hM.of (fun _ _ q => e_Pn.getf (z := 0) eAlk rfl rfl hj7.1.2.1.1.2 q)
          rcases hM.or (fun _ _ q1 q2 => e_Pn.if1 eAlk rfl q1 q2) with ⟨h19, hM⟩ | ⟨h19, hM⟩
          · replace h19 : (0 : Int) ≠ 0 := h19
            exfalso; omega
          · replace h19 : (0 : Int) = 0 := by have q : ¬ ((0 : Int) ≠ 0) := h19; omega
            replace hM := hM.st (t' := (9, (0, (1, 275)) :: tl6, [(0, 0), (1, 275)], vl9)) (fun _ _ q => e_Pn.run eAlk 2 rfl q)
            obtain ⟨dc20, r21, v22, hc23, hM⟩ := hM.ca rfl
            obtain ⟨z24, rfl, rfl, z24q⟩ := hc23.pn (fun nq => l_332)
            replace z24q := isS (kM_key (k := 0) hj7.1.2.1.2.2.1 (by decide)) rfl rfl z24q
            obtain rfl : z24 = 0 := by omega
            clear z24q
            replace hM : e_Rn 20 elay ecode eI d' 353 (12, (0, (1, 275)) :: tl6, [(0, 0)], vl9) r' v' := hM
            rcases hM.or (fun _ _ q1 q2 => e_Pn.if1 eAlk rfl q1 q2) with ⟨h25, hM⟩ | ⟨h25, hM⟩
            · replace h25 : (0 : Int) = 0 := h25
              have hL26 : ∀ nn28 : Nat, nn28 ≤ nn4 → ∀ (tl29 tl30 : eL) (y3 : Int) (yl : Int) (yt : Int) (wl32 vl33 : eW), st N cd w v wl32 vl33 0 0 0 (-1) yl (v 275 82) yt 0 ∧ (0 ≤ y3 ∧ 7 * y3 ≤ wl32 1 6) ∧ (wl32 cd 0 ≤ 4000 * y3 ∧ y3 ≤ 4000 * (wl32 1 6 - wl32 cd 0)) ∧ (8 * cn1 vl33 ≤ wl32 1 6) → e_Rn 20 elay ecode eI d' 353 (67, (0, (1, 275)) :: tl30, [], vl33) r' v' → e_Pn 20 elay kcode eI nn28 d 119 (71, (0, (1, 1)) :: (1, (0, y3)) :: tl29, [], wl32) Q := fun nn9 h9 => e_txtC hz hr0 K1 K2 nn9 (by first | decide | omega)
              exact e_Pn.ord kAlk [0, 1] rfl rfl (hL26 nn4 (Nat.le_refl _) _ _ 0 (w 1 13) (w 1 12) wl8 vl9 ⟨(st.re hj7 (by first | decide | omega) (by first | decide | omega) (by first | decide | omega) (by first | decide | omega) (by first | decide | omega)), (by first | decide | omega), (by first | decide | omega), (by first | decide | omega)⟩ (e_Rn.le eAlk [0] rfl rfl hM))
            · replace h25 : (0 : Int) ≠ 0 := by have q : ¬ ((0 : Int) = 0) := h25; omega
              exfalso; omega
        · replace h17 : (wl8 1 5 : Int) = 21 := by have q : ¬ ((wl8 1 5 : Int) ≠ 21) := h17; omega
          refine e_Pn.run (t' := (60, (0, (1, 1)) :: (1, (0, y1)) :: tl5, [(1, 1)], wl8)) kAlk 1 rfl ?_
          refine e_Pn.callI rfl (fun nq558 dq559 => ?_)
          show e_Pn 20 elay kcode eI nq558 dq559 140 (0, [(0, (1, 1))], [], wl8) _
          refine e_Pn.run (t' := (1, [(0, (1, 1))], [(1, 1)], wl8)) kAlk 1 rfl ?_
          replace hM := hM.st (t' := (1, (0, (1, 275)) :: tl6, [(1, 275)], vl9)) (fun _ _ q => e_Pn.run eAlk 1 rfl q)
          obtain ⟨b560, hM⟩ := hM.of (fun _ _ q => e_Pn.getf (z := 0) eAlk rfl rfl hj7.1.2.1.1.2 q)
          rcases hM.or (fun _ _ q1 q2 => e_Pn.if1 eAlk rfl q1 q2) with ⟨h561, hM⟩ | ⟨h561, hM⟩
          · replace h561 : (0 : Int) ≠ 0 := h561
            exfalso; omega
          · replace h561 : (0 : Int) = 0 := by have q : ¬ ((0 : Int) ≠ 0) := h561; omega
            replace hM := hM.st (t' := (9, (0, (1, 275)) :: tl6, [(0, 0), (1, 275)], vl9)) (fun _ _ q => e_Pn.run eAlk 2 rfl q)
            obtain ⟨dc562, r563, v564, hc565, hM⟩ := hM.ca rfl
            obtain ⟨z566, rfl, rfl, z566q⟩ := hc565.pn (fun nq => l_332)
            replace z566q := isS (kM_key (k := 0) hj7.1.2.1.2.2.1 (by decide)) rfl rfl z566q
            obtain rfl : z566 = 1 := by omega
            clear z566q
            replace hM : e_Rn 20 elay ecode eI d' 353 (12, (0, (1, 275)) :: tl6, [(0, 1)], vl9) r' v' := hM
            rcases hM.or (fun _ _ q1 q2 => e_Pn.if1 eAlk rfl q1 q2) with ⟨h567, hM⟩ | ⟨h567, hM⟩
            · replace h567 : (1 : Int) = 0 := h567
              exfalso; omega
            · replace h567 : (1 : Int) ≠ 0 := by have q : ¬ ((1 : Int) = 0) := h567; omega
              replace hM := hM.st (t' := (16, (0, (1, 275)) :: tl6, [(1, 275)], vl9)) (fun _ _ q => e_Pn.run eAlk 1 rfl q)
              obtain ⟨dc568, r569, v570, hc571, hM⟩ := hM.ca rfl
              refine e_Pn.callA rfl (fun nq dq => t_123b hj7.1.1 hj7.1.2.1.1 hj7.1.2.1.2.1.2.1 (st.nx hj7) (d' := dc568) hc571) (fun r572 w573 h574 => ?_)
              obtain ⟨rfl, rfl, h574⟩ := h574
              have s575 := st.ad (k := 2) hj7 h574 (st.len2 hj7 (by first | decide | omega)) (by first | decide | omega)
              have s575n := h574.2.2.2.1
              have s575m := st.len2 hj7 (by first | decide | omega)
              have s575x := cn1.E (TK.nm h574)
              have s575y : w573 cd 0 = wl8 cd 0 := h574.2.2.2.2.1 cd 0 (nf3_kRa_cd_0 hcd)
              have s575z := all0.E j12 (TK.nm h574)
              have s575g : w 1 6 + 1 ≤ w573 1 6 := by omega
              have q576 := st.nums s575
              clear q14
              have q576c := q576.2.2.2.1
              show e_Pn 20 elay kcode eI nq558 dq559 140 (4, [(0, (1, 1))], [], w573) _
              replace hM : e_Rn 20 elay ecode eI d' 353 (19, (0, (1, 275)) :: tl6, [], v570) r' v' := hM
              refine e_Pn.run (t' := (5, [(0, (1, 1))], [(1, 1)], w573)) kAlk 1 rfl ?_
              refine e_Pn.callI rfl (fun nq577 dq578 => ?_)
              show e_Pn 20 elay kcode eI nq577 dq578 141 (0, [(0, (1, 1))], [], w573) _
              refine e_Pn.run (t' := (1, [(0, (1, 1))], [(1, 1)], w573)) kAlk 1 rfl ?_
              refine e_Pn.getf (z := w573 1 5) kAlk rfl rfl rfl (fun b579 => ?_)
              refine e_Pn.run (t' := (5, [(0, (1, 1))], [(0, 1), (0, w573 1 5)], w573)) kAlk 1 rfl ?_
              refine e_Pn.if2 kAlk rfl (fun h580 => ?_) (fun h580 => ?_)
              · replace h580 : (w573 1 5 : Int) ≠ 1 := h580
                refine e_Pn.run (t' := (68, [(0, (1, 1))], [(0, 1), (1, 1)], w573)) kAlk 2 rfl ?_
                replace hM := hM.st (t' := (22, (0, (1, 275)) :: tl6, [(0, 0), (0, 0), (1, 275)], v570)) (fun _ _ q => e_Pn.run eAlk 3 rfl q)
                obtain ⟨dhc581, r582, v583, hc581, hM⟩ := hM.ca rfl
                replace hc581 : e_Rn 20 elay ecode eI dhc581 338 (0, [(0, (1, 275)), (1, (0, 0)), (2, (0, 0))], [], v570) r582 v583 := hc581
                replace hc581 := hc581.st (t' := (1, [(0, (1, 275)), (1, (0, 0)), (2, (0, 0))], [(1, 275)], v570)) (fun _ _ q => e_Pn.run eAlk 1 rfl q)
                obtain ⟨b584, hc581⟩ := hc581.of (fun _ _ q => e_Pn.getf (z := 0) eAlk rfl rfl s575.1.2.1.1.2 q)
                rcases hc581.or (fun _ _ q1 q2 => e_Pn.if1 eAlk rfl q1 q2) with ⟨h585, hc581⟩ | ⟨h585, hc581⟩
                · replace h585 : (0 : Int) ≠ 0 := h585
                  exfalso; omega
                · replace h585 : (0 : Int) = 0 := by have q : ¬ ((0 : Int) ≠ 0) := h585; omega
                  have kw586 : (w573 1 5 : Int) ≠ 1 := fun e9 => absurd (kM_k1 s575.1.2.1.2.2.1 e9) (by first | decide | omega)
                  replace hc581 := hc581.st (t' := (8, [(0, (1, 275)), (1, (0, 0)), (2, (0, 0))], [(1, 275)], v570)) (fun _ _ q => e_Pn.run eAlk 1 rfl q)
                  obtain ⟨b587, hc581⟩ := hc581.of (fun _ _ q => e_Pn.getf (z := v570 275 84) eAlk rfl rfl rfl q)
                  replace hc581 := hc581.st (t' := (12, [(0, (1, 275)), (1, (0, 0)), (2, (0, 0))], [(0, 1), (0, v570 275 84)], v570)) (fun _ _ q => e_Pn.run eAlk 1 rfl q)
                  rcases hc581.or (fun _ _ q1 q2 => e_Pn.if2 eAlk rfl q1 q2) with ⟨h588, hc581⟩ | ⟨h588, hc581⟩
                  · replace h588 : (v570 275 84 : Int) ≠ 1 := h588
                    replace hc581 := hc581.st (t' := (78, [(0, (1, 275)), (1, (0, 0)), (2, (0, 0))], [(1, 275), (1, 275)], v570)) (fun _ _ q => e_Pn.run eAlk 2 rfl q)
                    obtain ⟨b589, hc581⟩ := hc581.of (fun _ _ q => e_Pn.getf (z := v570 275 84) eAlk rfl rfl rfl q)
                    replace hc581 := hc581.st (t' := (82, [(0, (1, 275)), (1, (0, 0)), (2, (0, 0))], [(0, 1), (0, v570 275 84), (1, 275)], v570)) (fun _ _ q => e_Pn.run eAlk 1 rfl q)
                    rcases hc581.or (fun _ _ q1 q2 => e_Pn.if2 eAlk rfl q1 q2) with ⟨h590, hc581⟩ | ⟨h590, hc581⟩
                    · replace h590 : (v570 275 84 : Int) ≠ 1 := h590
                      replace hc581 := hc581.st (t' := (90, [(0, (1, 275)), (1, (0, 0)), (2, (0, 0))], [(0, 0), (1, 275)], v570)) (fun _ _ q => e_Pn.run eAlk 1 rfl q)
                      obtain ⟨dc591, r592, v593, hc594, hc581⟩ := hc581.ca rfl
                      have uhc594 := hc594.pn (fun nq => u_334 s575.1.2.2.2.2.1)
                      refine e_Pn.callA rfl (fun nq dq => e_Pn.and (t_129b s575.1.1 s575.1.2.1 (by first | decide | omega) (d' := dc591) hc594) (u_129 s575.1.2.2.2.1)) (fun r595 w596 h597 => ?_)
                      obtain ⟨⟨rfl, rfl, h597⟩, -, h597k⟩ := h597
                      rcases h597.symm with h597 | ⟨h597c, h597⟩
                      · skip
                        replace hc581 : e_Rn 20 elay ecode eI dhc581 338 (93, [(0, (1, 275)), (1, (0, 0)), (2, (0, 0))], [], v593) r582 v583 := hc581
                        obtain ⟨rfl, m598⟩ := (e_Rn.le eAlk [0, 1, 2] rfl rfl hc581).pn (fun nq => v_338_93 (uhc594.2.rf s575.1.2.2.2.2.1) _ 0 0 v593 mq.r)
                        replace hM : e_Rn 20 elay ecode eI d' 353 (25, (0, (1, 275)) :: tl6, [], v583) r' v' := hM
                        obtain ⟨rfl, m599⟩ := (e_Rn.le eAlk [0] rfl rfl hM).pn (fun nq => v_353_25 (m598.rf (uhc594.2.rf s575.1.2.2.2.2.1)) _  v583 mq.r)
                        show e_Pn 20 elay kcode eI nq577 dq578 141 (71, [(0, (1, 1))], [], w596) _
                        refine e_Pn.ord kAlk [0] rfl rfl ((v_141_71 (h597k.rf s575.1.2.2.2.1) _  w596 kq.r).imp (fun r601 w602 k600 => ?_))
                        obtain ⟨rfl, k600⟩ := k600
                        show e_Pn 20 elay kcode eI nq558 dq559 140 (8, [(0, (1, 1))], [], w602) _
                        refine e_Pn.ord kAlk [0] rfl rfl ((v_140_8 (k600.rf (h597k.rf s575.1.2.2.2.1)) _  w602 kq.r).imp (fun r604 w605 k603 => ?_))
                        obtain ⟨rfl, k603⟩ := k603
                        show e_Pn 20 elay kcode eI nn4 d 119 (63, (0, (1, 1)) :: (1, (0, y1)) :: tl5, [], w605) _
                        refine e_Pn.ord kAlk [0, 1] rfl rfl ((v_119_63 (k603.rf (k600.rf (h597k.rf s575.1.2.2.2.1))) (rpF.k h597 (k600.tr k603)) _ y1 w605 kq.r).imp (fun r607 w608 k606 => ?_))
                        obtain ⟨rfl, k606⟩ := k606
                        exact K2 _ (rpF.tail h597 ((k600.tr k603).tr k606) (m598.tr m599))
                      exfalso; omega
                    · replace h590 : (v570 275 84 : Int) = 1 := by have q : ¬ ((v570 275 84 : Int) ≠ 1) := h590; omega
                      exfalso; omega
                  · replace h588 : (v570 275 84 : Int) = 1 := by have q : ¬ ((v570 275 84 : Int) ≠ 1) := h588; omega
                    exact (kM_no s575.1.2.1.2.2.1 (fun a b => decide ((a : Int) ≠ 1) && decide ((b : Int) = 1)) (fun a b c => true) (by decide) (by decide) (by simp only [Bool.and_eq_true, decide_eq_true_eq]; exact ⟨h580, h588⟩) rfl).elim
              · replace h580 : (w573 1 5 : Int) = 1 := by have q : ¬ ((w573 1 5 : Int) ≠ 1) := h580; omega
                refine e_Pn.run (t' := (9, [(0, (1, 1))], [(1, 1)], w573)) kAlk 1 rfl ?_
                have hOw610 := NR.names s575.2.1 (by first | decide | omega)
                refine e_Pn.callA rfl (fun nq dq => l_139 s575.1.2.2.2.1 s575.1.1.2.2.1 s575.1.1.2.2.2.1 s575.1.1.1.1 (by first | decide | omega) hOw610.1 hOw610.2 (NR.v32 s575.2.1) (NR.r500 s575.2.1)) (fun r609 w610 h611 => ?_)
                obtain ⟨rfl, w610c⟩ := h611
                replace w610c := chkQ.of w610c
                have w610f := chkQ.fr w610c
                have w610k := kRw.rc s575.1.2.2.2.1 w610f
                have w610l : 0 ≤ w610 cd 0 ∧ w610 cd 0 ≤ 4000 := by rw [w610f cd 0 (by unfold kRc; omega)]; exact s575.1.2.2.2.2.2.1
                have w610e : w610 1 5 = w573 1 5 ∧ w610 1 6 = w573 1 6 ∧ w610 1 8 = w573 1 8 := ⟨w610f 1 5 (by unfold kRc; omega), w610f 1 6 (by unfold kRc; omega), w610f 1 8 (by unfold kRc; omega)⟩
                show e_Pn 20 elay kcode eI nq577 dq578 141 (12, [(0, (1, 1))], [], w610) _
                refine e_Pn.run (t' := (13, [(0, (1, 1))], [(1, 1)], w610)) kAlk 1 rfl ?_
                refine e_Pn.getr (z := cd) kAlk rfl rfl ((w610f 1 3 (by unfold kRc; omega)).trans s575.1.2.2.2.1.2.1) (by first | decide | omega) ?_
                refine e_Pn.getf (z := w573 cd 2) kAlk rfl rfl ((w610f cd 2 (by unfold kRc; omega)).trans rfl) (fun b612 => ?_)
                refine e_Pn.run (t' := (21, [(0, (1, 1))], [(0, 32), (0, w573 cd 2)], w610)) kAlk 1 rfl ?_
                refine e_Pn.if2 kAlk rfl (fun h613 => ?_) (fun h613 => ?_)
                · replace h613 : (w573 cd 2 : Int) ≥ 32 := h613
                  refine e_Pn.run (t' := (60, [(0, (1, 1))], [(1, 1), (0, 7), (1, 1)], w610)) kAlk 3 rfl ?_
                  refine e_Pn.getf (z := w573 1 6) kAlk rfl rfl ((w610f 1 6 (by unfold kRc; omega)).trans rfl) (fun b614 => ?_)
                  refine e_Pn.callA rfl (fun nq dq => l_133) (fun r615 w616 h617 => ?_)
                  obtain ⟨rfl, w616c⟩ := h617
                  have w616f := cplQ.fr w616c
                  have w616k := kRw.rc w610k w616f
                  have w616l : 0 ≤ w616 cd 0 ∧ w616 cd 0 ≤ 4000 := by rw [w616f cd 0 (by unfold kRc; omega)]; exact w610l
                  have w616e : w616 1 5 = w610 1 5 ∧ w616 1 6 = w610 1 6 ∧ w616 1 8 = w610 1 8 := ⟨w616f 1 5 (by unfold kRc; omega), w616f 1 6 (by unfold kRc; omega), w616f 1 8 (by unfold kRc; omega)⟩
                  show e_Pn 20 elay kcode eI nq577 dq578 141 (66, [(0, (1, 1))], [], w616) _
                  refine e_Pn.run (t' := (68, [(0, (1, 1))], [(0, 1), (1, 1)], w616)) kAlk 2 rfl ?_
                  replace hM := hM.st (t' := (22, (0, (1, 275)) :: tl6, [(0, 0), (0, 0), (1, 275)], v570)) (fun _ _ q => e_Pn.run eAlk 3 rfl q)
                  obtain ⟨dhc618, r619, v620, hc618, hM⟩ := hM.ca rfl
                  replace hc618 : e_Rn 20 elay ecode eI dhc618 338 (0, [(0, (1, 275)), (1, (0, 0)), (2, (0, 0))], [], v570) r619 v620 := hc618
                  replace hc618 := hc618.st (t' := (1, [(0, (1, 275)), (1, (0, 0)), (2, (0, 0))], [(1, 275)], v570)) (fun _ _ q => e_Pn.run eAlk 1 rfl q)
                  obtain ⟨b621, hc618⟩ := hc618.of (fun _ _ q => e_Pn.getf (z := 0) eAlk rfl rfl s575.1.2.1.1.2 q)
                  rcases hc618.or (fun _ _ q1 q2 => e_Pn.if1 eAlk rfl q1 q2) with ⟨h622, hc618⟩ | ⟨h622, hc618⟩
                  · replace h622 : (0 : Int) ≠ 0 := h622
                    exfalso; omega
                  · replace h622 : (0 : Int) = 0 := by have q : ¬ ((0 : Int) ≠ 0) := h622; omega
                    replace hc618 := hc618.st (t' := (8, [(0, (1, 275)), (1, (0, 0)), (2, (0, 0))], [(1, 275)], v570)) (fun _ _ q => e_Pn.run eAlk 1 rfl q)
                    obtain ⟨b623, hc618⟩ := hc618.of (fun _ _ q => e_Pn.getf (z := 1) eAlk rfl rfl (kM_k1 s575.1.2.1.2.2.1 (by first | decide | omega)) q)
                    replace hc618 := hc618.st (t' := (12, [(0, (1, 275)), (1, (0, 0)), (2, (0, 0))], [(0, 1), (0, 1)], v570)) (fun _ _ q => e_Pn.run eAlk 1 rfl q)
                    rcases hc618.or (fun _ _ q1 q2 => e_Pn.if2 eAlk rfl q1 q2) with ⟨h624, hc618⟩ | ⟨h624, hc618⟩
                    · replace h624 : (1 : Int) ≠ 1 := h624
                      exfalso; omega
                    · replace h624 : (1 : Int) = 1 := by have q : ¬ ((1 : Int) ≠ 1) := h624; omega
                      replace hc618 := hc618.st (t' := (16, [(0, (1, 275)), (1, (0, 0)), (2, (0, 0))], [(1, 275)], v570)) (fun _ _ q => e_Pn.run eAlk 1 rfl q)
                      replace hc618 := hc618.st (fun _ _ q => e_Pn.getr (z := 341) eAlk rfl rfl (s575.1.2.2.2.2.1 (90, 341) (by decide)) (by first | decide | omega) q)
                      replace hc618 := hc618.st (t' := (20, [(0, (1, 275)), (1, (0, 0)), (2, (0, 0))], [(1, 275), (1, 341)], v570)) (fun _ _ q => e_Pn.run eAlk 1 rfl q)
                      obtain ⟨b625, hc618⟩ := hc618.of (fun _ _ q => e_Pn.getf (z := v570 275 94) eAlk rfl rfl rfl q)
                      replace hc618 := hc618.st (t' := (24, [(0, (1, 275)), (1, (0, 0)), (2, (0, 0))], [(0, 0), (0, v570 275 94), (1, 341)], v570)) (fun _ _ q => e_Pn.run eAlk 1 rfl q)
                      obtain ⟨b626, b627, hc618⟩ := hc618.of2 (fun _ _ q => e_Pn.ast eAlk rfl rfl rfl q)
                      generalize hv628 : e_up v570 341 (v570 275 94) 0 = v628 at hc618
                      have v628m := mRw.upd hv628 (fun _ => by first | decide | omega) s575.1.2.2.2.2.1
                      replace hc618 := hc618.st (t' := (26, [(0, (1, 275)), (1, (0, 0)), (2, (0, 0))], [(1, 275)], v628)) (fun _ _ q => e_Pn.run eAlk 1 rfl q)
                      replace hc618 := hc618.st (fun _ _ q => e_Pn.getr (z := 342) eAlk rfl rfl (by rw [← hv628]; exact (e_up_ne _ _ (Or.inl (by first | decide | omega))).trans (s575.1.2.2.2.2.1 (91, 342) (by decide))) (by first | decide | omega) q)
                      replace hc618 := hc618.st (t' := (30, [(0, (1, 275)), (1, (0, 0)), (2, (0, 0))], [(1, 275), (1, 342)], v628)) (fun _ _ q => e_Pn.run eAlk 1 rfl q)
                      obtain ⟨b629, hc618⟩ := hc618.of (fun _ _ q => e_Pn.getf (z := v570 275 94) eAlk rfl rfl (by rw [← hv628]; exact (e_up_ne _ _ (Or.inl (by first | decide | omega))).trans rfl) q)
                      replace hc618 := hc618.st (t' := (34, [(0, (1, 275)), (1, (0, 0)), (2, (0, 0))], [(1, 275), (0, v570 275 94), (1, 342)], v628)) (fun _ _ q => e_Pn.run eAlk 1 rfl q)
                      obtain ⟨b630, hc618⟩ := hc618.of (fun _ _ q => e_Pn.getf (z := v570 275 86) eAlk rfl rfl (by rw [← hv628]; exact (e_up_ne _ _ (Or.inl (by first | decide | omega))).trans rfl) q)
                      obtain ⟨b631, b632, hc618⟩ := hc618.of2 (fun _ _ q => e_Pn.ast eAlk rfl rfl rfl q)
                      generalize hv633 : e_up v628 342 (v570 275 94) (v570 275 86) = v633 at hc618
                      have v633m := mRw.upd hv633 (fun _ => by first | decide | omega) v628m
                      replace hc618 := hc618.st (t' := (39, [(0, (1, 275)), (1, (0, 0)), (2, (0, 0))], [(1, 275)], v633)) (fun _ _ q => e_Pn.run eAlk 1 rfl q)
                      replace hc618 := hc618.st (fun _ _ q => e_Pn.getr (z := 343) eAlk rfl rfl (by rw [← hv633]; exact (e_up_ne _ _ (Or.inl (by first | decide | omega))).trans (by rw [← hv628]; exact (e_up_ne _ _ (Or.inl (by first | decide | omega))).trans (s575.1.2.2.2.2.1 (92, 343) (by decide)))) (by first | decide | omega) q)
                      replace hc618 := hc618.st (t' := (43, [(0, (1, 275)), (1, (0, 0)), (2, (0, 0))], [(1, 275), (1, 343)], v633)) (fun _ _ q => e_Pn.run eAlk 1 rfl q)
                      obtain ⟨b634, hc618⟩ := hc618.of (fun _ _ q => e_Pn.getf (z := v570 275 94) eAlk rfl rfl (by rw [← hv633]; exact (e_up_ne _ _ (Or.inl (by first | decide | omega))).trans (by rw [← hv628]; exact (e_up_ne _ _ (Or.inl (by first | decide | omega))).trans rfl)) q)
                      replace hc618 := hc618.st (t' := (47, [(0, (1, 275)), (1, (0, 0)), (2, (0, 0))], [(1, 275), (0, v570 275 94), (1, 343)], v633)) (fun _ _ q => e_Pn.run eAlk 1 rfl q)
                      obtain ⟨b635, hc618⟩ := hc618.of (fun _ _ q => e_Pn.getf (z := v570 275 87) eAlk rfl rfl (by rw [← hv633]; exact (e_up_ne _ _ (Or.inl (by first | decide | omega))).trans (by rw [← hv628]; exact (e_up_ne _ _ (Or.inl (by first | decide | omega))).trans rfl)) q)
                      replace hc618 := hc618.st (t' := (51, [(0, (1, 275)), (1, (0, 0)), (2, (0, 0))], [(1, 275), (0, v570 275 87), (0, v570 275 94), (1, 343)], v633)) (fun _ _ q => e_Pn.run eAlk 1 rfl q)
                      obtain ⟨b636, hc618⟩ := hc618.of (fun _ _ q => e_Pn.getf (z := v570 275 86) eAlk rfl rfl (by rw [← hv633]; exact (e_up_ne _ _ (Or.inl (by first | decide | omega))).trans (by rw [← hv628]; exact (e_up_ne _ _ (Or.inl (by first | decide | omega))).trans rfl)) q)
                      replace hc618 := hc618.st (fun _ _ q => e_Pn.sub' (z := v570 275 87 - v570 275 86) eAlk rfl (by first | decide | omega) (by first | decide | omega) q)
                      obtain ⟨b637, b638, hc618⟩ := hc618.of2 (fun _ _ q => e_Pn.ast eAlk rfl rfl rfl q)
                      generalize hv639 : e_up v633 343 (v570 275 94) (v570 275 87 - v570 275 86) = v639 at hc618
                      have v639m := mRw.upd hv639 (fun _ => by first | decide | omega) v633m
                      replace hc618 := hc618.st (t' := (57, [(0, (1, 275)), (1, (0, 0)), (2, (0, 0))], [(1, 275)], v639)) (fun _ _ q => e_Pn.run eAlk 1 rfl q)
                      replace hc618 := hc618.st (fun _ _ q => e_Pn.getr (z := 344) eAlk rfl rfl (by rw [← hv639]; exact (e_up_ne _ _ (Or.inl (by first | decide | omega))).trans (by rw [← hv633]; exact (e_up_ne _ _ (Or.inl (by first | decide | omega))).trans (by rw [← hv628]; exact (e_up_ne _ _ (Or.inl (by first | decide | omega))).trans (s575.1.2.2.2.2.1 (93, 344) (by decide))))) (by first | decide | omega) q)
                      replace hc618 := hc618.st (t' := (61, [(0, (1, 275)), (1, (0, 0)), (2, (0, 0))], [(1, 275), (1, 344)], v639)) (fun _ _ q => e_Pn.run eAlk 1 rfl q)
                      obtain ⟨b640, hc618⟩ := hc618.of (fun _ _ q => e_Pn.getf (z := v570 275 94) eAlk rfl rfl (by rw [← hv639]; exact (e_up_ne _ _ (Or.inl (by first | decide | omega))).trans (by rw [← hv633]; exact (e_up_ne _ _ (Or.inl (by first | decide | omega))).trans (by rw [← hv628]; exact (e_up_ne _ _ (Or.inl (by first | decide | omega))).trans rfl))) q)
                      replace hc618 := hc618.st (t' := (65, [(0, (1, 275)), (1, (0, 0)), (2, (0, 0))], [(0, 0), (0, v570 275 94), (1, 344)], v639)) (fun _ _ q => e_Pn.run eAlk 1 rfl q)
                      obtain ⟨b641, b642, hc618⟩ := hc618.of2 (fun _ _ q => e_Pn.ast eAlk rfl rfl rfl q)
                      generalize hv643 : e_up v639 344 (v570 275 94) 0 = v643 at hc618
                      have v643m := mRw.upd hv643 (fun _ => by first | decide | omega) v639m
                      replace hc618 := hc618.st (t' := (68, [(0, (1, 275)), (1, (0, 0)), (2, (0, 0))], [(1, 275), (1, 275)], v643)) (fun _ _ q => e_Pn.run eAlk 2 rfl q)
                      obtain ⟨b644, hc618⟩ := hc618.of (fun _ _ q => e_Pn.getf (z := v570 275 94) eAlk rfl rfl (by rw [← hv643]; exact (e_up_ne _ _ (Or.inl (by first | decide | omega))).trans (by rw [← hv639]; exact (e_up_ne _ _ (Or.inl (by first | decide | omega))).trans (by rw [← hv633]; exact (e_up_ne _ _ (Or.inl (by first | decide | omega))).trans (by rw [← hv628]; exact (e_up_ne _ _ (Or.inl (by first | decide | omega))).trans rfl)))) q)
                      replace hc618 := hc618.st (t' := (72, [(0, (1, 275)), (1, (0, 0)), (2, (0, 0))], [(0, 1), (0, v570 275 94), (1, 275)], v643)) (fun _ _ q => e_Pn.run eAlk 1 rfl q)
                      replace hc618 := hc618.st (fun _ _ q => e_Pn.add (z := v570 275 94 + 1) eAlk rfl (by first | decide | omega) (by first | decide | omega) q)
                      replace hc618 := hc618.st (fun _ _ q => e_Pn.putf eAlk rfl rfl q)
                      generalize hv645 : e_up v643 275 94 (v570 275 94 + 1) = v645 at hc618
                      have v645m := mRw.upd hv645 (fun _ => by first | decide | omega) v643m
                      replace hc618 := hc618.st (t' := (78, [(0, (1, 275)), (1, (0, 0)), (2, (0, 0))], [(1, 275), (1, 275)], v645)) (fun _ _ q => e_Pn.run eAlk 2 rfl q)
                      obtain ⟨b646, hc618⟩ := hc618.of (fun _ _ q => e_Pn.getf (z := 1) eAlk rfl rfl (by rw [← hv645]; exact (e_up_ne _ _ (Or.inr (by first | decide | omega))).trans (by rw [← hv643]; exact (e_up_ne _ _ (Or.inl (by first | decide | omega))).trans (by rw [← hv639]; exact (e_up_ne _ _ (Or.inl (by first | decide | omega))).trans (by rw [← hv633]; exact (e_up_ne _ _ (Or.inl (by first | decide | omega))).trans (by rw [← hv628]; exact (e_up_ne _ _ (Or.inl (by first | decide | omega))).trans (kM_k1 s575.1.2.1.2.2.1 (by first | decide | omega))))))) q)
                      replace hc618 := hc618.st (t' := (82, [(0, (1, 275)), (1, (0, 0)), (2, (0, 0))], [(0, 1), (0, 1), (1, 275)], v645)) (fun _ _ q => e_Pn.run eAlk 1 rfl q)
                      rcases hc618.or (fun _ _ q1 q2 => e_Pn.if2 eAlk rfl q1 q2) with ⟨h647, hc618⟩ | ⟨h647, hc618⟩
                      · replace h647 : (1 : Int) ≠ 1 := h647
                        exfalso; omega
                      · replace h647 : (1 : Int) = 1 := by have q : ¬ ((1 : Int) ≠ 1) := h647; omega
                        replace hc618 := hc618.st (t' := (90, [(0, (1, 275)), (1, (0, 0)), (2, (0, 0))], [(0, 1), (1, 275)], v645)) (fun _ _ q => e_Pn.run eAlk 2 rfl q)
                        have as64894 : v570 275 94 = v570 275 94 := rfl
                        have as64886 : v570 275 86 = v570 275 86 := rfl
                        have as64887 : v570 275 87 = v570 275 87 := rfl
                        obtain ⟨as648, as648g⟩ := nmA.mk hv628 hv633 hv639 hv643 hv645 (by first | decide | omega) (by first | decide | omega)
                        obtain ⟨s648, s648z⟩ := st.var (by decide) s575 (by first | decide | omega) s575z w610c (Or.inr ⟨by rw [(show w610 cd 2 = w573 cd 2 from ((w610f cd 2 (by unfold kRc; omega)).trans rfl))]; omega, w616c⟩) as648 (by first | decide | omega) (by first | decide | omega) as648g
                        have s648x := cn1.A0 as648 (by first | decide | omega)
                        have s648c : w616 cd 0 = w573 cd 0 ∧ w616 1 6 = w573 1 6 := ⟨((w616f cd 0 (by unfold kRc; omega)).trans ((w610f cd 0 (by unfold kRc; omega)).trans rfl)), ((w616f 1 6 (by unfold kRc; omega)).trans ((w610f 1 6 (by unfold kRc; omega)).trans rfl))⟩
                        have q649 := st.nums s648
                        clear q576
                        have q649c := q649.2.2.2.1
                        obtain ⟨dc650, r651, v652, hc653, hc618⟩ := hc618.ca rfl
                        have uhc653 := hc653.pn (fun nq => u_334 s648.1.2.2.2.2.1)
                        refine e_Pn.callA rfl (fun nq dq => e_Pn.and (t_129b s648.1.1 s648.1.2.1 (by first | decide | omega) (d' := dc650) hc653) (u_129 s648.1.2.2.2.1)) (fun r654 w655 h656 => ?_)
                        obtain ⟨⟨rfl, rfl, h656⟩, -, h656k⟩ := h656
                        rcases h656.symm with h656 | ⟨h656c, h656⟩
                        · skip
                          replace hc618 : e_Rn 20 elay ecode eI dhc618 338 (93, [(0, (1, 275)), (1, (0, 0)), (2, (0, 0))], [], v652) r619 v620 := hc618
                          obtain ⟨rfl, m657⟩ := (e_Rn.le eAlk [0, 1, 2] rfl rfl hc618).pn (fun nq => v_338_93 (uhc653.2.rf s648.1.2.2.2.2.1) _ 0 0 v652 mq.r)
                          replace hM : e_Rn 20 elay ecode eI d' 353 (25, (0, (1, 275)) :: tl6, [], v620) r' v' := hM
                          obtain ⟨rfl, m658⟩ := (e_Rn.le eAlk [0] rfl rfl hM).pn (fun nq => v_353_25 (m657.rf (uhc653.2.rf s648.1.2.2.2.2.1)) _  v620 mq.r)
                          show e_Pn 20 elay kcode eI nq577 dq578 141 (71, [(0, (1, 1))], [], w655) _
                          refine e_Pn.ord kAlk [0] rfl rfl ((v_141_71 (h656k.rf s648.1.2.2.2.1) _  w655 kq.r).imp (fun r660 w661 k659 => ?_))
                          obtain ⟨rfl, k659⟩ := k659
                          show e_Pn 20 elay kcode eI nq558 dq559 140 (8, [(0, (1, 1))], [], w661) _
                          refine e_Pn.ord kAlk [0] rfl rfl ((v_140_8 (k659.rf (h656k.rf s648.1.2.2.2.1)) _  w661 kq.r).imp (fun r663 w664 k662 => ?_))
                          obtain ⟨rfl, k662⟩ := k662
                          show e_Pn 20 elay kcode eI nn4 d 119 (63, (0, (1, 1)) :: (1, (0, y1)) :: tl5, [], w664) _
                          refine e_Pn.ord kAlk [0, 1] rfl rfl ((v_119_63 (k662.rf (k659.rf (h656k.rf s648.1.2.2.2.1))) (rpF.k h656 (k659.tr k662)) _ y1 w664 kq.r).imp (fun r666 w667 k665 => ?_))
                          obtain ⟨rfl, k665⟩ := k665
                          exact K2 _ (rpF.tail h656 ((k659.tr k662).tr k665) (m657.tr m658))
                        have s668 := st.ad (k := 1) s648 h656 (st.len1 s648 (by first | decide | omega)) (by first | decide | omega)
                        have s668n := h656.2.2.2.1
                        have s668m := st.len1 s648 (by first | decide | omega)
                        have s668x := cn1.E (TK.nm h656)
                        have s668y : w655 cd 0 = w616 cd 0 := h656.2.2.2.2.1 cd 0 (nf3_kRa_cd_0 hcd)
                        have s668z := all0.E s648z (TK.nm h656)
                        have s668g : w 1 6 + 1 ≤ w655 1 6 := by omega
                        have q669 := st.nums s668
                        clear q649
                        have q669c := q669.2.2.2.1
                        show e_Pn 20 elay kcode eI nq577 dq578 141 (71, [(0, (1, 1))], [], w655) _
                        replace hc618 : e_Rn 20 elay ecode eI dhc618 338 (93, [(0, (1, 275)), (1, (0, 0)), (2, (0, 0))], [], v652) r619 v620 := hc618
                        refine e_Pn.ret0 rfl ?_
                        show e_Pn 20 elay kcode eI nq558 dq559 140 (8, [(0, (1, 1))], [], w655) _
                        refine e_Pn.run (t' := (10, [(1, (0, 0)), (0, (1, 1))], [], w655)) kAlk 2 rfl ?_
                        obtain ⟨rfl, rfl⟩ := hc618.re0 rfl
                        replace hM : e_Rn 20 elay ecode eI d' 353 (25, (0, (1, 275)) :: tl6, [], v652) r' v' := hM
                        have hL670 : ∀ nn672 : Nat, nn672 ≤ nq558 → ∀ (tl673 tl674 : eL) (y2 : Int) (wl676 vl677 : eW), st N cd w v wl676 vl677 0 0 0 (-1) (w 1 13) (v 275 82) (w 1 12) 0 ∧ (0 ≤ y2 ∧ y2 + 1 ≤ wl676 1 6) ∧ (wl676 cd 0 = 0) ∧ (all0 vl677) ∧ (cn1 vl677 = 0) ∧ (wl8 1 6 + 3 ≤ wl676 1 6) → e_Rn 20 elay ecode eI d' 353 (25, (0, (1, 275)) :: tl674, [], vl677) r' v' → e_Pn 20 elay kcode eI nn672 dq559 140 (10, (0, (1, 1)) :: (1, (0, y2)) :: tl673, [], wl676) (fun r w' => e_Pn 20 elay kcode eI nn4 d 119 (63, (0, (1, 1)) :: (1, (0, y1)) :: tl5, r ++ [], w') Q) := e_txtB hz hr0 K1 K2 hn j10 ih3
                        exact e_Pn.ord kAlk [0, 1] rfl rfl (hL670 nq558 (Nat.le_refl _) _ _ 0 w655 v652 ⟨(st.re s668 (by first | decide | omega) (by first | decide | omega) (by first | decide | omega) (by first | decide | omega) (by first | decide | omega)), (by first | decide | omega), (by first | decide | omega), s668z, (by first | decide | omega), (by first | decide | omega)⟩ (e_Rn.le eAlk [0] rfl rfl hM))
                · replace h613 : (w573 cd 2 : Int) < 32 := by have q : ¬ ((w573 cd 2 : Int) ≥ 32) := h613; omega
                  refine e_Pn.run (t' := (25, [(0, (1, 1))], [(1, 1)], w610)) kAlk 1 rfl ?_
                  refine e_Pn.getr (z := 6) kAlk rfl rfl ((w610f 1 15 (by unfold kRc; omega)).trans s575.1.2.2.2.1.2.2.2.1) (by first | decide | omega) ?_
                  refine e_Pn.run (t' := (29, [(0, (1, 1))], [(1, 1), (1, 6)], w610)) kAlk 1 rfl ?_
                  refine e_Pn.getr (z := cd) kAlk rfl rfl ((w610f 1 3 (by unfold kRc; omega)).trans s575.1.2.2.2.1.2.1) (by first | decide | omega) ?_
                  refine e_Pn.getf (z := w573 cd 2) kAlk rfl rfl ((w610f cd 2 (by unfold kRc; omega)).trans rfl) (fun b885 => ?_)
                  refine e_Pn.run (t' := (36, [(0, (1, 1))], [(1, 1), (0, w573 cd 2), (1, 6)], w610)) kAlk 1 rfl ?_
                  refine e_Pn.getf (z := w573 1 6) kAlk rfl rfl ((w610f 1 6 (by unfold kRc; omega)).trans rfl) (fun b886 => ?_)
                  refine e_Pn.ast kAlk rfl rfl rfl (fun b887 b888 => ?_)
                  generalize hw889 : e_up w610 6 (w573 cd 2) (w573 1 6) = w889
                  have w889g : e_fr (kVs cd) w610 w889 := e_fr.up (e_fr.refl w610) hw889 (by unfold kVs; omega)
                  have w889k := kRw.vs w610k w889g
                  have w889l : 0 ≤ w889 cd 0 ∧ w889 cd 0 ≤ 4000 := by rw [w889g cd 0 (by unfold kVs; omega)]; exact w610l
                  have w889e : w889 1 5 = w610 1 5 ∧ w889 1 6 = w610 1 6 ∧ w889 1 8 = w610 1 8 := ⟨w889g 1 5 (by unfold kVs; omega), w889g 1 6 (by unfold kVs; omega), w889g 1 8 (by unfold kVs; omega)⟩
                  refine e_Pn.run (t' := (41, [(0, (1, 1))], [(1, 1)], w889)) kAlk 1 rfl ?_
                  refine e_Pn.getr (z := cd) kAlk rfl rfl (by rw [← hw889]; exact (e_up_ne _ _ (Or.inl (by first | decide | omega))).trans ((w610f 1 3 (by unfold kRc; omega)).trans s575.1.2.2.2.1.2.1)) (by first | decide | omega) ?_
                  refine e_Pn.run (t' := (45, [(0, (1, 1))], [(1, cd), (1, cd)], w889)) kAlk 1 rfl ?_
                  refine e_Pn.getf (z := w573 cd 2) kAlk rfl rfl (by rw [← hw889]; exact (e_up_ne _ _ (Or.inl (by first | decide | omega))).trans ((w610f cd 2 (by unfold kRc; omega)).trans rfl)) (fun b890 => ?_)
                  refine e_Pn.run (t' := (49, [(0, (1, 1))], [(0, 1), (0, w573 cd 2), (1, cd)], w889)) kAlk 1 rfl ?_
                  refine e_Pn.add (z := w573 cd 2 + 1) kAlk rfl (by first | decide | omega) (by first | decide | omega) ?_
                  refine e_Pn.putf kAlk rfl rfl ?_
                  generalize hw891 : e_up w889 cd 2 (w573 cd 2 + 1) = w891
                  have w891g : e_fr (kVs cd) w889 w891 := e_fr.up (e_fr.refl w889) hw891 (by unfold kVs; omega)
                  have w891k := kRw.vs w889k w891g
                  have w891l : 0 ≤ w891 cd 0 ∧ w891 cd 0 ≤ 4000 := by rw [w891g cd 0 (by unfold kVs; omega)]; exact w889l
                  have w891e : w891 1 5 = w889 1 5 ∧ w891 1 6 = w889 1 6 ∧ w891 1 8 = w889 1 8 := ⟨w891g 1 5 (by unfold kVs; omega), w891g 1 6 (by unfold kVs; omega), w891g 1 8 (by unfold kVs; omega)⟩
                  refine e_Pn.run (t' := (68, [(0, (1, 1))], [(0, 1), (1, 1)], w891)) kAlk 3 rfl ?_
                  replace hM := hM.st (t' := (22, (0, (1, 275)) :: tl6, [(0, 0), (0, 0), (1, 275)], v570)) (fun _ _ q => e_Pn.run eAlk 3 rfl q)
                  obtain ⟨dhc892, r893, v894, hc892, hM⟩ := hM.ca rfl
                  replace hc892 : e_Rn 20 elay ecode eI dhc892 338 (0, [(0, (1, 275)), (1, (0, 0)), (2, (0, 0))], [], v570) r893 v894 := hc892
                  replace hc892 := hc892.st (t' := (1, [(0, (1, 275)), (1, (0, 0)), (2, (0, 0))], [(1, 275)], v570)) (fun _ _ q => e_Pn.run eAlk 1 rfl q)
                  obtain ⟨b895, hc892⟩ := hc892.of (fun _ _ q => e_Pn.getf (z := 0) eAlk rfl rfl s575.1.2.1.1.2 q)
                  rcases hc892.or (fun _ _ q1 q2 => e_Pn.if1 eAlk rfl q1 q2) with ⟨h896, hc892⟩ | ⟨h896, hc892⟩
                  · replace h896 : (0 : Int) ≠ 0 := h896
                    exfalso; omega
                  · replace h896 : (0 : Int) = 0 := by have q : ¬ ((0 : Int) ≠ 0) := h896; omega
                    replace hc892 := hc892.st (t' := (8, [(0, (1, 275)), (1, (0, 0)), (2, (0, 0))], [(1, 275)], v570)) (fun _ _ q => e_Pn.run eAlk 1 rfl q)
                    obtain ⟨b897, hc892⟩ := hc892.of (fun _ _ q => e_Pn.getf (z := 1) eAlk rfl rfl (kM_k1 s575.1.2.1.2.2.1 (by first | decide | omega)) q)
                    replace hc892 := hc892.st (t' := (12, [(0, (1, 275)), (1, (0, 0)), (2, (0, 0))], [(0, 1), (0, 1)], v570)) (fun _ _ q => e_Pn.run eAlk 1 rfl q)
                    rcases hc892.or (fun _ _ q1 q2 => e_Pn.if2 eAlk rfl q1 q2) with ⟨h898, hc892⟩ | ⟨h898, hc892⟩
                    · replace h898 : (1 : Int) ≠ 1 := h898
                      exfalso; omega
                    · replace h898 : (1 : Int) = 1 := by have q : ¬ ((1 : Int) ≠ 1) := h898; omega
                      replace hc892 := hc892.st (t' := (16, [(0, (1, 275)), (1, (0, 0)), (2, (0, 0))], [(1, 275)], v570)) (fun _ _ q => e_Pn.run eAlk 1 rfl q)
                      replace hc892 := hc892.st (fun _ _ q => e_Pn.getr (z := 341) eAlk rfl rfl (s575.1.2.2.2.2.1 (90, 341) (by decide)) (by first | decide | omega) q)
                      replace hc892 := hc892.st (t' := (20, [(0, (1, 275)), (1, (0, 0)), (2, (0, 0))], [(1, 275), (1, 341)], v570)) (fun _ _ q => e_Pn.run eAlk 1 rfl q)
                      obtain ⟨b899, hc892⟩ := hc892.of (fun _ _ q => e_Pn.getf (z := v570 275 94) eAlk rfl rfl rfl q)
                      replace hc892 := hc892.st (t' := (24, [(0, (1, 275)), (1, (0, 0)), (2, (0, 0))], [(0, 0), (0, v570 275 94), (1, 341)], v570)) (fun _ _ q => e_Pn.run eAlk 1 rfl q)
                      obtain ⟨b900, b901, hc892⟩ := hc892.of2 (fun _ _ q => e_Pn.ast eAlk rfl rfl rfl q)
                      generalize hv902 : e_up v570 341 (v570 275 94) 0 = v902 at hc892
                      have v902m := mRw.upd hv902 (fun _ => by first | decide | omega) s575.1.2.2.2.2.1
                      replace hc892 := hc892.st (t' := (26, [(0, (1, 275)), (1, (0, 0)), (2, (0, 0))], [(1, 275)], v902)) (fun _ _ q => e_Pn.run eAlk 1 rfl q)
                      replace hc892 := hc892.st (fun _ _ q => e_Pn.getr (z := 342) eAlk rfl rfl (by rw [← hv902]; exact (e_up_ne _ _ (Or.inl (by first | decide | omega))).trans (s575.1.2.2.2.2.1 (91, 342) (by decide))) (by first | decide | omega) q)
                      replace hc892 := hc892.st (t' := (30, [(0, (1, 275)), (1, (0, 0)), (2, (0, 0))], [(1, 275), (1, 342)], v902)) (fun _ _ q => e_Pn.run eAlk 1 rfl q)
                      obtain ⟨b903, hc892⟩ := hc892.of (fun _ _ q => e_Pn.getf (z := v570 275 94) eAlk rfl rfl (by rw [← hv902]; exact (e_up_ne _ _ (Or.inl (by first | decide | omega))).trans rfl) q)
                      replace hc892 := hc892.st (t' := (34, [(0, (1, 275)), (1, (0, 0)), (2, (0, 0))], [(1, 275), (0, v570 275 94), (1, 342)], v902)) (fun _ _ q => e_Pn.run eAlk 1 rfl q)
                      obtain ⟨b904, hc892⟩ := hc892.of (fun _ _ q => e_Pn.getf (z := v570 275 86) eAlk rfl rfl (by rw [← hv902]; exact (e_up_ne _ _ (Or.inl (by first | decide | omega))).trans rfl) q)
                      obtain ⟨b905, b906, hc892⟩ := hc892.of2 (fun _ _ q => e_Pn.ast eAlk rfl rfl rfl q)
                      generalize hv907 : e_up v902 342 (v570 275 94) (v570 275 86) = v907 at hc892
                      have v907m := mRw.upd hv907 (fun _ => by first | decide | omega) v902m
                      replace hc892 := hc892.st (t' := (39, [(0, (1, 275)), (1, (0, 0)), (2, (0, 0))], [(1, 275)], v907)) (fun _ _ q => e_Pn.run eAlk 1 rfl q)
                      replace hc892 := hc892.st (fun _ _ q => e_Pn.getr (z := 343) eAlk rfl rfl (by rw [← hv907]; exact (e_up_ne _ _ (Or.inl (by first | decide | omega))).trans (by rw [← hv902]; exact (e_up_ne _ _ (Or.inl (by first | decide | omega))).trans (s575.1.2.2.2.2.1 (92, 343) (by decide)))) (by first | decide | omega) q)
                      replace hc892 := hc892.st (t' := (43, [(0, (1, 275)), (1, (0, 0)), (2, (0, 0))], [(1, 275), (1, 343)], v907)) (fun _ _ q => e_Pn.run eAlk 1 rfl q)
                      obtain ⟨b908, hc892⟩ := hc892.of (fun _ _ q => e_Pn.getf (z := v570 275 94) eAlk rfl rfl (by rw [← hv907]; exact (e_up_ne _ _ (Or.inl (by first | decide | omega))).trans (by rw [← hv902]; exact (e_up_ne _ _ (Or.inl (by first | decide | omega))).trans rfl)) q)
                      replace hc892 := hc892.st (t' := (47, [(0, (1, 275)), (1, (0, 0)), (2, (0, 0))], [(1, 275), (0, v570 275 94), (1, 343)], v907)) (fun _ _ q => e_Pn.run eAlk 1 rfl q)
                      obtain ⟨b909, hc892⟩ := hc892.of (fun _ _ q => e_Pn.getf (z := v570 275 87) eAlk rfl rfl (by rw [← hv907]; exact (e_up_ne _ _ (Or.inl (by first | decide | omega))).trans (by rw [← hv902]; exact (e_up_ne _ _ (Or.inl (by first | decide | omega))).trans rfl)) q)
                      replace hc892 := hc892.st (t' := (51, [(0, (1, 275)), (1, (0, 0)), (2, (0, 0))], [(1, 275), (0, v570 275 87), (0, v570 275 94), (1, 343)], v907)) (fun _ _ q => e_Pn.run eAlk 1 rfl q)
                      obtain ⟨b910, hc892⟩ := hc892.of (fun _ _ q => e_Pn.getf (z := v570 275 86) eAlk rfl rfl (by rw [← hv907]; exact (e_up_ne _ _ (Or.inl (by first | decide | omega))).trans (by rw [← hv902]; exact (e_up_ne _ _ (Or.inl (by first | decide | omega))).trans rfl)) q)
                      replace hc892 := hc892.st (fun _ _ q => e_Pn.sub' (z := v570 275 87 - v570 275 86) eAlk rfl (by first | decide | omega) (by first | decide | omega) q)
                      obtain ⟨b911, b912, hc892⟩ := hc892.of2 (fun _ _ q => e_Pn.ast eAlk rfl rfl rfl q)
                      generalize hv913 : e_up v907 343 (v570 275 94) (v570 275 87 - v570 275 86) = v913 at hc892
                      have v913m := mRw.upd hv913 (fun _ => by first | decide | omega) v907m
                      replace hc892 := hc892.st (t' := (57, [(0, (1, 275)), (1, (0, 0)), (2, (0, 0))], [(1, 275)], v913)) (fun _ _ q => e_Pn.run eAlk 1 rfl q)
                      replace hc892 := hc892.st (fun _ _ q => e_Pn.getr (z := 344) eAlk rfl rfl (by rw [← hv913]; exact (e_up_ne _ _ (Or.inl (by first | decide | omega))).trans (by rw [← hv907]; exact (e_up_ne _ _ (Or.inl (by first | decide | omega))).trans (by rw [← hv902]; exact (e_up_ne _ _ (Or.inl (by first | decide | omega))).trans (s575.1.2.2.2.2.1 (93, 344) (by decide))))) (by first | decide | omega) q)
                      replace hc892 := hc892.st (t' := (61, [(0, (1, 275)), (1, (0, 0)), (2, (0, 0))], [(1, 275), (1, 344)], v913)) (fun _ _ q => e_Pn.run eAlk 1 rfl q)
                      obtain ⟨b914, hc892⟩ := hc892.of (fun _ _ q => e_Pn.getf (z := v570 275 94) eAlk rfl rfl (by rw [← hv913]; exact (e_up_ne _ _ (Or.inl (by first | decide | omega))).trans (by rw [← hv907]; exact (e_up_ne _ _ (Or.inl (by first | decide | omega))).trans (by rw [← hv902]; exact (e_up_ne _ _ (Or.inl (by first | decide | omega))).trans rfl))) q)
                      replace hc892 := hc892.st (t' := (65, [(0, (1, 275)), (1, (0, 0)), (2, (0, 0))], [(0, 0), (0, v570 275 94), (1, 344)], v913)) (fun _ _ q => e_Pn.run eAlk 1 rfl q)
                      obtain ⟨b915, b916, hc892⟩ := hc892.of2 (fun _ _ q => e_Pn.ast eAlk rfl rfl rfl q)
                      generalize hv917 : e_up v913 344 (v570 275 94) 0 = v917 at hc892
                      have v917m := mRw.upd hv917 (fun _ => by first | decide | omega) v913m
                      replace hc892 := hc892.st (t' := (68, [(0, (1, 275)), (1, (0, 0)), (2, (0, 0))], [(1, 275), (1, 275)], v917)) (fun _ _ q => e_Pn.run eAlk 2 rfl q)
                      obtain ⟨b918, hc892⟩ := hc892.of (fun _ _ q => e_Pn.getf (z := v570 275 94) eAlk rfl rfl (by rw [← hv917]; exact (e_up_ne _ _ (Or.inl (by first | decide | omega))).trans (by rw [← hv913]; exact (e_up_ne _ _ (Or.inl (by first | decide | omega))).trans (by rw [← hv907]; exact (e_up_ne _ _ (Or.inl (by first | decide | omega))).trans (by rw [← hv902]; exact (e_up_ne _ _ (Or.inl (by first | decide | omega))).trans rfl)))) q)
                      replace hc892 := hc892.st (t' := (72, [(0, (1, 275)), (1, (0, 0)), (2, (0, 0))], [(0, 1), (0, v570 275 94), (1, 275)], v917)) (fun _ _ q => e_Pn.run eAlk 1 rfl q)
                      replace hc892 := hc892.st (fun _ _ q => e_Pn.add (z := v570 275 94 + 1) eAlk rfl (by first | decide | omega) (by first | decide | omega) q)
                      replace hc892 := hc892.st (fun _ _ q => e_Pn.putf eAlk rfl rfl q)
                      generalize hv919 : e_up v917 275 94 (v570 275 94 + 1) = v919 at hc892
                      have v919m := mRw.upd hv919 (fun _ => by first | decide | omega) v917m
                      replace hc892 := hc892.st (t' := (78, [(0, (1, 275)), (1, (0, 0)), (2, (0, 0))], [(1, 275), (1, 275)], v919)) (fun _ _ q => e_Pn.run eAlk 2 rfl q)
                      obtain ⟨b920, hc892⟩ := hc892.of (fun _ _ q => e_Pn.getf (z := 1) eAlk rfl rfl (by rw [← hv919]; exact (e_up_ne _ _ (Or.inr (by first | decide | omega))).trans (by rw [← hv917]; exact (e_up_ne _ _ (Or.inl (by first | decide | omega))).trans (by rw [← hv913]; exact (e_up_ne _ _ (Or.inl (by first | decide | omega))).trans (by rw [← hv907]; exact (e_up_ne _ _ (Or.inl (by first | decide | omega))).trans (by rw [← hv902]; exact (e_up_ne _ _ (Or.inl (by first | decide | omega))).trans (kM_k1 s575.1.2.1.2.2.1 (by first | decide | omega))))))) q)
                      replace hc892 := hc892.st (t' := (82, [(0, (1, 275)), (1, (0, 0)), (2, (0, 0))], [(0, 1), (0, 1), (1, 275)], v919)) (fun _ _ q => e_Pn.run eAlk 1 rfl q)
                      rcases hc892.or (fun _ _ q1 q2 => e_Pn.if2 eAlk rfl q1 q2) with ⟨h921, hc892⟩ | ⟨h921, hc892⟩
                      · replace h921 : (1 : Int) ≠ 1 := h921
                        exfalso; omega
                      · replace h921 : (1 : Int) = 1 := by have q : ¬ ((1 : Int) ≠ 1) := h921; omega
                        replace hc892 := hc892.st (t' := (90, [(0, (1, 275)), (1, (0, 0)), (2, (0, 0))], [(0, 1), (1, 275)], v919)) (fun _ _ q => e_Pn.run eAlk 2 rfl q)
                        have as92294 : v570 275 94 = v570 275 94 := rfl
                        have as92286 : v570 275 86 = v570 275 86 := rfl
                        have as92287 : v570 275 87 = v570 275 87 := rfl
                        obtain ⟨as922, as922g⟩ := nmA.mk hv902 hv907 hv913 hv917 hv919 (by first | decide | omega) (by first | decide | omega)
                        have as922q : e_up (e_up w610 6 (w610 cd 2) (w573 1 6)) cd 2 (w610 cd 2 + 1) = w891 := by rw [(show w610 cd 2 = w573 cd 2 from ((w610f cd 2 (by unfold kRc; omega)).trans rfl)), hw889, hw891]
                        obtain ⟨s922, s922z⟩ := st.var (by decide) s575 (by first | decide | omega) s575z w610c (Or.inl ⟨by rw [(show w610 cd 2 = w573 cd 2 from ((w610f cd 2 (by unfold kRc; omega)).trans rfl))]; omega, as922q⟩) as922 (by first | decide | omega) (by first | decide | omega) as922g
                        have s922x := cn1.A0 as922 (by first | decide | omega)
                        have s922c : w891 cd 0 = w573 cd 0 ∧ w891 1 6 = w573 1 6 := ⟨(by rw [← hw891]; exact (e_up_ne _ _ (Or.inr (by first | decide | omega))).trans (by rw [← hw889]; exact (e_up_ne _ _ (Or.inl (by first | decide | omega))).trans ((w610f cd 0 (by unfold kRc; omega)).trans rfl))), (by rw [← hw891]; exact (e_up_ne _ _ (Or.inr (by first | decide | omega))).trans (by rw [← hw889]; exact (e_up_ne _ _ (Or.inl (by first | decide | omega))).trans ((w610f 1 6 (by unfold kRc; omega)).trans rfl)))⟩
                        have q923 := st.nums s922
                        clear q576
                        have q923c := q923.2.2.2.1
                        obtain ⟨dc924, r925, v926, hc927, hc892⟩ := hc892.ca rfl
                        have uhc927 := hc927.pn (fun nq => u_334 s922.1.2.2.2.2.1)
                        refine e_Pn.callA rfl (fun nq dq => e_Pn.and (t_129b s922.1.1 s922.1.2.1 (by first | decide | omega) (d' := dc924) hc927) (u_129 s922.1.2.2.2.1)) (fun r928 w929 h930 => ?_)
                        obtain ⟨⟨rfl, rfl, h930⟩, -, h930k⟩ := h930
                        rcases h930.symm with h930 | ⟨h930c, h930⟩
                        · skip
                          replace hc892 : e_Rn 20 elay ecode eI dhc892 338 (93, [(0, (1, 275)), (1, (0, 0)), (2, (0, 0))], [], v926) r893 v894 := hc892
                          obtain ⟨rfl, m931⟩ := (e_Rn.le eAlk [0, 1, 2] rfl rfl hc892).pn (fun nq => v_338_93 (uhc927.2.rf s922.1.2.2.2.2.1) _ 0 0 v926 mq.r)
                          replace hM : e_Rn 20 elay ecode eI d' 353 (25, (0, (1, 275)) :: tl6, [], v894) r' v' := hM
                          obtain ⟨rfl, m932⟩ := (e_Rn.le eAlk [0] rfl rfl hM).pn (fun nq => v_353_25 (m931.rf (uhc927.2.rf s922.1.2.2.2.2.1)) _  v894 mq.r)
                          show e_Pn 20 elay kcode eI nq577 dq578 141 (71, [(0, (1, 1))], [], w929) _
                          refine e_Pn.ord kAlk [0] rfl rfl ((v_141_71 (h930k.rf s922.1.2.2.2.1) _  w929 kq.r).imp (fun r934 w935 k933 => ?_))
                          obtain ⟨rfl, k933⟩ := k933
                          show e_Pn 20 elay kcode eI nq558 dq559 140 (8, [(0, (1, 1))], [], w935) _
                          refine e_Pn.ord kAlk [0] rfl rfl ((v_140_8 (k933.rf (h930k.rf s922.1.2.2.2.1)) _  w935 kq.r).imp (fun r937 w938 k936 => ?_))
                          obtain ⟨rfl, k936⟩ := k936
                          show e_Pn 20 elay kcode eI nn4 d 119 (63, (0, (1, 1)) :: (1, (0, y1)) :: tl5, [], w938) _
                          refine e_Pn.ord kAlk [0, 1] rfl rfl ((v_119_63 (k936.rf (k933.rf (h930k.rf s922.1.2.2.2.1))) (rpF.k h930 (k933.tr k936)) _ y1 w938 kq.r).imp (fun r940 w941 k939 => ?_))
                          obtain ⟨rfl, k939⟩ := k939
                          exact K2 _ (rpF.tail h930 ((k933.tr k936).tr k939) (m931.tr m932))
                        have s942 := st.ad (k := 1) s922 h930 (st.len1 s922 (by first | decide | omega)) (by first | decide | omega)
                        have s942n := h930.2.2.2.1
                        have s942m := st.len1 s922 (by first | decide | omega)
                        have s942x := cn1.E (TK.nm h930)
                        have s942y : w929 cd 0 = w891 cd 0 := h930.2.2.2.2.1 cd 0 (nf3_kRa_cd_0 hcd)
                        have s942z := all0.E s922z (TK.nm h930)
                        have s942g : w 1 6 + 1 ≤ w929 1 6 := by omega
                        have q943 := st.nums s942
                        clear q923
                        have q943c := q943.2.2.2.1
                        show e_Pn 20 elay kcode eI nq577 dq578 141 (71, [(0, (1, 1))], [], w929) _
                        replace hc892 : e_Rn 20 elay ecode eI dhc892 338 (93, [(0, (1, 275)), (1, (0, 0)), (2, (0, 0))], [], v926) r893 v894 := hc892
                        refine e_Pn.ret0 rfl ?_
                        show e_Pn 20 elay kcode eI nq558 dq559 140 (8, [(0, (1, 1))], [], w929) _
                        refine e_Pn.run (t' := (10, [(1, (0, 0)), (0, (1, 1))], [], w929)) kAlk 2 rfl ?_
                        obtain ⟨rfl, rfl⟩ := hc892.re0 rfl
                        replace hM : e_Rn 20 elay ecode eI d' 353 (25, (0, (1, 275)) :: tl6, [], v926) r' v' := hM
                        have hL944 : ∀ nn946 : Nat, nn946 ≤ nq558 → ∀ (tl947 tl948 : eL) (y2 : Int) (wl950 vl951 : eW), st N cd w v wl950 vl951 0 0 0 (-1) (w 1 13) (v 275 82) (w 1 12) 0 ∧ (0 ≤ y2 ∧ y2 + 1 ≤ wl950 1 6) ∧ (wl950 cd 0 = 0) ∧ (all0 vl951) ∧ (cn1 vl951 = 0) ∧ (wl8 1 6 + 3 ≤ wl950 1 6) → e_Rn 20 elay ecode eI d' 353 (25, (0, (1, 275)) :: tl948, [], vl951) r' v' → e_Pn 20 elay kcode eI nn946 dq559 140 (10, (0, (1, 1)) :: (1, (0, y2)) :: tl947, [], wl950) (fun r w' => e_Pn 20 elay kcode eI nn4 d 119 (63, (0, (1, 1)) :: (1, (0, y1)) :: tl5, r ++ [], w') Q) := e_txtB hz hr0 K1 K2 hn j10 ih3
                        exact e_Pn.ord kAlk [0, 1] rfl rfl (hL944 nq558 (Nat.le_refl _) _ _ 0 w929 v926 ⟨(st.re s942 (by first | decide | omega) (by first | decide | omega) (by first | decide | omega) (by first | decide | omega) (by first | decide | omega)), (by first | decide | omega), (by first | decide | omega), s942z, (by first | decide | omega), (by first | decide | omega)⟩ (e_Rn.le eAlk [0] rfl rfl hM))
  exact e_Pn.ord kAlk [0, 1] rfl rfl (hL2 n (Nat.le_refl _) _ _ 0 w v ⟨(st.re h0 (by first | decide | omega) (by first | decide | omega) (by first | decide | omega) (by first | decide | omega) (by first | decide | omega)), (by first | decide | omega), (by first | decide | omega), hza, (by first | decide | omega)⟩ (e_Rn.le eAlk [0] rfl rfl hM))
end
