noncomputable section
set_option maxHeartbeats 4000000 in
theorem e_txtB {n : Nat} {N cd : Int} {w v : eW} {Q : List eV → eW → Prop} (hz : tz0 N cd w v) {d d' : Nat} {r' : List eV} {v' : eW} (hr0 : r' = []) (K1 : ∀ n', n' ≤ n → ∀ (tl : eL) (y : Int) (w1 : eW), tzE N cd w1 v' → e_Pn 20 elay kcode eI n' d 119 (108, (0, (1, 1)) :: (1, (0, y)) :: tl, [], w1) Q) (K2 : ∀ w1, rpF w1 v' → Q [] w1) {nn4 nq558 dq559 : Nat} {tl5 : eL} {y1 : Int} {wl8 : eW} (hn4 : nn4 + 1 ≤ n) (j10 : 0 ≤ y1 ∧ 4 * y1 ≤ wl8 1 6) (ih3 : nn4 ≤ n → ∀ (tl5 tl6 : eL) (y1 : Int) (wl8 vl9 : eW), st N cd w v wl8 vl9 0 0 0 (-1) (w 1 13) (v 275 82) (w 1 12) 0 ∧ (0 ≤ y1 ∧ 4 * y1 ≤ wl8 1 6) ∧ (wl8 cd 0 = 0) ∧ (all0 vl9) ∧ (cn1 vl9 = 0) → e_Rn 20 elay ecode eI d' 353 (0, (0, (1, 275)) :: tl6, [], vl9) r' v' → e_Pn 20 elay kcode eI nn4 d 119 (43, (0, (1, 1)) :: (1, (0, y1)) :: tl5, [], wl8) Q) : ∀ nn672 : Nat, nn672 ≤ nq558 → ∀ (tl673 tl674 : eL) (y2 : Int) (wl676 vl677 : eW), st N cd w v wl676 vl677 0 0 0 (-1) (w 1 13) (v 275 82) (w 1 12) 0 ∧ (0 ≤ y2 ∧ y2 + 1 ≤ wl676 1 6) ∧ (wl676 cd 0 = 0) ∧ (all0 vl677) ∧ (cn1 vl677 = 0) ∧ (wl8 1 6 + 3 ≤ wl676 1 6) → e_Rn 20 elay ecode eI d' 353 (25, (0, (1, 275)) :: tl674, [], vl677) r' v' → e_Pn 20 elay kcode eI nn672 dq559 140 (10, (0, (1, 1)) :: (1, (0, y2)) :: tl673, [], wl676) (fun r w' => e_Pn 20 elay kcode eI nn4 d 119 (63, (0, (1, 1)) :: (1, (0, y1)) :: tl5, r ++ [], w') Q) := by
  have h0 := st.refl (ka := 0) hz.1 hz.2.1 hz.2.2.1
  have hm := hz.1.2.2.2.1.1.m
  have hn := hz.1.2.2.2.1.1.n
  have hcd := hz.1.2.2.2.1.1
  have hzo := hz.2.2.2
  have hza : all0 v := fun i i0 i1 => by omega
  have hzc : cn1 v = 0 := by unfold cn1; rw [hz.2.2.2.2.1]; rfl
  have q1 := st.nums h0
  have q1c := q1.2.2.2.1
  intro nn672
  induction nn672 with
  | zero => intro _ tl673 tl674 y2 wl676 vl677 _ _; exact e_Pn.zero
  | succ nn672 ih671 =>
    intro hn tl673 tl674 y2 wl676 vl677 hj675 hM
    obtain ⟨hj675, j678, j679, j680, j681, j682⟩ := hj675
    have q683 := st.nums hj675
    have q683c := q683.2.2.2.1
    refine e_Pn.runS (t' := (14, (0, (1, 1)) :: (1, (0, y2)) :: tl673, [(0, 4000), (0, y2)], wl676)) kAlk 1 rfl ?_
    refine e_Pn.if2 kAlk rfl (fun h684 => ?_) (fun h684 => ?_)
    · replace h684 : (y2 : Int) ≥ 4000 := h684
      exfalso; omega
    · replace h684 : (y2 : Int) < 4000 := by have q : ¬ ((y2 : Int) ≥ 4000) := h684; omega
      refine e_Pn.run (t' := (18, (0, (1, 1)) :: (1, (0, y2)) :: tl673, [(1, 1)], wl676)) kAlk 1 rfl ?_
      refine e_Pn.getf (z := wl676 1 5) kAlk rfl rfl rfl (fun b685 => ?_)
      refine e_Pn.run (t' := (23, (0, (1, 1)) :: (1, (0, y2)) :: tl673, [(0, 18), (0, wl676 1 5)], wl676)) kAlk 1 rfl ?_
      refine e_Pn.if2 kAlk rfl (fun h686 => ?_) (fun h686 => ?_)
      · replace h686 : (wl676 1 5 : Int) ≠ 18 := h686
        refine e_Pn.run (t' := (43, (0, (1, 1)) :: (1, (0, y2)) :: tl673, [(0, 19), (1, 1)], wl676)) kAlk 2 rfl ?_
        replace hM := hM.st (t' := (26, (0, (1, 275)) :: tl674, [(1, 275)], vl677)) (fun _ _ q => e_Pn.run eAlk 1 rfl q)
        obtain ⟨b687, hM⟩ := hM.of (fun _ _ q => e_Pn.getf (z := 0) eAlk rfl rfl hj675.1.2.1.1.2 q)
        rcases hM.or (fun _ _ q1 q2 => e_Pn.if1 eAlk rfl q1 q2) with ⟨h688, hM⟩ | ⟨h688, hM⟩
        · replace h688 : (0 : Int) ≠ 0 := h688
          exfalso; omega
        · replace h688 : (0 : Int) = 0 := by have q : ¬ ((0 : Int) ≠ 0) := h688; omega
          replace hM := hM.st (t' := (35, (0, (1, 275)) :: tl674, [(0, 44), (1, 275)], vl677)) (fun _ _ q => e_Pn.run eAlk 2 rfl q)
          obtain ⟨dc689, r690, v691, hc692, hM⟩ := hM.ca rfl
          obtain ⟨z693, rfl, rfl, z693q⟩ := hc692.pn (fun nq => l_331)
          replace z693q := isS (kM_s44 hj675.1.2.1.2.2.1) rfl rfl z693q
          obtain rfl : z693 = 0 := by omega
          clear z693q
          replace hM : e_Rn 20 elay ecode eI d' 353 (38, (0, (1, 275)) :: tl674, [(0, 0)], vl677) r' v' := hM
          rcases hM.or (fun _ _ q1 q2 => e_Pn.if1 eAlk rfl q1 q2) with ⟨h694, hM⟩ | ⟨h694, hM⟩
          · replace h694 : (0 : Int) = 0 := h694
            replace hM := hM.st (t' := (58, (0, (1, 275)) :: tl674, [(0, 59), (1, 275), (1, 275)], vl677)) (fun _ _ q => e_Pn.run eAlk 3 rfl q)
            obtain ⟨dc695, r696, v697, hc698, hM⟩ := hM.ca rfl
            obtain ⟨z699, rfl, rfl, z699q⟩ := hc698.pn (fun nq => l_331)
            replace z699q := isS (kM_s59 hj675.1.2.1.2.2.1) rfl rfl z699q
            replace hM : e_Rn 20 elay ecode eI d' 353 (61, (0, (1, 275)) :: tl674, [(0, z699), (1, 275)], vl677) r' v' := hM
            obtain ⟨dc700, r701, v702, hc703, hM⟩ := hM.ca rfl
            have uhc703 := hc703.pn (fun nq => u_334 hj675.1.2.2.2.2.1)
            refine e_Pn.callA rfl (fun nq dq => e_Pn.and (t_129b hj675.1.1 hj675.1.2.1 z699q (d' := dc700) hc703) (u_129 hj675.1.2.2.2.1)) (fun r704 w705 h706 => ?_)
            obtain ⟨⟨rfl, rfl, h706⟩, -, h706k⟩ := h706
            rcases h706.symm with h706 | ⟨h706c, h706⟩
            · skip
              replace hM : e_Rn 20 elay ecode eI d' 353 (64, (0, (1, 275)) :: tl674, [], v702) r' v' := hM
              obtain ⟨rfl, m707⟩ := (e_Rn.le eAlk [0] rfl rfl hM).pn (fun nq => v_353_64 (uhc703.2.rf hj675.1.2.2.2.2.1) _  v702 mq.r)
              show e_Pn 20 elay kcode eI nn672 dq559 140 (46, (0, (1, 1)) :: (1, (0, y2)) :: tl673, [], w705) _
              refine e_Pn.ord kAlk [0, 1] rfl rfl ((v_140_46 (h706k.rf hj675.1.2.2.2.1) _ y2 w705 kq.r).imp (fun r709 w710 k708 => ?_))
              obtain ⟨rfl, k708⟩ := k708
              show e_Pn 20 elay kcode eI nn4 d 119 (63, (0, (1, 1)) :: (1, (0, y1)) :: tl5, [], w710) _
              refine e_Pn.ord kAlk [0, 1] rfl rfl ((v_119_63 (k708.rf (h706k.rf hj675.1.2.2.2.1)) (rpF.k h706 k708) _ y1 w710 kq.r).imp (fun r712 w713 k711 => ?_))
              obtain ⟨rfl, k711⟩ := k711
              exact K2 _ (rpF.tail h706 (k708.tr k711) m707)
            clear z699q
            have s714 := st.ad (k := 1) hj675 h706 (st.len1 hj675 (by first | decide | omega)) (by first | decide | omega)
            have s714n := h706.2.2.2.1
            have s714m := st.len1 hj675 (by first | decide | omega)
            have s714x := cn1.E (TK.nm h706)
            have s714y : w705 cd 0 = wl676 cd 0 := h706.2.2.2.2.1 cd 0 (nf3_kRa_cd_0 hcd)
            have s714z := all0.E j680 (TK.nm h706)
            have s714g : w 1 6 + 1 ≤ w705 1 6 := by omega
            have q715 := st.nums s714
            clear q683
            have q715c := q715.2.2.2.1
            show e_Pn 20 elay kcode eI nn672 dq559 140 (46, (0, (1, 1)) :: (1, (0, y2)) :: tl673, [], w705) _
            replace hM : e_Rn 20 elay ecode eI d' 353 (64, (0, (1, 275)) :: tl674, [], v702) r' v' := hM
            refine e_Pn.ret0 rfl ?_
            show e_Pn 20 elay kcode eI nn4 d 119 (63, (0, (1, 1)) :: (1, (0, y1)) :: tl5, [], w705) _
            refine e_Pn.inc (z := y1 + 1) kAlk rfl rfl (by first | decide | omega) (by first | decide | omega) ?_
            show e_Pn 20 elay kcode eI nn4 d 119 (66, (1, (0, y1 + 1)) :: (0, (1, 1)) :: List.filter (e_flt 0 1) tl5, [], w705) _
            refine e_Pn.run (t' := (43, (1, (0, y1 + 1)) :: (0, (1, 1)) :: List.filter (e_flt 0 1) tl5, [], w705)) kAlk 1 rfl ?_
            replace hM := hM.st (t' := (0, (0, (1, 275)) :: tl674, [], v702)) (fun _ _ q => e_Pn.run eAlk 1 rfl q)
            exact e_Pn.ord kAlk [0, 1] rfl rfl (ih3 (by first | decide | omega) _ _ (y1 + 1) w705 v702 ⟨(st.re s714 (by first | decide | omega) (by first | decide | omega) (by first | decide | omega) (by first | decide | omega) (by first | decide | omega)), (by first | decide | omega), (by first | decide | omega), s714z, (by first | decide | omega)⟩ (e_Rn.le eAlk [0] rfl rfl hM))
          · replace h694 : (0 : Int) ≠ 0 := by have q : ¬ ((0 : Int) = 0) := h694; omega
            exfalso; omega
      · replace h686 : (wl676 1 5 : Int) = 18 := by have q : ¬ ((wl676 1 5 : Int) ≠ 18) := h686; omega
        refine e_Pn.run (t' := (27, (0, (1, 1)) :: (1, (0, y2)) :: tl673, [(1, 1)], wl676)) kAlk 1 rfl ?_
        replace hM := hM.st (t' := (26, (0, (1, 275)) :: tl674, [(1, 275)], vl677)) (fun _ _ q => e_Pn.run eAlk 1 rfl q)
        obtain ⟨b716, hM⟩ := hM.of (fun _ _ q => e_Pn.getf (z := 0) eAlk rfl rfl hj675.1.2.1.1.2 q)
        rcases hM.or (fun _ _ q1 q2 => e_Pn.if1 eAlk rfl q1 q2) with ⟨h717, hM⟩ | ⟨h717, hM⟩
        · replace h717 : (0 : Int) ≠ 0 := h717
          exfalso; omega
        · replace h717 : (0 : Int) = 0 := by have q : ¬ ((0 : Int) ≠ 0) := h717; omega
          replace hM := hM.st (t' := (35, (0, (1, 275)) :: tl674, [(0, 44), (1, 275)], vl677)) (fun _ _ q => e_Pn.run eAlk 2 rfl q)
          obtain ⟨dc718, r719, v720, hc721, hM⟩ := hM.ca rfl
          obtain ⟨z722, rfl, rfl, z722q⟩ := hc721.pn (fun nq => l_331)
          replace z722q := isS (kM_s44 hj675.1.2.1.2.2.1) rfl rfl z722q
          obtain rfl : z722 = 1 := by omega
          clear z722q
          replace hM : e_Rn 20 elay ecode eI d' 353 (38, (0, (1, 275)) :: tl674, [(0, 1)], vl677) r' v' := hM
          rcases hM.or (fun _ _ q1 q2 => e_Pn.if1 eAlk rfl q1 q2) with ⟨h723, hM⟩ | ⟨h723, hM⟩
          · replace h723 : (1 : Int) = 0 := h723
            exfalso; omega
          · replace h723 : (1 : Int) ≠ 0 := by have q : ¬ ((1 : Int) = 0) := h723; omega
            replace hM := hM.st (t' := (42, (0, (1, 275)) :: tl674, [(1, 275)], vl677)) (fun _ _ q => e_Pn.run eAlk 1 rfl q)
            obtain ⟨dc724, r725, v726, hc727, hM⟩ := hM.ca rfl
            refine e_Pn.callA rfl (fun nq dq => t_123b hj675.1.1 hj675.1.2.1.1 hj675.1.2.1.2.1.2.1 (st.nx hj675) (d' := dc724) hc727) (fun r728 w729 h730 => ?_)
            obtain ⟨rfl, rfl, h730⟩ := h730
            have s731 := st.ad (k := 1) hj675 h730 (st.len1 hj675 (by first | decide | omega)) (by first | decide | omega)
            have s731n := h730.2.2.2.1
            have s731m := st.len1 hj675 (by first | decide | omega)
            have s731x := cn1.E (TK.nm h730)
            have s731y : w729 cd 0 = wl676 cd 0 := h730.2.2.2.2.1 cd 0 (nf3_kRa_cd_0 hcd)
            have s731z := all0.E j680 (TK.nm h730)
            have s731g : w 1 6 + 1 ≤ w729 1 6 := by omega
            have q732 := st.nums s731
            clear q683
            have q732c := q732.2.2.2.1
            show e_Pn 20 elay kcode eI nn672 dq559 140 (30, (0, (1, 1)) :: (1, (0, y2)) :: tl673, [], w729) _
            replace hM : e_Rn 20 elay ecode eI d' 353 (45, (0, (1, 275)) :: tl674, [], v726) r' v' := hM
            refine e_Pn.run (t' := (31, (0, (1, 1)) :: (1, (0, y2)) :: tl673, [(1, 1)], w729)) kAlk 1 rfl ?_
            refine e_Pn.callI rfl (fun nq733 dq734 => ?_)
            show e_Pn 20 elay kcode eI nq733 dq734 141 (0, [(0, (1, 1))], [], w729) _
            refine e_Pn.run (t' := (1, [(0, (1, 1))], [(1, 1)], w729)) kAlk 1 rfl ?_
            refine e_Pn.getf (z := w729 1 5) kAlk rfl rfl rfl (fun b735 => ?_)
            refine e_Pn.run (t' := (5, [(0, (1, 1))], [(0, 1), (0, w729 1 5)], w729)) kAlk 1 rfl ?_
            refine e_Pn.if2 kAlk rfl (fun h736 => ?_) (fun h736 => ?_)
            · replace h736 : (w729 1 5 : Int) ≠ 1 := h736
              refine e_Pn.run (t' := (68, [(0, (1, 1))], [(0, 1), (1, 1)], w729)) kAlk 2 rfl ?_
              replace hM := hM.st (t' := (48, (0, (1, 275)) :: tl674, [(0, 0), (0, 0), (1, 275)], v726)) (fun _ _ q => e_Pn.run eAlk 3 rfl q)
              obtain ⟨dhc737, r738, v739, hc737, hM⟩ := hM.ca rfl
              replace hc737 : e_Rn 20 elay ecode eI dhc737 338 (0, [(0, (1, 275)), (1, (0, 0)), (2, (0, 0))], [], v726) r738 v739 := hc737
              replace hc737 := hc737.st (t' := (1, [(0, (1, 275)), (1, (0, 0)), (2, (0, 0))], [(1, 275)], v726)) (fun _ _ q => e_Pn.run eAlk 1 rfl q)
              obtain ⟨b740, hc737⟩ := hc737.of (fun _ _ q => e_Pn.getf (z := 0) eAlk rfl rfl s731.1.2.1.1.2 q)
              rcases hc737.or (fun _ _ q1 q2 => e_Pn.if1 eAlk rfl q1 q2) with ⟨h741, hc737⟩ | ⟨h741, hc737⟩
              · replace h741 : (0 : Int) ≠ 0 := h741
                exfalso; omega
              · replace h741 : (0 : Int) = 0 := by have q : ¬ ((0 : Int) ≠ 0) := h741; omega
                have kw742 : (w729 1 5 : Int) ≠ 1 := fun e9 => absurd (kM_k1 s731.1.2.1.2.2.1 e9) (by first | decide | omega)
                replace hc737 := hc737.st (t' := (8, [(0, (1, 275)), (1, (0, 0)), (2, (0, 0))], [(1, 275)], v726)) (fun _ _ q => e_Pn.run eAlk 1 rfl q)
                obtain ⟨b743, hc737⟩ := hc737.of (fun _ _ q => e_Pn.getf (z := v726 275 84) eAlk rfl rfl rfl q)
                replace hc737 := hc737.st (t' := (12, [(0, (1, 275)), (1, (0, 0)), (2, (0, 0))], [(0, 1), (0, v726 275 84)], v726)) (fun _ _ q => e_Pn.run eAlk 1 rfl q)
                rcases hc737.or (fun _ _ q1 q2 => e_Pn.if2 eAlk rfl q1 q2) with ⟨h744, hc737⟩ | ⟨h744, hc737⟩
                · replace h744 : (v726 275 84 : Int) ≠ 1 := h744
                  replace hc737 := hc737.st (t' := (78, [(0, (1, 275)), (1, (0, 0)), (2, (0, 0))], [(1, 275), (1, 275)], v726)) (fun _ _ q => e_Pn.run eAlk 2 rfl q)
                  obtain ⟨b745, hc737⟩ := hc737.of (fun _ _ q => e_Pn.getf (z := v726 275 84) eAlk rfl rfl rfl q)
                  replace hc737 := hc737.st (t' := (82, [(0, (1, 275)), (1, (0, 0)), (2, (0, 0))], [(0, 1), (0, v726 275 84), (1, 275)], v726)) (fun _ _ q => e_Pn.run eAlk 1 rfl q)
                  rcases hc737.or (fun _ _ q1 q2 => e_Pn.if2 eAlk rfl q1 q2) with ⟨h746, hc737⟩ | ⟨h746, hc737⟩
                  · replace h746 : (v726 275 84 : Int) ≠ 1 := h746
                    replace hc737 := hc737.st (t' := (90, [(0, (1, 275)), (1, (0, 0)), (2, (0, 0))], [(0, 0), (1, 275)], v726)) (fun _ _ q => e_Pn.run eAlk 1 rfl q)
                    obtain ⟨dc747, r748, v749, hc750, hc737⟩ := hc737.ca rfl
                    have uhc750 := hc750.pn (fun nq => u_334 s731.1.2.2.2.2.1)
                    refine e_Pn.callA rfl (fun nq dq => e_Pn.and (t_129b s731.1.1 s731.1.2.1 (by first | decide | omega) (d' := dc747) hc750) (u_129 s731.1.2.2.2.1)) (fun r751 w752 h753 => ?_)
                    obtain ⟨⟨rfl, rfl, h753⟩, -, h753k⟩ := h753
                    rcases h753.symm with h753 | ⟨h753c, h753⟩
                    · skip
                      replace hc737 : e_Rn 20 elay ecode eI dhc737 338 (93, [(0, (1, 275)), (1, (0, 0)), (2, (0, 0))], [], v749) r738 v739 := hc737
                      obtain ⟨rfl, m754⟩ := (e_Rn.le eAlk [0, 1, 2] rfl rfl hc737).pn (fun nq => v_338_93 (uhc750.2.rf s731.1.2.2.2.2.1) _ 0 0 v749 mq.r)
                      replace hM : e_Rn 20 elay ecode eI d' 353 (51, (0, (1, 275)) :: tl674, [], v739) r' v' := hM
                      obtain ⟨rfl, m755⟩ := (e_Rn.le eAlk [0] rfl rfl hM).pn (fun nq => v_353_51 (m754.rf (uhc750.2.rf s731.1.2.2.2.2.1)) _  v739 mq.r)
                      show e_Pn 20 elay kcode eI nq733 dq734 141 (71, [(0, (1, 1))], [], w752) _
                      refine e_Pn.ord kAlk [0] rfl rfl ((v_141_71 (h753k.rf s731.1.2.2.2.1) _  w752 kq.r).imp (fun r757 w758 k756 => ?_))
                      obtain ⟨rfl, k756⟩ := k756
                      show e_Pn 20 elay kcode eI nn672 dq559 140 (34, (0, (1, 1)) :: (1, (0, y2)) :: tl673, [], w758) _
                      refine e_Pn.ord kAlk [0, 1] rfl rfl ((v_140_34 (k756.rf (h753k.rf s731.1.2.2.2.1)) _ y2 w758 kq.r).imp (fun r760 w761 k759 => ?_))
                      obtain ⟨rfl, k759⟩ := k759
                      show e_Pn 20 elay kcode eI nn4 d 119 (63, (0, (1, 1)) :: (1, (0, y1)) :: tl5, [], w761) _
                      refine e_Pn.ord kAlk [0, 1] rfl rfl ((v_119_63 (k759.rf (k756.rf (h753k.rf s731.1.2.2.2.1))) (rpF.k h753 (k756.tr k759)) _ y1 w761 kq.r).imp (fun r763 w764 k762 => ?_))
                      obtain ⟨rfl, k762⟩ := k762
                      exact K2 _ (rpF.tail h753 ((k756.tr k759).tr k762) (m754.tr m755))
                    exfalso; omega
                  · replace h746 : (v726 275 84 : Int) = 1 := by have q : ¬ ((v726 275 84 : Int) ≠ 1) := h746; omega
                    exfalso; omega
                · replace h744 : (v726 275 84 : Int) = 1 := by have q : ¬ ((v726 275 84 : Int) ≠ 1) := h744; omega
                  exact (kM_no s731.1.2.1.2.2.1 (fun a b => decide ((a : Int) ≠ 1) && decide ((b : Int) = 1)) (fun a b c => true) (by decide) (by decide) (by simp only [Bool.and_eq_true, decide_eq_true_eq]; exact ⟨h736, h744⟩) rfl).elim
            · replace h736 : (w729 1 5 : Int) = 1 := by have q : ¬ ((w729 1 5 : Int) ≠ 1) := h736; omega
              refine e_Pn.run (t' := (9, [(0, (1, 1))], [(1, 1)], w729)) kAlk 1 rfl ?_
              have hOw766 := NR.names s731.2.1 (by first | decide | omega)
              refine e_Pn.callA rfl (fun nq dq => l_139 s731.1.2.2.2.1 s731.1.1.2.2.1 s731.1.1.2.2.2.1 s731.1.1.1.1 (by first | decide | omega) hOw766.1 hOw766.2 (NR.v32 s731.2.1) (NR.r500 s731.2.1)) (fun r765 w766 h767 => ?_)
              obtain ⟨rfl, w766c⟩ := h767
              replace w766c := chkQ.of w766c
              have w766f := chkQ.fr w766c
              have w766k := kRw.rc s731.1.2.2.2.1 w766f
              have w766l : 0 ≤ w766 cd 0 ∧ w766 cd 0 ≤ 4000 := by rw [w766f cd 0 (by unfold kRc; omega)]; exact s731.1.2.2.2.2.2.1
              have w766e : w766 1 5 = w729 1 5 ∧ w766 1 6 = w729 1 6 ∧ w766 1 8 = w729 1 8 := ⟨w766f 1 5 (by unfold kRc; omega), w766f 1 6 (by unfold kRc; omega), w766f 1 8 (by unfold kRc; omega)⟩
              show e_Pn 20 elay kcode eI nq733 dq734 141 (12, [(0, (1, 1))], [], w766) _
              refine e_Pn.run (t' := (13, [(0, (1, 1))], [(1, 1)], w766)) kAlk 1 rfl ?_
              refine e_Pn.getr (z := cd) kAlk rfl rfl ((w766f 1 3 (by unfold kRc; omega)).trans s731.1.2.2.2.1.2.1) (by first | decide | omega) ?_
              refine e_Pn.getf (z := w729 cd 2) kAlk rfl rfl ((w766f cd 2 (by unfold kRc; omega)).trans rfl) (fun b768 => ?_)
              refine e_Pn.run (t' := (21, [(0, (1, 1))], [(0, 32), (0, w729 cd 2)], w766)) kAlk 1 rfl ?_
              refine e_Pn.if2 kAlk rfl (fun h769 => ?_) (fun h769 => ?_)
              · replace h769 : (w729 cd 2 : Int) ≥ 32 := h769
                refine e_Pn.run (t' := (60, [(0, (1, 1))], [(1, 1), (0, 7), (1, 1)], w766)) kAlk 3 rfl ?_
                refine e_Pn.getf (z := w729 1 6) kAlk rfl rfl ((w766f 1 6 (by unfold kRc; omega)).trans rfl) (fun b770 => ?_)
                refine e_Pn.callA rfl (fun nq dq => l_133) (fun r771 w772 h773 => ?_)
                obtain ⟨rfl, w772c⟩ := h773
                have w772f := cplQ.fr w772c
                have w772k := kRw.rc w766k w772f
                have w772l : 0 ≤ w772 cd 0 ∧ w772 cd 0 ≤ 4000 := by rw [w772f cd 0 (by unfold kRc; omega)]; exact w766l
                have w772e : w772 1 5 = w766 1 5 ∧ w772 1 6 = w766 1 6 ∧ w772 1 8 = w766 1 8 := ⟨w772f 1 5 (by unfold kRc; omega), w772f 1 6 (by unfold kRc; omega), w772f 1 8 (by unfold kRc; omega)⟩
                show e_Pn 20 elay kcode eI nq733 dq734 141 (66, [(0, (1, 1))], [], w772) _
                refine e_Pn.run (t' := (68, [(0, (1, 1))], [(0, 1), (1, 1)], w772)) kAlk 2 rfl ?_
                replace hM := hM.st (t' := (48, (0, (1, 275)) :: tl674, [(0, 0), (0, 0), (1, 275)], v726)) (fun _ _ q => e_Pn.run eAlk 3 rfl q)
                obtain ⟨dhc774, r775, v776, hc774, hM⟩ := hM.ca rfl
                replace hc774 : e_Rn 20 elay ecode eI dhc774 338 (0, [(0, (1, 275)), (1, (0, 0)), (2, (0, 0))], [], v726) r775 v776 := hc774
                replace hc774 := hc774.st (t' := (1, [(0, (1, 275)), (1, (0, 0)), (2, (0, 0))], [(1, 275)], v726)) (fun _ _ q => e_Pn.run eAlk 1 rfl q)
                obtain ⟨b777, hc774⟩ := hc774.of (fun _ _ q => e_Pn.getf (z := 0) eAlk rfl rfl s731.1.2.1.1.2 q)
                rcases hc774.or (fun _ _ q1 q2 => e_Pn.if1 eAlk rfl q1 q2) with ⟨h778, hc774⟩ | ⟨h778, hc774⟩
                · replace h778 : (0 : Int) ≠ 0 := h778
                  exfalso; omega
                · replace h778 : (0 : Int) = 0 := by have q : ¬ ((0 : Int) ≠ 0) := h778; omega
                  replace hc774 := hc774.st (t' := (8, [(0, (1, 275)), (1, (0, 0)), (2, (0, 0))], [(1, 275)], v726)) (fun _ _ q => e_Pn.run eAlk 1 rfl q)
                  obtain ⟨b779, hc774⟩ := hc774.of (fun _ _ q => e_Pn.getf (z := 1) eAlk rfl rfl (kM_k1 s731.1.2.1.2.2.1 (by first | decide | omega)) q)
                  replace hc774 := hc774.st (t' := (12, [(0, (1, 275)), (1, (0, 0)), (2, (0, 0))], [(0, 1), (0, 1)], v726)) (fun _ _ q => e_Pn.run eAlk 1 rfl q)
                  rcases hc774.or (fun _ _ q1 q2 => e_Pn.if2 eAlk rfl q1 q2) with ⟨h780, hc774⟩ | ⟨h780, hc774⟩
                  · replace h780 : (1 : Int) ≠ 1 := h780
                    exfalso; omega
                  · replace h780 : (1 : Int) = 1 := by have q : ¬ ((1 : Int) ≠ 1) := h780; omega
                    replace hc774 := hc774.st (t' := (16, [(0, (1, 275)), (1, (0, 0)), (2, (0, 0))], [(1, 275)], v726)) (fun _ _ q => e_Pn.run eAlk 1 rfl q)
                    replace hc774 := hc774.st (fun _ _ q => e_Pn.getr (z := 341) eAlk rfl rfl (s731.1.2.2.2.2.1 (90, 341) (by decide)) (by first | decide | omega) q)
                    replace hc774 := hc774.st (t' := (20, [(0, (1, 275)), (1, (0, 0)), (2, (0, 0))], [(1, 275), (1, 341)], v726)) (fun _ _ q => e_Pn.run eAlk 1 rfl q)
                    obtain ⟨b781, hc774⟩ := hc774.of (fun _ _ q => e_Pn.getf (z := v726 275 94) eAlk rfl rfl rfl q)
                    replace hc774 := hc774.st (t' := (24, [(0, (1, 275)), (1, (0, 0)), (2, (0, 0))], [(0, 0), (0, v726 275 94), (1, 341)], v726)) (fun _ _ q => e_Pn.run eAlk 1 rfl q)
                    obtain ⟨b782, b783, hc774⟩ := hc774.of2 (fun _ _ q => e_Pn.ast eAlk rfl rfl rfl q)
                    generalize hv784 : e_up v726 341 (v726 275 94) 0 = v784 at hc774
                    have v784m := mRw.upd hv784 (fun _ => by first | decide | omega) s731.1.2.2.2.2.1
                    replace hc774 := hc774.st (t' := (26, [(0, (1, 275)), (1, (0, 0)), (2, (0, 0))], [(1, 275)], v784)) (fun _ _ q => e_Pn.run eAlk 1 rfl q)
                    replace hc774 := hc774.st (fun _ _ q => e_Pn.getr (z := 342) eAlk rfl rfl (by rw [← hv784]; exact (e_up_ne _ _ (Or.inl (by first | decide | omega))).trans (s731.1.2.2.2.2.1 (91, 342) (by decide))) (by first | decide | omega) q)
                    replace hc774 := hc774.st (t' := (30, [(0, (1, 275)), (1, (0, 0)), (2, (0, 0))], [(1, 275), (1, 342)], v784)) (fun _ _ q => e_Pn.run eAlk 1 rfl q)
                    obtain ⟨b785, hc774⟩ := hc774.of (fun _ _ q => e_Pn.getf (z := v726 275 94) eAlk rfl rfl (by rw [← hv784]; exact (e_up_ne _ _ (Or.inl (by first | decide | omega))).trans rfl) q)
                    replace hc774 := hc774.st (t' := (34, [(0, (1, 275)), (1, (0, 0)), (2, (0, 0))], [(1, 275), (0, v726 275 94), (1, 342)], v784)) (fun _ _ q => e_Pn.run eAlk 1 rfl q)
                    obtain ⟨b786, hc774⟩ := hc774.of (fun _ _ q => e_Pn.getf (z := v726 275 86) eAlk rfl rfl (by rw [← hv784]; exact (e_up_ne _ _ (Or.inl (by first | decide | omega))).trans rfl) q)
                    obtain ⟨b787, b788, hc774⟩ := hc774.of2 (fun _ _ q => e_Pn.ast eAlk rfl rfl rfl q)
                    generalize hv789 : e_up v784 342 (v726 275 94) (v726 275 86) = v789 at hc774
                    have v789m := mRw.upd hv789 (fun _ => by first | decide | omega) v784m
                    replace hc774 := hc774.st (t' := (39, [(0, (1, 275)), (1, (0, 0)), (2, (0, 0))], [(1, 275)], v789)) (fun _ _ q => e_Pn.run eAlk 1 rfl q)
                    replace hc774 := hc774.st (fun _ _ q => e_Pn.getr (z := 343) eAlk rfl rfl (by rw [← hv789]; exact (e_up_ne _ _ (Or.inl (by first | decide | omega))).trans (by rw [← hv784]; exact (e_up_ne _ _ (Or.inl (by first | decide | omega))).trans (s731.1.2.2.2.2.1 (92, 343) (by decide)))) (by first | decide | omega) q)
                    replace hc774 := hc774.st (t' := (43, [(0, (1, 275)), (1, (0, 0)), (2, (0, 0))], [(1, 275), (1, 343)], v789)) (fun _ _ q => e_Pn.run eAlk 1 rfl q)
                    obtain ⟨b790, hc774⟩ := hc774.of (fun _ _ q => e_Pn.getf (z := v726 275 94) eAlk rfl rfl (by rw [← hv789]; exact (e_up_ne _ _ (Or.inl (by first | decide | omega))).trans (by rw [← hv784]; exact (e_up_ne _ _ (Or.inl (by first | decide | omega))).trans rfl)) q)
                    replace hc774 := hc774.st (t' := (47, [(0, (1, 275)), (1, (0, 0)), (2, (0, 0))], [(1, 275), (0, v726 275 94), (1, 343)], v789)) (fun _ _ q => e_Pn.run eAlk 1 rfl q)
                    obtain ⟨b791, hc774⟩ := hc774.of (fun _ _ q => e_Pn.getf (z := v726 275 87) eAlk rfl rfl (by rw [← hv789]; exact (e_up_ne _ _ (Or.inl (by first | decide | omega))).trans (by rw [← hv784]; exact (e_up_ne _ _ (Or.inl (by first | decide | omega))).trans rfl)) q)
                    replace hc774 := hc774.st (t' := (51, [(0, (1, 275)), (1, (0, 0)), (2, (0, 0))], [(1, 275), (0, v726 275 87), (0, v726 275 94), (1, 343)], v789)) (fun _ _ q => e_Pn.run eAlk 1 rfl q)
                    obtain ⟨b792, hc774⟩ := hc774.of (fun _ _ q => e_Pn.getf (z := v726 275 86) eAlk rfl rfl (by rw [← hv789]; exact (e_up_ne _ _ (Or.inl (by first | decide | omega))).trans (by rw [← hv784]; exact (e_up_ne _ _ (Or.inl (by first | decide | omega))).trans rfl)) q)
                    replace hc774 := hc774.st (fun _ _ q => e_Pn.sub' (z := v726 275 87 - v726 275 86) eAlk rfl (by first | decide | omega) (by first | decide | omega) q)
                    obtain ⟨b793, b794, hc774⟩ := hc774.of2 (fun _ _ q => e_Pn.ast eAlk rfl rfl rfl q)
                    generalize hv795 : e_up v789 343 (v726 275 94) (v726 275 87 - v726 275 86) = v795 at hc774
                    have v795m := mRw.upd hv795 (fun _ => by first | decide | omega) v789m
                    replace hc774 := hc774.st (t' := (57, [(0, (1, 275)), (1, (0, 0)), (2, (0, 0))], [(1, 275)], v795)) (fun _ _ q => e_Pn.run eAlk 1 rfl q)
                    replace hc774 := hc774.st (fun _ _ q => e_Pn.getr (z := 344) eAlk rfl rfl (by rw [← hv795]; exact (e_up_ne _ _ (Or.inl (by first | decide | omega))).trans (by rw [← hv789]; exact (e_up_ne _ _ (Or.inl (by first | decide | omega))).trans (by rw [← hv784]; exact (e_up_ne _ _ (Or.inl (by first | decide | omega))).trans (s731.1.2.2.2.2.1 (93, 344) (by decide))))) (by first | decide | omega) q)
                    replace hc774 := hc774.st (t' := (61, [(0, (1, 275)), (1, (0, 0)), (2, (0, 0))], [(1, 275), (1, 344)], v795)) (fun _ _ q => e_Pn.run eAlk 1 rfl q)
                    obtain ⟨b796, hc774⟩ := hc774.of (fun _ _ q => e_Pn.getf (z := v726 275 94) eAlk rfl rfl (by rw [← hv795]; exact (e_up_ne _ _ (Or.inl (by first | decide | omega))).trans (by rw [← hv789]; exact (e_up_ne _ _ (Or.inl (by first | decide | omega))).trans (by rw [← hv784]; exact (e_up_ne _ _ (Or.inl (by first | decide | omega))).trans rfl))) q)
                    replace hc774 := hc774.st (t' := (65, [(0, (1, 275)), (1, (0, 0)), (2, (0, 0))], [(0, 0), (0, v726 275 94), (1, 344)], v795)) (fun _ _ q => e_Pn.run eAlk 1 rfl q)
                    obtain ⟨b797, b798, hc774⟩ := hc774.of2 (fun _ _ q => e_Pn.ast eAlk rfl rfl rfl q)
                    generalize hv799 : e_up v795 344 (v726 275 94) 0 = v799 at hc774
                    have v799m := mRw.upd hv799 (fun _ => by first | decide | omega) v795m
                    replace hc774 := hc774.st (t' := (68, [(0, (1, 275)), (1, (0, 0)), (2, (0, 0))], [(1, 275), (1, 275)], v799)) (fun _ _ q => e_Pn.run eAlk 2 rfl q)
                    obtain ⟨b800, hc774⟩ := hc774.of (fun _ _ q => e_Pn.getf (z := v726 275 94) eAlk rfl rfl (by rw [← hv799]; exact (e_up_ne _ _ (Or.inl (by first | decide | omega))).trans (by rw [← hv795]; exact (e_up_ne _ _ (Or.inl (by first | decide | omega))).trans (by rw [← hv789]; exact (e_up_ne _ _ (Or.inl (by first | decide | omega))).trans (by rw [← hv784]; exact (e_up_ne _ _ (Or.inl (by first | decide | omega))).trans rfl)))) q)
                    replace hc774 := hc774.st (t' := (72, [(0, (1, 275)), (1, (0, 0)), (2, (0, 0))], [(0, 1), (0, v726 275 94), (1, 275)], v799)) (fun _ _ q => e_Pn.run eAlk 1 rfl q)
                    replace hc774 := hc774.st (fun _ _ q => e_Pn.add (z := v726 275 94 + 1) eAlk rfl (by first | decide | omega) (by first | decide | omega) q)
                    replace hc774 := hc774.st (fun _ _ q => e_Pn.putf eAlk rfl rfl q)
                    generalize hv801 : e_up v799 275 94 (v726 275 94 + 1) = v801 at hc774
                    have v801m := mRw.upd hv801 (fun _ => by first | decide | omega) v799m
                    replace hc774 := hc774.st (t' := (78, [(0, (1, 275)), (1, (0, 0)), (2, (0, 0))], [(1, 275), (1, 275)], v801)) (fun _ _ q => e_Pn.run eAlk 2 rfl q)
                    obtain ⟨b802, hc774⟩ := hc774.of (fun _ _ q => e_Pn.getf (z := 1) eAlk rfl rfl (by rw [← hv801]; exact (e_up_ne _ _ (Or.inr (by first | decide | omega))).trans (by rw [← hv799]; exact (e_up_ne _ _ (Or.inl (by first | decide | omega))).trans (by rw [← hv795]; exact (e_up_ne _ _ (Or.inl (by first | decide | omega))).trans (by rw [← hv789]; exact (e_up_ne _ _ (Or.inl (by first | decide | omega))).trans (by rw [← hv784]; exact (e_up_ne _ _ (Or.inl (by first | decide | omega))).trans (kM_k1 s731.1.2.1.2.2.1 (by first | decide | omega))))))) q)
                    replace hc774 := hc774.st (t' := (82, [(0, (1, 275)), (1, (0, 0)), (2, (0, 0))], [(0, 1), (0, 1), (1, 275)], v801)) (fun _ _ q => e_Pn.run eAlk 1 rfl q)
                    rcases hc774.or (fun _ _ q1 q2 => e_Pn.if2 eAlk rfl q1 q2) with ⟨h803, hc774⟩ | ⟨h803, hc774⟩
                    · replace h803 : (1 : Int) ≠ 1 := h803
                      exfalso; omega
                    · replace h803 : (1 : Int) = 1 := by have q : ¬ ((1 : Int) ≠ 1) := h803; omega
                      replace hc774 := hc774.st (t' := (90, [(0, (1, 275)), (1, (0, 0)), (2, (0, 0))], [(0, 1), (1, 275)], v801)) (fun _ _ q => e_Pn.run eAlk 2 rfl q)
                      have as80494 : v726 275 94 = v726 275 94 := rfl
                      have as80486 : v726 275 86 = v726 275 86 := rfl
                      have as80487 : v726 275 87 = v726 275 87 := rfl
                      obtain ⟨as804, as804g⟩ := nmA.mk hv784 hv789 hv795 hv799 hv801 (by first | decide | omega) (by first | decide | omega)
                      obtain ⟨s804, s804z⟩ := st.var (by decide) s731 (by first | decide | omega) s731z w766c (Or.inr ⟨by rw [(show w766 cd 2 = w729 cd 2 from ((w766f cd 2 (by unfold kRc; omega)).trans rfl))]; omega, w772c⟩) as804 (by first | decide | omega) (by first | decide | omega) as804g
                      have s804x := cn1.A0 as804 (by first | decide | omega)
                      have s804c : w772 cd 0 = w729 cd 0 ∧ w772 1 6 = w729 1 6 := ⟨((w772f cd 0 (by unfold kRc; omega)).trans ((w766f cd 0 (by unfold kRc; omega)).trans rfl)), ((w772f 1 6 (by unfold kRc; omega)).trans ((w766f 1 6 (by unfold kRc; omega)).trans rfl))⟩
                      have q805 := st.nums s804
                      clear q732
                      have q805c := q805.2.2.2.1
                      obtain ⟨dc806, r807, v808, hc809, hc774⟩ := hc774.ca rfl
                      have uhc809 := hc809.pn (fun nq => u_334 s804.1.2.2.2.2.1)
                      refine e_Pn.callA rfl (fun nq dq => e_Pn.and (t_129b s804.1.1 s804.1.2.1 (by first | decide | omega) (d' := dc806) hc809) (u_129 s804.1.2.2.2.1)) (fun r810 w811 h812 => ?_)
                      obtain ⟨⟨rfl, rfl, h812⟩, -, h812k⟩ := h812
                      rcases h812.symm with h812 | ⟨h812c, h812⟩
                      · skip
                        replace hc774 : e_Rn 20 elay ecode eI dhc774 338 (93, [(0, (1, 275)), (1, (0, 0)), (2, (0, 0))], [], v808) r775 v776 := hc774
                        obtain ⟨rfl, m813⟩ := (e_Rn.le eAlk [0, 1, 2] rfl rfl hc774).pn (fun nq => v_338_93 (uhc809.2.rf s804.1.2.2.2.2.1) _ 0 0 v808 mq.r)
                        replace hM : e_Rn 20 elay ecode eI d' 353 (51, (0, (1, 275)) :: tl674, [], v776) r' v' := hM
                        obtain ⟨rfl, m814⟩ := (e_Rn.le eAlk [0] rfl rfl hM).pn (fun nq => v_353_51 (m813.rf (uhc809.2.rf s804.1.2.2.2.2.1)) _  v776 mq.r)
                        show e_Pn 20 elay kcode eI nq733 dq734 141 (71, [(0, (1, 1))], [], w811) _
                        refine e_Pn.ord kAlk [0] rfl rfl ((v_141_71 (h812k.rf s804.1.2.2.2.1) _  w811 kq.r).imp (fun r816 w817 k815 => ?_))
                        obtain ⟨rfl, k815⟩ := k815
                        show e_Pn 20 elay kcode eI nn672 dq559 140 (34, (0, (1, 1)) :: (1, (0, y2)) :: tl673, [], w817) _
                        refine e_Pn.ord kAlk [0, 1] rfl rfl ((v_140_34 (k815.rf (h812k.rf s804.1.2.2.2.1)) _ y2 w817 kq.r).imp (fun r819 w820 k818 => ?_))
                        obtain ⟨rfl, k818⟩ := k818
                        show e_Pn 20 elay kcode eI nn4 d 119 (63, (0, (1, 1)) :: (1, (0, y1)) :: tl5, [], w820) _
                        refine e_Pn.ord kAlk [0, 1] rfl rfl ((v_119_63 (k818.rf (k815.rf (h812k.rf s804.1.2.2.2.1))) (rpF.k h812 (k815.tr k818)) _ y1 w820 kq.r).imp (fun r822 w823 k821 => ?_))
                        obtain ⟨rfl, k821⟩ := k821
                        exact K2 _ (rpF.tail h812 ((k815.tr k818).tr k821) (m813.tr m814))
                      have s824 := st.ad (k := 1) s804 h812 (st.len1 s804 (by first | decide | omega)) (by first | decide | omega)
                      have s824n := h812.2.2.2.1
                      have s824m := st.len1 s804 (by first | decide | omega)
                      have s824x := cn1.E (TK.nm h812)
                      have s824y : w811 cd 0 = w772 cd 0 := h812.2.2.2.2.1 cd 0 (nf3_kRa_cd_0 hcd)
                      have s824z := all0.E s804z (TK.nm h812)
                      have s824g : w 1 6 + 1 ≤ w811 1 6 := by omega
                      have q825 := st.nums s824
                      clear q805
                      have q825c := q825.2.2.2.1
                      show e_Pn 20 elay kcode eI nq733 dq734 141 (71, [(0, (1, 1))], [], w811) _
                      replace hc774 : e_Rn 20 elay ecode eI dhc774 338 (93, [(0, (1, 275)), (1, (0, 0)), (2, (0, 0))], [], v808) r775 v776 := hc774
                      refine e_Pn.ret0 rfl ?_
                      show e_Pn 20 elay kcode eI nn672 dq559 140 (34, (0, (1, 1)) :: (1, (0, y2)) :: tl673, [], w811) _
                      refine e_Pn.inc (z := y2 + 1) kAlk rfl rfl (by first | decide | omega) (by first | decide | omega) ?_
                      show e_Pn 20 elay kcode eI nn672 dq559 140 (37, (1, (0, y2 + 1)) :: (0, (1, 1)) :: List.filter (e_flt 0 1) tl673, [], w811) _
                      refine e_Pn.run (t' := (10, (1, (0, y2 + 1)) :: (0, (1, 1)) :: List.filter (e_flt 0 1) tl673, [], w811)) kAlk 1 rfl ?_
                      obtain ⟨rfl, rfl⟩ := hc774.re0 rfl
                      replace hM : e_Rn 20 elay ecode eI d' 353 (51, (0, (1, 275)) :: tl674, [], v808) r' v' := hM
                      replace hM := hM.st (t' := (25, (0, (1, 275)) :: tl674, [], v808)) (fun _ _ q => e_Pn.run eAlk 1 rfl q)
                      exact e_Pn.ord kAlk [0, 1] rfl rfl (ih671 (by first | decide | omega) _ _ (y2 + 1) w811 v808 ⟨(st.re s824 (by first | decide | omega) (by first | decide | omega) (by first | decide | omega) (by first | decide | omega) (by first | decide | omega)), (by first | decide | omega), (by first | decide | omega), s824z, (by first | decide | omega), (by first | decide | omega)⟩ (e_Rn.le eAlk [0] rfl rfl hM))
              · replace h769 : (w729 cd 2 : Int) < 32 := by have q : ¬ ((w729 cd 2 : Int) ≥ 32) := h769; omega
                refine e_Pn.run (t' := (25, [(0, (1, 1))], [(1, 1)], w766)) kAlk 1 rfl ?_
                refine e_Pn.getr (z := 6) kAlk rfl rfl ((w766f 1 15 (by unfold kRc; omega)).trans s731.1.2.2.2.1.2.2.2.1) (by first | decide | omega) ?_
                refine e_Pn.run (t' := (29, [(0, (1, 1))], [(1, 1), (1, 6)], w766)) kAlk 1 rfl ?_
                refine e_Pn.getr (z := cd) kAlk rfl rfl ((w766f 1 3 (by unfold kRc; omega)).trans s731.1.2.2.2.1.2.1) (by first | decide | omega) ?_
                refine e_Pn.getf (z := w729 cd 2) kAlk rfl rfl ((w766f cd 2 (by unfold kRc; omega)).trans rfl) (fun b826 => ?_)
                refine e_Pn.run (t' := (36, [(0, (1, 1))], [(1, 1), (0, w729 cd 2), (1, 6)], w766)) kAlk 1 rfl ?_
                refine e_Pn.getf (z := w729 1 6) kAlk rfl rfl ((w766f 1 6 (by unfold kRc; omega)).trans rfl) (fun b827 => ?_)
                refine e_Pn.ast kAlk rfl rfl rfl (fun b828 b829 => ?_)
                generalize hw830 : e_up w766 6 (w729 cd 2) (w729 1 6) = w830
                have w830g : e_fr (kVs cd) w766 w830 := e_fr.up (e_fr.refl w766) hw830 (by unfold kVs; omega)
                have w830k := kRw.vs w766k w830g
                have w830l : 0 ≤ w830 cd 0 ∧ w830 cd 0 ≤ 4000 := by rw [w830g cd 0 (by unfold kVs; omega)]; exact w766l
                have w830e : w830 1 5 = w766 1 5 ∧ w830 1 6 = w766 1 6 ∧ w830 1 8 = w766 1 8 := ⟨w830g 1 5 (by unfold kVs; omega), w830g 1 6 (by unfold kVs; omega), w830g 1 8 (by unfold kVs; omega)⟩
                refine e_Pn.run (t' := (41, [(0, (1, 1))], [(1, 1)], w830)) kAlk 1 rfl ?_
                refine e_Pn.getr (z := cd) kAlk rfl rfl (by rw [← hw830]; exact (e_up_ne _ _ (Or.inl (by first | decide | omega))).trans ((w766f 1 3 (by unfold kRc; omega)).trans s731.1.2.2.2.1.2.1)) (by first | decide | omega) ?_
                refine e_Pn.run (t' := (45, [(0, (1, 1))], [(1, cd), (1, cd)], w830)) kAlk 1 rfl ?_
                refine e_Pn.getf (z := w729 cd 2) kAlk rfl rfl (by rw [← hw830]; exact (e_up_ne _ _ (Or.inl (by first | decide | omega))).trans ((w766f cd 2 (by unfold kRc; omega)).trans rfl)) (fun b831 => ?_)
                refine e_Pn.run (t' := (49, [(0, (1, 1))], [(0, 1), (0, w729 cd 2), (1, cd)], w830)) kAlk 1 rfl ?_
                refine e_Pn.add (z := w729 cd 2 + 1) kAlk rfl (by first | decide | omega) (by first | decide | omega) ?_
                refine e_Pn.putf kAlk rfl rfl ?_
                generalize hw832 : e_up w830 cd 2 (w729 cd 2 + 1) = w832
                have w832g : e_fr (kVs cd) w830 w832 := e_fr.up (e_fr.refl w830) hw832 (by unfold kVs; omega)
                have w832k := kRw.vs w830k w832g
                have w832l : 0 ≤ w832 cd 0 ∧ w832 cd 0 ≤ 4000 := by rw [w832g cd 0 (by unfold kVs; omega)]; exact w830l
                have w832e : w832 1 5 = w830 1 5 ∧ w832 1 6 = w830 1 6 ∧ w832 1 8 = w830 1 8 := ⟨w832g 1 5 (by unfold kVs; omega), w832g 1 6 (by unfold kVs; omega), w832g 1 8 (by unfold kVs; omega)⟩
                refine e_Pn.run (t' := (68, [(0, (1, 1))], [(0, 1), (1, 1)], w832)) kAlk 3 rfl ?_
                replace hM := hM.st (t' := (48, (0, (1, 275)) :: tl674, [(0, 0), (0, 0), (1, 275)], v726)) (fun _ _ q => e_Pn.run eAlk 3 rfl q)
                obtain ⟨dhc833, r834, v835, hc833, hM⟩ := hM.ca rfl
                replace hc833 : e_Rn 20 elay ecode eI dhc833 338 (0, [(0, (1, 275)), (1, (0, 0)), (2, (0, 0))], [], v726) r834 v835 := hc833
                replace hc833 := hc833.st (t' := (1, [(0, (1, 275)), (1, (0, 0)), (2, (0, 0))], [(1, 275)], v726)) (fun _ _ q => e_Pn.run eAlk 1 rfl q)
                obtain ⟨b836, hc833⟩ := hc833.of (fun _ _ q => e_Pn.getf (z := 0) eAlk rfl rfl s731.1.2.1.1.2 q)
                rcases hc833.or (fun _ _ q1 q2 => e_Pn.if1 eAlk rfl q1 q2) with ⟨h837, hc833⟩ | ⟨h837, hc833⟩
                · replace h837 : (0 : Int) ≠ 0 := h837
                  exfalso; omega
                · replace h837 : (0 : Int) = 0 := by have q : ¬ ((0 : Int) ≠ 0) := h837; omega
                  replace hc833 := hc833.st (t' := (8, [(0, (1, 275)), (1, (0, 0)), (2, (0, 0))], [(1, 275)], v726)) (fun _ _ q => e_Pn.run eAlk 1 rfl q)
                  obtain ⟨b838, hc833⟩ := hc833.of (fun _ _ q => e_Pn.getf (z := 1) eAlk rfl rfl (kM_k1 s731.1.2.1.2.2.1 (by first | decide | omega)) q)
                  replace hc833 := hc833.st (t' := (12, [(0, (1, 275)), (1, (0, 0)), (2, (0, 0))], [(0, 1), (0, 1)], v726)) (fun _ _ q => e_Pn.run eAlk 1 rfl q)
                  rcases hc833.or (fun _ _ q1 q2 => e_Pn.if2 eAlk rfl q1 q2) with ⟨h839, hc833⟩ | ⟨h839, hc833⟩
                  · replace h839 : (1 : Int) ≠ 1 := h839
                    exfalso; omega
                  · replace h839 : (1 : Int) = 1 := by have q : ¬ ((1 : Int) ≠ 1) := h839; omega
                    replace hc833 := hc833.st (t' := (16, [(0, (1, 275)), (1, (0, 0)), (2, (0, 0))], [(1, 275)], v726)) (fun _ _ q => e_Pn.run eAlk 1 rfl q)
                    replace hc833 := hc833.st (fun _ _ q => e_Pn.getr (z := 341) eAlk rfl rfl (s731.1.2.2.2.2.1 (90, 341) (by decide)) (by first | decide | omega) q)
                    replace hc833 := hc833.st (t' := (20, [(0, (1, 275)), (1, (0, 0)), (2, (0, 0))], [(1, 275), (1, 341)], v726)) (fun _ _ q => e_Pn.run eAlk 1 rfl q)
                    obtain ⟨b840, hc833⟩ := hc833.of (fun _ _ q => e_Pn.getf (z := v726 275 94) eAlk rfl rfl rfl q)
                    replace hc833 := hc833.st (t' := (24, [(0, (1, 275)), (1, (0, 0)), (2, (0, 0))], [(0, 0), (0, v726 275 94), (1, 341)], v726)) (fun _ _ q => e_Pn.run eAlk 1 rfl q)
                    obtain ⟨b841, b842, hc833⟩ := hc833.of2 (fun _ _ q => e_Pn.ast eAlk rfl rfl rfl q)
                    generalize hv843 : e_up v726 341 (v726 275 94) 0 = v843 at hc833
                    have v843m := mRw.upd hv843 (fun _ => by first | decide | omega) s731.1.2.2.2.2.1
                    replace hc833 := hc833.st (t' := (26, [(0, (1, 275)), (1, (0, 0)), (2, (0, 0))], [(1, 275)], v843)) (fun _ _ q => e_Pn.run eAlk 1 rfl q)
                    replace hc833 := hc833.st (fun _ _ q => e_Pn.getr (z := 342) eAlk rfl rfl (by rw [← hv843]; exact (e_up_ne _ _ (Or.inl (by first | decide | omega))).trans (s731.1.2.2.2.2.1 (91, 342) (by decide))) (by first | decide | omega) q)
                    replace hc833 := hc833.st (t' := (30, [(0, (1, 275)), (1, (0, 0)), (2, (0, 0))], [(1, 275), (1, 342)], v843)) (fun _ _ q => e_Pn.run eAlk 1 rfl q)
                    obtain ⟨b844, hc833⟩ := hc833.of (fun _ _ q => e_Pn.getf (z := v726 275 94) eAlk rfl rfl (by rw [← hv843]; exact (e_up_ne _ _ (Or.inl (by first | decide | omega))).trans rfl) q)
                    replace hc833 := hc833.st (t' := (34, [(0, (1, 275)), (1, (0, 0)), (2, (0, 0))], [(1, 275), (0, v726 275 94), (1, 342)], v843)) (fun _ _ q => e_Pn.run eAlk 1 rfl q)
                    obtain ⟨b845, hc833⟩ := hc833.of (fun _ _ q => e_Pn.getf (z := v726 275 86) eAlk rfl rfl (by rw [← hv843]; exact (e_up_ne _ _ (Or.inl (by first | decide | omega))).trans rfl) q)
                    obtain ⟨b846, b847, hc833⟩ := hc833.of2 (fun _ _ q => e_Pn.ast eAlk rfl rfl rfl q)
                    generalize hv848 : e_up v843 342 (v726 275 94) (v726 275 86) = v848 at hc833
                    have v848m := mRw.upd hv848 (fun _ => by first | decide | omega) v843m
                    replace hc833 := hc833.st (t' := (39, [(0, (1, 275)), (1, (0, 0)), (2, (0, 0))], [(1, 275)], v848)) (fun _ _ q => e_Pn.run eAlk 1 rfl q)
                    replace hc833 := hc833.st (fun _ _ q => e_Pn.getr (z := 343) eAlk rfl rfl (by rw [← hv848]; exact (e_up_ne _ _ (Or.inl (by first | decide | omega))).trans (by rw [← hv843]; exact (e_up_ne _ _ (Or.inl (by first | decide | omega))).trans (s731.1.2.2.2.2.1 (92, 343) (by decide)))) (by first | decide | omega) q)
                    replace hc833 := hc833.st (t' := (43, [(0, (1, 275)), (1, (0, 0)), (2, (0, 0))], [(1, 275), (1, 343)], v848)) (fun _ _ q => e_Pn.run eAlk 1 rfl q)
                    obtain ⟨b849, hc833⟩ := hc833.of (fun _ _ q => e_Pn.getf (z := v726 275 94) eAlk rfl rfl (by rw [← hv848]; exact (e_up_ne _ _ (Or.inl (by first | decide | omega))).trans (by rw [← hv843]; exact (e_up_ne _ _ (Or.inl (by first | decide | omega))).trans rfl)) q)
                    replace hc833 := hc833.st (t' := (47, [(0, (1, 275)), (1, (0, 0)), (2, (0, 0))], [(1, 275), (0, v726 275 94), (1, 343)], v848)) (fun _ _ q => e_Pn.run eAlk 1 rfl q)
                    obtain ⟨b850, hc833⟩ := hc833.of (fun _ _ q => e_Pn.getf (z := v726 275 87) eAlk rfl rfl (by rw [← hv848]; exact (e_up_ne _ _ (Or.inl (by first | decide | omega))).trans (by rw [← hv843]; exact (e_up_ne _ _ (Or.inl (by first | decide | omega))).trans rfl)) q)
                    replace hc833 := hc833.st (t' := (51, [(0, (1, 275)), (1, (0, 0)), (2, (0, 0))], [(1, 275), (0, v726 275 87), (0, v726 275 94), (1, 343)], v848)) (fun _ _ q => e_Pn.run eAlk 1 rfl q)
                    obtain ⟨b851, hc833⟩ := hc833.of (fun _ _ q => e_Pn.getf (z := v726 275 86) eAlk rfl rfl (by rw [← hv848]; exact (e_up_ne _ _ (Or.inl (by first | decide | omega))).trans (by rw [← hv843]; exact (e_up_ne _ _ (Or.inl (by first | decide | omega))).trans rfl)) q)
                    replace hc833 := hc833.st (fun _ _ q => e_Pn.sub' (z := v726 275 87 - v726 275 86) eAlk rfl (by first | decide | omega) (by first | decide | omega) q)
                    obtain ⟨b852, b853, hc833⟩ := hc833.of2 (fun _ _ q => e_Pn.ast eAlk rfl rfl rfl q)
                    generalize hv854 : e_up v848 343 (v726 275 94) (v726 275 87 - v726 275 86) = v854 at hc833
                    have v854m := mRw.upd hv854 (fun _ => by first | decide | omega) v848m
                    replace hc833 := hc833.st (t' := (57, [(0, (1, 275)), (1, (0, 0)), (2, (0, 0))], [(1, 275)], v854)) (fun _ _ q => e_Pn.run eAlk 1 rfl q)
                    replace hc833 := hc833.st (fun _ _ q => e_Pn.getr (z := 344) eAlk rfl rfl (by rw [← hv854]; exact (e_up_ne _ _ (Or.inl (by first | decide | omega))).trans (by rw [← hv848]; exact (e_up_ne _ _ (Or.inl (by first | decide | omega))).trans (by rw [← hv843]; exact (e_up_ne _ _ (Or.inl (by first | decide | omega))).trans (s731.1.2.2.2.2.1 (93, 344) (by decide))))) (by first | decide | omega) q)
                    replace hc833 := hc833.st (t' := (61, [(0, (1, 275)), (1, (0, 0)), (2, (0, 0))], [(1, 275), (1, 344)], v854)) (fun _ _ q => e_Pn.run eAlk 1 rfl q)
                    obtain ⟨b855, hc833⟩ := hc833.of (fun _ _ q => e_Pn.getf (z := v726 275 94) eAlk rfl rfl (by rw [← hv854]; exact (e_up_ne _ _ (Or.inl (by first | decide | omega))).trans (by rw [← hv848]; exact (e_up_ne _ _ (Or.inl (by first | decide | omega))).trans (by rw [← hv843]; exact (e_up_ne _ _ (Or.inl (by first | decide | omega))).trans rfl))) q)
                    replace hc833 := hc833.st (t' := (65, [(0, (1, 275)), (1, (0, 0)), (2, (0, 0))], [(0, 0), (0, v726 275 94), (1, 344)], v854)) (fun _ _ q => e_Pn.run eAlk 1 rfl q)
                    obtain ⟨b856, b857, hc833⟩ := hc833.of2 (fun _ _ q => e_Pn.ast eAlk rfl rfl rfl q)
                    generalize hv858 : e_up v854 344 (v726 275 94) 0 = v858 at hc833
                    have v858m := mRw.upd hv858 (fun _ => by first | decide | omega) v854m
                    replace hc833 := hc833.st (t' := (68, [(0, (1, 275)), (1, (0, 0)), (2, (0, 0))], [(1, 275), (1, 275)], v858)) (fun _ _ q => e_Pn.run eAlk 2 rfl q)
                    obtain ⟨b859, hc833⟩ := hc833.of (fun _ _ q => e_Pn.getf (z := v726 275 94) eAlk rfl rfl (by rw [← hv858]; exact (e_up_ne _ _ (Or.inl (by first | decide | omega))).trans (by rw [← hv854]; exact (e_up_ne _ _ (Or.inl (by first | decide | omega))).trans (by rw [← hv848]; exact (e_up_ne _ _ (Or.inl (by first | decide | omega))).trans (by rw [← hv843]; exact (e_up_ne _ _ (Or.inl (by first | decide | omega))).trans rfl)))) q)
                    replace hc833 := hc833.st (t' := (72, [(0, (1, 275)), (1, (0, 0)), (2, (0, 0))], [(0, 1), (0, v726 275 94), (1, 275)], v858)) (fun _ _ q => e_Pn.run eAlk 1 rfl q)
                    replace hc833 := hc833.st (fun _ _ q => e_Pn.add (z := v726 275 94 + 1) eAlk rfl (by first | decide | omega) (by first | decide | omega) q)
                    replace hc833 := hc833.st (fun _ _ q => e_Pn.putf eAlk rfl rfl q)
                    generalize hv860 : e_up v858 275 94 (v726 275 94 + 1) = v860 at hc833
                    have v860m := mRw.upd hv860 (fun _ => by first | decide | omega) v858m
                    replace hc833 := hc833.st (t' := (78, [(0, (1, 275)), (1, (0, 0)), (2, (0, 0))], [(1, 275), (1, 275)], v860)) (fun _ _ q => e_Pn.run eAlk 2 rfl q)
                    obtain ⟨b861, hc833⟩ := hc833.of (fun _ _ q => e_Pn.getf (z := 1) eAlk rfl rfl (by rw [← hv860]; exact (e_up_ne _ _ (Or.inr (by first | decide | omega))).trans (by rw [← hv858]; exact (e_up_ne _ _ (Or.inl (by first | decide | omega))).trans (by rw [← hv854]; exact (e_up_ne _ _ (Or.inl (by first | decide | omega))).trans (by rw [← hv848]; exact (e_up_ne _ _ (Or.inl (by first | decide | omega))).trans (by rw [← hv843]; exact (e_up_ne _ _ (Or.inl (by first | decide | omega))).trans (kM_k1 s731.1.2.1.2.2.1 (by first | decide | omega))))))) q)
                    replace hc833 := hc833.st (t' := (82, [(0, (1, 275)), (1, (0, 0)), (2, (0, 0))], [(0, 1), (0, 1), (1, 275)], v860)) (fun _ _ q => e_Pn.run eAlk 1 rfl q)
                    rcases hc833.or (fun _ _ q1 q2 => e_Pn.if2 eAlk rfl q1 q2) with ⟨h862, hc833⟩ | ⟨h862, hc833⟩
                    · replace h862 : (1 : Int) ≠ 1 := h862
                      exfalso; omega
                    · replace h862 : (1 : Int) = 1 := by have q : ¬ ((1 : Int) ≠ 1) := h862; omega
                      replace hc833 := hc833.st (t' := (90, [(0, (1, 275)), (1, (0, 0)), (2, (0, 0))], [(0, 1), (1, 275)], v860)) (fun _ _ q => e_Pn.run eAlk 2 rfl q)
                      have as86394 : v726 275 94 = v726 275 94 := rfl
                      have as86386 : v726 275 86 = v726 275 86 := rfl
                      have as86387 : v726 275 87 = v726 275 87 := rfl
                      obtain ⟨as863, as863g⟩ := nmA.mk hv843 hv848 hv854 hv858 hv860 (by first | decide | omega) (by first | decide | omega)
                      have as863q : e_up (e_up w766 6 (w766 cd 2) (w729 1 6)) cd 2 (w766 cd 2 + 1) = w832 := by rw [(show w766 cd 2 = w729 cd 2 from ((w766f cd 2 (by unfold kRc; omega)).trans rfl)), hw830, hw832]
                      obtain ⟨s863, s863z⟩ := st.var (by decide) s731 (by first | decide | omega) s731z w766c (Or.inl ⟨by rw [(show w766 cd 2 = w729 cd 2 from ((w766f cd 2 (by unfold kRc; omega)).trans rfl))]; omega, as863q⟩) as863 (by first | decide | omega) (by first | decide | omega) as863g
                      have s863x := cn1.A0 as863 (by first | decide | omega)
                      have s863c : w832 cd 0 = w729 cd 0 ∧ w832 1 6 = w729 1 6 := ⟨(by rw [← hw832]; exact (e_up_ne _ _ (Or.inr (by first | decide | omega))).trans (by rw [← hw830]; exact (e_up_ne _ _ (Or.inl (by first | decide | omega))).trans ((w766f cd 0 (by unfold kRc; omega)).trans rfl))), (by rw [← hw832]; exact (e_up_ne _ _ (Or.inr (by first | decide | omega))).trans (by rw [← hw830]; exact (e_up_ne _ _ (Or.inl (by first | decide | omega))).trans ((w766f 1 6 (by unfold kRc; omega)).trans rfl)))⟩
                      have q864 := st.nums s863
                      clear q732
                      have q864c := q864.2.2.2.1
                      obtain ⟨dc865, r866, v867, hc868, hc833⟩ := hc833.ca rfl
                      have uhc868 := hc868.pn (fun nq => u_334 s863.1.2.2.2.2.1)
                      refine e_Pn.callA rfl (fun nq dq => e_Pn.and (t_129b s863.1.1 s863.1.2.1 (by first | decide | omega) (d' := dc865) hc868) (u_129 s863.1.2.2.2.1)) (fun r869 w870 h871 => ?_)
                      obtain ⟨⟨rfl, rfl, h871⟩, -, h871k⟩ := h871
                      rcases h871.symm with h871 | ⟨h871c, h871⟩
                      · skip
                        replace hc833 : e_Rn 20 elay ecode eI dhc833 338 (93, [(0, (1, 275)), (1, (0, 0)), (2, (0, 0))], [], v867) r834 v835 := hc833
                        obtain ⟨rfl, m872⟩ := (e_Rn.le eAlk [0, 1, 2] rfl rfl hc833).pn (fun nq => v_338_93 (uhc868.2.rf s863.1.2.2.2.2.1) _ 0 0 v867 mq.r)
                        replace hM : e_Rn 20 elay ecode eI d' 353 (51, (0, (1, 275)) :: tl674, [], v835) r' v' := hM
                        obtain ⟨rfl, m873⟩ := (e_Rn.le eAlk [0] rfl rfl hM).pn (fun nq => v_353_51 (m872.rf (uhc868.2.rf s863.1.2.2.2.2.1)) _  v835 mq.r)
                        show e_Pn 20 elay kcode eI nq733 dq734 141 (71, [(0, (1, 1))], [], w870) _
                        refine e_Pn.ord kAlk [0] rfl rfl ((v_141_71 (h871k.rf s863.1.2.2.2.1) _  w870 kq.r).imp (fun r875 w876 k874 => ?_))
                        obtain ⟨rfl, k874⟩ := k874
                        show e_Pn 20 elay kcode eI nn672 dq559 140 (34, (0, (1, 1)) :: (1, (0, y2)) :: tl673, [], w876) _
                        refine e_Pn.ord kAlk [0, 1] rfl rfl ((v_140_34 (k874.rf (h871k.rf s863.1.2.2.2.1)) _ y2 w876 kq.r).imp (fun r878 w879 k877 => ?_))
                        obtain ⟨rfl, k877⟩ := k877
                        show e_Pn 20 elay kcode eI nn4 d 119 (63, (0, (1, 1)) :: (1, (0, y1)) :: tl5, [], w879) _
                        refine e_Pn.ord kAlk [0, 1] rfl rfl ((v_119_63 (k877.rf (k874.rf (h871k.rf s863.1.2.2.2.1))) (rpF.k h871 (k874.tr k877)) _ y1 w879 kq.r).imp (fun r881 w882 k880 => ?_))
                        obtain ⟨rfl, k880⟩ := k880
                        exact K2 _ (rpF.tail h871 ((k874.tr k877).tr k880) (m872.tr m873))
                      have s883 := st.ad (k := 1) s863 h871 (st.len1 s863 (by first | decide | omega)) (by first | decide | omega)
                      have s883n := h871.2.2.2.1
                      have s883m := st.len1 s863 (by first | decide | omega)
                      have s883x := cn1.E (TK.nm h871)
                      have s883y : w870 cd 0 = w832 cd 0 := h871.2.2.2.2.1 cd 0 (nf3_kRa_cd_0 hcd)
                      have s883z := all0.E s863z (TK.nm h871)
                      have s883g : w 1 6 + 1 ≤ w870 1 6 := by omega
                      have q884 := st.nums s883
                      clear q864
                      have q884c := q884.2.2.2.1
                      show e_Pn 20 elay kcode eI nq733 dq734 141 (71, [(0, (1, 1))], [], w870) _
                      replace hc833 : e_Rn 20 elay ecode eI dhc833 338 (93, [(0, (1, 275)), (1, (0, 0)), (2, (0, 0))], [], v867) r834 v835 := hc833
                      refine e_Pn.ret0 rfl ?_
                      show e_Pn 20 elay kcode eI nn672 dq559 140 (34, (0, (1, 1)) :: (1, (0, y2)) :: tl673, [], w870) _
                      refine e_Pn.inc (z := y2 + 1) kAlk rfl rfl (by first | decide | omega) (by first | decide | omega) ?_
                      show e_Pn 20 elay kcode eI nn672 dq559 140 (37, (1, (0, y2 + 1)) :: (0, (1, 1)) :: List.filter (e_flt 0 1) tl673, [], w870) _
                      refine e_Pn.run (t' := (10, (1, (0, y2 + 1)) :: (0, (1, 1)) :: List.filter (e_flt 0 1) tl673, [], w870)) kAlk 1 rfl ?_
                      obtain ⟨rfl, rfl⟩ := hc833.re0 rfl
                      replace hM : e_Rn 20 elay ecode eI d' 353 (51, (0, (1, 275)) :: tl674, [], v867) r' v' := hM
                      replace hM := hM.st (t' := (25, (0, (1, 275)) :: tl674, [], v867)) (fun _ _ q => e_Pn.run eAlk 1 rfl q)
                      exact e_Pn.ord kAlk [0, 1] rfl rfl (ih671 (by first | decide | omega) _ _ (y2 + 1) w870 v867 ⟨(st.re s883 (by first | decide | omega) (by first | decide | omega) (by first | decide | omega) (by first | decide | omega) (by first | decide | omega)), (by first | decide | omega), (by first | decide | omega), s883z, (by first | decide | omega), (by first | decide | omega)⟩ (e_Rn.le eAlk [0] rfl rfl hM))
end
