noncomputable section
set_option maxHeartbeats 4000000 in
theorem e_145_42d (n : Nat) (N : Int) (cd : Int) (w : eW) (v : eW) (hz : st0 N cd w v) (hp : 1 ≤ w 1 6) (ihS : ∀ (k : Nat), k < n → sE k) (d : Nat) (d' : Nat) (r' : List eV) (v' : eW) (hzo :  (w 1 11 = v 275 83 ∧ 0 ≤ v 275 83 ∧ v 275 83 ≤ 30) ∧ (w 1 13 < 0 ↔ v 275 82 < 0) ∧ 0 ≤ w 1 12 ∧ w 1 12 ≤ w 1 11 ∧ w 1 13 ≤ 4000) (q1 :  (0 ≤ w 1 6 ∧ w 1 6 ≤ w 1 7 ∧ w 1 7 ≤ 4000 ∧ w 1 6 ≤ w 1 6) ∧ (w 1 11 = w 1 11 + 0 ∧ v 275 83 = v 275 83 + 0) ∧ (w 1 13 = w 1 13 ∧ v 275 82 = v 275 82 ∧ w 1 12 = w 1 12) ∧ (0 ≤ w cd 0 ∧ w cd 0 ≤ 4000) ∧ (0 ≤ v 275 80 ∧ v 275 80 ≤ w 1 6 + 0) ∧ (0 ≤ v 275 94 ∧ v 275 94 ≤ w 1 6 + 0) ∧ (v 275 86 = w 1 6 ∧ v 275 87 = w 1 7) ∧ (0 ≤ w 1 5 ∧ w 1 5 ≤ 53) ∧ w cd 0 ≤ w cd 0 ∧ w cd 0 - w cd 0 ≤ w 1 6 - w 1 6 + 0) (q1c : 0 ≤ w cd 0 ∧ w cd 0 ≤ 4000) (q1f : 0 ≤ v 275 80) (q9f : 0 ≤ v 275 80) (nq13 : Nat) (hnq13 : nq13 < n) (dq14 : Nat) (h21b : v 275 83 < 30) (v37 : eW) (z45 : Int) (b46 : 0 ≤ z45) (b47 : z45 < ((4500 : Nat) : Int)) (v86 : eW) (w89 : eW) (s98g : w 1 6 + 1 ≤ w89 1 6) (q99c : 0 ≤ w89 cd 0 ∧ w89 cd 0 ≤ 4000) (q99d : w89 1 11 = w 1 11 + 1 ∧ v86 275 83 = v 275 83 + 1) (q99e : w89 1 13 = w 1 13 ∧ v86 275 82 = v 275 82 ∧ w89 1 12 = w 1 12) (q99f : 0 ≤ v86 275 80) (z103 : Int) (z103r : 0 ≤ z103 ∧ z103 ≤ 4000) (w116 : eW) (phd120 : plcQ cd w (z103 + (1 + 1)) 49 w116) (w124 : eW) (z126 : Int) (w124q : emQ w116 w124 cd 49 0 z126) (phd128 : plcQ cd w (z103 + (1 + 1 + 1)) 49 w124) (b131 : -2147483648 ≤ w89 1 12 ∧ w89 1 12 ≤ 2147483647) (w132 : eW) (hw132 : e_up w124 1 12 (w89 1 12 + 1) = w132) (v134 : eW) (v140 : eW) (w143 : eW) (h144 : st N cd w132 v134 w143 v140 0 0 0 (-1) (w132 1 13) (v134 275 82) (w132 1 12) 2) (w156 : eW) (z158 : Int) (w156q : emQ w143 w156 cd 47 0 z158) (w399 : eW) (w399f : e_fr (kPa cd) w156 w399) (w399q : paQ w156 w399 cd (z103 + 1) (w156 cd 0)) (nq408 : Nat) (hnq408 : nq408 < nq13) (v412 : eW) (v428 : eW) (w431 : eW) (h432 : TK N w399 v412 w431 v428) (v442 : eW) (w445 : eW) (h446 : TK N w431 v428 w445 v442) (v465 : eW) (v471 : eW) (w474 : eW) (h475 : st N cd w445 v465 w474 v471 0 0 0 (-1) (w445 1 13) (v465 275 82) (w445 1 12) 2) (s487 :  st N cd w v w474 v471 (0 + 1 - 3 - 1 + 1 + 1 + 1 + 1 + 0 + 1 - 2 - 1 + 0) (1 + 0) 0 (-1) (w 1 13) (v 275 82) (w89 1 12 + 1) 2) (q488c : 0 ≤ w474 cd 0 ∧ w474 cd 0 ≤ 4000) (q488d : w474 1 11 = w 1 11 + (1 + 0) ∧ v471 275 83 = v 275 83 + (1 + 0)) (q488e : w474 1 13 = w 1 13 ∧ v471 275 82 = v 275 82 ∧ w474 1 12 = w89 1 12 + 1) (q488f : 0 ≤ v471 275 80) (hM :  e_Rn 20 elay ecode eI d' 352 (151, [(3, 0, z45), (2, 0, v37 275 79), (1, 0, v37 275 81), (0, 1, 275)], [], v471) r' v') (w490 : eW) (z492 : Int) (w490f : e_fr (kEm cd) w474 w490) (w490q : emQ w474 w490 cd 47 0 z492) (w490k : kRw cd w490) (w490l : 0 ≤ w490 cd 0 ∧ w490 cd 0 ≤ 4000) (w490e : w490 1 5 = w474 1 5 ∧ w490 1 6 = w474 1 6 ∧ w490 1 8 = w474 1 8) (s493 :  st N cd w v w490 v471 (0 + 1 - 3 - 1 + 1 + 1 + 1 + 1 + 0 + 1 - 2 - 1 + 0 + 1) (1 + 0) 0 (-1) (w 1 13) (v 275 82) (w89 1 12 + 1) 2) (q494 :  (0 ≤ w490 1 6 ∧ w490 1 6 ≤ w490 1 7 ∧ w490 1 7 ≤ 4000 ∧ w 1 6 ≤ w490 1 6) ∧ (w490 1 11 = w 1 11 + (1 + 0) ∧ v471 275 83 = v 275 83 + (1 + 0)) ∧ (w490 1 13 = w 1 13 ∧ v471 275 82 = v 275 82 ∧ w490 1 12 = w89 1 12 + 1) ∧ (0 ≤ w490 cd 0 ∧ w490 cd 0 ≤ 4000) ∧ (0 ≤ v471 275 80 ∧ v471 275 80 ≤ w490 1 6 + 0) ∧ (0 ≤ v471 275 94 ∧ v471 275 94 ≤ w490 1 6 + 0) ∧ (v471 275 86 = w490 1 6 ∧ v471 275 87 = w490 1 7) ∧ (0 ≤ w490 1 5 ∧ w490 1 5 ≤ 53) ∧ w cd 0 ≤ w490 cd 0 ∧ w490 cd 0 - w cd 0 ≤ w490 1 6 - w 1 6 + (0 + 1 - 3 - 1 + 1 + 1 + 1 + 1 + 0 + 1 - 2 - 1 + 0 + 1)) (q494c : 0 ≤ w490 cd 0 ∧ w490 cd 0 ≤ 4000) (q494d : w490 1 11 = w 1 11 + (1 + 0) ∧ v471 275 83 = v 275 83 + (1 + 0)) (q494e : w490 1 13 = w 1 13 ∧ v471 275 82 = v 275 82 ∧ w490 1 12 = w89 1 12 + 1) (q494f : 0 ≤ v471 275 80) (z492r : 0 ≤ z492 ∧ z492 ≤ 4000) (h496 : w474 1 5 = 44) : e_Pn 20 elay kcode eI nq13 dq14 156 (128, [(1, 0, z103), (0, 1, 1)], [], w490) fun r w' => e_Pn 20 elay kcode eI n d 145 (353 + 3, [(0, 1, 1)], r ++ List.drop 1 [(1, 1)], w') fun r w' => r = [] ∧ r' = [] ∧ (st N cd w v w' v' 0 0 0 (-1) (w 1 13) (v 275 82) (w 1 12) 2 ∧ w 1 6 < w' 1 6 ∨ rpF w' v') := by
  have hcd2 : 2 ≤ cd := hz.1.2.2.2.1.1.n.2.2.2.2.2.2.2.2
  refine e_Pn.run (t' := (129, [(1, (0, z103)), (0, (1, 1))], [(1, 1)], w490)) kAlk 1 rfl ?_
  refine e_Pn.getr (z := cd) kAlk rfl rfl ((w490f 1 3 (nf_kEm_1_3 hz.1.2.2.2.1.1)).trans s487.1.2.2.2.1.2.1) (by first | decide | omega) ?_
  refine e_Pn.run (t' := (134, [(1, (0, z103)), (0, (1, 1))], [(0, 2), (0, z103), (1, cd)], w490)) kAlk 2 rfl ?_
  refine e_Pn.add (z := z103 + 2) kAlk rfl (by first | decide | omega) (by first | decide | omega) ?_
  refine e_Pn.run (t' := (136, [(1, (0, z103)), (0, (1, 1))], [(1, 1), (0, z103 + 2), (1, cd)], w490)) kAlk 1 rfl ?_
  refine e_Pn.getr (z := cd) kAlk rfl rfl ((w490f 1 3 (nf_kEm_1_3 hz.1.2.2.2.1.1)).trans s487.1.2.2.2.1.2.1) (by first | decide | omega) ?_
  refine e_Pn.getf (z := w490 cd 0) kAlk rfl rfl rfl (fun b563 => ?_)
  refine e_Pn.callA rfl (fun nq dq => l_22 w490k (x := z103 + 2) (od := w490 cd 0) (by first | decide | omega)) (fun r564 w565 h566 => ?_)
  obtain ⟨rfl, w565f, w565q⟩ := h566
  have w565k := kRw.em w490k (w565f.mono (fun _ _ q => Or.inr q))
  have w565l : 0 ≤ w565 cd 0 ∧ w565 cd 0 ≤ 4000 := by rw [w565f cd 0 (nf_kPa_cd_0 hz.1.2.2.2.1.1)]; exact w490l
  have w565e : w565 1 5 = w490 1 5 ∧ w565 1 6 = w490 1 6 ∧ w565 1 8 = w490 1 8 := ⟨w565f 1 5 (nf_kPa_1_5 hz.1.2.2.2.1.1), w565f 1 6 (nf_kPa_1_6 hz.1.2.2.2.1.1), w565f 1 8 (nf_kPa_1_8 hz.1.2.2.2.1.1)⟩
  have pl568 := plcQ.em phd120 w124q
  have pl569 := plcQ.fr pl568 ((show e_fr (kGs cd) w124 w132 from (e_fr.up (e_fr.refl w124) hw132 pf_kGs_1_12)) cd 0 (nf_kGs_cd_0 hz.1.2.2.2.1.1)) (fun i => (show e_fr (kGs cd) w124 w132 from (e_fr.up (e_fr.refl w124) hw132 pf_kGs_1_12)) (cd + 2) i (nf_kGs_cd2_x hz.1.2.2.2.1.1))
  have pl570 := plcQ.st pl569 h144
  have pl571 := plcQ.em pl570 w156q
  have pl572 := plcQ.pa pl571 w399q (w399f cd 0 (nf_kPa_cd_0 hz.1.2.2.2.1.1))
  have pl573 := plcQ.fr pl572 (h432.2.2.2.2.1 cd 0 (nf_kRa_cd_0 hz.1.2.2.2.1.1)) (fun i => h432.2.2.2.2.1 (cd + 2) i (nf_kRa_cd2_x hz.1.2.2.2.1.1))
  have pl574 := plcQ.fr pl573 (h446.2.2.2.2.1 cd 0 (nf_kRa_cd_0 hz.1.2.2.2.1.1)) (fun i => h446.2.2.2.2.1 (cd + 2) i (nf_kRa_cd2_x hz.1.2.2.2.1.1))
  have pl575 := plcQ.st pl574 h475
  have pl576 := plcQ.em pl575 w490q
  have s567 := st.pa s493 w565f w565q pl576 (by unfold isCl3; omega)
  have q577 := st.nums s567
  clear q494
  have q577c := q577.2.2.2.1
  have q577d := q577.2.1
  have q577e := q577.2.2.1
  have q577f := q577.2.2.2.2.1.1
  show e_Pn 20 elay kcode eI nq13 dq14 156 (145, [(1, (0, z103)), (0, (1, 1))], [], w565) _
  refine e_Pn.run (t' := (148, [(1, (0, z103)), (0, (1, 1))], [(0, 48), (1, 1)], w565)) kAlk 2 rfl ?_
  refine e_Pn.callJ rfl (fun nq578 hnq578 dq579 => ?_)
  show e_Pn 20 elay kcode eI nq578 dq579 157 (0, [(0, (1, 1)), (1, (0, 48))], [], w565) _
  refine e_Pn.run (t' := (1, [(0, (1, 1)), (1, (0, 48))], [(1, 1)], w565)) kAlk 1 rfl ?_
  replace hM := hM.st (t' := (155, [(3, (0, z45)), (2, (0, v37 275 79)), (1, (0, v37 275 81)), (0, (1, 275))], [(0, v37 275 79), (0, 50), (1, 275)], v471)) (fun _ _ q => e_Pn.run eAlk 3 rfl q)
  obtain ⟨dc580, r581, v582, hc583, hM⟩ := hM.ca rfl
  obtain ⟨⟨z584, rfl⟩, v582f⟩ := hc583.pn (fun nq => x_336 s487.1.2.2.2.2.1)
  have v582m := mfr.rf v582f s487.1.2.2.2.2.1
  replace hM : e_Rn 20 elay ecode eI d' 352 (158, [(3, (0, z45)), (2, (0, v37 275 79)), (1, (0, v37 275 81)), (0, (1, 275))], [(0, z584)], v582) r' v' := hM
  replace hM := hM.st (t' := (160, [(3, (0, z45)), (2, (0, v37 275 79)), (1, (0, v37 275 81)), (0, (1, 275))], [(1, 275)], v582)) (fun _ _ q => e_Pn.run eAlk 2 rfl q)
  obtain ⟨b585, hM⟩ := hM.of (fun _ _ q => e_Pn.getf (z := 0) eAlk rfl rfl ((v582f 275 88 nf_mEm_275_88).trans s487.1.2.1.1.2) q)
  rcases hM.or (fun _ _ q1 q2 => e_Pn.if1 eAlk rfl q1 q2) with ⟨h586, hM⟩ | ⟨h586, hM⟩
  · replace h586 : (0 : Int) ≠ 0 := h586
    exfalso; omega
  · replace h586 : (0 : Int) = 0 := by have q : ¬ ((0 : Int) ≠ 0) := h586; omega
    replace hM := hM.st (t' := (169, [(3, (0, z45)), (2, (0, v37 275 79)), (1, (0, v37 275 81)), (0, (1, 275))], [(0, 23), (1, 275)], v582)) (fun _ _ q => e_Pn.run eAlk 2 rfl q)
    obtain ⟨dc587, r588, v589, hc590, hM⟩ := hM.ca rfl
    obtain ⟨z591, rfl, rfl, z591q⟩ := hc590.pn (fun nq => l_332)
    replace z591q := isS (kM_key (k := 23) s487.1.2.1.2.2.1 (by decide)) ((v582f 275 84 nf_mEm_275_84).trans rfl) ((v582f 275 85 nf_mEm_275_85).trans rfl) z591q
    obtain rfl : z591 = 1 := by omega
    clear z591q
    replace hM : e_Rn 20 elay ecode eI d' 352 (172, [(3, (0, z45)), (2, (0, v37 275 79)), (1, (0, v37 275 81)), (0, (1, 275))], [(0, 1)], v582) r' v' := hM
    rcases hM.or (fun _ _ q1 q2 => e_Pn.if1 eAlk rfl q1 q2) with ⟨h592, hM⟩ | ⟨h592, hM⟩
    · replace h592 : (1 : Int) = 0 := h592
      exfalso; omega
    · replace h592 : (1 : Int) ≠ 0 := by have q : ¬ ((1 : Int) = 0) := h592; omega
      replace hM := hM.st (t' := (176, [(3, (0, z45)), (2, (0, v37 275 79)), (1, (0, v37 275 81)), (0, (1, 275))], [(1, 275)], v582)) (fun _ _ q => e_Pn.run eAlk 1 rfl q)
      have e594a : w565 1 11 = w565 1 11 := rfl
      have e594b : v582 275 83 = v471 275 83 := (v582f 275 83 nf_mEm_275_83)
      have e594c : w565 1 13 = w565 1 13 := rfl
      have e594d : v582 275 82 = v471 275 82 := (v582f 275 82 nf_mEm_275_82)
      have e594f : w565 1 12 = w565 1 12 := rfl
      have e594e : v582 275 80 = v471 275 80 := (v582f 275 80 nf_mEm_275_80)
      have s593 := st.gen (o' := 1) (l' := w 1 13) (m' := v 275 82) (t' := w89 1 12 + 1) (b' := 0) s567 (e_fr.refl w565) (e_fr.trans (e_fr.refl v471) (e_fr.mono v582f (fun c k q => by unfold mEm at q; unfold mGs; omega))) (by first | decide | omega) (by first | decide | omega) (by first | decide | omega) (by first | decide | omega)
      clear q494d q494e q494f q577d q577e q577f
      have q595 := st.nums s593
      clear q577 e594a e594b e594c e594d e594e e594f
      have q595c := q595.2.2.2.1
      have q595d := q595.2.1
      have q595e := q595.2.2.1
      have q595f := q595.2.2.2.2.1.1
      obtain ⟨dc596, r597, v598, hc599, hM⟩ := hM.ca rfl
      refine e_Pn.callA rfl (fun nq dq => t_123b s593.1.1 s593.1.2.1.1 s593.1.2.1.2.1.2.1 (st.nx s593) (d' := dc596) hc599) (fun r600 w601 h602 => ?_)
      obtain ⟨rfl, rfl, h602⟩ := h602
      have s603 := st.ad (k := 2) s593 h602 (st.len2 s593 (by first | decide | omega)) (by first | decide | omega)
      have s603n := h602.2.2.2.1
      have s603m := st.len2 s593 (by first | decide | omega)
      have s603g : w 1 6 + 1 ≤ w601 1 6 := by omega
      clear q595d q595e q595f
      have q604 := st.nums s603
      clear q595
      have q604c := q604.2.2.2.1
      have q604d := q604.2.1
      have q604e := q604.2.2.1
      have q604f := q604.2.2.2.2.1.1
      show e_Pn 20 elay kcode eI nq578 dq579 157 (4, [(0, (1, 1)), (1, (0, 48))], [], w601) _
      replace hM : e_Rn 20 elay ecode eI d' 352 (179, [(3, (0, z45)), (2, (0, v37 275 79)), (1, (0, v37 275 81)), (0, (1, 275))], [], v598) r' v' := hM
      refine e_Pn.run (t' := (7, [(0, (1, 1)), (1, (0, 48))], [(0, 20), (1, 1)], w601)) kAlk 2 rfl ?_
      replace hM := hM.st (t' := (183, [(3, (0, z45)), (2, (0, v37 275 79)), (1, (0, v37 275 81)), (0, (1, 275))], [(0, 58), (1, 275), (1, 275)], v598)) (fun _ _ q => e_Pn.run eAlk 3 rfl q)
      obtain ⟨dc605, r606, v607, hc608, hM⟩ := hM.ca rfl
      obtain ⟨z609, rfl, rfl, z609q⟩ := hc608.pn (fun nq => l_331)
      replace z609q := isS (kM_s58 s603.1.2.1.2.2.1) rfl rfl z609q
      replace hM : e_Rn 20 elay ecode eI d' 352 (186, [(3, (0, z45)), (2, (0, v37 275 79)), (1, (0, v37 275 81)), (0, (1, 275))], [(0, z609), (1, 275)], v598) r' v' := hM
      obtain ⟨dc610, r611, v612, hc613, hM⟩ := hM.ca rfl
      have uhc613 := hc613.pn (fun nq => u_334 s603.1.2.2.2.2.1)
      refine e_Pn.callA rfl (fun nq dq => e_Pn.and (t_129b s603.1.1 s603.1.2.1 z609q (d' := dc610) hc613) (u_129 s603.1.2.2.2.1)) (fun r614 w615 h616 => ?_)
      obtain ⟨⟨rfl, rfl, h616⟩, -, h616k⟩ := h616
      rcases h616.symm with h616 | ⟨h616c, h616⟩
      · skip
        replace hM : e_Rn 20 elay ecode eI d' 352 (189, [(3, (0, z45)), (2, (0, v37 275 79)), (1, (0, v37 275 81)), (0, (1, 275))], [], v612) r' v' := hM
        obtain ⟨rfl, m617⟩ := (e_Rn.le eAlk [0, 1, 2, 3] rfl rfl hM).pn (fun nq => v_352_189 (uhc613.2.rf s603.1.2.2.2.2.1) _ (v37 275 81) (v37 275 79) z45 v612 mq.r)
        show e_Pn 20 elay kcode eI nq578 dq579 157 (10, [(0, (1, 1)), (1, (0, 48))], [], w615) _
        refine e_Pn.ord kAlk [0, 1] rfl rfl ((v_157_10 (h616k.rf s603.1.2.2.2.1) _ 48 w615 kq.r).imp (fun r619 w620 k618 => ?_))
        obtain ⟨rfl, k618⟩ := k618
        show e_Pn 20 elay kcode eI nq13 dq14 156 (151, [(1, (0, z103)), (0, (1, 1))], [], w620) _
        refine e_Pn.ord kAlk [0, 1] rfl rfl ((v_156_151 (k618.rf (h616k.rf s603.1.2.2.2.1)) _ z103 w620 kq.r).imp (fun r622 w623 k621 => ?_))
        obtain ⟨rfl, k621⟩ := k621
        show e_Pn 20 elay kcode eI n d 145 (356, [(0, (1, 1))], [], w623) _
        refine e_Pn.ord kAlk [0] rfl rfl ((v_145_356 (k621.rf (k618.rf (h616k.rf s603.1.2.2.2.1))) _  w623 kq.r).imp (fun r625 w626 k624 => ?_))
        obtain ⟨rfl, k624⟩ := k624
        exact ⟨rfl, rfl, Or.inr (rpF.tail h616 ((k618.tr k621).tr k624) m617)⟩
      clear z609q
      have s627 := st.ad (k := 1) s603 h616 (st.len1 s603 (by first | decide | omega)) (by first | decide | omega)
      have s627n := h616.2.2.2.1
      have s627m := st.len1 s603 (by first | decide | omega)
      have s627g : w 1 6 + 1 ≤ w615 1 6 := by omega
      clear q604d q604e q604f
      have q628 := st.nums s627
      clear q604
      have q628c := q628.2.2.2.1
      have q628d := q628.2.1
      have q628e := q628.2.2.1
      have q628f := q628.2.2.2.2.1.1
      show e_Pn 20 elay kcode eI nq578 dq579 157 (10, [(0, (1, 1)), (1, (0, 48))], [], w615) _
      replace hM : e_Rn 20 elay ecode eI d' 352 (189, [(3, (0, z45)), (2, (0, v37 275 79)), (1, (0, v37 275 81)), (0, (1, 275))], [], v612) r' v' := hM
      refine e_Pn.run (t' := (11, [(0, (1, 1)), (1, (0, 48))], [(1, 1)], w615)) kAlk 1 rfl ?_
      replace hM := hM.st (t' := (192, [(3, (0, z45)), (2, (0, v37 275 79)), (1, (0, v37 275 81)), (0, (1, 275))], [(0, v37 275 79), (0, 3), (1, 275)], v612)) (fun _ _ q => e_Pn.run eAlk 3 rfl q)
      obtain ⟨z629, hz629, hM⟩ := hM.ex (fun _ _ q => e_Pn.bin0 eAlk rfl q)
      replace hM := hM.st (t' := (194, [(3, (0, z45)), (2, (0, v37 275 79)), (1, (0, v37 275 81)), (0, (1, 275))], [(0, 2), (0, z629), (1, 275)], v612)) (fun _ _ q => e_Pn.run eAlk 1 rfl q)
      obtain ⟨z630, hz630, hM⟩ := hM.ex (fun _ _ q => e_Pn.bin0 eAlk rfl q)
      replace hM := hM.st (fun _ _ q => e_Pn.putf eAlk rfl rfl q)
      generalize hv631 : e_up v612 275 81 z630 = v631 at hM
      have v631m := mRw.upd hv631 (fun _ => by first | decide | omega) s627.1.2.2.2.2.1
      replace hM := hM.st (t' := (199, [(3, (0, z45)), (2, (0, v37 275 79)), (1, (0, v37 275 81)), (0, (1, 275))], [(1, 275)], v631)) (fun _ _ q => e_Pn.run eAlk 1 rfl q)
      replace hM := hM.st (fun _ _ q => e_Pn.getr (z := 333) eAlk rfl rfl (by rw [← hv631]; exact (e_up_ne _ _ (Or.inr (by first | decide | omega))).trans (s627.1.2.2.2.2.1 (70, 333) (by decide))) (by first | decide | omega) q)
      replace hM := hM.st (t' := (204, [(3, (0, z45)), (2, (0, v37 275 79)), (1, (0, v37 275 81)), (0, (1, 275))], [(1, 275), (0, z45), (1, 333)], v631)) (fun _ _ q => e_Pn.run eAlk 2 rfl q)
      obtain ⟨b632, hM⟩ := hM.of (fun _ _ q => e_Pn.getf (z := v612 275 78) eAlk rfl rfl (by rw [← hv631]; exact (e_up_ne _ _ (Or.inr (by first | decide | omega))).trans rfl) q)
      obtain ⟨b633, b634, hM⟩ := hM.of2 (fun _ _ q => e_Pn.ast eAlk rfl rfl rfl q)
      generalize hv635 : e_up v631 333 z45 (v612 275 78) = v635 at hM
      have v635m := mRw.upd hv635 (fun _ => by first | decide | omega) v631m
      replace hM := hM.st (t' := (209, [(3, (0, z45)), (2, (0, v37 275 79)), (1, (0, v37 275 81)), (0, (1, 275))], [(1, 275)], v635)) (fun _ _ q => e_Pn.run eAlk 1 rfl q)
      have e637a : w615 1 11 = w615 1 11 := rfl
      have e637b : v635 275 83 = v612 275 83 := (Eq.trans (show v635 275 83 = v631 275 83 by rw [← hv635]; exact e_up_ne _ _ (Or.inl (by first | decide | omega))) (show v631 275 83 = v612 275 83 by rw [← hv631]; exact e_up_ne _ _ (Or.inr (by first | decide | omega))))
      have e637c : w615 1 13 = w615 1 13 := rfl
      have e637d : v635 275 82 = v612 275 82 := (Eq.trans (show v635 275 82 = v631 275 82 by rw [← hv635]; exact e_up_ne _ _ (Or.inl (by first | decide | omega))) (show v631 275 82 = v612 275 82 by rw [← hv631]; exact e_up_ne _ _ (Or.inr (by first | decide | omega))))
      have e637f : w615 1 12 = w615 1 12 := rfl
      have e637e : v635 275 80 = v612 275 80 := (Eq.trans (show v635 275 80 = v631 275 80 by rw [← hv635]; exact e_up_ne _ _ (Or.inl (by first | decide | omega))) (show v631 275 80 = v612 275 80 by rw [← hv631]; exact e_up_ne _ _ (Or.inr (by first | decide | omega))))
      have s636 := st.gen (o' := 1) (l' := w 1 13) (m' := v 275 82) (t' := w89 1 12 + 1) (b' := 0) s627 (e_fr.refl w615) (e_fr.up (e_fr.up (e_fr.refl v612) hv631 pf_mGs_275_81) hv635 pf_mGs_333_x) (by first | decide | omega) (by first | decide | omega) (by first | decide | omega) (by first | decide | omega)
      clear q628d q628e q628f
      have q638 := st.nums s636
      clear q628 e637a e637b e637c e637d e637e e637f
      have q638c := q638.2.2.2.1
      have q638d := q638.2.1
      have q638e := q638.2.2.1
      have q638f := q638.2.2.2.2.1.1
      obtain ⟨dc639, r640, v641, hc642, hM⟩ := hM.ca rfl
      have uhc642 := hc642.pn (fun nq => uS_all nq 348 (by decide) _ _ s636.1.2.2.2.2.1)
      have z646 : st0 N cd w615 v635 := st.z s636 (by first | decide | omega) (st.loo s636 hzo.2.1) (by first | decide | omega)
      refine e_Pn.callB rfl (fun k9 hk9 d9 => e_Pn.and (ihS k9 (by first | decide | omega) _ _ _ _ _ _ z646 (by first | decide | omega) hc642) (kS_all k9 144 (by decide) d9 _ _ s636.1.2.2.2.1)) (fun r643 w644 h645 => ?_)
      obtain ⟨⟨rfl, rfl, h645⟩, -, h645k⟩ := h645
      rcases h645.symm with h645 | h645
      · skip
        replace hM : e_Rn 20 elay ecode eI d' 352 (212, [(3, (0, z45)), (2, (0, v37 275 79)), (1, (0, v37 275 81)), (0, (1, 275))], [], v641) r' v' := hM
        obtain ⟨rfl, m647⟩ := (e_Rn.le eAlk [0, 1, 2, 3] rfl rfl hM).pn (fun nq => v_352_212 (uhc642.2.rf s636.1.2.2.2.2.1) _ (v37 275 81) (v37 275 79) z45 v641 mq.r)
        show e_Pn 20 elay kcode eI nq578 dq579 157 (14, [(0, (1, 1)), (1, (0, 48))], [], w644) _
        refine e_Pn.ord kAlk [0, 1] rfl rfl ((v_157_14 (h645k.rf s636.1.2.2.2.1) _ 48 w644 kq.r).imp (fun r649 w650 k648 => ?_))
        obtain ⟨rfl, k648⟩ := k648
        show e_Pn 20 elay kcode eI nq13 dq14 156 (151, [(1, (0, z103)), (0, (1, 1))], [], w650) _
        refine e_Pn.ord kAlk [0, 1] rfl rfl ((v_156_151 (k648.rf (h645k.rf s636.1.2.2.2.1)) _ z103 w650 kq.r).imp (fun r652 w653 k651 => ?_))
        obtain ⟨rfl, k651⟩ := k651
        show e_Pn 20 elay kcode eI n d 145 (356, [(0, (1, 1))], [], w653) _
        refine e_Pn.ord kAlk [0] rfl rfl ((v_145_356 (k651.rf (k648.rf (h645k.rf s636.1.2.2.2.1))) _  w653 kq.r).imp (fun r655 w656 k654 => ?_))
        obtain ⟨rfl, k654⟩ := k654
        exact ⟨rfl, rfl, Or.inr (rpF.tail h645 ((k648.tr k651).tr k654) m647)⟩
      have s657 := st.re (l' := w 1 13) (m' := v 275 82) (t' := w89 1 12 + 1) (st.tr s636 h645) (Int.le_refl _) rfl (by first | decide | omega) (by first | decide | omega) (by first | decide | omega)
      clear q638d q638e q638f
      have q658 := st.nums s657
      clear q638
      have q658c := q658.2.2.2.1
      have q658d := q658.2.1
      have q658e := q658.2.2.1
      have q658f := q658.2.2.2.2.1.1
      show e_Pn 20 elay kcode eI nq578 dq579 157 (14, [(0, (1, 1)), (1, (0, 48))], [], w644) _
      replace hM : e_Rn 20 elay ecode eI d' 352 (212, [(3, (0, z45)), (2, (0, v37 275 79)), (1, (0, v37 275 81)), (0, (1, 275))], [], v641) r' v' := hM
      refine e_Pn.run (t' := (15, [(0, (1, 1)), (1, (0, 48))], [(1, 1)], w644)) kAlk 1 rfl ?_
      refine e_Pn.getr (z := cd) kAlk rfl rfl s657.1.2.2.2.1.2.1 (by first | decide | omega) ?_
      refine e_Pn.run (t' := (20, [(0, (1, 1)), (1, (0, 48))], [(0, 0), (0, 48), (1, cd)], w644)) kAlk 2 rfl ?_
      refine e_Pn.callA rfl (fun nq dq => l_21 s657.1.2.2.2.1 (op := 48) (od := 0) (by first | decide | omega) (by first | decide | omega) s657.1.2.2.2.2.2.1) (fun r659 w660 h661 => ?_)
      obtain ⟨z662, rfl, w660f, w660q⟩ := h661
      have w660k := kRw.em s657.1.2.2.2.1 w660f
      have w660l := (emQ.len w660q s657.1.2.2.2.2.2.1).1
      have w660e : w660 1 5 = w644 1 5 ∧ w660 1 6 = w644 1 6 ∧ w660 1 8 = w644 1 8 := ⟨w660f 1 5 (nf_kEm_1_5 hz.1.2.2.2.1.1), w660f 1 6 (nf_kEm_1_6 hz.1.2.2.2.1.1), w660f 1 8 (nf_kEm_1_8 hz.1.2.2.2.1.1)⟩
      have s663 := st.em s657 w660f w660q (by first | decide | omega) (by unfold isCl3; omega)
      have q664 := st.nums s663
      clear q658
      have q664c := q664.2.2.2.1
      have q664d := q664.2.1
      have q664e := q664.2.2.1
      have q664f := q664.2.2.2.2.1.1
      have z662r : 0 ≤ z662 ∧ z662 ≤ 4000 := emQ.z w660q s657.1.2.2.2.2.2.1
      show e_Pn 20 elay kcode eI nq578 dq579 157 (23, [(0, (1, 1)), (1, (0, 48))], [(0, z662)], w660) _
      refine e_Pn.run (t' := (24, [(0, (1, 1)), (1, (0, 48))], [], w660)) kAlk 1 rfl ?_
      refine e_Pn.ret0 rfl ?_
      show e_Pn 20 elay kcode eI nq13 dq14 156 (151, [(1, (0, z103)), (0, (1, 1))], [], w660) _
      refine e_Pn.run (t' := (153, [(1, (0, z103)), (0, (1, 1))], [(1, 1), (1, 1)], w660)) kAlk 2 rfl ?_
      refine e_Pn.getf (z := w644 1 12) kAlk rfl rfl ((w660f 1 12 (nf_kEm_1_12 hz.1.2.2.2.1.1)).trans rfl) (fun b665 => ?_)
      refine e_Pn.run (t' := (157, [(1, (0, z103)), (0, (1, 1))], [(0, 1), (0, w644 1 12), (1, 1)], w660)) kAlk 1 rfl ?_
      refine e_Pn.sub' (z := w644 1 12 - 1) kAlk rfl (by first | decide | omega) (by first | decide | omega) ?_
      refine e_Pn.putf kAlk rfl rfl ?_
      generalize hw666 : e_up w660 1 12 (w644 1 12 - 1) = w666
      have w666g : e_fr (kGs cd) w660 w666 := (e_fr.up (e_fr.refl w660) hw666 pf_kGs_1_12)
      have w666k := kRw.gs w660k w666g
      have w666l : 0 ≤ w666 cd 0 ∧ w666 cd 0 ≤ 4000 := by rw [w666g cd 0 (nf_kGs_cd_0 hz.1.2.2.2.1.1)]; exact w660l
      have w666e : w666 1 5 = w660 1 5 ∧ w666 1 6 = w660 1 6 ∧ w666 1 8 = w660 1 8 := ⟨w666g 1 5 (nf_kGs_1_5 hz.1.2.2.2.1.1), w666g 1 6 (nf_kGs_1_6 hz.1.2.2.2.1.1), w666g 1 8 (nf_kGs_1_8 hz.1.2.2.2.1.1)⟩
      refine e_Pn.run (t' := (162, [(1, (0, z103)), (0, (1, 1))], [(1, 1)], w666)) kAlk 1 rfl ?_
      refine e_Pn.getr (z := cd) kAlk rfl rfl (by rw [← hw666]; exact (e_up_ne _ _ (Or.inr (by first | decide | omega))).trans ((w660f 1 3 (nf_kEm_1_3 hz.1.2.2.2.1.1)).trans s657.1.2.2.2.1.2.1)) (by first | decide | omega) ?_
      refine e_Pn.run (t' := (167, [(1, (0, z103)), (0, (1, 1))], [(0, 3), (0, z103), (1, cd)], w666)) kAlk 2 rfl ?_
      refine e_Pn.add (z := z103 + 3) kAlk rfl (by first | decide | omega) (by first | decide | omega) ?_
      refine e_Pn.run (t' := (169, [(1, (0, z103)), (0, (1, 1))], [(1, 1), (0, z103 + 3), (1, cd)], w666)) kAlk 1 rfl ?_
      refine e_Pn.getr (z := cd) kAlk rfl rfl (by rw [← hw666]; exact (e_up_ne _ _ (Or.inr (by first | decide | omega))).trans ((w660f 1 3 (nf_kEm_1_3 hz.1.2.2.2.1.1)).trans s657.1.2.2.2.1.2.1)) (by first | decide | omega) ?_
      refine e_Pn.getf (z := w660 cd 0) kAlk rfl rfl (by rw [← hw666]; exact (e_up_ne _ _ (Or.inr (by first | decide | omega))).trans rfl) (fun b667 => ?_)
      refine e_Pn.callA rfl (fun nq dq => l_22 w666k (x := z103 + 3) (od := w660 cd 0) (by first | decide | omega)) (fun r668 w669 h670 => ?_)
      obtain ⟨rfl, w669f, w669q⟩ := h670
      have w669k := kRw.em w666k (w669f.mono (fun _ _ q => Or.inr q))
      have w669l : 0 ≤ w669 cd 0 ∧ w669 cd 0 ≤ 4000 := by rw [w669f cd 0 (nf_kPa_cd_0 hz.1.2.2.2.1.1)]; exact w666l
      have w669e : w669 1 5 = w666 1 5 ∧ w669 1 6 = w666 1 6 ∧ w669 1 8 = w666 1 8 := ⟨w669f 1 5 (nf_kPa_1_5 hz.1.2.2.2.1.1), w669f 1 6 (nf_kPa_1_6 hz.1.2.2.2.1.1), w669f 1 8 (nf_kPa_1_8 hz.1.2.2.2.1.1)⟩
      show e_Pn 20 elay kcode eI nq13 dq14 156 (178, [(1, (0, z103)), (0, (1, 1))], [], w669) _
      refine e_Pn.run (t' := (181, [(1, (0, z103)), (0, (1, 1))], [(0, 23), (1, 1)], w669)) kAlk 2 rfl ?_
      replace hM := hM.st (t' := (216, [(3, (0, z45)), (2, (0, v37 275 79)), (1, (0, v37 275 81)), (0, (1, 275))], [(0, v37 275 79), (0, 51), (1, 275)], v641)) (fun _ _ q => e_Pn.run eAlk 3 rfl q)
      obtain ⟨dc671, r672, v673, hc674, hM⟩ := hM.ca rfl
      obtain ⟨⟨z675, rfl⟩, v673f⟩ := hc674.pn (fun nq => x_336 s657.1.2.2.2.2.1)
      have v673m := mfr.rf v673f s657.1.2.2.2.2.1
      replace hM : e_Rn 20 elay ecode eI d' 352 (219, [(3, (0, z45)), (2, (0, v37 275 79)), (1, (0, v37 275 81)), (0, (1, 275))], [(0, z675)], v673) r' v' := hM
      replace hM := hM.st (t' := (222, [(3, (0, z45)), (2, (0, v37 275 79)), (1, (0, v37 275 81)), (0, (1, 275))], [(0, v37 275 81), (1, 275)], v673)) (fun _ _ q => e_Pn.run eAlk 3 rfl q)
      replace hM := hM.st (fun _ _ q => e_Pn.putf eAlk rfl rfl q)
      generalize hv676 : e_up v673 275 81 (v37 275 81) = v676 at hM
      have v676m := mRw.upd hv676 (fun _ => by first | decide | omega) v673m
      replace hM := hM.st (t' := (226, [(3, (0, z45)), (2, (0, v37 275 79)), (1, (0, v37 275 81)), (0, (1, 275))], [(1, 275)], v676)) (fun _ _ q => e_Pn.run eAlk 1 rfl q)
      replace hM := hM.st (fun _ _ q => e_Pn.getr (z := 334) eAlk rfl rfl (by rw [← hv676]; exact (e_up_ne _ _ (Or.inr (by first | decide | omega))).trans ((v673f 275 71 nf_mEm_275_71).trans (s657.1.2.2.2.2.1 (71, 334) (by decide)))) (by first | decide | omega) q)
      replace hM := hM.st (t' := (231, [(3, (0, z45)), (2, (0, v37 275 79)), (1, (0, v37 275 81)), (0, (1, 275))], [(1, 275), (0, z45), (1, 334)], v676)) (fun _ _ q => e_Pn.run eAlk 2 rfl q)
      obtain ⟨b677, hM⟩ := hM.of (fun _ _ q => e_Pn.getf (z := v673 275 78) eAlk rfl rfl (by rw [← hv676]; exact (e_up_ne _ _ (Or.inr (by first | decide | omega))).trans rfl) q)
      obtain ⟨b678, b679, hM⟩ := hM.of2 (fun _ _ q => e_Pn.ast eAlk rfl rfl rfl q)
      generalize hv680 : e_up v676 334 z45 (v673 275 78) = v680 at hM
      have v680m := mRw.upd hv680 (fun _ => by first | decide | omega) v676m
      replace hM := hM.st (t' := (238, [(3, (0, z45)), (2, (0, v37 275 79)), (1, (0, v37 275 81)), (0, (1, 275))], [(0, 2), (1, 275), (1, 275)], v680)) (fun _ _ q => e_Pn.run eAlk 3 rfl q)
      obtain ⟨dc681, r682, v683, hc684, hM⟩ := hM.ca rfl
      obtain ⟨z685, rfl, rfl, z685q⟩ := hc684.pn (fun nq => l_332)
      replace z685q := isS (kM_key (k := 2) s657.1.2.1.2.2.1 (by decide)) (by rw [← hv680]; exact (e_up_ne _ _ (Or.inl (by first | decide | omega))).trans (by rw [← hv676]; exact (e_up_ne _ _ (Or.inr (by first | decide | omega))).trans ((v673f 275 84 nf_mEm_275_84).trans rfl))) (by rw [← hv680]; exact (e_up_ne _ _ (Or.inl (by first | decide | omega))).trans (by rw [← hv676]; exact (e_up_ne _ _ (Or.inr (by first | decide | omega))).trans ((v673f 275 85 nf_mEm_275_85).trans rfl))) z685q
      replace hM : e_Rn 20 elay ecode eI d' 352 (241, [(3, (0, z45)), (2, (0, v37 275 79)), (1, (0, v37 275 81)), (0, (1, 275))], [(0, z685), (1, 275)], v680) r' v' := hM
      have e687a : w666 1 11 = w660 1 11 := (by rw [← hw666]; exact e_up_ne _ _ (Or.inr (by first | decide | omega)))
      have e687b : v680 275 83 = v641 275 83 := (Eq.trans (show v680 275 83 = v676 275 83 by rw [← hv680]; exact e_up_ne _ _ (Or.inl (by first | decide | omega))) (Eq.trans (show v676 275 83 = v673 275 83 by rw [← hv676]; exact e_up_ne _ _ (Or.inr (by first | decide | omega))) (v673f 275 83 nf_mEm_275_83)))
      have e687c : w666 1 13 = w660 1 13 := (by rw [← hw666]; exact e_up_ne _ _ (Or.inr (by first | decide | omega)))
      have e687d : v680 275 82 = v641 275 82 := (Eq.trans (show v680 275 82 = v676 275 82 by rw [← hv680]; exact e_up_ne _ _ (Or.inl (by first | decide | omega))) (Eq.trans (show v676 275 82 = v673 275 82 by rw [← hv676]; exact e_up_ne _ _ (Or.inr (by first | decide | omega))) (v673f 275 82 nf_mEm_275_82)))
      have e687f : w666 1 12 = w644 1 12 - 1 := (by rw [← hw666]; exact e_up_eq _ _ _ _)
      have e687e : v680 275 80 = v641 275 80 := (Eq.trans (show v680 275 80 = v676 275 80 by rw [← hv680]; exact e_up_ne _ _ (Or.inl (by first | decide | omega))) (Eq.trans (show v676 275 80 = v673 275 80 by rw [← hv676]; exact e_up_ne _ _ (Or.inr (by first | decide | omega))) (v673f 275 80 nf_mEm_275_80)))
      have s686 := st.gen (o' := 1) (l' := w 1 13) (m' := v 275 82) (t' := w644 1 12 - 1) (b' := 0) s663 (e_fr.up (e_fr.refl w660) hw666 pf_kGs_1_12) (e_fr.up (e_fr.up (e_fr.trans (e_fr.refl v641) (e_fr.mono v673f (fun c k q => by unfold mEm at q; unfold mGs; omega))) hv676 pf_mGs_275_81) hv680 pf_mGs_334_x) (by first | decide | omega) (by first | decide | omega) (by first | decide | omega) (by first | decide | omega)
      clear q664d q664e q664f
      have q688 := st.nums s686
      clear q664 e687a e687b e687c e687d e687e e687f
      have q688c := q688.2.2.2.1
      have q688d := q688.2.1
      have q688e := q688.2.2.1
      have q688f := q688.2.2.2.2.1.1
      have pl690 := plcQ.fr phd128 ((show e_fr (kGs cd) w124 w132 from (e_fr.up (e_fr.refl w124) hw132 pf_kGs_1_12)) cd 0 (nf_kGs_cd_0 hz.1.2.2.2.1.1)) (fun i => (show e_fr (kGs cd) w124 w132 from (e_fr.up (e_fr.refl w124) hw132 pf_kGs_1_12)) (cd + 2) i (nf_kGs_cd2_x hz.1.2.2.2.1.1))
      have pl691 := plcQ.st pl690 h144
      have pl692 := plcQ.em pl691 w156q
      have pl693 := plcQ.pa pl692 w399q (w399f cd 0 (nf_kPa_cd_0 hz.1.2.2.2.1.1))
      have pl694 := plcQ.fr pl693 (h432.2.2.2.2.1 cd 0 (nf_kRa_cd_0 hz.1.2.2.2.1.1)) (fun i => h432.2.2.2.2.1 (cd + 2) i (nf_kRa_cd2_x hz.1.2.2.2.1.1))
      have pl695 := plcQ.fr pl694 (h446.2.2.2.2.1 cd 0 (nf_kRa_cd_0 hz.1.2.2.2.1.1)) (fun i => h446.2.2.2.2.1 (cd + 2) i (nf_kRa_cd2_x hz.1.2.2.2.1.1))
      have pl696 := plcQ.st pl695 h475
      have pl697 := plcQ.em pl696 w490q
      have pl698 := plcQ.pa pl697 w565q (w565f cd 0 (nf_kPa_cd_0 hz.1.2.2.2.1.1))
      have pl699 := plcQ.fr pl698 (h602.2.2.2.2.1 cd 0 (nf_kRa_cd_0 hz.1.2.2.2.1.1)) (fun i => h602.2.2.2.2.1 (cd + 2) i (nf_kRa_cd2_x hz.1.2.2.2.1.1))
      have pl700 := plcQ.fr pl699 (h616.2.2.2.2.1 cd 0 (nf_kRa_cd_0 hz.1.2.2.2.1.1)) (fun i => h616.2.2.2.2.1 (cd + 2) i (nf_kRa_cd2_x hz.1.2.2.2.1.1))
      have pl701 := plcQ.st pl700 h645
      have pl702 := plcQ.em pl701 w660q
      have pl703 := plcQ.fr pl702 ((show e_fr (kGs cd) w660 w666 from (e_fr.up (e_fr.refl w660) hw666 pf_kGs_1_12)) cd 0 (nf_kGs_cd_0 hz.1.2.2.2.1.1)) (fun i => (show e_fr (kGs cd) w660 w666 from (e_fr.up (e_fr.refl w660) hw666 pf_kGs_1_12)) (cd + 2) i (nf_kGs_cd2_x hz.1.2.2.2.1.1))
      have s689 := st.pa s686 w669f w669q pl703 (by unfold isCl3; omega)
      clear q688d q688e q688f
      have q704 := st.nums s689
      clear q688
      have q704c := q704.2.2.2.1
      have q704d := q704.2.1
      have q704e := q704.2.2.1
      have q704f := q704.2.2.2.2.1.1
      obtain ⟨dc705, r706, v707, hc708, hM⟩ := hM.ca rfl
      have uhc708 := hc708.pn (fun nq => u_334 s689.1.2.2.2.2.1)
      refine e_Pn.callA rfl (fun nq dq => e_Pn.and (t_129b s689.1.1 s689.1.2.1 (by have q9 : w669 1 5 = w644 1 5 := (by first | decide | omega); rw [q9]; exact z685q) (d' := dc705) hc708) (u_129 s689.1.2.2.2.1)) (fun r709 w710 h711 => ?_)
      obtain ⟨⟨rfl, rfl, h711⟩, -, h711k⟩ := h711
      rcases h711.symm with h711 | ⟨h711c, h711⟩
      · skip
        replace hM : e_Rn 20 elay ecode eI d' 352 (244, [(3, (0, z45)), (2, (0, v37 275 79)), (1, (0, v37 275 81)), (0, (1, 275))], [], v707) r' v' := hM
        obtain ⟨rfl, m712⟩ := (e_Rn.le eAlk [0, 1, 2, 3] rfl rfl hM).pn (fun nq => v_352_244 (uhc708.2.rf s689.1.2.2.2.2.1) _ (v37 275 81) (v37 275 79) z45 v707 mq.r)
        show e_Pn 20 elay kcode eI nq13 dq14 156 (184, [(1, (0, z103)), (0, (1, 1))], [], w710) _
        refine e_Pn.ord kAlk [0, 1] rfl rfl ((v_156_184 (h711k.rf s689.1.2.2.2.1) _ z103 w710 kq.r).imp (fun r714 w715 k713 => ?_))
        obtain ⟨rfl, k713⟩ := k713
        show e_Pn 20 elay kcode eI n d 145 (356, [(0, (1, 1))], [], w715) _
        refine e_Pn.ord kAlk [0] rfl rfl ((v_145_356 (k713.rf (h711k.rf s689.1.2.2.2.1)) _  w715 kq.r).imp (fun r717 w718 k716 => ?_))
        obtain ⟨rfl, k716⟩ := k716
        exact ⟨rfl, rfl, Or.inr (rpF.tail h711 (k713.tr k716) m712)⟩
      clear z685q
      have s719 := st.ad (k := 3) s689 h711 (st.len3 s689 (Or.inl h711c)) (by first | decide | omega)
      have s719n := h711.2.2.2.1
      have s719m := st.len3 s689 (Or.inl h711c)
      have s719g : w 1 6 + 1 ≤ w710 1 6 := by omega
      clear q704d q704e q704f
      have q720 := st.nums s719
      clear q704
      have q720c := q720.2.2.2.1
      have q720d := q720.2.1
      have q720e := q720.2.2.1
      have q720f := q720.2.2.2.2.1.1
      show e_Pn 20 elay kcode eI nq13 dq14 156 (184, [(1, (0, z103)), (0, (1, 1))], [], w710) _
      replace hM : e_Rn 20 elay ecode eI d' 352 (244, [(3, (0, z45)), (2, (0, v37 275 79)), (1, (0, v37 275 81)), (0, (1, 275))], [], v707) r' v' := hM
      refine e_Pn.run (t' := (186, [(1, (0, z103)), (0, (1, 1))], [(1, 1), (1, 1)], w710)) kAlk 2 rfl ?_
      refine e_Pn.getf (z := w710 1 11) kAlk rfl rfl rfl (fun b721 => ?_)
      refine e_Pn.run (t' := (190, [(1, (0, z103)), (0, (1, 1))], [(0, 1), (0, w710 1 11), (1, 1)], w710)) kAlk 1 rfl ?_
      refine e_Pn.sub' (z := w710 1 11 - 1) kAlk rfl (by first | decide | omega) (by first | decide | omega) ?_
      refine e_Pn.putf kAlk rfl rfl ?_
      generalize hw722 : e_up w710 1 11 (w710 1 11 - 1) = w722
      have w722g : e_fr (kGs cd) w710 w722 := (e_fr.up (e_fr.refl w710) hw722 pf_kGs_1_11)
      have w722k := kRw.gs s719.1.2.2.2.1 w722g
      have w722l : 0 ≤ w722 cd 0 ∧ w722 cd 0 ≤ 4000 := by rw [w722g cd 0 (nf_kGs_cd_0 hz.1.2.2.2.1.1)]; exact s719.1.2.2.2.2.2.1
      have w722e : w722 1 5 = w710 1 5 ∧ w722 1 6 = w710 1 6 ∧ w722 1 8 = w710 1 8 := ⟨w722g 1 5 (nf_kGs_1_5 hz.1.2.2.2.1.1), w722g 1 6 (nf_kGs_1_6 hz.1.2.2.2.1.1), w722g 1 8 (nf_kGs_1_8 hz.1.2.2.2.1.1)⟩
      refine e_Pn.ret0 rfl ?_
      show e_Pn 20 elay kcode eI n d 145 (356, [(0, (1, 1))], [], w722) _
      replace hM := hM.st (t' := (246, [(3, (0, z45)), (2, (0, v37 275 79)), (1, (0, v37 275 81)), (0, (1, 275))], [(1, 275), (1, 275)], v707)) (fun _ _ q => e_Pn.run eAlk 2 rfl q)
      obtain ⟨b723, hM⟩ := hM.of (fun _ _ q => e_Pn.getf (z := v707 275 83) eAlk rfl rfl rfl q)
      replace hM := hM.st (t' := (250, [(3, (0, z45)), (2, (0, v37 275 79)), (1, (0, v37 275 81)), (0, (1, 275))], [(0, 1), (0, v707 275 83), (1, 275)], v707)) (fun _ _ q => e_Pn.run eAlk 1 rfl q)
      replace hM := hM.st (fun _ _ q => e_Pn.sub' (z := v707 275 83 - 1) eAlk rfl (by first | decide | omega) (by first | decide | omega) q)
      replace hM := hM.st (fun _ _ q => e_Pn.putf eAlk rfl rfl q)
      generalize hv724 : e_up v707 275 83 (v707 275 83 - 1) = v724 at hM
      have v724m := mRw.upd hv724 (fun _ => by first | decide | omega) s719.1.2.2.2.2.1
      have e726a : w722 1 11 = w710 1 11 - 1 := (by rw [← hw722]; exact e_up_eq _ _ _ _)
      have e726b : v724 275 83 = v707 275 83 - 1 := (by rw [← hv724]; exact e_up_eq _ _ _ _)
      have e726c : w722 1 13 = w710 1 13 := (by rw [← hw722]; exact e_up_ne _ _ (Or.inr (by first | decide | omega)))
      have e726d : v724 275 82 = v707 275 82 := (by rw [← hv724]; exact e_up_ne _ _ (Or.inr (by first | decide | omega)))
      have e726f : w722 1 12 = w710 1 12 := (by rw [← hw722]; exact e_up_ne _ _ (Or.inr (by first | decide | omega)))
      have e726e : v724 275 80 = v707 275 80 := (by rw [← hv724]; exact e_up_ne _ _ (Or.inr (by first | decide | omega)))
      have s725 := st.gen (o' := 0) (l' := w 1 13) (m' := v 275 82) (t' := w644 1 12 - 1) (b' := 0) s719 (e_fr.up (e_fr.refl w710) hw722 pf_kGs_1_11) (e_fr.up (e_fr.refl v707) hv724 pf_mGs_275_83) (by first | decide | omega) (by first | decide | omega) (by first | decide | omega) (by first | decide | omega)
      have q727 := st.nums s725
      clear q720 e726a e726b e726c e726d e726e e726f
      have q727c := q727.2.2.2.1
      have q727d := q727.2.1
      have q727e := q727.2.2.1
      have q727f := q727.2.2.2.2.1.1
      obtain ⟨rfl, rfl⟩ := hM.re0 rfl
      refine e_Pn.ret0 rfl ?_
      exact ⟨rfl, rfl, Or.inl ⟨st.re s725 (by first | decide | omega) (by first | decide | omega) (by first | decide | omega) (by first | decide | omega) (by first | decide | omega), by omega⟩⟩
set_option maxHeartbeats 4000000 in
theorem e_145_42c (n : Nat) (N : Int) (cd : Int) (w : eW) (v : eW) (hz : st0 N cd w v) (hp : 1 ≤ w 1 6) (hkd : w 1 5 = 42) (ihS : ∀ (k : Nat), k < n → sE k) (d : Nat) (d' : Nat) (r' : List eV) (v' : eW) (hn : cd ≠ 1 ∧ cd ≠ 5 ∧ cd ≠ 6 ∧ cd ≠ 7 ∧ cd + 1 ≠ 1 ∧ cd + 1 ≠ 5 ∧ cd + 2 ≠ 1 ∧ cd + 2 ≠ 5 ∧ 2 ≤ cd) (hzo :  (w 1 11 = v 275 83 ∧ 0 ≤ v 275 83 ∧ v 275 83 ≤ 30) ∧ (w 1 13 < 0 ↔ v 275 82 < 0) ∧ 0 ≤ w 1 12 ∧ w 1 12 ≤ w 1 11 ∧ w 1 13 ≤ 4000) (q1 :  (0 ≤ w 1 6 ∧ w 1 6 ≤ w 1 7 ∧ w 1 7 ≤ 4000 ∧ w 1 6 ≤ w 1 6) ∧ (w 1 11 = w 1 11 + 0 ∧ v 275 83 = v 275 83 + 0) ∧ (w 1 13 = w 1 13 ∧ v 275 82 = v 275 82 ∧ w 1 12 = w 1 12) ∧ (0 ≤ w cd 0 ∧ w cd 0 ≤ 4000) ∧ (0 ≤ v 275 80 ∧ v 275 80 ≤ w 1 6 + 0) ∧ (0 ≤ v 275 94 ∧ v 275 94 ≤ w 1 6 + 0) ∧ (v 275 86 = w 1 6 ∧ v 275 87 = w 1 7) ∧ (0 ≤ w 1 5 ∧ w 1 5 ≤ 53) ∧ w cd 0 ≤ w cd 0 ∧ w cd 0 - w cd 0 ≤ w 1 6 - w 1 6 + 0) (q1c : 0 ≤ w cd 0 ∧ w cd 0 ≤ 4000) (q1f : 0 ≤ v 275 80) (q9f : 0 ≤ v 275 80) (h11 : w 1 5 = 42) (nq13 : Nat) (hnq13 : nq13 < n) (dq14 : Nat) (h21b : v 275 83 < 30) (v37 : eW) (z45 : Int) (b46 : 0 ≤ z45) (b47 : z45 < ((4500 : Nat) : Int)) (v86 : eW) (w89 : eW) (s98g : w 1 6 + 1 ≤ w89 1 6) (q99c : 0 ≤ w89 cd 0 ∧ w89 cd 0 ≤ 4000) (q99d : w89 1 11 = w 1 11 + 1 ∧ v86 275 83 = v 275 83 + 1) (q99e : w89 1 13 = w 1 13 ∧ v86 275 82 = v 275 82 ∧ w89 1 12 = w 1 12) (q99f : 0 ≤ v86 275 80) (z103 : Int) (z103r : 0 ≤ z103 ∧ z103 ≤ 4000) (w108 : eW) (phd112 : plcQ cd w (z103 + 1) 49 w108) (w116 : eW) (z118 : Int) (w116q : emQ w108 w116 cd 49 0 z118) (phd120 : plcQ cd w (z103 + (1 + 1)) 49 w116) (w124 : eW) (z126 : Int) (w124q : emQ w116 w124 cd 49 0 z126) (phd128 : plcQ cd w (z103 + (1 + 1 + 1)) 49 w124) (b131 : -2147483648 ≤ w89 1 12 ∧ w89 1 12 ≤ 2147483647) (w132 : eW) (hw132 : e_up w124 1 12 (w89 1 12 + 1) = w132) (w132l : 0 ≤ w132 cd 0 ∧ w132 cd 0 ≤ 4000) (v134 : eW) (q137c : 0 ≤ w132 cd 0 ∧ w132 cd 0 ≤ 4000) (v140 : eW) (w143 : eW) (h144 : st N cd w132 v134 w143 v140 0 0 0 (-1) (w132 1 13) (v134 275 82) (w132 1 12) 2) (s153 : st N cd w v w143 v140 (0 + 1 - 3 - 1 + 1 + 1 + 1 + 1 + 0) (1 + 0) 0 (-1) (w 1 13) (v 275 82) (w89 1 12 + 1) 2) (q154c : 0 ≤ w143 cd 0 ∧ w143 cd 0 ≤ 4000) (q154d : w143 1 11 = w 1 11 + (1 + 0) ∧ v140 275 83 = v 275 83 + (1 + 0)) (q154e : w143 1 13 = w 1 13 ∧ v140 275 82 = v 275 82 ∧ w143 1 12 = w89 1 12 + 1) (q154f : 0 ≤ v140 275 80) (hM :  e_Rn 20 elay ecode eI d' 352 (90, [(3, 0, z45), (2, 0, v37 275 79), (1, 0, v37 275 81), (0, 1, 275)], [], v140) r' v') (w156 : eW) (z158 : Int) (w156f : e_fr (kEm cd) w143 w156) (w156q : emQ w143 w156 cd 47 0 z158) (w156k : kRw cd w156) (w156l : 0 ≤ w156 cd 0 ∧ w156 cd 0 ≤ 4000) (w156e : w156 1 5 = w143 1 5 ∧ w156 1 6 = w143 1 6 ∧ w156 1 8 = w143 1 8) (s159 : st N cd w v w156 v140 (0 + 1 - 3 - 1 + 1 + 1 + 1 + 1 + 0 + 1) (1 + 0) 0 (-1) (w 1 13) (v 275 82) (w89 1 12 + 1) 2) (q160 :  (0 ≤ w156 1 6 ∧ w156 1 6 ≤ w156 1 7 ∧ w156 1 7 ≤ 4000 ∧ w 1 6 ≤ w156 1 6) ∧ (w156 1 11 = w 1 11 + (1 + 0) ∧ v140 275 83 = v 275 83 + (1 + 0)) ∧ (w156 1 13 = w 1 13 ∧ v140 275 82 = v 275 82 ∧ w156 1 12 = w89 1 12 + 1) ∧ (0 ≤ w156 cd 0 ∧ w156 cd 0 ≤ 4000) ∧ (0 ≤ v140 275 80 ∧ v140 275 80 ≤ w156 1 6 + 0) ∧ (0 ≤ v140 275 94 ∧ v140 275 94 ≤ w156 1 6 + 0) ∧ (v140 275 86 = w156 1 6 ∧ v140 275 87 = w156 1 7) ∧ (0 ≤ w156 1 5 ∧ w156 1 5 ≤ 53) ∧ w cd 0 ≤ w156 cd 0 ∧ w156 cd 0 - w cd 0 ≤ w156 1 6 - w 1 6 + (0 + 1 - 3 - 1 + 1 + 1 + 1 + 1 + 0 + 1)) (q160c : 0 ≤ w156 cd 0 ∧ w156 cd 0 ≤ 4000) (q160d : w156 1 11 = w 1 11 + (1 + 0) ∧ v140 275 83 = v 275 83 + (1 + 0)) (q160e : w156 1 13 = w 1 13 ∧ v140 275 82 = v 275 82 ∧ w156 1 12 = w89 1 12 + 1) (q160f : 0 ≤ v140 275 80) (z158r : 0 ≤ z158 ∧ z158 ≤ 4000) (b161 : -2147483648 ≤ w143 1 5 ∧ w143 1 5 ≤ 2147483647) (h162 : w143 1 5 = 43) : e_Pn 20 elay kcode eI nq13 dq14 156 (96, [(1, 0, z103), (0, 1, 1)], [], w156) fun r w' => e_Pn 20 elay kcode eI n d 145 (353 + 3, [(0, 1, 1)], r ++ List.drop 1 [(1, 1)], w') fun r w' => r = [] ∧ r' = [] ∧ (st N cd w v w' v' 0 0 0 (-1) (w 1 13) (v 275 82) (w 1 12) 2 ∧ w 1 6 < w' 1 6 ∨ rpF w' v') := by
  refine e_Pn.run (t' := (97, [(1, (0, z103)), (0, (1, 1))], [(1, 1)], w156)) kAlk 1 rfl ?_
  refine e_Pn.getr (z := cd) kAlk rfl rfl ((w156f 1 3 (nf_kEm_1_3 hz.1.2.2.2.1.1)).trans s153.1.2.2.2.1.2.1) (by first | decide | omega) ?_
  refine e_Pn.run (t' := (102, [(1, (0, z103)), (0, (1, 1))], [(0, 1), (0, z103), (1, cd)], w156)) kAlk 2 rfl ?_
  refine e_Pn.add (z := z103 + 1) kAlk rfl (by first | decide | omega) (by first | decide | omega) ?_
  refine e_Pn.run (t' := (104, [(1, (0, z103)), (0, (1, 1))], [(1, 1), (0, z103 + 1), (1, cd)], w156)) kAlk 1 rfl ?_
  refine e_Pn.getr (z := cd) kAlk rfl rfl ((w156f 1 3 (nf_kEm_1_3 hz.1.2.2.2.1.1)).trans s153.1.2.2.2.1.2.1) (by first | decide | omega) ?_
  refine e_Pn.getf (z := w156 cd 0) kAlk rfl rfl rfl (fun b397 => ?_)
  refine e_Pn.callA rfl (fun nq dq => l_22 w156k (x := z103 + 1) (od := w156 cd 0) (by first | decide | omega)) (fun r398 w399 h400 => ?_)
  obtain ⟨rfl, w399f, w399q⟩ := h400
  have w399k := kRw.em w156k (w399f.mono (fun _ _ q => Or.inr q))
  have w399l : 0 ≤ w399 cd 0 ∧ w399 cd 0 ≤ 4000 := by rw [w399f cd 0 (nf_kPa_cd_0 hz.1.2.2.2.1.1)]; exact w156l
  have w399e : w399 1 5 = w156 1 5 ∧ w399 1 6 = w156 1 6 ∧ w399 1 8 = w156 1 8 := ⟨w399f 1 5 (nf_kPa_1_5 hz.1.2.2.2.1.1), w399f 1 6 (nf_kPa_1_6 hz.1.2.2.2.1.1), w399f 1 8 (nf_kPa_1_8 hz.1.2.2.2.1.1)⟩
  have pl402 := plcQ.em phd112 w116q
  have pl403 := plcQ.em pl402 w124q
  have pl404 := plcQ.fr pl403 ((show e_fr (kGs cd) w124 w132 from (e_fr.up (e_fr.refl w124) hw132 pf_kGs_1_12)) cd 0 (nf_kGs_cd_0 hz.1.2.2.2.1.1)) (fun i => (show e_fr (kGs cd) w124 w132 from (e_fr.up (e_fr.refl w124) hw132 pf_kGs_1_12)) (cd + 2) i (nf_kGs_cd2_x hz.1.2.2.2.1.1))
  have pl405 := plcQ.st pl404 h144
  have pl406 := plcQ.em pl405 w156q
  have s401 := st.pa s159 w399f w399q pl406 (by unfold isCl3; omega)
  have q407 := st.nums s401
  clear q160
  have q407c := q407.2.2.2.1
  have q407d := q407.2.1
  have q407e := q407.2.2.1
  have q407f := q407.2.2.2.2.1.1
  show e_Pn 20 elay kcode eI nq13 dq14 156 (113, [(1, (0, z103)), (0, (1, 1))], [], w399) _
  refine e_Pn.run (t' := (116, [(1, (0, z103)), (0, (1, 1))], [(0, 47), (1, 1)], w399)) kAlk 2 rfl ?_
  refine e_Pn.callJ rfl (fun nq408 hnq408 dq409 => ?_)
  show e_Pn 20 elay kcode eI nq408 dq409 157 (0, [(0, (1, 1)), (1, (0, 47))], [], w399) _
  refine e_Pn.run (t' := (1, [(0, (1, 1)), (1, (0, 47))], [(1, 1)], w399)) kAlk 1 rfl ?_
  replace hM := hM.st (t' := (94, [(3, (0, z45)), (2, (0, v37 275 79)), (1, (0, v37 275 81)), (0, (1, 275))], [(0, v37 275 79), (0, 49), (1, 275)], v140)) (fun _ _ q => e_Pn.run eAlk 3 rfl q)
  obtain ⟨dc410, r411, v412, hc413, hM⟩ := hM.ca rfl
  obtain ⟨⟨z414, rfl⟩, v412f⟩ := hc413.pn (fun nq => x_336 s153.1.2.2.2.2.1)
  have v412m := mfr.rf v412f s153.1.2.2.2.2.1
  replace hM : e_Rn 20 elay ecode eI d' 352 (97, [(3, (0, z45)), (2, (0, v37 275 79)), (1, (0, v37 275 81)), (0, (1, 275))], [(0, z414)], v412) r' v' := hM
  replace hM := hM.st (t' := (99, [(3, (0, z45)), (2, (0, v37 275 79)), (1, (0, v37 275 81)), (0, (1, 275))], [(1, 275)], v412)) (fun _ _ q => e_Pn.run eAlk 2 rfl q)
  obtain ⟨b415, hM⟩ := hM.of (fun _ _ q => e_Pn.getf (z := 0) eAlk rfl rfl ((v412f 275 88 nf_mEm_275_88).trans s153.1.2.1.1.2) q)
  rcases hM.or (fun _ _ q1 q2 => e_Pn.if1 eAlk rfl q1 q2) with ⟨h416, hM⟩ | ⟨h416, hM⟩
  · replace h416 : (0 : Int) ≠ 0 := h416
    exfalso; omega
  · replace h416 : (0 : Int) = 0 := by have q : ¬ ((0 : Int) ≠ 0) := h416; omega
    replace hM := hM.st (t' := (108, [(3, (0, z45)), (2, (0, v37 275 79)), (1, (0, v37 275 81)), (0, (1, 275))], [(0, 22), (1, 275)], v412)) (fun _ _ q => e_Pn.run eAlk 2 rfl q)
    obtain ⟨dc417, r418, v419, hc420, hM⟩ := hM.ca rfl
    obtain ⟨z421, rfl, rfl, z421q⟩ := hc420.pn (fun nq => l_332)
    replace z421q := isS (kM_key (k := 22) s153.1.2.1.2.2.1 (by decide)) ((v412f 275 84 nf_mEm_275_84).trans rfl) ((v412f 275 85 nf_mEm_275_85).trans rfl) z421q
    obtain rfl : z421 = 1 := by omega
    clear z421q
    replace hM : e_Rn 20 elay ecode eI d' 352 (111, [(3, (0, z45)), (2, (0, v37 275 79)), (1, (0, v37 275 81)), (0, (1, 275))], [(0, 1)], v412) r' v' := hM
    rcases hM.or (fun _ _ q1 q2 => e_Pn.if1 eAlk rfl q1 q2) with ⟨h422, hM⟩ | ⟨h422, hM⟩
    · replace h422 : (1 : Int) = 0 := h422
      exfalso; omega
    · replace h422 : (1 : Int) ≠ 0 := by have q : ¬ ((1 : Int) = 0) := h422; omega
      replace hM := hM.st (t' := (115, [(3, (0, z45)), (2, (0, v37 275 79)), (1, (0, v37 275 81)), (0, (1, 275))], [(1, 275)], v412)) (fun _ _ q => e_Pn.run eAlk 1 rfl q)
      have e424a : w399 1 11 = w399 1 11 := rfl
      have e424b : v412 275 83 = v140 275 83 := (v412f 275 83 nf_mEm_275_83)
      have e424c : w399 1 13 = w399 1 13 := rfl
      have e424d : v412 275 82 = v140 275 82 := (v412f 275 82 nf_mEm_275_82)
      have e424f : w399 1 12 = w399 1 12 := rfl
      have e424e : v412 275 80 = v140 275 80 := (v412f 275 80 nf_mEm_275_80)
      have s423 := st.gen (o' := 1) (l' := w 1 13) (m' := v 275 82) (t' := w89 1 12 + 1) (b' := 0) s401 (e_fr.refl w399) (e_fr.trans (e_fr.refl v140) (e_fr.mono v412f (fun c k q => by unfold mEm at q; unfold mGs; omega))) (by first | decide | omega) (by first | decide | omega) (by first | decide | omega) (by first | decide | omega)
      clear q160d q160e q160f q407d q407e q407f
      have q425 := st.nums s423
      clear q407 e424a e424b e424c e424d e424e e424f
      have q425c := q425.2.2.2.1
      have q425d := q425.2.1
      have q425e := q425.2.2.1
      have q425f := q425.2.2.2.2.1.1
      obtain ⟨dc426, r427, v428, hc429, hM⟩ := hM.ca rfl
      refine e_Pn.callA rfl (fun nq dq => t_123b s423.1.1 s423.1.2.1.1 s423.1.2.1.2.1.2.1 (st.nx s423) (d' := dc426) hc429) (fun r430 w431 h432 => ?_)
      obtain ⟨rfl, rfl, h432⟩ := h432
      have s433 := st.ad (k := 2) s423 h432 (st.len2 s423 (by first | decide | omega)) (by first | decide | omega)
      have s433n := h432.2.2.2.1
      have s433m := st.len2 s423 (by first | decide | omega)
      have s433g : w 1 6 + 1 ≤ w431 1 6 := by omega
      clear q425d q425e q425f
      have q434 := st.nums s433
      clear q425
      have q434c := q434.2.2.2.1
      have q434d := q434.2.1
      have q434e := q434.2.2.1
      have q434f := q434.2.2.2.2.1.1
      show e_Pn 20 elay kcode eI nq408 dq409 157 (4, [(0, (1, 1)), (1, (0, 47))], [], w431) _
      replace hM : e_Rn 20 elay ecode eI d' 352 (118, [(3, (0, z45)), (2, (0, v37 275 79)), (1, (0, v37 275 81)), (0, (1, 275))], [], v428) r' v' := hM
      refine e_Pn.run (t' := (7, [(0, (1, 1)), (1, (0, 47))], [(0, 20), (1, 1)], w431)) kAlk 2 rfl ?_
      replace hM := hM.st (t' := (122, [(3, (0, z45)), (2, (0, v37 275 79)), (1, (0, v37 275 81)), (0, (1, 275))], [(0, 58), (1, 275), (1, 275)], v428)) (fun _ _ q => e_Pn.run eAlk 3 rfl q)
      obtain ⟨dc435, r436, v437, hc438, hM⟩ := hM.ca rfl
      obtain ⟨z439, rfl, rfl, z439q⟩ := hc438.pn (fun nq => l_331)
      replace z439q := isS (kM_s58 s433.1.2.1.2.2.1) rfl rfl z439q
      replace hM : e_Rn 20 elay ecode eI d' 352 (125, [(3, (0, z45)), (2, (0, v37 275 79)), (1, (0, v37 275 81)), (0, (1, 275))], [(0, z439), (1, 275)], v428) r' v' := hM
      obtain ⟨dc440, r441, v442, hc443, hM⟩ := hM.ca rfl
      have uhc443 := hc443.pn (fun nq => u_334 s433.1.2.2.2.2.1)
      refine e_Pn.callA rfl (fun nq dq => e_Pn.and (t_129b s433.1.1 s433.1.2.1 z439q (d' := dc440) hc443) (u_129 s433.1.2.2.2.1)) (fun r444 w445 h446 => ?_)
      obtain ⟨⟨rfl, rfl, h446⟩, -, h446k⟩ := h446
      rcases h446.symm with h446 | ⟨h446c, h446⟩
      · skip
        replace hM : e_Rn 20 elay ecode eI d' 352 (128, [(3, (0, z45)), (2, (0, v37 275 79)), (1, (0, v37 275 81)), (0, (1, 275))], [], v442) r' v' := hM
        obtain ⟨rfl, m447⟩ := (e_Rn.le eAlk [0, 1, 2, 3] rfl rfl hM).pn (fun nq => v_352_128 (uhc443.2.rf s433.1.2.2.2.2.1) _ (v37 275 81) (v37 275 79) z45 v442 mq.r)
        show e_Pn 20 elay kcode eI nq408 dq409 157 (10, [(0, (1, 1)), (1, (0, 47))], [], w445) _
        refine e_Pn.ord kAlk [0, 1] rfl rfl ((v_157_10 (h446k.rf s433.1.2.2.2.1) _ 47 w445 kq.r).imp (fun r449 w450 k448 => ?_))
        obtain ⟨rfl, k448⟩ := k448
        show e_Pn 20 elay kcode eI nq13 dq14 156 (119, [(1, (0, z103)), (0, (1, 1))], [], w450) _
        refine e_Pn.ord kAlk [0, 1] rfl rfl ((v_156_119 (k448.rf (h446k.rf s433.1.2.2.2.1)) _ z103 w450 kq.r).imp (fun r452 w453 k451 => ?_))
        obtain ⟨rfl, k451⟩ := k451
        show e_Pn 20 elay kcode eI n d 145 (356, [(0, (1, 1))], [], w453) _
        refine e_Pn.ord kAlk [0] rfl rfl ((v_145_356 (k451.rf (k448.rf (h446k.rf s433.1.2.2.2.1))) _  w453 kq.r).imp (fun r455 w456 k454 => ?_))
        obtain ⟨rfl, k454⟩ := k454
        exact ⟨rfl, rfl, Or.inr (rpF.tail h446 ((k448.tr k451).tr k454) m447)⟩
      clear z439q
      have s457 := st.ad (k := 1) s433 h446 (st.len1 s433 (by first | decide | omega)) (by first | decide | omega)
      have s457n := h446.2.2.2.1
      have s457m := st.len1 s433 (by first | decide | omega)
      have s457g : w 1 6 + 1 ≤ w445 1 6 := by omega
      clear q434d q434e q434f
      have q458 := st.nums s457
      clear q434
      have q458c := q458.2.2.2.1
      have q458d := q458.2.1
      have q458e := q458.2.2.1
      have q458f := q458.2.2.2.2.1.1
      show e_Pn 20 elay kcode eI nq408 dq409 157 (10, [(0, (1, 1)), (1, (0, 47))], [], w445) _
      replace hM : e_Rn 20 elay ecode eI d' 352 (128, [(3, (0, z45)), (2, (0, v37 275 79)), (1, (0, v37 275 81)), (0, (1, 275))], [], v442) r' v' := hM
      refine e_Pn.run (t' := (11, [(0, (1, 1)), (1, (0, 47))], [(1, 1)], w445)) kAlk 1 rfl ?_
      replace hM := hM.st (t' := (131, [(3, (0, z45)), (2, (0, v37 275 79)), (1, (0, v37 275 81)), (0, (1, 275))], [(0, v37 275 79), (0, 3), (1, 275)], v442)) (fun _ _ q => e_Pn.run eAlk 3 rfl q)
      obtain ⟨z459, hz459, hM⟩ := hM.ex (fun _ _ q => e_Pn.bin0 eAlk rfl q)
      replace hM := hM.st (t' := (133, [(3, (0, z45)), (2, (0, v37 275 79)), (1, (0, v37 275 81)), (0, (1, 275))], [(0, 1), (0, z459), (1, 275)], v442)) (fun _ _ q => e_Pn.run eAlk 1 rfl q)
      obtain ⟨z460, hz460, hM⟩ := hM.ex (fun _ _ q => e_Pn.bin0 eAlk rfl q)
      replace hM := hM.st (fun _ _ q => e_Pn.putf eAlk rfl rfl q)
      generalize hv461 : e_up v442 275 81 z460 = v461 at hM
      have v461m := mRw.upd hv461 (fun _ => by first | decide | omega) s457.1.2.2.2.2.1
      replace hM := hM.st (t' := (138, [(3, (0, z45)), (2, (0, v37 275 79)), (1, (0, v37 275 81)), (0, (1, 275))], [(1, 275)], v461)) (fun _ _ q => e_Pn.run eAlk 1 rfl q)
      replace hM := hM.st (fun _ _ q => e_Pn.getr (z := 332) eAlk rfl rfl (by rw [← hv461]; exact (e_up_ne _ _ (Or.inr (by first | decide | omega))).trans (s457.1.2.2.2.2.1 (69, 332) (by decide))) (by first | decide | omega) q)
      replace hM := hM.st (t' := (143, [(3, (0, z45)), (2, (0, v37 275 79)), (1, (0, v37 275 81)), (0, (1, 275))], [(1, 275), (0, z45), (1, 332)], v461)) (fun _ _ q => e_Pn.run eAlk 2 rfl q)
      obtain ⟨b462, hM⟩ := hM.of (fun _ _ q => e_Pn.getf (z := v442 275 78) eAlk rfl rfl (by rw [← hv461]; exact (e_up_ne _ _ (Or.inr (by first | decide | omega))).trans rfl) q)
      obtain ⟨b463, b464, hM⟩ := hM.of2 (fun _ _ q => e_Pn.ast eAlk rfl rfl rfl q)
      generalize hv465 : e_up v461 332 z45 (v442 275 78) = v465 at hM
      have v465m := mRw.upd hv465 (fun _ => by first | decide | omega) v461m
      replace hM := hM.st (t' := (148, [(3, (0, z45)), (2, (0, v37 275 79)), (1, (0, v37 275 81)), (0, (1, 275))], [(1, 275)], v465)) (fun _ _ q => e_Pn.run eAlk 1 rfl q)
      have e467a : w445 1 11 = w445 1 11 := rfl
      have e467b : v465 275 83 = v442 275 83 := (Eq.trans (show v465 275 83 = v461 275 83 by rw [← hv465]; exact e_up_ne _ _ (Or.inl (by first | decide | omega))) (show v461 275 83 = v442 275 83 by rw [← hv461]; exact e_up_ne _ _ (Or.inr (by first | decide | omega))))
      have e467c : w445 1 13 = w445 1 13 := rfl
      have e467d : v465 275 82 = v442 275 82 := (Eq.trans (show v465 275 82 = v461 275 82 by rw [← hv465]; exact e_up_ne _ _ (Or.inl (by first | decide | omega))) (show v461 275 82 = v442 275 82 by rw [← hv461]; exact e_up_ne _ _ (Or.inr (by first | decide | omega))))
      have e467f : w445 1 12 = w445 1 12 := rfl
      have e467e : v465 275 80 = v442 275 80 := (Eq.trans (show v465 275 80 = v461 275 80 by rw [← hv465]; exact e_up_ne _ _ (Or.inl (by first | decide | omega))) (show v461 275 80 = v442 275 80 by rw [← hv461]; exact e_up_ne _ _ (Or.inr (by first | decide | omega))))
      have s466 := st.gen (o' := 1) (l' := w 1 13) (m' := v 275 82) (t' := w89 1 12 + 1) (b' := 0) s457 (e_fr.refl w445) (e_fr.up (e_fr.up (e_fr.refl v442) hv461 pf_mGs_275_81) hv465 pf_mGs_332_x) (by first | decide | omega) (by first | decide | omega) (by first | decide | omega) (by first | decide | omega)
      clear q458d q458e q458f
      have q468 := st.nums s466
      clear q458 e467a e467b e467c e467d e467e e467f
      have q468c := q468.2.2.2.1
      have q468d := q468.2.1
      have q468e := q468.2.2.1
      have q468f := q468.2.2.2.2.1.1
      obtain ⟨dc469, r470, v471, hc472, hM⟩ := hM.ca rfl
      have uhc472 := hc472.pn (fun nq => uS_all nq 348 (by decide) _ _ s466.1.2.2.2.2.1)
      have z476 : st0 N cd w445 v465 := st.z s466 (by first | decide | omega) (st.loo s466 hzo.2.1) (by first | decide | omega)
      refine e_Pn.callB rfl (fun k9 hk9 d9 => e_Pn.and (ihS k9 (by first | decide | omega) _ _ _ _ _ _ z476 (by first | decide | omega) hc472) (kS_all k9 144 (by decide) d9 _ _ s466.1.2.2.2.1)) (fun r473 w474 h475 => ?_)
      obtain ⟨⟨rfl, rfl, h475⟩, -, h475k⟩ := h475
      rcases h475.symm with h475 | h475
      · skip
        replace hM : e_Rn 20 elay ecode eI d' 352 (151, [(3, (0, z45)), (2, (0, v37 275 79)), (1, (0, v37 275 81)), (0, (1, 275))], [], v471) r' v' := hM
        obtain ⟨rfl, m477⟩ := (e_Rn.le eAlk [0, 1, 2, 3] rfl rfl hM).pn (fun nq => v_352_151 (uhc472.2.rf s466.1.2.2.2.2.1) _ (v37 275 81) (v37 275 79) z45 v471 mq.r)
        show e_Pn 20 elay kcode eI nq408 dq409 157 (14, [(0, (1, 1)), (1, (0, 47))], [], w474) _
        refine e_Pn.ord kAlk [0, 1] rfl rfl ((v_157_14 (h475k.rf s466.1.2.2.2.1) _ 47 w474 kq.r).imp (fun r479 w480 k478 => ?_))
        obtain ⟨rfl, k478⟩ := k478
        show e_Pn 20 elay kcode eI nq13 dq14 156 (119, [(1, (0, z103)), (0, (1, 1))], [], w480) _
        refine e_Pn.ord kAlk [0, 1] rfl rfl ((v_156_119 (k478.rf (h475k.rf s466.1.2.2.2.1)) _ z103 w480 kq.r).imp (fun r482 w483 k481 => ?_))
        obtain ⟨rfl, k481⟩ := k481
        show e_Pn 20 elay kcode eI n d 145 (356, [(0, (1, 1))], [], w483) _
        refine e_Pn.ord kAlk [0] rfl rfl ((v_145_356 (k481.rf (k478.rf (h475k.rf s466.1.2.2.2.1))) _  w483 kq.r).imp (fun r485 w486 k484 => ?_))
        obtain ⟨rfl, k484⟩ := k484
        exact ⟨rfl, rfl, Or.inr (rpF.tail h475 ((k478.tr k481).tr k484) m477)⟩
      have s487 := st.re (l' := w 1 13) (m' := v 275 82) (t' := w89 1 12 + 1) (st.tr s466 h475) (Int.le_refl _) rfl (by first | decide | omega) (by first | decide | omega) (by first | decide | omega)
      clear q468d q468e q468f
      have q488 := st.nums s487
      clear q468
      have q488c := q488.2.2.2.1
      have q488d := q488.2.1
      have q488e := q488.2.2.1
      have q488f := q488.2.2.2.2.1.1
      show e_Pn 20 elay kcode eI nq408 dq409 157 (14, [(0, (1, 1)), (1, (0, 47))], [], w474) _
      replace hM : e_Rn 20 elay ecode eI d' 352 (151, [(3, (0, z45)), (2, (0, v37 275 79)), (1, (0, v37 275 81)), (0, (1, 275))], [], v471) r' v' := hM
      refine e_Pn.run (t' := (15, [(0, (1, 1)), (1, (0, 47))], [(1, 1)], w474)) kAlk 1 rfl ?_
      refine e_Pn.getr (z := cd) kAlk rfl rfl s487.1.2.2.2.1.2.1 (by first | decide | omega) ?_
      refine e_Pn.run (t' := (20, [(0, (1, 1)), (1, (0, 47))], [(0, 0), (0, 47), (1, cd)], w474)) kAlk 2 rfl ?_
      refine e_Pn.callA rfl (fun nq dq => l_21 s487.1.2.2.2.1 (op := 47) (od := 0) (by first | decide | omega) (by first | decide | omega) s487.1.2.2.2.2.2.1) (fun r489 w490 h491 => ?_)
      obtain ⟨z492, rfl, w490f, w490q⟩ := h491
      have w490k := kRw.em s487.1.2.2.2.1 w490f
      have w490l := (emQ.len w490q s487.1.2.2.2.2.2.1).1
      have w490e : w490 1 5 = w474 1 5 ∧ w490 1 6 = w474 1 6 ∧ w490 1 8 = w474 1 8 := ⟨w490f 1 5 (nf_kEm_1_5 hz.1.2.2.2.1.1), w490f 1 6 (nf_kEm_1_6 hz.1.2.2.2.1.1), w490f 1 8 (nf_kEm_1_8 hz.1.2.2.2.1.1)⟩
      have s493 := st.em s487 w490f w490q (by first | decide | omega) (by unfold isCl3; omega)
      have q494 := st.nums s493
      clear q488
      have q494c := q494.2.2.2.1
      have q494d := q494.2.1
      have q494e := q494.2.2.1
      have q494f := q494.2.2.2.2.1.1
      have z492r : 0 ≤ z492 ∧ z492 ≤ 4000 := emQ.z w490q s487.1.2.2.2.2.2.1
      show e_Pn 20 elay kcode eI nq408 dq409 157 (23, [(0, (1, 1)), (1, (0, 47))], [(0, z492)], w490) _
      refine e_Pn.run (t' := (24, [(0, (1, 1)), (1, (0, 47))], [], w490)) kAlk 1 rfl ?_
      refine e_Pn.ret0 rfl ?_
      show e_Pn 20 elay kcode eI nq13 dq14 156 (119, [(1, (0, z103)), (0, (1, 1))], [], w490) _
      refine e_Pn.run (t' := (120, [(1, (0, z103)), (0, (1, 1))], [(1, 1)], w490)) kAlk 1 rfl ?_
      refine e_Pn.getf (z := w474 1 5) kAlk rfl rfl ((w490f 1 5 (nf_kEm_1_5 hz.1.2.2.2.1.1)).trans rfl) (fun b495 => ?_)
      refine e_Pn.run (t' := (125, [(1, (0, z103)), (0, (1, 1))], [(0, 44), (0, w474 1 5)], w490)) kAlk 1 rfl ?_
      refine e_Pn.if2 kAlk rfl (fun h496 => ?_) (fun h496 => ?_)
      · replace h496 : (w474 1 5 : Int) ≠ 44 := h496
        refine e_Pn.run (t' := (153, [(1, (0, z103)), (0, (1, 1))], [(1, 1), (1, 1)], w490)) kAlk 2 rfl ?_
        refine e_Pn.getf (z := w474 1 12) kAlk rfl rfl ((w490f 1 12 (nf_kEm_1_12 hz.1.2.2.2.1.1)).trans rfl) (fun b497 => ?_)
        refine e_Pn.run (t' := (157, [(1, (0, z103)), (0, (1, 1))], [(0, 1), (0, w474 1 12), (1, 1)], w490)) kAlk 1 rfl ?_
        refine e_Pn.sub' (z := w474 1 12 - 1) kAlk rfl (by first | decide | omega) (by first | decide | omega) ?_
        refine e_Pn.putf kAlk rfl rfl ?_
        generalize hw498 : e_up w490 1 12 (w474 1 12 - 1) = w498
        have w498g : e_fr (kGs cd) w490 w498 := (e_fr.up (e_fr.refl w490) hw498 pf_kGs_1_12)
        have w498k := kRw.gs w490k w498g
        have w498l : 0 ≤ w498 cd 0 ∧ w498 cd 0 ≤ 4000 := by rw [w498g cd 0 (nf_kGs_cd_0 hz.1.2.2.2.1.1)]; exact w490l
        have w498e : w498 1 5 = w490 1 5 ∧ w498 1 6 = w490 1 6 ∧ w498 1 8 = w490 1 8 := ⟨w498g 1 5 (nf_kGs_1_5 hz.1.2.2.2.1.1), w498g 1 6 (nf_kGs_1_6 hz.1.2.2.2.1.1), w498g 1 8 (nf_kGs_1_8 hz.1.2.2.2.1.1)⟩
        refine e_Pn.run (t' := (162, [(1, (0, z103)), (0, (1, 1))], [(1, 1)], w498)) kAlk 1 rfl ?_
        refine e_Pn.getr (z := cd) kAlk rfl rfl (by rw [← hw498]; exact (e_up_ne _ _ (Or.inr (by first | decide | omega))).trans ((w490f 1 3 (nf_kEm_1_3 hz.1.2.2.2.1.1)).trans s487.1.2.2.2.1.2.1)) (by first | decide | omega) ?_
        refine e_Pn.run (t' := (167, [(1, (0, z103)), (0, (1, 1))], [(0, 3), (0, z103), (1, cd)], w498)) kAlk 2 rfl ?_
        refine e_Pn.add (z := z103 + 3) kAlk rfl (by first | decide | omega) (by first | decide | omega) ?_
        refine e_Pn.run (t' := (169, [(1, (0, z103)), (0, (1, 1))], [(1, 1), (0, z103 + 3), (1, cd)], w498)) kAlk 1 rfl ?_
        refine e_Pn.getr (z := cd) kAlk rfl rfl (by rw [← hw498]; exact (e_up_ne _ _ (Or.inr (by first | decide | omega))).trans ((w490f 1 3 (nf_kEm_1_3 hz.1.2.2.2.1.1)).trans s487.1.2.2.2.1.2.1)) (by first | decide | omega) ?_
        refine e_Pn.getf (z := w490 cd 0) kAlk rfl rfl (by rw [← hw498]; exact (e_up_ne _ _ (Or.inr (by first | decide | omega))).trans rfl) (fun b499 => ?_)
        refine e_Pn.callA rfl (fun nq dq => l_22 w498k (x := z103 + 3) (od := w490 cd 0) (by first | decide | omega)) (fun r500 w501 h502 => ?_)
        obtain ⟨rfl, w501f, w501q⟩ := h502
        have w501k := kRw.em w498k (w501f.mono (fun _ _ q => Or.inr q))
        have w501l : 0 ≤ w501 cd 0 ∧ w501 cd 0 ≤ 4000 := by rw [w501f cd 0 (nf_kPa_cd_0 hz.1.2.2.2.1.1)]; exact w498l
        have w501e : w501 1 5 = w498 1 5 ∧ w501 1 6 = w498 1 6 ∧ w501 1 8 = w498 1 8 := ⟨w501f 1 5 (nf_kPa_1_5 hz.1.2.2.2.1.1), w501f 1 6 (nf_kPa_1_6 hz.1.2.2.2.1.1), w501f 1 8 (nf_kPa_1_8 hz.1.2.2.2.1.1)⟩
        show e_Pn 20 elay kcode eI nq13 dq14 156 (178, [(1, (0, z103)), (0, (1, 1))], [], w501) _
        refine e_Pn.run (t' := (181, [(1, (0, z103)), (0, (1, 1))], [(0, 23), (1, 1)], w501)) kAlk 2 rfl ?_
        replace hM := hM.st (t' := (155, [(3, (0, z45)), (2, (0, v37 275 79)), (1, (0, v37 275 81)), (0, (1, 275))], [(0, v37 275 79), (0, 50), (1, 275)], v471)) (fun _ _ q => e_Pn.run eAlk 3 rfl q)
        obtain ⟨dc503, r504, v505, hc506, hM⟩ := hM.ca rfl
        obtain ⟨⟨z507, rfl⟩, v505f⟩ := hc506.pn (fun nq => x_336 s487.1.2.2.2.2.1)
        have v505m := mfr.rf v505f s487.1.2.2.2.2.1
        replace hM : e_Rn 20 elay ecode eI d' 352 (158, [(3, (0, z45)), (2, (0, v37 275 79)), (1, (0, v37 275 81)), (0, (1, 275))], [(0, z507)], v505) r' v' := hM
        replace hM := hM.st (t' := (160, [(3, (0, z45)), (2, (0, v37 275 79)), (1, (0, v37 275 81)), (0, (1, 275))], [(1, 275)], v505)) (fun _ _ q => e_Pn.run eAlk 2 rfl q)
        obtain ⟨b508, hM⟩ := hM.of (fun _ _ q => e_Pn.getf (z := 0) eAlk rfl rfl ((v505f 275 88 nf_mEm_275_88).trans s487.1.2.1.1.2) q)
        rcases hM.or (fun _ _ q1 q2 => e_Pn.if1 eAlk rfl q1 q2) with ⟨h509, hM⟩ | ⟨h509, hM⟩
        · replace h509 : (0 : Int) ≠ 0 := h509
          exfalso; omega
        · replace h509 : (0 : Int) = 0 := by have q : ¬ ((0 : Int) ≠ 0) := h509; omega
          replace hM := hM.st (t' := (169, [(3, (0, z45)), (2, (0, v37 275 79)), (1, (0, v37 275 81)), (0, (1, 275))], [(0, 23), (1, 275)], v505)) (fun _ _ q => e_Pn.run eAlk 2 rfl q)
          obtain ⟨dc510, r511, v512, hc513, hM⟩ := hM.ca rfl
          obtain ⟨z514, rfl, rfl, z514q⟩ := hc513.pn (fun nq => l_332)
          replace z514q := isS (kM_key (k := 23) s487.1.2.1.2.2.1 (by decide)) ((v505f 275 84 nf_mEm_275_84).trans rfl) ((v505f 275 85 nf_mEm_275_85).trans rfl) z514q
          obtain rfl : z514 = 0 := by omega
          clear z514q
          replace hM : e_Rn 20 elay ecode eI d' 352 (172, [(3, (0, z45)), (2, (0, v37 275 79)), (1, (0, v37 275 81)), (0, (1, 275))], [(0, 0)], v505) r' v' := hM
          rcases hM.or (fun _ _ q1 q2 => e_Pn.if1 eAlk rfl q1 q2) with ⟨h515, hM⟩ | ⟨h515, hM⟩
          · replace h515 : (0 : Int) = 0 := h515
            replace hM := hM.st (t' := (222, [(3, (0, z45)), (2, (0, v37 275 79)), (1, (0, v37 275 81)), (0, (1, 275))], [(0, v37 275 81), (1, 275)], v505)) (fun _ _ q => e_Pn.run eAlk 2 rfl q)
            replace hM := hM.st (fun _ _ q => e_Pn.putf eAlk rfl rfl q)
            generalize hv516 : e_up v505 275 81 (v37 275 81) = v516 at hM
            have v516m := mRw.upd hv516 (fun _ => by first | decide | omega) v505m
            replace hM := hM.st (t' := (226, [(3, (0, z45)), (2, (0, v37 275 79)), (1, (0, v37 275 81)), (0, (1, 275))], [(1, 275)], v516)) (fun _ _ q => e_Pn.run eAlk 1 rfl q)
            replace hM := hM.st (fun _ _ q => e_Pn.getr (z := 334) eAlk rfl rfl (by rw [← hv516]; exact (e_up_ne _ _ (Or.inr (by first | decide | omega))).trans ((v505f 275 71 nf_mEm_275_71).trans (s487.1.2.2.2.2.1 (71, 334) (by decide)))) (by first | decide | omega) q)
            replace hM := hM.st (t' := (231, [(3, (0, z45)), (2, (0, v37 275 79)), (1, (0, v37 275 81)), (0, (1, 275))], [(1, 275), (0, z45), (1, 334)], v516)) (fun _ _ q => e_Pn.run eAlk 2 rfl q)
            obtain ⟨b517, hM⟩ := hM.of (fun _ _ q => e_Pn.getf (z := v505 275 78) eAlk rfl rfl (by rw [← hv516]; exact (e_up_ne _ _ (Or.inr (by first | decide | omega))).trans rfl) q)
            obtain ⟨b518, b519, hM⟩ := hM.of2 (fun _ _ q => e_Pn.ast eAlk rfl rfl rfl q)
            generalize hv520 : e_up v516 334 z45 (v505 275 78) = v520 at hM
            have v520m := mRw.upd hv520 (fun _ => by first | decide | omega) v516m
            replace hM := hM.st (t' := (238, [(3, (0, z45)), (2, (0, v37 275 79)), (1, (0, v37 275 81)), (0, (1, 275))], [(0, 2), (1, 275), (1, 275)], v520)) (fun _ _ q => e_Pn.run eAlk 3 rfl q)
            obtain ⟨dc521, r522, v523, hc524, hM⟩ := hM.ca rfl
            obtain ⟨z525, rfl, rfl, z525q⟩ := hc524.pn (fun nq => l_332)
            replace z525q := isS (kM_key (k := 2) s487.1.2.1.2.2.1 (by decide)) (by rw [← hv520]; exact (e_up_ne _ _ (Or.inl (by first | decide | omega))).trans (by rw [← hv516]; exact (e_up_ne _ _ (Or.inr (by first | decide | omega))).trans ((v505f 275 84 nf_mEm_275_84).trans rfl))) (by rw [← hv520]; exact (e_up_ne _ _ (Or.inl (by first | decide | omega))).trans (by rw [← hv516]; exact (e_up_ne _ _ (Or.inr (by first | decide | omega))).trans ((v505f 275 85 nf_mEm_275_85).trans rfl))) z525q
            replace hM : e_Rn 20 elay ecode eI d' 352 (241, [(3, (0, z45)), (2, (0, v37 275 79)), (1, (0, v37 275 81)), (0, (1, 275))], [(0, z525), (1, 275)], v520) r' v' := hM
            have e527a : w498 1 11 = w490 1 11 := (by rw [← hw498]; exact e_up_ne _ _ (Or.inr (by first | decide | omega)))
            have e527b : v520 275 83 = v471 275 83 := (Eq.trans (show v520 275 83 = v516 275 83 by rw [← hv520]; exact e_up_ne _ _ (Or.inl (by first | decide | omega))) (Eq.trans (show v516 275 83 = v505 275 83 by rw [← hv516]; exact e_up_ne _ _ (Or.inr (by first | decide | omega))) (v505f 275 83 nf_mEm_275_83)))
            have e527c : w498 1 13 = w490 1 13 := (by rw [← hw498]; exact e_up_ne _ _ (Or.inr (by first | decide | omega)))
            have e527d : v520 275 82 = v471 275 82 := (Eq.trans (show v520 275 82 = v516 275 82 by rw [← hv520]; exact e_up_ne _ _ (Or.inl (by first | decide | omega))) (Eq.trans (show v516 275 82 = v505 275 82 by rw [← hv516]; exact e_up_ne _ _ (Or.inr (by first | decide | omega))) (v505f 275 82 nf_mEm_275_82)))
            have e527f : w498 1 12 = w474 1 12 - 1 := (by rw [← hw498]; exact e_up_eq _ _ _ _)
            have e527e : v520 275 80 = v471 275 80 := (Eq.trans (show v520 275 80 = v516 275 80 by rw [← hv520]; exact e_up_ne _ _ (Or.inl (by first | decide | omega))) (Eq.trans (show v516 275 80 = v505 275 80 by rw [← hv516]; exact e_up_ne _ _ (Or.inr (by first | decide | omega))) (v505f 275 80 nf_mEm_275_80)))
            have s526 := st.gen (o' := 1) (l' := w 1 13) (m' := v 275 82) (t' := w474 1 12 - 1) (b' := 0) s493 (e_fr.up (e_fr.refl w490) hw498 pf_kGs_1_12) (e_fr.up (e_fr.up (e_fr.trans (e_fr.refl v471) (e_fr.mono v505f (fun c k q => by unfold mEm at q; unfold mGs; omega))) hv516 pf_mGs_275_81) hv520 pf_mGs_334_x) (by first | decide | omega) (by first | decide | omega) (by first | decide | omega) (by first | decide | omega)
            clear q494d q494e q494f
            have q528 := st.nums s526
            clear q494 e527a e527b e527c e527d e527e e527f
            have q528c := q528.2.2.2.1
            have q528d := q528.2.1
            have q528e := q528.2.2.1
            have q528f := q528.2.2.2.2.1.1
            have pl530 := plcQ.fr phd128 ((show e_fr (kGs cd) w124 w132 from (e_fr.up (e_fr.refl w124) hw132 pf_kGs_1_12)) cd 0 (nf_kGs_cd_0 hz.1.2.2.2.1.1)) (fun i => (show e_fr (kGs cd) w124 w132 from (e_fr.up (e_fr.refl w124) hw132 pf_kGs_1_12)) (cd + 2) i (nf_kGs_cd2_x hz.1.2.2.2.1.1))
            have pl531 := plcQ.st pl530 h144
            have pl532 := plcQ.em pl531 w156q
            have pl533 := plcQ.pa pl532 w399q (w399f cd 0 (nf_kPa_cd_0 hz.1.2.2.2.1.1))
            have pl534 := plcQ.fr pl533 (h432.2.2.2.2.1 cd 0 (nf_kRa_cd_0 hz.1.2.2.2.1.1)) (fun i => h432.2.2.2.2.1 (cd + 2) i (nf_kRa_cd2_x hz.1.2.2.2.1.1))
            have pl535 := plcQ.fr pl534 (h446.2.2.2.2.1 cd 0 (nf_kRa_cd_0 hz.1.2.2.2.1.1)) (fun i => h446.2.2.2.2.1 (cd + 2) i (nf_kRa_cd2_x hz.1.2.2.2.1.1))
            have pl536 := plcQ.st pl535 h475
            have pl537 := plcQ.em pl536 w490q
            have pl538 := plcQ.fr pl537 ((show e_fr (kGs cd) w490 w498 from (e_fr.up (e_fr.refl w490) hw498 pf_kGs_1_12)) cd 0 (nf_kGs_cd_0 hz.1.2.2.2.1.1)) (fun i => (show e_fr (kGs cd) w490 w498 from (e_fr.up (e_fr.refl w490) hw498 pf_kGs_1_12)) (cd + 2) i (nf_kGs_cd2_x hz.1.2.2.2.1.1))
            have s529 := st.pa s526 w501f w501q pl538 (by unfold isCl3; omega)
            clear q528d q528e q528f
            have q539 := st.nums s529
            clear q528
            have q539c := q539.2.2.2.1
            have q539d := q539.2.1
            have q539e := q539.2.2.1
            have q539f := q539.2.2.2.2.1.1
            obtain ⟨dc540, r541, v542, hc543, hM⟩ := hM.ca rfl
            have uhc543 := hc543.pn (fun nq => u_334 s529.1.2.2.2.2.1)
            refine e_Pn.callA rfl (fun nq dq => e_Pn.and (t_129b s529.1.1 s529.1.2.1 (by have q9 : w501 1 5 = w474 1 5 := (by first | decide | omega); rw [q9]; exact z525q) (d' := dc540) hc543) (u_129 s529.1.2.2.2.1)) (fun r544 w545 h546 => ?_)
            obtain ⟨⟨rfl, rfl, h546⟩, -, h546k⟩ := h546
            rcases h546.symm with h546 | ⟨h546c, h546⟩
            · skip
              replace hM : e_Rn 20 elay ecode eI d' 352 (244, [(3, (0, z45)), (2, (0, v37 275 79)), (1, (0, v37 275 81)), (0, (1, 275))], [], v542) r' v' := hM
              obtain ⟨rfl, m547⟩ := (e_Rn.le eAlk [0, 1, 2, 3] rfl rfl hM).pn (fun nq => v_352_244 (uhc543.2.rf s529.1.2.2.2.2.1) _ (v37 275 81) (v37 275 79) z45 v542 mq.r)
              show e_Pn 20 elay kcode eI nq13 dq14 156 (184, [(1, (0, z103)), (0, (1, 1))], [], w545) _
              refine e_Pn.ord kAlk [0, 1] rfl rfl ((v_156_184 (h546k.rf s529.1.2.2.2.1) _ z103 w545 kq.r).imp (fun r549 w550 k548 => ?_))
              obtain ⟨rfl, k548⟩ := k548
              show e_Pn 20 elay kcode eI n d 145 (356, [(0, (1, 1))], [], w550) _
              refine e_Pn.ord kAlk [0] rfl rfl ((v_145_356 (k548.rf (h546k.rf s529.1.2.2.2.1)) _  w550 kq.r).imp (fun r552 w553 k551 => ?_))
              obtain ⟨rfl, k551⟩ := k551
              exact ⟨rfl, rfl, Or.inr (rpF.tail h546 (k548.tr k551) m547)⟩
            clear z525q
            have s554 := st.ad (k := 3) s529 h546 (st.len3 s529 (Or.inl h546c)) (by first | decide | omega)
            have s554n := h546.2.2.2.1
            have s554m := st.len3 s529 (Or.inl h546c)
            have s554g : w 1 6 + 1 ≤ w545 1 6 := by omega
            clear q539d q539e q539f
            have q555 := st.nums s554
            clear q539
            have q555c := q555.2.2.2.1
            have q555d := q555.2.1
            have q555e := q555.2.2.1
            have q555f := q555.2.2.2.2.1.1
            show e_Pn 20 elay kcode eI nq13 dq14 156 (184, [(1, (0, z103)), (0, (1, 1))], [], w545) _
            replace hM : e_Rn 20 elay ecode eI d' 352 (244, [(3, (0, z45)), (2, (0, v37 275 79)), (1, (0, v37 275 81)), (0, (1, 275))], [], v542) r' v' := hM
            refine e_Pn.run (t' := (186, [(1, (0, z103)), (0, (1, 1))], [(1, 1), (1, 1)], w545)) kAlk 2 rfl ?_
            refine e_Pn.getf (z := w545 1 11) kAlk rfl rfl rfl (fun b556 => ?_)
            refine e_Pn.run (t' := (190, [(1, (0, z103)), (0, (1, 1))], [(0, 1), (0, w545 1 11), (1, 1)], w545)) kAlk 1 rfl ?_
            refine e_Pn.sub' (z := w545 1 11 - 1) kAlk rfl (by first | decide | omega) (by first | decide | omega) ?_
            refine e_Pn.putf kAlk rfl rfl ?_
            generalize hw557 : e_up w545 1 11 (w545 1 11 - 1) = w557
            have w557g : e_fr (kGs cd) w545 w557 := (e_fr.up (e_fr.refl w545) hw557 pf_kGs_1_11)
            have w557k := kRw.gs s554.1.2.2.2.1 w557g
            have w557l : 0 ≤ w557 cd 0 ∧ w557 cd 0 ≤ 4000 := by rw [w557g cd 0 (nf_kGs_cd_0 hz.1.2.2.2.1.1)]; exact s554.1.2.2.2.2.2.1
            have w557e : w557 1 5 = w545 1 5 ∧ w557 1 6 = w545 1 6 ∧ w557 1 8 = w545 1 8 := ⟨w557g 1 5 (nf_kGs_1_5 hz.1.2.2.2.1.1), w557g 1 6 (nf_kGs_1_6 hz.1.2.2.2.1.1), w557g 1 8 (nf_kGs_1_8 hz.1.2.2.2.1.1)⟩
            refine e_Pn.ret0 rfl ?_
            show e_Pn 20 elay kcode eI n d 145 (356, [(0, (1, 1))], [], w557) _
            replace hM := hM.st (t' := (246, [(3, (0, z45)), (2, (0, v37 275 79)), (1, (0, v37 275 81)), (0, (1, 275))], [(1, 275), (1, 275)], v542)) (fun _ _ q => e_Pn.run eAlk 2 rfl q)
            obtain ⟨b558, hM⟩ := hM.of (fun _ _ q => e_Pn.getf (z := v542 275 83) eAlk rfl rfl rfl q)
            replace hM := hM.st (t' := (250, [(3, (0, z45)), (2, (0, v37 275 79)), (1, (0, v37 275 81)), (0, (1, 275))], [(0, 1), (0, v542 275 83), (1, 275)], v542)) (fun _ _ q => e_Pn.run eAlk 1 rfl q)
            replace hM := hM.st (fun _ _ q => e_Pn.sub' (z := v542 275 83 - 1) eAlk rfl (by first | decide | omega) (by first | decide | omega) q)
            replace hM := hM.st (fun _ _ q => e_Pn.putf eAlk rfl rfl q)
            generalize hv559 : e_up v542 275 83 (v542 275 83 - 1) = v559 at hM
            have v559m := mRw.upd hv559 (fun _ => by first | decide | omega) s554.1.2.2.2.2.1
            have e561a : w557 1 11 = w545 1 11 - 1 := (by rw [← hw557]; exact e_up_eq _ _ _ _)
            have e561b : v559 275 83 = v542 275 83 - 1 := (by rw [← hv559]; exact e_up_eq _ _ _ _)
            have e561c : w557 1 13 = w545 1 13 := (by rw [← hw557]; exact e_up_ne _ _ (Or.inr (by first | decide | omega)))
            have e561d : v559 275 82 = v542 275 82 := (by rw [← hv559]; exact e_up_ne _ _ (Or.inr (by first | decide | omega)))
            have e561f : w557 1 12 = w545 1 12 := (by rw [← hw557]; exact e_up_ne _ _ (Or.inr (by first | decide | omega)))
            have e561e : v559 275 80 = v542 275 80 := (by rw [← hv559]; exact e_up_ne _ _ (Or.inr (by first | decide | omega)))
            have s560 := st.gen (o' := 0) (l' := w 1 13) (m' := v 275 82) (t' := w474 1 12 - 1) (b' := 0) s554 (e_fr.up (e_fr.refl w545) hw557 pf_kGs_1_11) (e_fr.up (e_fr.refl v542) hv559 pf_mGs_275_83) (by first | decide | omega) (by first | decide | omega) (by first | decide | omega) (by first | decide | omega)
            have q562 := st.nums s560
            clear q555 e561a e561b e561c e561d e561e e561f
            have q562c := q562.2.2.2.1
            have q562d := q562.2.1
            have q562e := q562.2.2.1
            have q562f := q562.2.2.2.2.1.1
            obtain ⟨rfl, rfl⟩ := hM.re0 rfl
            refine e_Pn.ret0 rfl ?_
            exact ⟨rfl, rfl, Or.inl ⟨st.re s560 (by first | decide | omega) (by first | decide | omega) (by first | decide | omega) (by first | decide | omega) (by first | decide | omega), by omega⟩⟩
          · replace h515 : (0 : Int) ≠ 0 := by have q : ¬ ((0 : Int) = 0) := h515; omega
            exfalso; omega
      · replace h496 : (w474 1 5 : Int) = 44 := by have q : ¬ ((w474 1 5 : Int) ≠ 44) := h496; omega
        exact e_145_42d n N cd w v hz hp ihS d d' r' v' hzo q1 q1c q1f q9f nq13 hnq13 dq14 h21b v37 z45 b46 b47 v86 w89 s98g q99c q99d q99e q99f z103 z103r w116 phd120 w124 z126 w124q phd128 b131 w132 hw132 v134 v140 w143 h144 w156 z158 w156q w399 w399f w399q nq408 hnq408 v412 v428 w431 h432 v442 w445 h446 v465 v471 w474 h475 s487 q488c q488d q488e q488f hM w490 z492 w490f w490q w490k w490l w490e s493 q494 q494c q494d q494e q494f z492r h496
set_option maxHeartbeats 4000000 in
theorem e_145_42 {n : Nat} {N cd : Int} {w v : eW} (hz : st0 N cd w v) (hp : 1 ≤ w 1 6) (hkd : w 1 5 = 42) (ihS : ∀ k, k < n → sE k) {d d' : Nat} {r' : List eV} {v' : eW} (hM : e_Rn 20 elay ecode eI d' 352 (0, [(0, (1, 275))], [], v) r' v') : e_Pn 20 elay kcode eI n d 145 (0, [(0, (1, 1))], [], w) (fun r w' => r = [] ∧ r' = [] ∧ ((st N cd w v w' v' 0 0 0 (-1) (w 1 13) (v 275 82) (w 1 12) 2 ∧ w 1 6 < w' 1 6) ∨ rpF w' v')) := by
  have h0 := hz.st (ka := 2)
  have hm := hz.1.2.2.2.1.1.m
  have hn := hz.1.2.2.2.1.1.n
  have hzo := hz.2.2.2
  have q1 := st.nums h0
  have q1c := q1.2.2.2.1
  have q1d := q1.2.1
  have q1e := q1.2.2.1
  have q1f := q1.2.2.2.2.1.1
  refine e_Pn.run (t' := (1, [(0, (1, 1))], [(1, 1)], w)) kAlk 1 rfl ?_
  refine e_Pn.getf (z := w 1 5) kAlk rfl rfl rfl (fun b2 => ?_)
  refine e_Pn.run (t' := (6, [(0, (1, 1))], [(0, 41), (0, w 1 5)], w)) kAlk 1 rfl ?_
  refine e_Pn.if2 kAlk rfl (fun h3 => ?_) (fun h3 => ?_)
  · replace h3 : (w 1 5 : Int) = 41 := h3
    exact (kM_no h0.1.2.1.2.2.1 (fun a b => decide ((a : Int) = 42) && decide ((a : Int) = 41)) (fun a b c => true) (by decide) (by decide) (by simp only [Bool.and_eq_true, decide_eq_true_eq]; exact ⟨hkd, h3⟩) rfl).elim
  · replace h3 : (w 1 5 : Int) ≠ 41 := by have q : ¬ ((w 1 5 : Int) = 41) := h3; omega
    refine e_Pn.run (t' := (10, [(0, (1, 1))], [(1, 1)], w)) kAlk 1 rfl ?_
    refine e_Pn.getr (z := cd) kAlk rfl rfl h0.1.2.2.2.1.2.1 (by first | decide | omega) ?_
    refine e_Pn.run (t' := (16, [(0, (1, 1))], [(0, 0), (0, 50), (1, cd)], w)) kAlk 2 rfl ?_
    refine e_Pn.callA rfl (fun nq dq => l_21 h0.1.2.2.2.1 (op := 50) (od := 0) (by first | decide | omega) (by first | decide | omega) h0.1.2.2.2.2.2.1) (fun r4 w5 h6 => ?_)
    obtain ⟨z7, rfl, w5f, w5q⟩ := h6
    have w5k := kRw.em h0.1.2.2.2.1 w5f
    have w5l := (emQ.len w5q h0.1.2.2.2.2.2.1).1
    have w5e : w5 1 5 = w 1 5 ∧ w5 1 6 = w 1 6 ∧ w5 1 8 = w 1 8 := ⟨w5f 1 5 (nf_kEm_1_5 hz.1.2.2.2.1.1), w5f 1 6 (nf_kEm_1_6 hz.1.2.2.2.1.1), w5f 1 8 (nf_kEm_1_8 hz.1.2.2.2.1.1)⟩
    have s8 := st.em h0 w5f w5q (by first | decide | omega) (by unfold isCl3; omega)
    have q9 := st.nums s8
    have q9c := q9.2.2.2.1
    have q9d := q9.2.1
    have q9e := q9.2.2.1
    have q9f := q9.2.2.2.2.1.1
    have z7r : 0 ≤ z7 ∧ z7 ≤ 4000 := emQ.z w5q h0.1.2.2.2.2.2.1
    show e_Pn 20 elay kcode eI n d 145 (19, [(0, (1, 1))], [(0, z7)], w5) _
    refine e_Pn.run (t' := (21, [(0, (1, 1))], [(1, 1)], w5)) kAlk 2 rfl ?_
    refine e_Pn.getf (z := w 1 5) kAlk rfl rfl ((w5f 1 5 (nf_kEm_1_5 hz.1.2.2.2.1.1)).trans rfl) (fun b10 => ?_)
    have hs12 : ∀ x : Int, 42 ≤ x ∧ x ≤ 42 → (x = 42) := fun x h => by omega
    obtain h11 := hs12 (w 1 5) (by first | decide | omega)
    · refine e_Pn.sw (tg := 352) kAlk rfl (by rw [h11]; rfl) ?_
      replace h11 : (w 1 5 : Int) = 42 := h11
      refine e_Pn.run (t' := (353, [(0, (1, 1))], [(1, 1)], w5)) kAlk 1 rfl ?_
      refine e_Pn.callJ rfl (fun nq13 hnq13 dq14 => ?_)
      show e_Pn 20 elay kcode eI nq13 dq14 156 (0, [(0, (1, 1))], [], w5) _
      refine e_Pn.run (t' := (1, [(0, (1, 1))], [(1, 1)], w5)) kAlk 1 rfl ?_
      replace hM := hM.st (t' := (1, [(0, (1, 275))], [(1, 275)], v)) (fun _ _ q => e_Pn.run eAlk 1 rfl q)
      obtain ⟨dc15, r16, v17, hc18, hM⟩ := hM.ca rfl
      have uhc18 := hc18.pn (fun nq => u_335 s8.1.2.2.2.2.1)
      refine e_Pn.callA rfl (fun nq dq => e_Pn.and (t_132 s8.1.2.1 (by first | decide | omega) (d' := dc15) hc18) (u_132 s8.1.2.2.2.1)) (fun r19 w20 h21 => ?_)
      obtain ⟨h21, -, h21k⟩ := h21
      rcases h21.symm with ⟨rfl, rfl, h21F⟩ | ⟨rfl, rfl, h21b, h21w, h21v⟩
      · skip
        replace hM : e_Rn 20 elay ecode eI d' 352 (4, [(0, (1, 275))], [], v17) r' v' := hM
        obtain ⟨rfl, m22⟩ := (e_Rn.le eAlk [0] rfl rfl hM).pn (fun nq => v_352_4 (uhc18.2.rf s8.1.2.2.2.2.1) _  v17 mq.r)
        show e_Pn 20 elay kcode eI nq13 dq14 156 (4, [(0, (1, 1))], [(0, 0)], w20) _
        refine e_Pn.ord kAlk [0] rfl rfl ((v_156_4 (h21k.rf s8.1.2.2.2.1) _ 0 w20 kq.r).imp (fun r24 w25 k23 => ?_))
        obtain ⟨rfl, k23⟩ := k23
        show e_Pn 20 elay kcode eI n d 145 (356, [(0, (1, 1))], [], w25) _
        refine e_Pn.ord kAlk [0] rfl rfl ((v_145_356 (k23.rf (h21k.rf s8.1.2.2.2.1)) _  w25 kq.r).imp (fun r27 w28 k26 => ?_))
        obtain ⟨rfl, k26⟩ := k26
        exact ⟨rfl, rfl, Or.inr (rpF.tail h21F (k23.tr k26) m22)⟩
      have s29 := st.opn s8 h21w.symm h21v.symm (by first | decide | omega)
      have w20g : e_fr (kGs cd) w5 w20 := e_fr.up (e_fr.refl w5) h21w.symm (by unfold kGs; omega)
      have q30 := st.nums s29
      clear q9
      have q30c := q30.2.2.2.1
      have q30d := q30.2.1
      have q30e := q30.2.2.1
      have q30f := q30.2.2.2.2.1.1
      have s29t : w20 1 5 = w 1 5 := by have q9 : w20 1 5 = w5 1 5 := (by rw [h21w]; exact e_up_ne _ _ (Or.inr (by decide))); omega
      have t31 : (w20 1 5 : Int) = 42 := by rw [s29t]; exact hkd
      have t32 : (w20 1 5 : Int) ≠ 41 := by rw [s29t]; exact h3
      have t33 : (w20 1 5 : Int) = 42 := by rw [s29t]; exact h11
      show e_Pn 20 elay kcode eI nq13 dq14 156 (4, [(0, (1, 1))], [(0, 1)], w20) _
      replace hM : e_Rn 20 elay ecode eI d' 352 (4, [(0, (1, 275))], [], v17) r' v' := hM
      refine e_Pn.if1 kAlk rfl (fun h34 => ?_) (fun h34 => ?_)
      · replace h34 : (1 : Int) ≠ 0 := h34
        refine e_Pn.run (t' := (9, [(0, (1, 1))], [(1, 1)], w20)) kAlk 1 rfl ?_
        replace hM := hM.st (t' := (8, [(0, (1, 275))], [(0, 0), (0, 30), (1, 275)], v17)) (fun _ _ q => e_Pn.run eAlk 3 rfl q)
        obtain ⟨dc35, r36, v37, hc38, hM⟩ := hM.ca rfl
        obtain ⟨⟨z39, rfl⟩, v37f⟩ := hc38.pn (fun nq => x_336 s29.1.2.2.2.2.1)
        have v37m := mfr.rf v37f s29.1.2.2.2.2.1
        replace hM : e_Rn 20 elay ecode eI d' 352 (11, [(0, (1, 275))], [(0, z39)], v37) r' v' := hM
        replace hM := hM.st (t' := (13, [(0, (1, 275))], [(1, 275)], v37)) (fun _ _ q => e_Pn.run eAlk 2 rfl q)
        obtain ⟨b40, hM⟩ := hM.of (fun _ _ q => e_Pn.getf (z := v37 275 81) eAlk rfl rfl rfl q)
        replace hM := hM.st (t' := (18, [(1, (0, v37 275 81)), (0, (1, 275))], [(1, 275)], v37)) (fun _ _ q => e_Pn.run eAlk 2 rfl q)
        obtain ⟨b41, hM⟩ := hM.of (fun _ _ q => e_Pn.getf (z := v37 275 79) eAlk rfl rfl rfl q)
        replace hM := hM.st (t' := (24, [(2, (0, v37 275 79)), (1, (0, v37 275 81)), (0, (1, 275))], [(1, 275), (1, 275)], v37)) (fun _ _ q => e_Pn.run eAlk 3 rfl q)
        obtain ⟨b42, hM⟩ := hM.of (fun _ _ q => e_Pn.getf (z := v37 275 79) eAlk rfl rfl rfl q)
        replace hM := hM.st (t' := (28, [(2, (0, v37 275 79)), (1, (0, v37 275 81)), (0, (1, 275))], [(0, 1), (0, v37 275 79), (1, 275)], v37)) (fun _ _ q => e_Pn.run eAlk 1 rfl q)
        obtain ⟨z43, hz43, hM⟩ := hM.ex (fun _ _ q => e_Pn.bin0 eAlk rfl q)
        replace hM := hM.st (fun _ _ q => e_Pn.putf eAlk rfl rfl q)
        generalize hv44 : e_up v37 275 79 z43 = v44 at hM
        have v44m := mRw.upd hv44 (fun _ => by first | decide | omega) v37m
        replace hM := hM.st (t' := (36, [(2, (0, v37 275 79)), (1, (0, v37 275 81)), (0, (1, 275))], [(0, v37 275 79), (0, 3600)], v44)) (fun _ _ q => e_Pn.run eAlk 2 rfl q)
        obtain ⟨z45, hz45, hM⟩ := hM.ex (fun _ _ q => e_Pn.bin0 eAlk rfl q)
        replace hM := hM.st (t' := (39, [(3, (0, z45)), (2, (0, v37 275 79)), (1, (0, v37 275 81)), (0, (1, 275))], [(1, 275)], v44)) (fun _ _ q => e_Pn.run eAlk 2 rfl q)
        replace hM := hM.st (fun _ _ q => e_Pn.getr (z := 331) eAlk rfl rfl (by rw [← hv44]; exact (e_up_ne _ _ (Or.inr (by first | decide | omega))).trans ((v37f 275 68 nf_mEm_275_68).trans (s29.1.2.2.2.2.1 (68, 331) (by decide)))) (by first | decide | omega) q)
        replace hM := hM.st (t' := (44, [(3, (0, z45)), (2, (0, v37 275 79)), (1, (0, v37 275 81)), (0, (1, 275))], [(0, v37 275 81), (0, z45), (1, 331)], v44)) (fun _ _ q => e_Pn.run eAlk 2 rfl q)
        obtain ⟨b46, b47, hM⟩ := hM.of2 (fun _ _ q => e_Pn.ast eAlk rfl rfl rfl q)
        generalize hv48 : e_up v44 331 z45 (v37 275 81) = v48 at hM
        have v48m := mRw.upd hv48 (fun _ => by first | decide | omega) v44m
        replace hM := hM.st (t' := (46, [(3, (0, z45)), (2, (0, v37 275 79)), (1, (0, v37 275 81)), (0, (1, 275))], [(1, 275)], v48)) (fun _ _ q => e_Pn.run eAlk 1 rfl q)
        replace hM := hM.st (fun _ _ q => e_Pn.getr (z := 332) eAlk rfl rfl (by rw [← hv48]; exact (e_up_ne _ _ (Or.inl (by first | decide | omega))).trans (by rw [← hv44]; exact (e_up_ne _ _ (Or.inr (by first | decide | omega))).trans ((v37f 275 69 nf_mEm_275_69).trans (s29.1.2.2.2.2.1 (69, 332) (by decide))))) (by first | decide | omega) q)
        replace hM := hM.st (t' := (51, [(3, (0, z45)), (2, (0, v37 275 79)), (1, (0, v37 275 81)), (0, (1, 275))], [(0, (-1)), (0, z45), (1, 332)], v48)) (fun _ _ q => e_Pn.run eAlk 2 rfl q)
        obtain ⟨b49, b50, hM⟩ := hM.of2 (fun _ _ q => e_Pn.ast eAlk rfl rfl rfl q)
        generalize hv51 : e_up v48 332 z45 (-1) = v51 at hM
        have v51m := mRw.upd hv51 (fun _ => by first | decide | omega) v48m
        replace hM := hM.st (t' := (53, [(3, (0, z45)), (2, (0, v37 275 79)), (1, (0, v37 275 81)), (0, (1, 275))], [(1, 275)], v51)) (fun _ _ q => e_Pn.run eAlk 1 rfl q)
        replace hM := hM.st (fun _ _ q => e_Pn.getr (z := 333) eAlk rfl rfl (by rw [← hv51]; exact (e_up_ne _ _ (Or.inl (by first | decide | omega))).trans (by rw [← hv48]; exact (e_up_ne _ _ (Or.inl (by first | decide | omega))).trans (by rw [← hv44]; exact (e_up_ne _ _ (Or.inr (by first | decide | omega))).trans ((v37f 275 70 nf_mEm_275_70).trans (s29.1.2.2.2.2.1 (70, 333) (by decide)))))) (by first | decide | omega) q)
        replace hM := hM.st (t' := (58, [(3, (0, z45)), (2, (0, v37 275 79)), (1, (0, v37 275 81)), (0, (1, 275))], [(0, (-1)), (0, z45), (1, 333)], v51)) (fun _ _ q => e_Pn.run eAlk 2 rfl q)
        obtain ⟨b52, b53, hM⟩ := hM.of2 (fun _ _ q => e_Pn.ast eAlk rfl rfl rfl q)
        generalize hv54 : e_up v51 333 z45 (-1) = v54 at hM
        have v54m := mRw.upd hv54 (fun _ => by first | decide | omega) v51m
        replace hM := hM.st (t' := (63, [(3, (0, z45)), (2, (0, v37 275 79)), (1, (0, v37 275 81)), (0, (1, 275))], [(0, 21), (1, 275), (1, 275)], v54)) (fun _ _ q => e_Pn.run eAlk 3 rfl q)
        obtain ⟨dc55, r56, v57, hc58, hM⟩ := hM.ca rfl
        obtain ⟨z59, rfl, rfl, z59q⟩ := hc58.pn (fun nq => l_332)
        replace z59q := isS (kM_key (k := 21) s29.1.2.1.2.2.1 (by decide)) (by rw [← hv54]; exact (e_up_ne _ _ (Or.inl (by first | decide | omega))).trans (by rw [← hv51]; exact (e_up_ne _ _ (Or.inl (by first | decide | omega))).trans (by rw [← hv48]; exact (e_up_ne _ _ (Or.inl (by first | decide | omega))).trans (by rw [← hv44]; exact (e_up_ne _ _ (Or.inr (by first | decide | omega))).trans ((v37f 275 84 nf_mEm_275_84).trans rfl))))) (by rw [← hv54]; exact (e_up_ne _ _ (Or.inl (by first | decide | omega))).trans (by rw [← hv51]; exact (e_up_ne _ _ (Or.inl (by first | decide | omega))).trans (by rw [← hv48]; exact (e_up_ne _ _ (Or.inl (by first | decide | omega))).trans (by rw [← hv44]; exact (e_up_ne _ _ (Or.inr (by first | decide | omega))).trans ((v37f 275 85 nf_mEm_275_85).trans rfl))))) z59q
        obtain rfl : z59 = 1 := by omega
        clear z59q
        replace hM : e_Rn 20 elay ecode eI d' 352 (66, [(3, (0, z45)), (2, (0, v37 275 79)), (1, (0, v37 275 81)), (0, (1, 275))], [(0, 1), (1, 275)], v54) r' v' := hM
        obtain ⟨dhc60, r61, v62, hc60, hM⟩ := hM.ca rfl
        replace hc60 : e_Rn 20 elay ecode eI dhc60 334 (0, [(0, (1, 275)), (1, (0, 1))], [], v54) r61 v62 := hc60
        replace hc60 := hc60.st (t' := (1, [(0, (1, 275)), (1, (0, 1))], [(1, 275)], v54)) (fun _ _ q => e_Pn.run eAlk 1 rfl q)
        obtain ⟨b63, hc60⟩ := hc60.of (fun _ _ q => e_Pn.getf (z := 0) eAlk rfl rfl (by rw [← hv54]; exact (e_up_ne _ _ (Or.inl (by first | decide | omega))).trans (by rw [← hv51]; exact (e_up_ne _ _ (Or.inl (by first | decide | omega))).trans (by rw [← hv48]; exact (e_up_ne _ _ (Or.inl (by first | decide | omega))).trans (by rw [← hv44]; exact (e_up_ne _ _ (Or.inr (by first | decide | omega))).trans ((v37f 275 88 nf_mEm_275_88).trans s29.1.2.1.1.2))))) q)
        rcases hc60.or (fun _ _ q1 q2 => e_Pn.if1 eAlk rfl q1 q2) with ⟨h64, hc60⟩ | ⟨h64, hc60⟩
        · replace h64 : (0 : Int) = 0 := h64
          have kw65 : (w20 1 5 : Int) ≠ 1 := fun e9 => absurd (kM_k1 s29.1.2.1.2.2.1 e9) (by first | decide | omega)
          replace hc60 := hc60.st (t' := (9, [(0, (1, 275)), (1, (0, 1))], [(0, 1)], v54)) (fun _ _ q => e_Pn.run eAlk 1 rfl q)
          rcases hc60.or (fun _ _ q1 q2 => e_Pn.if1 eAlk rfl q1 q2) with ⟨h66, hc60⟩ | ⟨h66, hc60⟩
          · replace h66 : (1 : Int) = 0 := h66
            exfalso; omega
          · replace h66 : (1 : Int) ≠ 0 := by have q : ¬ ((1 : Int) = 0) := h66; omega
            replace hc60 := hc60.st (t' := (13, [(0, (1, 275)), (1, (0, 1))], [(1, 275)], v54)) (fun _ _ q => e_Pn.run eAlk 1 rfl q)
            have e68a : w20 1 11 = w20 1 11 := rfl
            have e68b : v54 275 83 = v17 275 83 := (Eq.trans (show v54 275 83 = v51 275 83 by rw [← hv54]; exact e_up_ne _ _ (Or.inl (by first | decide | omega))) (Eq.trans (show v51 275 83 = v48 275 83 by rw [← hv51]; exact e_up_ne _ _ (Or.inl (by first | decide | omega))) (Eq.trans (show v48 275 83 = v44 275 83 by rw [← hv48]; exact e_up_ne _ _ (Or.inl (by first | decide | omega))) (Eq.trans (show v44 275 83 = v37 275 83 by rw [← hv44]; exact e_up_ne _ _ (Or.inr (by first | decide | omega))) (v37f 275 83 nf_mEm_275_83)))))
            have e68c : w20 1 13 = w20 1 13 := rfl
            have e68d : v54 275 82 = v17 275 82 := (Eq.trans (show v54 275 82 = v51 275 82 by rw [← hv54]; exact e_up_ne _ _ (Or.inl (by first | decide | omega))) (Eq.trans (show v51 275 82 = v48 275 82 by rw [← hv51]; exact e_up_ne _ _ (Or.inl (by first | decide | omega))) (Eq.trans (show v48 275 82 = v44 275 82 by rw [← hv48]; exact e_up_ne _ _ (Or.inl (by first | decide | omega))) (Eq.trans (show v44 275 82 = v37 275 82 by rw [← hv44]; exact e_up_ne _ _ (Or.inr (by first | decide | omega))) (v37f 275 82 nf_mEm_275_82)))))
            have e68f : w20 1 12 = w20 1 12 := rfl
            have e68e : v54 275 80 = v17 275 80 := (Eq.trans (show v54 275 80 = v51 275 80 by rw [← hv54]; exact e_up_ne _ _ (Or.inl (by first | decide | omega))) (Eq.trans (show v51 275 80 = v48 275 80 by rw [← hv51]; exact e_up_ne _ _ (Or.inl (by first | decide | omega))) (Eq.trans (show v48 275 80 = v44 275 80 by rw [← hv48]; exact e_up_ne _ _ (Or.inl (by first | decide | omega))) (Eq.trans (show v44 275 80 = v37 275 80 by rw [← hv44]; exact e_up_ne _ _ (Or.inr (by first | decide | omega))) (v37f 275 80 nf_mEm_275_80)))))
            have s67 := st.gen (o' := 1) (l' := w 1 13) (m' := v 275 82) (t' := w 1 12) (b' := 0) s29 (e_fr.refl w20) (e_fr.up (e_fr.up (e_fr.up (e_fr.up (e_fr.trans (e_fr.refl v17) (e_fr.mono v37f (fun c k q => by unfold mEm at q; unfold mGs; omega))) hv44 pf_mGs_275_79) hv48 pf_mGs_331_x) hv51 pf_mGs_332_x) hv54 pf_mGs_333_x) (by first | decide | omega) (by first | decide | omega) (by first | decide | omega) (by first | decide | omega)
            clear q30d q30e q30f
            have q69 := st.nums s67
            clear q30 e68a e68b e68c e68d e68e e68f
            have q69c := q69.2.2.2.1
            have q69d := q69.2.1
            have q69e := q69.2.2.1
            have q69f := q69.2.2.2.2.1.1
            obtain ⟨dc70, r71, v72, hc73, hc60⟩ := hc60.ca rfl
            refine e_Pn.callA rfl (fun nq dq => t_123b s67.1.1 s67.1.2.1.1 s67.1.2.1.2.1.2.1 (st.nx s67) (d' := dc70) hc73) (fun r74 w75 h76 => ?_)
            obtain ⟨rfl, rfl, h76⟩ := h76
            have s77 := st.ad (k := 3) s67 h76 (st.len3 s67 (by first | decide | omega)) (by first | decide | omega)
            have s77n := h76.2.2.2.1
            have s77m := st.len3 s67 (by first | decide | omega)
            have s77g : w 1 6 + 1 ≤ w75 1 6 := by omega
            clear q69d q69e q69f
            have q78 := st.nums s77
            clear q69
            have q78c := q78.2.2.2.1
            have q78d := q78.2.1
            have q78e := q78.2.2.1
            have q78f := q78.2.2.2.2.1.1
            show e_Pn 20 elay kcode eI nq13 dq14 156 (12, [(0, (1, 1))], [], w75) _
            replace hc60 : e_Rn 20 elay ecode eI dhc60 334 (16, [(0, (1, 275)), (1, (0, 1))], [], v72) r61 v62 := hc60
            refine e_Pn.run (t' := (15, [(0, (1, 1))], [(0, 20), (1, 1)], w75)) kAlk 2 rfl ?_
            replace hc60 := hc60.st (t' := (24, [(0, (1, 275)), (1, (0, 1))], [], v72)) (fun _ _ q => e_Pn.run eAlk 1 rfl q)
            obtain ⟨rfl, rfl⟩ := hc60.re0 rfl
            replace hM : e_Rn 20 elay ecode eI d' 352 (69, [(3, (0, z45)), (2, (0, v37 275 79)), (1, (0, v37 275 81)), (0, (1, 275))], [], v72) r' v' := hM
            replace hM := hM.st (t' := (73, [(3, (0, z45)), (2, (0, v37 275 79)), (1, (0, v37 275 81)), (0, (1, 275))], [(0, 58), (1, 275), (1, 275)], v72)) (fun _ _ q => e_Pn.run eAlk 3 rfl q)
            obtain ⟨dc79, r80, v81, hc82, hM⟩ := hM.ca rfl
            obtain ⟨z83, rfl, rfl, z83q⟩ := hc82.pn (fun nq => l_331)
            replace z83q := isS (kM_s58 s77.1.2.1.2.2.1) rfl rfl z83q
            replace hM : e_Rn 20 elay ecode eI d' 352 (76, [(3, (0, z45)), (2, (0, v37 275 79)), (1, (0, v37 275 81)), (0, (1, 275))], [(0, z83), (1, 275)], v72) r' v' := hM
            obtain ⟨dc84, r85, v86, hc87, hM⟩ := hM.ca rfl
            have uhc87 := hc87.pn (fun nq => u_334 s77.1.2.2.2.2.1)
            refine e_Pn.callA rfl (fun nq dq => e_Pn.and (t_129b s77.1.1 s77.1.2.1 z83q (d' := dc84) hc87) (u_129 s77.1.2.2.2.1)) (fun r88 w89 h90 => ?_)
            obtain ⟨⟨rfl, rfl, h90⟩, -, h90k⟩ := h90
            rcases h90.symm with h90 | ⟨h90c, h90⟩
            · skip
              replace hM : e_Rn 20 elay ecode eI d' 352 (79, [(3, (0, z45)), (2, (0, v37 275 79)), (1, (0, v37 275 81)), (0, (1, 275))], [], v86) r' v' := hM
              obtain ⟨rfl, m91⟩ := (e_Rn.le eAlk [0, 1, 2, 3] rfl rfl hM).pn (fun nq => v_352_79 (uhc87.2.rf s77.1.2.2.2.2.1) _ (v37 275 81) (v37 275 79) z45 v86 mq.r)
              show e_Pn 20 elay kcode eI nq13 dq14 156 (18, [(0, (1, 1))], [], w89) _
              refine e_Pn.ord kAlk [0] rfl rfl ((v_156_18 (h90k.rf s77.1.2.2.2.1) _  w89 kq.r).imp (fun r93 w94 k92 => ?_))
              obtain ⟨rfl, k92⟩ := k92
              show e_Pn 20 elay kcode eI n d 145 (356, [(0, (1, 1))], [], w94) _
              refine e_Pn.ord kAlk [0] rfl rfl ((v_145_356 (k92.rf (h90k.rf s77.1.2.2.2.1)) _  w94 kq.r).imp (fun r96 w97 k95 => ?_))
              obtain ⟨rfl, k95⟩ := k95
              exact ⟨rfl, rfl, Or.inr (rpF.tail h90 (k92.tr k95) m91)⟩
            clear z83q
            have s98 := st.ad (k := 1) s77 h90 (st.len1 s77 (by first | decide | omega)) (by first | decide | omega)
            have s98n := h90.2.2.2.1
            have s98m := st.len1 s77 (by first | decide | omega)
            have s98g : w 1 6 + 1 ≤ w89 1 6 := by omega
            clear q78d q78e q78f
            have q99 := st.nums s98
            clear q78
            have q99c := q99.2.2.2.1
            have q99d := q99.2.1
            have q99e := q99.2.2.1
            have q99f := q99.2.2.2.2.1.1
            show e_Pn 20 elay kcode eI nq13 dq14 156 (18, [(0, (1, 1))], [], w89) _
            replace hM : e_Rn 20 elay ecode eI d' 352 (79, [(3, (0, z45)), (2, (0, v37 275 79)), (1, (0, v37 275 81)), (0, (1, 275))], [], v86) r' v' := hM
            refine e_Pn.run (t' := (19, [(0, (1, 1))], [(1, 1)], w89)) kAlk 1 rfl ?_
            refine e_Pn.getr (z := cd) kAlk rfl rfl s98.1.2.2.2.1.2.1 (by first | decide | omega) ?_
            refine e_Pn.run (t' := (25, [(0, (1, 1))], [(0, 0), (0, 46), (1, cd)], w89)) kAlk 2 rfl ?_
            refine e_Pn.callA rfl (fun nq dq => l_21 s98.1.2.2.2.1 (op := 46) (od := 0) (by first | decide | omega) (by first | decide | omega) s98.1.2.2.2.2.2.1) (fun r100 w101 h102 => ?_)
            obtain ⟨z103, rfl, w101f, w101q⟩ := h102
            have w101k := kRw.em s98.1.2.2.2.1 w101f
            have w101l := (emQ.len w101q s98.1.2.2.2.2.2.1).1
            have w101e : w101 1 5 = w89 1 5 ∧ w101 1 6 = w89 1 6 ∧ w101 1 8 = w89 1 8 := ⟨w101f 1 5 (nf_kEm_1_5 hz.1.2.2.2.1.1), w101f 1 6 (nf_kEm_1_6 hz.1.2.2.2.1.1), w101f 1 8 (nf_kEm_1_8 hz.1.2.2.2.1.1)⟩
            have s104 := st.em s98 w101f w101q (by first | decide | omega) (by unfold isCl3; omega)
            have hd105 := hd1 w101q
            have q106 := st.nums s104
            clear q99
            have q106c := q106.2.2.2.1
            have q106d := q106.2.1
            have q106e := q106.2.2.1
            have q106f := q106.2.2.2.2.1.1
            have z103r : 0 ≤ z103 ∧ z103 ≤ 4000 := emQ.z w101q s98.1.2.2.2.2.2.1
            show e_Pn 20 elay kcode eI nq13 dq14 156 (28, [(0, (1, 1))], [(0, z103)], w101) _
            refine e_Pn.run (t' := (30, [(1, (0, z103)), (0, (1, 1))], [(1, 1)], w101)) kAlk 2 rfl ?_
            refine e_Pn.getr (z := cd) kAlk rfl rfl ((w101f 1 3 (nf_kEm_1_3 hz.1.2.2.2.1.1)).trans s98.1.2.2.2.1.2.1) (by first | decide | omega) ?_
            refine e_Pn.run (t' := (36, [(1, (0, z103)), (0, (1, 1))], [(0, 0), (0, 49), (1, cd)], w101)) kAlk 2 rfl ?_
            refine e_Pn.callA rfl (fun nq dq => l_21 w101k (op := 49) (od := 0) (by first | decide | omega) (by first | decide | omega) w101l) (fun r107 w108 h109 => ?_)
            obtain ⟨z110, rfl, w108f, w108q⟩ := h109
            have w108k := kRw.em w101k w108f
            have w108l := (emQ.len w108q w101l).1
            have w108e : w108 1 5 = w101 1 5 ∧ w108 1 6 = w101 1 6 ∧ w108 1 8 = w101 1 8 := ⟨w108f 1 5 (nf_kEm_1_5 hz.1.2.2.2.1.1), w108f 1 6 (nf_kEm_1_6 hz.1.2.2.2.1.1), w108f 1 8 (nf_kEm_1_8 hz.1.2.2.2.1.1)⟩
            have s111 := st.em s104 w108f w108q (by first | decide | omega) (by unfold isCl3; omega)
            have ps111 := plcQ.mk s104 w108q (by first | decide | omega)
            have hd112 := hdn hd105 w108q
            clear hd105
            have phd112 := plcQ.re ps111 (fun g => (hd112 g).2)
            have hd113 := fun g => (hd112 g).1
            clear hd112
            have q114 := st.nums s111
            clear q106
            have q114c := q114.2.2.2.1
            have q114d := q114.2.1
            have q114e := q114.2.2.1
            have q114f := q114.2.2.2.2.1.1
            have z110r : 0 ≤ z110 ∧ z110 ≤ 4000 := emQ.z w108q w101l
            show e_Pn 20 elay kcode eI nq13 dq14 156 (39, [(1, (0, z103)), (0, (1, 1))], [(0, z110)], w108) _
            refine e_Pn.run (t' := (41, [(1, (0, z103)), (0, (1, 1))], [(1, 1)], w108)) kAlk 2 rfl ?_
            refine e_Pn.getr (z := cd) kAlk rfl rfl ((w108f 1 3 (nf_kEm_1_3 hz.1.2.2.2.1.1)).trans ((w101f 1 3 (nf_kEm_1_3 hz.1.2.2.2.1.1)).trans s98.1.2.2.2.1.2.1)) (by first | decide | omega) ?_
            refine e_Pn.run (t' := (47, [(1, (0, z103)), (0, (1, 1))], [(0, 0), (0, 49), (1, cd)], w108)) kAlk 2 rfl ?_
            refine e_Pn.callA rfl (fun nq dq => l_21 w108k (op := 49) (od := 0) (by first | decide | omega) (by first | decide | omega) w108l) (fun r115 w116 h117 => ?_)
            obtain ⟨z118, rfl, w116f, w116q⟩ := h117
            have w116k := kRw.em w108k w116f
            have w116l := (emQ.len w116q w108l).1
            have w116e : w116 1 5 = w108 1 5 ∧ w116 1 6 = w108 1 6 ∧ w116 1 8 = w108 1 8 := ⟨w116f 1 5 (nf_kEm_1_5 hz.1.2.2.2.1.1), w116f 1 6 (nf_kEm_1_6 hz.1.2.2.2.1.1), w116f 1 8 (nf_kEm_1_8 hz.1.2.2.2.1.1)⟩
            have s119 := st.em s111 w116f w116q (by first | decide | omega) (by unfold isCl3; omega)
            have ps119 := plcQ.mk s111 w116q (by first | decide | omega)
            have hd120 := hdn hd113 w116q
            clear hd113
            have phd120 := plcQ.re ps119 (fun g => (hd120 g).2)
            have hd121 := fun g => (hd120 g).1
            clear hd120
            have q122 := st.nums s119
            clear q114
            have q122c := q122.2.2.2.1
            have q122d := q122.2.1
            have q122e := q122.2.2.1
            have q122f := q122.2.2.2.2.1.1
            have z118r : 0 ≤ z118 ∧ z118 ≤ 4000 := emQ.z w116q w108l
            show e_Pn 20 elay kcode eI nq13 dq14 156 (50, [(1, (0, z103)), (0, (1, 1))], [(0, z118)], w116) _
            refine e_Pn.run (t' := (52, [(1, (0, z103)), (0, (1, 1))], [(1, 1)], w116)) kAlk 2 rfl ?_
            refine e_Pn.getr (z := cd) kAlk rfl rfl ((w116f 1 3 (nf_kEm_1_3 hz.1.2.2.2.1.1)).trans ((w108f 1 3 (nf_kEm_1_3 hz.1.2.2.2.1.1)).trans ((w101f 1 3 (nf_kEm_1_3 hz.1.2.2.2.1.1)).trans s98.1.2.2.2.1.2.1))) (by first | decide | omega) ?_
            refine e_Pn.run (t' := (58, [(1, (0, z103)), (0, (1, 1))], [(0, 0), (0, 49), (1, cd)], w116)) kAlk 2 rfl ?_
            refine e_Pn.callA rfl (fun nq dq => l_21 w116k (op := 49) (od := 0) (by first | decide | omega) (by first | decide | omega) w116l) (fun r123 w124 h125 => ?_)
            obtain ⟨z126, rfl, w124f, w124q⟩ := h125
            have w124k := kRw.em w116k w124f
            have w124l := (emQ.len w124q w116l).1
            have w124e : w124 1 5 = w116 1 5 ∧ w124 1 6 = w116 1 6 ∧ w124 1 8 = w116 1 8 := ⟨w124f 1 5 (nf_kEm_1_5 hz.1.2.2.2.1.1), w124f 1 6 (nf_kEm_1_6 hz.1.2.2.2.1.1), w124f 1 8 (nf_kEm_1_8 hz.1.2.2.2.1.1)⟩
            have s127 := st.em s119 w124f w124q (by first | decide | omega) (by unfold isCl3; omega)
            have ps127 := plcQ.mk s119 w124q (by first | decide | omega)
            have hd128 := hdn hd121 w124q
            clear hd121
            have phd128 := plcQ.re ps127 (fun g => (hd128 g).2)
            have hd129 := fun g => (hd128 g).1
            clear hd129 hd128
            have q130 := st.nums s127
            clear q122
            have q130c := q130.2.2.2.1
            have q130d := q130.2.1
            have q130e := q130.2.2.1
            have q130f := q130.2.2.2.2.1.1
            have z126r : 0 ≤ z126 ∧ z126 ≤ 4000 := emQ.z w124q w116l
            show e_Pn 20 elay kcode eI nq13 dq14 156 (61, [(1, (0, z103)), (0, (1, 1))], [(0, z126)], w124) _
            refine e_Pn.run (t' := (64, [(1, (0, z103)), (0, (1, 1))], [(1, 1), (1, 1)], w124)) kAlk 3 rfl ?_
            refine e_Pn.getf (z := w89 1 12) kAlk rfl rfl ((w124f 1 12 (nf_kEm_1_12 hz.1.2.2.2.1.1)).trans ((w116f 1 12 (nf_kEm_1_12 hz.1.2.2.2.1.1)).trans ((w108f 1 12 (nf_kEm_1_12 hz.1.2.2.2.1.1)).trans ((w101f 1 12 (nf_kEm_1_12 hz.1.2.2.2.1.1)).trans rfl)))) (fun b131 => ?_)
            refine e_Pn.run (t' := (68, [(1, (0, z103)), (0, (1, 1))], [(0, 1), (0, w89 1 12), (1, 1)], w124)) kAlk 1 rfl ?_
            refine e_Pn.add (z := w89 1 12 + 1) kAlk rfl (by first | decide | omega) (by first | decide | omega) ?_
            refine e_Pn.putf kAlk rfl rfl ?_
            generalize hw132 : e_up w124 1 12 (w89 1 12 + 1) = w132
            have w132g : e_fr (kGs cd) w124 w132 := (e_fr.up (e_fr.refl w124) hw132 pf_kGs_1_12)
            have w132k := kRw.gs w124k w132g
            have w132l : 0 ≤ w132 cd 0 ∧ w132 cd 0 ≤ 4000 := by rw [w132g cd 0 (nf_kGs_cd_0 hz.1.2.2.2.1.1)]; exact w124l
            have w132e : w132 1 5 = w124 1 5 ∧ w132 1 6 = w124 1 6 ∧ w132 1 8 = w124 1 8 := ⟨w132g 1 5 (nf_kGs_1_5 hz.1.2.2.2.1.1), w132g 1 6 (nf_kGs_1_6 hz.1.2.2.2.1.1), w132g 1 8 (nf_kGs_1_8 hz.1.2.2.2.1.1)⟩
            refine e_Pn.run (t' := (73, [(1, (0, z103)), (0, (1, 1))], [(1, 1)], w132)) kAlk 1 rfl ?_
            replace hM := hM.st (t' := (82, [(3, (0, z45)), (2, (0, v37 275 79)), (1, (0, v37 275 81)), (0, (1, 275))], [(0, v37 275 79), (0, 3), (1, 275)], v86)) (fun _ _ q => e_Pn.run eAlk 3 rfl q)
            obtain ⟨z133, hz133, hM⟩ := hM.ex (fun _ _ q => e_Pn.bin0 eAlk rfl q)
            replace hM := hM.st (fun _ _ q => e_Pn.putf eAlk rfl rfl q)
            generalize hv134 : e_up v86 275 81 z133 = v134 at hM
            have v134m := mRw.upd hv134 (fun _ => by first | decide | omega) s98.1.2.2.2.2.1
            replace hM := hM.st (t' := (87, [(3, (0, z45)), (2, (0, v37 275 79)), (1, (0, v37 275 81)), (0, (1, 275))], [(1, 275)], v134)) (fun _ _ q => e_Pn.run eAlk 1 rfl q)
            have e136a : w132 1 11 = w124 1 11 := (by rw [← hw132]; exact e_up_ne _ _ (Or.inr (by first | decide | omega)))
            have e136b : v134 275 83 = v86 275 83 := (by rw [← hv134]; exact e_up_ne _ _ (Or.inr (by first | decide | omega)))
            have e136c : w132 1 13 = w124 1 13 := (by rw [← hw132]; exact e_up_ne _ _ (Or.inr (by first | decide | omega)))
            have e136d : v134 275 82 = v86 275 82 := (by rw [← hv134]; exact e_up_ne _ _ (Or.inr (by first | decide | omega)))
            have e136f : w132 1 12 = w89 1 12 + 1 := (by rw [← hw132]; exact e_up_eq _ _ _ _)
            have e136e : v134 275 80 = v86 275 80 := (by rw [← hv134]; exact e_up_ne _ _ (Or.inr (by first | decide | omega)))
            have s135 := st.gen (o' := 1) (l' := w 1 13) (m' := v 275 82) (t' := w89 1 12 + 1) (b' := 0) s127 (e_fr.up (e_fr.refl w124) hw132 pf_kGs_1_12) (e_fr.up (e_fr.refl v86) hv134 pf_mGs_275_81) (by first | decide | omega) (by first | decide | omega) (by first | decide | omega) (by first | decide | omega)
            clear q106d q106e q106f q114d q114e q114f q122d q122e q122f q130d q130e q130f
            have q137 := st.nums s135
            clear q130 e136a e136b e136c e136d e136e e136f
            have q137c := q137.2.2.2.1
            have q137d := q137.2.1
            have q137e := q137.2.2.1
            have q137f := q137.2.2.2.2.1.1
            obtain ⟨dc138, r139, v140, hc141, hM⟩ := hM.ca rfl
            have uhc141 := hc141.pn (fun nq => uS_all nq 348 (by decide) _ _ s135.1.2.2.2.2.1)
            have z145 : st0 N cd w132 v134 := st.z s135 (by first | decide | omega) (st.loo s135 hzo.2.1) (by first | decide | omega)
            refine e_Pn.callB rfl (fun k9 hk9 d9 => e_Pn.and (ihS k9 (by first | decide | omega) _ _ _ _ _ _ z145 (by first | decide | omega) hc141) (kS_all k9 144 (by decide) d9 _ _ s135.1.2.2.2.1)) (fun r142 w143 h144 => ?_)
            obtain ⟨⟨rfl, rfl, h144⟩, -, h144k⟩ := h144
            rcases h144.symm with h144 | h144
            · skip
              replace hM : e_Rn 20 elay ecode eI d' 352 (90, [(3, (0, z45)), (2, (0, v37 275 79)), (1, (0, v37 275 81)), (0, (1, 275))], [], v140) r' v' := hM
              obtain ⟨rfl, m146⟩ := (e_Rn.le eAlk [0, 1, 2, 3] rfl rfl hM).pn (fun nq => v_352_90 (uhc141.2.rf s135.1.2.2.2.2.1) _ (v37 275 81) (v37 275 79) z45 v140 mq.r)
              show e_Pn 20 elay kcode eI nq13 dq14 156 (76, [(1, (0, z103)), (0, (1, 1))], [], w143) _
              refine e_Pn.ord kAlk [0, 1] rfl rfl ((v_156_76 (h144k.rf s135.1.2.2.2.1) _ z103 w143 kq.r).imp (fun r148 w149 k147 => ?_))
              obtain ⟨rfl, k147⟩ := k147
              show e_Pn 20 elay kcode eI n d 145 (356, [(0, (1, 1))], [], w149) _
              refine e_Pn.ord kAlk [0] rfl rfl ((v_145_356 (k147.rf (h144k.rf s135.1.2.2.2.1)) _  w149 kq.r).imp (fun r151 w152 k150 => ?_))
              obtain ⟨rfl, k150⟩ := k150
              exact ⟨rfl, rfl, Or.inr (rpF.tail h144 (k147.tr k150) m146)⟩
            have s153 := st.re (l' := w 1 13) (m' := v 275 82) (t' := w89 1 12 + 1) (st.tr s135 h144) (Int.le_refl _) rfl (by first | decide | omega) (by first | decide | omega) (by first | decide | omega)
            clear q137d q137e q137f
            have q154 := st.nums s153
            clear q137
            have q154c := q154.2.2.2.1
            have q154d := q154.2.1
            have q154e := q154.2.2.1
            have q154f := q154.2.2.2.2.1.1
            show e_Pn 20 elay kcode eI nq13 dq14 156 (76, [(1, (0, z103)), (0, (1, 1))], [], w143) _
            replace hM : e_Rn 20 elay ecode eI d' 352 (90, [(3, (0, z45)), (2, (0, v37 275 79)), (1, (0, v37 275 81)), (0, (1, 275))], [], v140) r' v' := hM
            refine e_Pn.run (t' := (77, [(1, (0, z103)), (0, (1, 1))], [(1, 1)], w143)) kAlk 1 rfl ?_
            refine e_Pn.getr (z := cd) kAlk rfl rfl s153.1.2.2.2.1.2.1 (by first | decide | omega) ?_
            refine e_Pn.run (t' := (83, [(1, (0, z103)), (0, (1, 1))], [(0, 0), (0, 47), (1, cd)], w143)) kAlk 2 rfl ?_
            refine e_Pn.callA rfl (fun nq dq => l_21 s153.1.2.2.2.1 (op := 47) (od := 0) (by first | decide | omega) (by first | decide | omega) s153.1.2.2.2.2.2.1) (fun r155 w156 h157 => ?_)
            obtain ⟨z158, rfl, w156f, w156q⟩ := h157
            have w156k := kRw.em s153.1.2.2.2.1 w156f
            have w156l := (emQ.len w156q s153.1.2.2.2.2.2.1).1
            have w156e : w156 1 5 = w143 1 5 ∧ w156 1 6 = w143 1 6 ∧ w156 1 8 = w143 1 8 := ⟨w156f 1 5 (nf_kEm_1_5 hz.1.2.2.2.1.1), w156f 1 6 (nf_kEm_1_6 hz.1.2.2.2.1.1), w156f 1 8 (nf_kEm_1_8 hz.1.2.2.2.1.1)⟩
            have s159 := st.em s153 w156f w156q (by first | decide | omega) (by unfold isCl3; omega)
            have q160 := st.nums s159
            clear q154
            have q160c := q160.2.2.2.1
            have q160d := q160.2.1
            have q160e := q160.2.2.1
            have q160f := q160.2.2.2.2.1.1
            have z158r : 0 ≤ z158 ∧ z158 ≤ 4000 := emQ.z w156q s153.1.2.2.2.2.2.1
            show e_Pn 20 elay kcode eI nq13 dq14 156 (86, [(1, (0, z103)), (0, (1, 1))], [(0, z158)], w156) _
            refine e_Pn.run (t' := (88, [(1, (0, z103)), (0, (1, 1))], [(1, 1)], w156)) kAlk 2 rfl ?_
            refine e_Pn.getf (z := w143 1 5) kAlk rfl rfl ((w156f 1 5 (nf_kEm_1_5 hz.1.2.2.2.1.1)).trans rfl) (fun b161 => ?_)
            refine e_Pn.run (t' := (93, [(1, (0, z103)), (0, (1, 1))], [(0, 43), (0, w143 1 5)], w156)) kAlk 1 rfl ?_
            refine e_Pn.if2 kAlk rfl (fun h162 => ?_) (fun h162 => ?_)
            · replace h162 : (w143 1 5 : Int) ≠ 43 := h162
              refine e_Pn.run (t' := (120, [(1, (0, z103)), (0, (1, 1))], [(1, 1)], w156)) kAlk 1 rfl ?_
              refine e_Pn.getf (z := w143 1 5) kAlk rfl rfl ((w156f 1 5 (nf_kEm_1_5 hz.1.2.2.2.1.1)).trans rfl) (fun b163 => ?_)
              refine e_Pn.run (t' := (125, [(1, (0, z103)), (0, (1, 1))], [(0, 44), (0, w143 1 5)], w156)) kAlk 1 rfl ?_
              refine e_Pn.if2 kAlk rfl (fun h164 => ?_) (fun h164 => ?_)
              · replace h164 : (w143 1 5 : Int) ≠ 44 := h164
                refine e_Pn.run (t' := (153, [(1, (0, z103)), (0, (1, 1))], [(1, 1), (1, 1)], w156)) kAlk 2 rfl ?_
                refine e_Pn.getf (z := w143 1 12) kAlk rfl rfl ((w156f 1 12 (nf_kEm_1_12 hz.1.2.2.2.1.1)).trans rfl) (fun b165 => ?_)
                refine e_Pn.run (t' := (157, [(1, (0, z103)), (0, (1, 1))], [(0, 1), (0, w143 1 12), (1, 1)], w156)) kAlk 1 rfl ?_
                refine e_Pn.sub' (z := w143 1 12 - 1) kAlk rfl (by first | decide | omega) (by first | decide | omega) ?_
                refine e_Pn.putf kAlk rfl rfl ?_
                generalize hw166 : e_up w156 1 12 (w143 1 12 - 1) = w166
                have w166g : e_fr (kGs cd) w156 w166 := (e_fr.up (e_fr.refl w156) hw166 pf_kGs_1_12)
                have w166k := kRw.gs w156k w166g
                have w166l : 0 ≤ w166 cd 0 ∧ w166 cd 0 ≤ 4000 := by rw [w166g cd 0 (nf_kGs_cd_0 hz.1.2.2.2.1.1)]; exact w156l
                have w166e : w166 1 5 = w156 1 5 ∧ w166 1 6 = w156 1 6 ∧ w166 1 8 = w156 1 8 := ⟨w166g 1 5 (nf_kGs_1_5 hz.1.2.2.2.1.1), w166g 1 6 (nf_kGs_1_6 hz.1.2.2.2.1.1), w166g 1 8 (nf_kGs_1_8 hz.1.2.2.2.1.1)⟩
                refine e_Pn.run (t' := (162, [(1, (0, z103)), (0, (1, 1))], [(1, 1)], w166)) kAlk 1 rfl ?_
                refine e_Pn.getr (z := cd) kAlk rfl rfl (by rw [← hw166]; exact (e_up_ne _ _ (Or.inr (by first | decide | omega))).trans ((w156f 1 3 (nf_kEm_1_3 hz.1.2.2.2.1.1)).trans s153.1.2.2.2.1.2.1)) (by first | decide | omega) ?_
                refine e_Pn.run (t' := (167, [(1, (0, z103)), (0, (1, 1))], [(0, 3), (0, z103), (1, cd)], w166)) kAlk 2 rfl ?_
                refine e_Pn.add (z := z103 + 3) kAlk rfl (by first | decide | omega) (by first | decide | omega) ?_
                refine e_Pn.run (t' := (169, [(1, (0, z103)), (0, (1, 1))], [(1, 1), (0, z103 + 3), (1, cd)], w166)) kAlk 1 rfl ?_
                refine e_Pn.getr (z := cd) kAlk rfl rfl (by rw [← hw166]; exact (e_up_ne _ _ (Or.inr (by first | decide | omega))).trans ((w156f 1 3 (nf_kEm_1_3 hz.1.2.2.2.1.1)).trans s153.1.2.2.2.1.2.1)) (by first | decide | omega) ?_
                refine e_Pn.getf (z := w156 cd 0) kAlk rfl rfl (by rw [← hw166]; exact (e_up_ne _ _ (Or.inr (by first | decide | omega))).trans rfl) (fun b167 => ?_)
                refine e_Pn.callA rfl (fun nq dq => l_22 w166k (x := z103 + 3) (od := w156 cd 0) (by first | decide | omega)) (fun r168 w169 h170 => ?_)
                obtain ⟨rfl, w169f, w169q⟩ := h170
                have w169k := kRw.em w166k (w169f.mono (fun _ _ q => Or.inr q))
                have w169l : 0 ≤ w169 cd 0 ∧ w169 cd 0 ≤ 4000 := by rw [w169f cd 0 (nf_kPa_cd_0 hz.1.2.2.2.1.1)]; exact w166l
                have w169e : w169 1 5 = w166 1 5 ∧ w169 1 6 = w166 1 6 ∧ w169 1 8 = w166 1 8 := ⟨w169f 1 5 (nf_kPa_1_5 hz.1.2.2.2.1.1), w169f 1 6 (nf_kPa_1_6 hz.1.2.2.2.1.1), w169f 1 8 (nf_kPa_1_8 hz.1.2.2.2.1.1)⟩
                show e_Pn 20 elay kcode eI nq13 dq14 156 (178, [(1, (0, z103)), (0, (1, 1))], [], w169) _
                refine e_Pn.run (t' := (181, [(1, (0, z103)), (0, (1, 1))], [(0, 23), (1, 1)], w169)) kAlk 2 rfl ?_
                replace hM := hM.st (t' := (94, [(3, (0, z45)), (2, (0, v37 275 79)), (1, (0, v37 275 81)), (0, (1, 275))], [(0, v37 275 79), (0, 49), (1, 275)], v140)) (fun _ _ q => e_Pn.run eAlk 3 rfl q)
                obtain ⟨dc171, r172, v173, hc174, hM⟩ := hM.ca rfl
                obtain ⟨⟨z175, rfl⟩, v173f⟩ := hc174.pn (fun nq => x_336 s153.1.2.2.2.2.1)
                have v173m := mfr.rf v173f s153.1.2.2.2.2.1
                replace hM : e_Rn 20 elay ecode eI d' 352 (97, [(3, (0, z45)), (2, (0, v37 275 79)), (1, (0, v37 275 81)), (0, (1, 275))], [(0, z175)], v173) r' v' := hM
                replace hM := hM.st (t' := (99, [(3, (0, z45)), (2, (0, v37 275 79)), (1, (0, v37 275 81)), (0, (1, 275))], [(1, 275)], v173)) (fun _ _ q => e_Pn.run eAlk 2 rfl q)
                obtain ⟨b176, hM⟩ := hM.of (fun _ _ q => e_Pn.getf (z := 0) eAlk rfl rfl ((v173f 275 88 nf_mEm_275_88).trans s153.1.2.1.1.2) q)
                rcases hM.or (fun _ _ q1 q2 => e_Pn.if1 eAlk rfl q1 q2) with ⟨h177, hM⟩ | ⟨h177, hM⟩
                · replace h177 : (0 : Int) ≠ 0 := h177
                  exfalso; omega
                · replace h177 : (0 : Int) = 0 := by have q : ¬ ((0 : Int) ≠ 0) := h177; omega
                  replace hM := hM.st (t' := (108, [(3, (0, z45)), (2, (0, v37 275 79)), (1, (0, v37 275 81)), (0, (1, 275))], [(0, 22), (1, 275)], v173)) (fun _ _ q => e_Pn.run eAlk 2 rfl q)
                  obtain ⟨dc178, r179, v180, hc181, hM⟩ := hM.ca rfl
                  obtain ⟨z182, rfl, rfl, z182q⟩ := hc181.pn (fun nq => l_332)
                  replace z182q := isS (kM_key (k := 22) s153.1.2.1.2.2.1 (by decide)) ((v173f 275 84 nf_mEm_275_84).trans rfl) ((v173f 275 85 nf_mEm_275_85).trans rfl) z182q
                  obtain rfl : z182 = 0 := by omega
                  clear z182q
                  replace hM : e_Rn 20 elay ecode eI d' 352 (111, [(3, (0, z45)), (2, (0, v37 275 79)), (1, (0, v37 275 81)), (0, (1, 275))], [(0, 0)], v173) r' v' := hM
                  rcases hM.or (fun _ _ q1 q2 => e_Pn.if1 eAlk rfl q1 q2) with ⟨h183, hM⟩ | ⟨h183, hM⟩
                  · replace h183 : (0 : Int) = 0 := h183
                    replace hM := hM.st (t' := (160, [(3, (0, z45)), (2, (0, v37 275 79)), (1, (0, v37 275 81)), (0, (1, 275))], [(1, 275)], v173)) (fun _ _ q => e_Pn.run eAlk 1 rfl q)
                    obtain ⟨b184, hM⟩ := hM.of (fun _ _ q => e_Pn.getf (z := 0) eAlk rfl rfl ((v173f 275 88 nf_mEm_275_88).trans s153.1.2.1.1.2) q)
                    rcases hM.or (fun _ _ q1 q2 => e_Pn.if1 eAlk rfl q1 q2) with ⟨h185, hM⟩ | ⟨h185, hM⟩
                    · replace h185 : (0 : Int) ≠ 0 := h185
                      exfalso; omega
                    · replace h185 : (0 : Int) = 0 := by have q : ¬ ((0 : Int) ≠ 0) := h185; omega
                      replace hM := hM.st (t' := (169, [(3, (0, z45)), (2, (0, v37 275 79)), (1, (0, v37 275 81)), (0, (1, 275))], [(0, 23), (1, 275)], v173)) (fun _ _ q => e_Pn.run eAlk 2 rfl q)
                      obtain ⟨dc186, r187, v188, hc189, hM⟩ := hM.ca rfl
                      obtain ⟨z190, rfl, rfl, z190q⟩ := hc189.pn (fun nq => l_332)
                      replace z190q := isS (kM_key (k := 23) s153.1.2.1.2.2.1 (by decide)) ((v173f 275 84 nf_mEm_275_84).trans rfl) ((v173f 275 85 nf_mEm_275_85).trans rfl) z190q
                      obtain rfl : z190 = 0 := by omega
                      clear z190q
                      replace hM : e_Rn 20 elay ecode eI d' 352 (172, [(3, (0, z45)), (2, (0, v37 275 79)), (1, (0, v37 275 81)), (0, (1, 275))], [(0, 0)], v173) r' v' := hM
                      rcases hM.or (fun _ _ q1 q2 => e_Pn.if1 eAlk rfl q1 q2) with ⟨h191, hM⟩ | ⟨h191, hM⟩
                      · replace h191 : (0 : Int) = 0 := h191
                        replace hM := hM.st (t' := (222, [(3, (0, z45)), (2, (0, v37 275 79)), (1, (0, v37 275 81)), (0, (1, 275))], [(0, v37 275 81), (1, 275)], v173)) (fun _ _ q => e_Pn.run eAlk 2 rfl q)
                        replace hM := hM.st (fun _ _ q => e_Pn.putf eAlk rfl rfl q)
                        generalize hv192 : e_up v173 275 81 (v37 275 81) = v192 at hM
                        have v192m := mRw.upd hv192 (fun _ => by first | decide | omega) v173m
                        replace hM := hM.st (t' := (226, [(3, (0, z45)), (2, (0, v37 275 79)), (1, (0, v37 275 81)), (0, (1, 275))], [(1, 275)], v192)) (fun _ _ q => e_Pn.run eAlk 1 rfl q)
                        replace hM := hM.st (fun _ _ q => e_Pn.getr (z := 334) eAlk rfl rfl (by rw [← hv192]; exact (e_up_ne _ _ (Or.inr (by first | decide | omega))).trans ((v173f 275 71 nf_mEm_275_71).trans (s153.1.2.2.2.2.1 (71, 334) (by decide)))) (by first | decide | omega) q)
                        replace hM := hM.st (t' := (231, [(3, (0, z45)), (2, (0, v37 275 79)), (1, (0, v37 275 81)), (0, (1, 275))], [(1, 275), (0, z45), (1, 334)], v192)) (fun _ _ q => e_Pn.run eAlk 2 rfl q)
                        obtain ⟨b193, hM⟩ := hM.of (fun _ _ q => e_Pn.getf (z := v173 275 78) eAlk rfl rfl (by rw [← hv192]; exact (e_up_ne _ _ (Or.inr (by first | decide | omega))).trans rfl) q)
                        obtain ⟨b194, b195, hM⟩ := hM.of2 (fun _ _ q => e_Pn.ast eAlk rfl rfl rfl q)
                        generalize hv196 : e_up v192 334 z45 (v173 275 78) = v196 at hM
                        have v196m := mRw.upd hv196 (fun _ => by first | decide | omega) v192m
                        replace hM := hM.st (t' := (238, [(3, (0, z45)), (2, (0, v37 275 79)), (1, (0, v37 275 81)), (0, (1, 275))], [(0, 2), (1, 275), (1, 275)], v196)) (fun _ _ q => e_Pn.run eAlk 3 rfl q)
                        obtain ⟨dc197, r198, v199, hc200, hM⟩ := hM.ca rfl
                        obtain ⟨z201, rfl, rfl, z201q⟩ := hc200.pn (fun nq => l_332)
                        replace z201q := isS (kM_key (k := 2) s153.1.2.1.2.2.1 (by decide)) (by rw [← hv196]; exact (e_up_ne _ _ (Or.inl (by first | decide | omega))).trans (by rw [← hv192]; exact (e_up_ne _ _ (Or.inr (by first | decide | omega))).trans ((v173f 275 84 nf_mEm_275_84).trans rfl))) (by rw [← hv196]; exact (e_up_ne _ _ (Or.inl (by first | decide | omega))).trans (by rw [← hv192]; exact (e_up_ne _ _ (Or.inr (by first | decide | omega))).trans ((v173f 275 85 nf_mEm_275_85).trans rfl))) z201q
                        replace hM : e_Rn 20 elay ecode eI d' 352 (241, [(3, (0, z45)), (2, (0, v37 275 79)), (1, (0, v37 275 81)), (0, (1, 275))], [(0, z201), (1, 275)], v196) r' v' := hM
                        have e203a : w166 1 11 = w156 1 11 := (by rw [← hw166]; exact e_up_ne _ _ (Or.inr (by first | decide | omega)))
                        have e203b : v196 275 83 = v140 275 83 := (Eq.trans (show v196 275 83 = v192 275 83 by rw [← hv196]; exact e_up_ne _ _ (Or.inl (by first | decide | omega))) (Eq.trans (show v192 275 83 = v173 275 83 by rw [← hv192]; exact e_up_ne _ _ (Or.inr (by first | decide | omega))) (v173f 275 83 nf_mEm_275_83)))
                        have e203c : w166 1 13 = w156 1 13 := (by rw [← hw166]; exact e_up_ne _ _ (Or.inr (by first | decide | omega)))
                        have e203d : v196 275 82 = v140 275 82 := (Eq.trans (show v196 275 82 = v192 275 82 by rw [← hv196]; exact e_up_ne _ _ (Or.inl (by first | decide | omega))) (Eq.trans (show v192 275 82 = v173 275 82 by rw [← hv192]; exact e_up_ne _ _ (Or.inr (by first | decide | omega))) (v173f 275 82 nf_mEm_275_82)))
                        have e203f : w166 1 12 = w143 1 12 - 1 := (by rw [← hw166]; exact e_up_eq _ _ _ _)
                        have e203e : v196 275 80 = v140 275 80 := (Eq.trans (show v196 275 80 = v192 275 80 by rw [← hv196]; exact e_up_ne _ _ (Or.inl (by first | decide | omega))) (Eq.trans (show v192 275 80 = v173 275 80 by rw [← hv192]; exact e_up_ne _ _ (Or.inr (by first | decide | omega))) (v173f 275 80 nf_mEm_275_80)))
                        have s202 := st.gen (o' := 1) (l' := w 1 13) (m' := v 275 82) (t' := w143 1 12 - 1) (b' := 0) s159 (e_fr.up (e_fr.refl w156) hw166 pf_kGs_1_12) (e_fr.up (e_fr.up (e_fr.trans (e_fr.refl v140) (e_fr.mono v173f (fun c k q => by unfold mEm at q; unfold mGs; omega))) hv192 pf_mGs_275_81) hv196 pf_mGs_334_x) (by first | decide | omega) (by first | decide | omega) (by first | decide | omega) (by first | decide | omega)
                        clear q160d q160e q160f
                        have q204 := st.nums s202
                        clear q160 e203a e203b e203c e203d e203e e203f
                        have q204c := q204.2.2.2.1
                        have q204d := q204.2.1
                        have q204e := q204.2.2.1
                        have q204f := q204.2.2.2.2.1.1
                        have pl206 := plcQ.fr phd128 ((show e_fr (kGs cd) w124 w132 from (e_fr.up (e_fr.refl w124) hw132 pf_kGs_1_12)) cd 0 (nf_kGs_cd_0 hz.1.2.2.2.1.1)) (fun i => (show e_fr (kGs cd) w124 w132 from (e_fr.up (e_fr.refl w124) hw132 pf_kGs_1_12)) (cd + 2) i (nf_kGs_cd2_x hz.1.2.2.2.1.1))
                        have pl207 := plcQ.st pl206 h144
                        have pl208 := plcQ.em pl207 w156q
                        have pl209 := plcQ.fr pl208 ((show e_fr (kGs cd) w156 w166 from (e_fr.up (e_fr.refl w156) hw166 pf_kGs_1_12)) cd 0 (nf_kGs_cd_0 hz.1.2.2.2.1.1)) (fun i => (show e_fr (kGs cd) w156 w166 from (e_fr.up (e_fr.refl w156) hw166 pf_kGs_1_12)) (cd + 2) i (nf_kGs_cd2_x hz.1.2.2.2.1.1))
                        have s205 := st.pa s202 w169f w169q pl209 (by unfold isCl3; omega)
                        clear q204d q204e q204f
                        have q210 := st.nums s205
                        clear q204
                        have q210c := q210.2.2.2.1
                        have q210d := q210.2.1
                        have q210e := q210.2.2.1
                        have q210f := q210.2.2.2.2.1.1
                        obtain ⟨dc211, r212, v213, hc214, hM⟩ := hM.ca rfl
                        have uhc214 := hc214.pn (fun nq => u_334 s205.1.2.2.2.2.1)
                        refine e_Pn.callA rfl (fun nq dq => e_Pn.and (t_129b s205.1.1 s205.1.2.1 (by have q9 : w169 1 5 = w143 1 5 := (by first | decide | omega); rw [q9]; exact z201q) (d' := dc211) hc214) (u_129 s205.1.2.2.2.1)) (fun r215 w216 h217 => ?_)
                        obtain ⟨⟨rfl, rfl, h217⟩, -, h217k⟩ := h217
                        rcases h217.symm with h217 | ⟨h217c, h217⟩
                        · skip
                          replace hM : e_Rn 20 elay ecode eI d' 352 (244, [(3, (0, z45)), (2, (0, v37 275 79)), (1, (0, v37 275 81)), (0, (1, 275))], [], v213) r' v' := hM
                          obtain ⟨rfl, m218⟩ := (e_Rn.le eAlk [0, 1, 2, 3] rfl rfl hM).pn (fun nq => v_352_244 (uhc214.2.rf s205.1.2.2.2.2.1) _ (v37 275 81) (v37 275 79) z45 v213 mq.r)
                          show e_Pn 20 elay kcode eI nq13 dq14 156 (184, [(1, (0, z103)), (0, (1, 1))], [], w216) _
                          refine e_Pn.ord kAlk [0, 1] rfl rfl ((v_156_184 (h217k.rf s205.1.2.2.2.1) _ z103 w216 kq.r).imp (fun r220 w221 k219 => ?_))
                          obtain ⟨rfl, k219⟩ := k219
                          show e_Pn 20 elay kcode eI n d 145 (356, [(0, (1, 1))], [], w221) _
                          refine e_Pn.ord kAlk [0] rfl rfl ((v_145_356 (k219.rf (h217k.rf s205.1.2.2.2.1)) _  w221 kq.r).imp (fun r223 w224 k222 => ?_))
                          obtain ⟨rfl, k222⟩ := k222
                          exact ⟨rfl, rfl, Or.inr (rpF.tail h217 (k219.tr k222) m218)⟩
                        clear z201q
                        have s225 := st.ad (k := 3) s205 h217 (st.len3 s205 (Or.inl h217c)) (by first | decide | omega)
                        have s225n := h217.2.2.2.1
                        have s225m := st.len3 s205 (Or.inl h217c)
                        have s225g : w 1 6 + 1 ≤ w216 1 6 := by omega
                        clear q210d q210e q210f
                        have q226 := st.nums s225
                        clear q210
                        have q226c := q226.2.2.2.1
                        have q226d := q226.2.1
                        have q226e := q226.2.2.1
                        have q226f := q226.2.2.2.2.1.1
                        show e_Pn 20 elay kcode eI nq13 dq14 156 (184, [(1, (0, z103)), (0, (1, 1))], [], w216) _
                        replace hM : e_Rn 20 elay ecode eI d' 352 (244, [(3, (0, z45)), (2, (0, v37 275 79)), (1, (0, v37 275 81)), (0, (1, 275))], [], v213) r' v' := hM
                        refine e_Pn.run (t' := (186, [(1, (0, z103)), (0, (1, 1))], [(1, 1), (1, 1)], w216)) kAlk 2 rfl ?_
                        refine e_Pn.getf (z := w216 1 11) kAlk rfl rfl rfl (fun b227 => ?_)
                        refine e_Pn.run (t' := (190, [(1, (0, z103)), (0, (1, 1))], [(0, 1), (0, w216 1 11), (1, 1)], w216)) kAlk 1 rfl ?_
                        refine e_Pn.sub' (z := w216 1 11 - 1) kAlk rfl (by first | decide | omega) (by first | decide | omega) ?_
                        refine e_Pn.putf kAlk rfl rfl ?_
                        generalize hw228 : e_up w216 1 11 (w216 1 11 - 1) = w228
                        have w228g : e_fr (kGs cd) w216 w228 := (e_fr.up (e_fr.refl w216) hw228 pf_kGs_1_11)
                        have w228k := kRw.gs s225.1.2.2.2.1 w228g
                        have w228l : 0 ≤ w228 cd 0 ∧ w228 cd 0 ≤ 4000 := by rw [w228g cd 0 (nf_kGs_cd_0 hz.1.2.2.2.1.1)]; exact s225.1.2.2.2.2.2.1
                        have w228e : w228 1 5 = w216 1 5 ∧ w228 1 6 = w216 1 6 ∧ w228 1 8 = w216 1 8 := ⟨w228g 1 5 (nf_kGs_1_5 hz.1.2.2.2.1.1), w228g 1 6 (nf_kGs_1_6 hz.1.2.2.2.1.1), w228g 1 8 (nf_kGs_1_8 hz.1.2.2.2.1.1)⟩
                        refine e_Pn.ret0 rfl ?_
                        show e_Pn 20 elay kcode eI n d 145 (356, [(0, (1, 1))], [], w228) _
                        replace hM := hM.st (t' := (246, [(3, (0, z45)), (2, (0, v37 275 79)), (1, (0, v37 275 81)), (0, (1, 275))], [(1, 275), (1, 275)], v213)) (fun _ _ q => e_Pn.run eAlk 2 rfl q)
                        obtain ⟨b229, hM⟩ := hM.of (fun _ _ q => e_Pn.getf (z := v213 275 83) eAlk rfl rfl rfl q)
                        replace hM := hM.st (t' := (250, [(3, (0, z45)), (2, (0, v37 275 79)), (1, (0, v37 275 81)), (0, (1, 275))], [(0, 1), (0, v213 275 83), (1, 275)], v213)) (fun _ _ q => e_Pn.run eAlk 1 rfl q)
                        replace hM := hM.st (fun _ _ q => e_Pn.sub' (z := v213 275 83 - 1) eAlk rfl (by first | decide | omega) (by first | decide | omega) q)
                        replace hM := hM.st (fun _ _ q => e_Pn.putf eAlk rfl rfl q)
                        generalize hv230 : e_up v213 275 83 (v213 275 83 - 1) = v230 at hM
                        have v230m := mRw.upd hv230 (fun _ => by first | decide | omega) s225.1.2.2.2.2.1
                        have e232a : w228 1 11 = w216 1 11 - 1 := (by rw [← hw228]; exact e_up_eq _ _ _ _)
                        have e232b : v230 275 83 = v213 275 83 - 1 := (by rw [← hv230]; exact e_up_eq _ _ _ _)
                        have e232c : w228 1 13 = w216 1 13 := (by rw [← hw228]; exact e_up_ne _ _ (Or.inr (by first | decide | omega)))
                        have e232d : v230 275 82 = v213 275 82 := (by rw [← hv230]; exact e_up_ne _ _ (Or.inr (by first | decide | omega)))
                        have e232f : w228 1 12 = w216 1 12 := (by rw [← hw228]; exact e_up_ne _ _ (Or.inr (by first | decide | omega)))
                        have e232e : v230 275 80 = v213 275 80 := (by rw [← hv230]; exact e_up_ne _ _ (Or.inr (by first | decide | omega)))
                        have s231 := st.gen (o' := 0) (l' := w 1 13) (m' := v 275 82) (t' := w143 1 12 - 1) (b' := 0) s225 (e_fr.up (e_fr.refl w216) hw228 pf_kGs_1_11) (e_fr.up (e_fr.refl v213) hv230 pf_mGs_275_83) (by first | decide | omega) (by first | decide | omega) (by first | decide | omega) (by first | decide | omega)
                        have q233 := st.nums s231
                        clear q226 e232a e232b e232c e232d e232e e232f
                        have q233c := q233.2.2.2.1
                        have q233d := q233.2.1
                        have q233e := q233.2.2.1
                        have q233f := q233.2.2.2.2.1.1
                        obtain ⟨rfl, rfl⟩ := hM.re0 rfl
                        refine e_Pn.ret0 rfl ?_
                        exact ⟨rfl, rfl, Or.inl ⟨st.re s231 (by first | decide | omega) (by first | decide | omega) (by first | decide | omega) (by first | decide | omega) (by first | decide | omega), by omega⟩⟩
                      · replace h191 : (0 : Int) ≠ 0 := by have q : ¬ ((0 : Int) = 0) := h191; omega
                        exfalso; omega
                  · replace h183 : (0 : Int) ≠ 0 := by have q : ¬ ((0 : Int) = 0) := h183; omega
                    exfalso; omega
              · replace h164 : (w143 1 5 : Int) = 44 := by have q : ¬ ((w143 1 5 : Int) ≠ 44) := h164; omega
                refine e_Pn.run (t' := (129, [(1, (0, z103)), (0, (1, 1))], [(1, 1)], w156)) kAlk 1 rfl ?_
                refine e_Pn.getr (z := cd) kAlk rfl rfl ((w156f 1 3 (nf_kEm_1_3 hz.1.2.2.2.1.1)).trans s153.1.2.2.2.1.2.1) (by first | decide | omega) ?_
                refine e_Pn.run (t' := (134, [(1, (0, z103)), (0, (1, 1))], [(0, 2), (0, z103), (1, cd)], w156)) kAlk 2 rfl ?_
                refine e_Pn.add (z := z103 + 2) kAlk rfl (by first | decide | omega) (by first | decide | omega) ?_
                refine e_Pn.run (t' := (136, [(1, (0, z103)), (0, (1, 1))], [(1, 1), (0, z103 + 2), (1, cd)], w156)) kAlk 1 rfl ?_
                refine e_Pn.getr (z := cd) kAlk rfl rfl ((w156f 1 3 (nf_kEm_1_3 hz.1.2.2.2.1.1)).trans s153.1.2.2.2.1.2.1) (by first | decide | omega) ?_
                refine e_Pn.getf (z := w156 cd 0) kAlk rfl rfl rfl (fun b234 => ?_)
                refine e_Pn.callA rfl (fun nq dq => l_22 w156k (x := z103 + 2) (od := w156 cd 0) (by first | decide | omega)) (fun r235 w236 h237 => ?_)
                obtain ⟨rfl, w236f, w236q⟩ := h237
                have w236k := kRw.em w156k (w236f.mono (fun _ _ q => Or.inr q))
                have w236l : 0 ≤ w236 cd 0 ∧ w236 cd 0 ≤ 4000 := by rw [w236f cd 0 (nf_kPa_cd_0 hz.1.2.2.2.1.1)]; exact w156l
                have w236e : w236 1 5 = w156 1 5 ∧ w236 1 6 = w156 1 6 ∧ w236 1 8 = w156 1 8 := ⟨w236f 1 5 (nf_kPa_1_5 hz.1.2.2.2.1.1), w236f 1 6 (nf_kPa_1_6 hz.1.2.2.2.1.1), w236f 1 8 (nf_kPa_1_8 hz.1.2.2.2.1.1)⟩
                have pl239 := plcQ.em phd120 w124q
                have pl240 := plcQ.fr pl239 ((show e_fr (kGs cd) w124 w132 from (e_fr.up (e_fr.refl w124) hw132 pf_kGs_1_12)) cd 0 (nf_kGs_cd_0 hz.1.2.2.2.1.1)) (fun i => (show e_fr (kGs cd) w124 w132 from (e_fr.up (e_fr.refl w124) hw132 pf_kGs_1_12)) (cd + 2) i (nf_kGs_cd2_x hz.1.2.2.2.1.1))
                have pl241 := plcQ.st pl240 h144
                have pl242 := plcQ.em pl241 w156q
                have s238 := st.pa s159 w236f w236q pl242 (by unfold isCl3; omega)
                have q243 := st.nums s238
                clear q160
                have q243c := q243.2.2.2.1
                have q243d := q243.2.1
                have q243e := q243.2.2.1
                have q243f := q243.2.2.2.2.1.1
                show e_Pn 20 elay kcode eI nq13 dq14 156 (145, [(1, (0, z103)), (0, (1, 1))], [], w236) _
                refine e_Pn.run (t' := (148, [(1, (0, z103)), (0, (1, 1))], [(0, 48), (1, 1)], w236)) kAlk 2 rfl ?_
                refine e_Pn.callJ rfl (fun nq244 hnq244 dq245 => ?_)
                show e_Pn 20 elay kcode eI nq244 dq245 157 (0, [(0, (1, 1)), (1, (0, 48))], [], w236) _
                refine e_Pn.run (t' := (1, [(0, (1, 1)), (1, (0, 48))], [(1, 1)], w236)) kAlk 1 rfl ?_
                replace hM := hM.st (t' := (94, [(3, (0, z45)), (2, (0, v37 275 79)), (1, (0, v37 275 81)), (0, (1, 275))], [(0, v37 275 79), (0, 49), (1, 275)], v140)) (fun _ _ q => e_Pn.run eAlk 3 rfl q)
                obtain ⟨dc246, r247, v248, hc249, hM⟩ := hM.ca rfl
                obtain ⟨⟨z250, rfl⟩, v248f⟩ := hc249.pn (fun nq => x_336 s153.1.2.2.2.2.1)
                have v248m := mfr.rf v248f s153.1.2.2.2.2.1
                replace hM : e_Rn 20 elay ecode eI d' 352 (97, [(3, (0, z45)), (2, (0, v37 275 79)), (1, (0, v37 275 81)), (0, (1, 275))], [(0, z250)], v248) r' v' := hM
                replace hM := hM.st (t' := (99, [(3, (0, z45)), (2, (0, v37 275 79)), (1, (0, v37 275 81)), (0, (1, 275))], [(1, 275)], v248)) (fun _ _ q => e_Pn.run eAlk 2 rfl q)
                obtain ⟨b251, hM⟩ := hM.of (fun _ _ q => e_Pn.getf (z := 0) eAlk rfl rfl ((v248f 275 88 nf_mEm_275_88).trans s153.1.2.1.1.2) q)
                rcases hM.or (fun _ _ q1 q2 => e_Pn.if1 eAlk rfl q1 q2) with ⟨h252, hM⟩ | ⟨h252, hM⟩
                · replace h252 : (0 : Int) ≠ 0 := h252
                  exfalso; omega
                · replace h252 : (0 : Int) = 0 := by have q : ¬ ((0 : Int) ≠ 0) := h252; omega
                  replace hM := hM.st (t' := (108, [(3, (0, z45)), (2, (0, v37 275 79)), (1, (0, v37 275 81)), (0, (1, 275))], [(0, 22), (1, 275)], v248)) (fun _ _ q => e_Pn.run eAlk 2 rfl q)
                  obtain ⟨dc253, r254, v255, hc256, hM⟩ := hM.ca rfl
                  obtain ⟨z257, rfl, rfl, z257q⟩ := hc256.pn (fun nq => l_332)
                  replace z257q := isS (kM_key (k := 22) s153.1.2.1.2.2.1 (by decide)) ((v248f 275 84 nf_mEm_275_84).trans rfl) ((v248f 275 85 nf_mEm_275_85).trans rfl) z257q
                  obtain rfl : z257 = 0 := by omega
                  clear z257q
                  replace hM : e_Rn 20 elay ecode eI d' 352 (111, [(3, (0, z45)), (2, (0, v37 275 79)), (1, (0, v37 275 81)), (0, (1, 275))], [(0, 0)], v248) r' v' := hM
                  rcases hM.or (fun _ _ q1 q2 => e_Pn.if1 eAlk rfl q1 q2) with ⟨h258, hM⟩ | ⟨h258, hM⟩
                  · replace h258 : (0 : Int) = 0 := h258
                    replace hM := hM.st (t' := (160, [(3, (0, z45)), (2, (0, v37 275 79)), (1, (0, v37 275 81)), (0, (1, 275))], [(1, 275)], v248)) (fun _ _ q => e_Pn.run eAlk 1 rfl q)
                    obtain ⟨b259, hM⟩ := hM.of (fun _ _ q => e_Pn.getf (z := 0) eAlk rfl rfl ((v248f 275 88 nf_mEm_275_88).trans s153.1.2.1.1.2) q)
                    rcases hM.or (fun _ _ q1 q2 => e_Pn.if1 eAlk rfl q1 q2) with ⟨h260, hM⟩ | ⟨h260, hM⟩
                    · replace h260 : (0 : Int) ≠ 0 := h260
                      exfalso; omega
                    · replace h260 : (0 : Int) = 0 := by have q : ¬ ((0 : Int) ≠ 0) := h260; omega
                      replace hM := hM.st (t' := (169, [(3, (0, z45)), (2, (0, v37 275 79)), (1, (0, v37 275 81)), (0, (1, 275))], [(0, 23), (1, 275)], v248)) (fun _ _ q => e_Pn.run eAlk 2 rfl q)
                      obtain ⟨dc261, r262, v263, hc264, hM⟩ := hM.ca rfl
                      obtain ⟨z265, rfl, rfl, z265q⟩ := hc264.pn (fun nq => l_332)
                      replace z265q := isS (kM_key (k := 23) s153.1.2.1.2.2.1 (by decide)) ((v248f 275 84 nf_mEm_275_84).trans rfl) ((v248f 275 85 nf_mEm_275_85).trans rfl) z265q
                      obtain rfl : z265 = 1 := by omega
                      clear z265q
                      replace hM : e_Rn 20 elay ecode eI d' 352 (172, [(3, (0, z45)), (2, (0, v37 275 79)), (1, (0, v37 275 81)), (0, (1, 275))], [(0, 1)], v248) r' v' := hM
                      rcases hM.or (fun _ _ q1 q2 => e_Pn.if1 eAlk rfl q1 q2) with ⟨h266, hM⟩ | ⟨h266, hM⟩
                      · replace h266 : (1 : Int) = 0 := h266
                        exfalso; omega
                      · replace h266 : (1 : Int) ≠ 0 := by have q : ¬ ((1 : Int) = 0) := h266; omega
                        replace hM := hM.st (t' := (176, [(3, (0, z45)), (2, (0, v37 275 79)), (1, (0, v37 275 81)), (0, (1, 275))], [(1, 275)], v248)) (fun _ _ q => e_Pn.run eAlk 1 rfl q)
                        have e268a : w236 1 11 = w236 1 11 := rfl
                        have e268b : v248 275 83 = v140 275 83 := (v248f 275 83 nf_mEm_275_83)
                        have e268c : w236 1 13 = w236 1 13 := rfl
                        have e268d : v248 275 82 = v140 275 82 := (v248f 275 82 nf_mEm_275_82)
                        have e268f : w236 1 12 = w236 1 12 := rfl
                        have e268e : v248 275 80 = v140 275 80 := (v248f 275 80 nf_mEm_275_80)
                        have s267 := st.gen (o' := 1) (l' := w 1 13) (m' := v 275 82) (t' := w89 1 12 + 1) (b' := 0) s238 (e_fr.refl w236) (e_fr.trans (e_fr.refl v140) (e_fr.mono v248f (fun c k q => by unfold mEm at q; unfold mGs; omega))) (by first | decide | omega) (by first | decide | omega) (by first | decide | omega) (by first | decide | omega)
                        clear q160d q160e q160f q243d q243e q243f
                        have q269 := st.nums s267
                        clear q243 e268a e268b e268c e268d e268e e268f
                        have q269c := q269.2.2.2.1
                        have q269d := q269.2.1
                        have q269e := q269.2.2.1
                        have q269f := q269.2.2.2.2.1.1
                        obtain ⟨dc270, r271, v272, hc273, hM⟩ := hM.ca rfl
                        refine e_Pn.callA rfl (fun nq dq => t_123b s267.1.1 s267.1.2.1.1 s267.1.2.1.2.1.2.1 (st.nx s267) (d' := dc270) hc273) (fun r274 w275 h276 => ?_)
                        obtain ⟨rfl, rfl, h276⟩ := h276
                        have s277 := st.ad (k := 2) s267 h276 (st.len2 s267 (by first | decide | omega)) (by first | decide | omega)
                        have s277n := h276.2.2.2.1
                        have s277m := st.len2 s267 (by first | decide | omega)
                        have s277g : w 1 6 + 1 ≤ w275 1 6 := by omega
                        clear q269d q269e q269f
                        have q278 := st.nums s277
                        clear q269
                        have q278c := q278.2.2.2.1
                        have q278d := q278.2.1
                        have q278e := q278.2.2.1
                        have q278f := q278.2.2.2.2.1.1
                        show e_Pn 20 elay kcode eI nq244 dq245 157 (4, [(0, (1, 1)), (1, (0, 48))], [], w275) _
                        replace hM : e_Rn 20 elay ecode eI d' 352 (179, [(3, (0, z45)), (2, (0, v37 275 79)), (1, (0, v37 275 81)), (0, (1, 275))], [], v272) r' v' := hM
                        refine e_Pn.run (t' := (7, [(0, (1, 1)), (1, (0, 48))], [(0, 20), (1, 1)], w275)) kAlk 2 rfl ?_
                        replace hM := hM.st (t' := (183, [(3, (0, z45)), (2, (0, v37 275 79)), (1, (0, v37 275 81)), (0, (1, 275))], [(0, 58), (1, 275), (1, 275)], v272)) (fun _ _ q => e_Pn.run eAlk 3 rfl q)
                        obtain ⟨dc279, r280, v281, hc282, hM⟩ := hM.ca rfl
                        obtain ⟨z283, rfl, rfl, z283q⟩ := hc282.pn (fun nq => l_331)
                        replace z283q := isS (kM_s58 s277.1.2.1.2.2.1) rfl rfl z283q
                        replace hM : e_Rn 20 elay ecode eI d' 352 (186, [(3, (0, z45)), (2, (0, v37 275 79)), (1, (0, v37 275 81)), (0, (1, 275))], [(0, z283), (1, 275)], v272) r' v' := hM
                        obtain ⟨dc284, r285, v286, hc287, hM⟩ := hM.ca rfl
                        have uhc287 := hc287.pn (fun nq => u_334 s277.1.2.2.2.2.1)
                        refine e_Pn.callA rfl (fun nq dq => e_Pn.and (t_129b s277.1.1 s277.1.2.1 z283q (d' := dc284) hc287) (u_129 s277.1.2.2.2.1)) (fun r288 w289 h290 => ?_)
                        obtain ⟨⟨rfl, rfl, h290⟩, -, h290k⟩ := h290
                        rcases h290.symm with h290 | ⟨h290c, h290⟩
                        · skip
                          replace hM : e_Rn 20 elay ecode eI d' 352 (189, [(3, (0, z45)), (2, (0, v37 275 79)), (1, (0, v37 275 81)), (0, (1, 275))], [], v286) r' v' := hM
                          obtain ⟨rfl, m291⟩ := (e_Rn.le eAlk [0, 1, 2, 3] rfl rfl hM).pn (fun nq => v_352_189 (uhc287.2.rf s277.1.2.2.2.2.1) _ (v37 275 81) (v37 275 79) z45 v286 mq.r)
                          show e_Pn 20 elay kcode eI nq244 dq245 157 (10, [(0, (1, 1)), (1, (0, 48))], [], w289) _
                          refine e_Pn.ord kAlk [0, 1] rfl rfl ((v_157_10 (h290k.rf s277.1.2.2.2.1) _ 48 w289 kq.r).imp (fun r293 w294 k292 => ?_))
                          obtain ⟨rfl, k292⟩ := k292
                          show e_Pn 20 elay kcode eI nq13 dq14 156 (151, [(1, (0, z103)), (0, (1, 1))], [], w294) _
                          refine e_Pn.ord kAlk [0, 1] rfl rfl ((v_156_151 (k292.rf (h290k.rf s277.1.2.2.2.1)) _ z103 w294 kq.r).imp (fun r296 w297 k295 => ?_))
                          obtain ⟨rfl, k295⟩ := k295
                          show e_Pn 20 elay kcode eI n d 145 (356, [(0, (1, 1))], [], w297) _
                          refine e_Pn.ord kAlk [0] rfl rfl ((v_145_356 (k295.rf (k292.rf (h290k.rf s277.1.2.2.2.1))) _  w297 kq.r).imp (fun r299 w300 k298 => ?_))
                          obtain ⟨rfl, k298⟩ := k298
                          exact ⟨rfl, rfl, Or.inr (rpF.tail h290 ((k292.tr k295).tr k298) m291)⟩
                        clear z283q
                        have s301 := st.ad (k := 1) s277 h290 (st.len1 s277 (by first | decide | omega)) (by first | decide | omega)
                        have s301n := h290.2.2.2.1
                        have s301m := st.len1 s277 (by first | decide | omega)
                        have s301g : w 1 6 + 1 ≤ w289 1 6 := by omega
                        clear q278d q278e q278f
                        have q302 := st.nums s301
                        clear q278
                        have q302c := q302.2.2.2.1
                        have q302d := q302.2.1
                        have q302e := q302.2.2.1
                        have q302f := q302.2.2.2.2.1.1
                        show e_Pn 20 elay kcode eI nq244 dq245 157 (10, [(0, (1, 1)), (1, (0, 48))], [], w289) _
                        replace hM : e_Rn 20 elay ecode eI d' 352 (189, [(3, (0, z45)), (2, (0, v37 275 79)), (1, (0, v37 275 81)), (0, (1, 275))], [], v286) r' v' := hM
                        refine e_Pn.run (t' := (11, [(0, (1, 1)), (1, (0, 48))], [(1, 1)], w289)) kAlk 1 rfl ?_
                        replace hM := hM.st (t' := (192, [(3, (0, z45)), (2, (0, v37 275 79)), (1, (0, v37 275 81)), (0, (1, 275))], [(0, v37 275 79), (0, 3), (1, 275)], v286)) (fun _ _ q => e_Pn.run eAlk 3 rfl q)
                        obtain ⟨z303, hz303, hM⟩ := hM.ex (fun _ _ q => e_Pn.bin0 eAlk rfl q)
                        replace hM := hM.st (t' := (194, [(3, (0, z45)), (2, (0, v37 275 79)), (1, (0, v37 275 81)), (0, (1, 275))], [(0, 2), (0, z303), (1, 275)], v286)) (fun _ _ q => e_Pn.run eAlk 1 rfl q)
                        obtain ⟨z304, hz304, hM⟩ := hM.ex (fun _ _ q => e_Pn.bin0 eAlk rfl q)
                        replace hM := hM.st (fun _ _ q => e_Pn.putf eAlk rfl rfl q)
                        generalize hv305 : e_up v286 275 81 z304 = v305 at hM
                        have v305m := mRw.upd hv305 (fun _ => by first | decide | omega) s301.1.2.2.2.2.1
                        replace hM := hM.st (t' := (199, [(3, (0, z45)), (2, (0, v37 275 79)), (1, (0, v37 275 81)), (0, (1, 275))], [(1, 275)], v305)) (fun _ _ q => e_Pn.run eAlk 1 rfl q)
                        replace hM := hM.st (fun _ _ q => e_Pn.getr (z := 333) eAlk rfl rfl (by rw [← hv305]; exact (e_up_ne _ _ (Or.inr (by first | decide | omega))).trans (s301.1.2.2.2.2.1 (70, 333) (by decide))) (by first | decide | omega) q)
                        replace hM := hM.st (t' := (204, [(3, (0, z45)), (2, (0, v37 275 79)), (1, (0, v37 275 81)), (0, (1, 275))], [(1, 275), (0, z45), (1, 333)], v305)) (fun _ _ q => e_Pn.run eAlk 2 rfl q)
                        obtain ⟨b306, hM⟩ := hM.of (fun _ _ q => e_Pn.getf (z := v286 275 78) eAlk rfl rfl (by rw [← hv305]; exact (e_up_ne _ _ (Or.inr (by first | decide | omega))).trans rfl) q)
                        obtain ⟨b307, b308, hM⟩ := hM.of2 (fun _ _ q => e_Pn.ast eAlk rfl rfl rfl q)
                        generalize hv309 : e_up v305 333 z45 (v286 275 78) = v309 at hM
                        have v309m := mRw.upd hv309 (fun _ => by first | decide | omega) v305m
                        replace hM := hM.st (t' := (209, [(3, (0, z45)), (2, (0, v37 275 79)), (1, (0, v37 275 81)), (0, (1, 275))], [(1, 275)], v309)) (fun _ _ q => e_Pn.run eAlk 1 rfl q)
                        have e311a : w289 1 11 = w289 1 11 := rfl
                        have e311b : v309 275 83 = v286 275 83 := (Eq.trans (show v309 275 83 = v305 275 83 by rw [← hv309]; exact e_up_ne _ _ (Or.inl (by first | decide | omega))) (show v305 275 83 = v286 275 83 by rw [← hv305]; exact e_up_ne _ _ (Or.inr (by first | decide | omega))))
                        have e311c : w289 1 13 = w289 1 13 := rfl
                        have e311d : v309 275 82 = v286 275 82 := (Eq.trans (show v309 275 82 = v305 275 82 by rw [← hv309]; exact e_up_ne _ _ (Or.inl (by first | decide | omega))) (show v305 275 82 = v286 275 82 by rw [← hv305]; exact e_up_ne _ _ (Or.inr (by first | decide | omega))))
                        have e311f : w289 1 12 = w289 1 12 := rfl
                        have e311e : v309 275 80 = v286 275 80 := (Eq.trans (show v309 275 80 = v305 275 80 by rw [← hv309]; exact e_up_ne _ _ (Or.inl (by first | decide | omega))) (show v305 275 80 = v286 275 80 by rw [← hv305]; exact e_up_ne _ _ (Or.inr (by first | decide | omega))))
                        have s310 := st.gen (o' := 1) (l' := w 1 13) (m' := v 275 82) (t' := w89 1 12 + 1) (b' := 0) s301 (e_fr.refl w289) (e_fr.up (e_fr.up (e_fr.refl v286) hv305 pf_mGs_275_81) hv309 pf_mGs_333_x) (by first | decide | omega) (by first | decide | omega) (by first | decide | omega) (by first | decide | omega)
                        clear q302d q302e q302f
                        have q312 := st.nums s310
                        clear q302 e311a e311b e311c e311d e311e e311f
                        have q312c := q312.2.2.2.1
                        have q312d := q312.2.1
                        have q312e := q312.2.2.1
                        have q312f := q312.2.2.2.2.1.1
                        obtain ⟨dc313, r314, v315, hc316, hM⟩ := hM.ca rfl
                        have uhc316 := hc316.pn (fun nq => uS_all nq 348 (by decide) _ _ s310.1.2.2.2.2.1)
                        have z320 : st0 N cd w289 v309 := st.z s310 (by first | decide | omega) (st.loo s310 hzo.2.1) (by first | decide | omega)
                        refine e_Pn.callB rfl (fun k9 hk9 d9 => e_Pn.and (ihS k9 (by first | decide | omega) _ _ _ _ _ _ z320 (by first | decide | omega) hc316) (kS_all k9 144 (by decide) d9 _ _ s310.1.2.2.2.1)) (fun r317 w318 h319 => ?_)
                        obtain ⟨⟨rfl, rfl, h319⟩, -, h319k⟩ := h319
                        rcases h319.symm with h319 | h319
                        · skip
                          replace hM : e_Rn 20 elay ecode eI d' 352 (212, [(3, (0, z45)), (2, (0, v37 275 79)), (1, (0, v37 275 81)), (0, (1, 275))], [], v315) r' v' := hM
                          obtain ⟨rfl, m321⟩ := (e_Rn.le eAlk [0, 1, 2, 3] rfl rfl hM).pn (fun nq => v_352_212 (uhc316.2.rf s310.1.2.2.2.2.1) _ (v37 275 81) (v37 275 79) z45 v315 mq.r)
                          show e_Pn 20 elay kcode eI nq244 dq245 157 (14, [(0, (1, 1)), (1, (0, 48))], [], w318) _
                          refine e_Pn.ord kAlk [0, 1] rfl rfl ((v_157_14 (h319k.rf s310.1.2.2.2.1) _ 48 w318 kq.r).imp (fun r323 w324 k322 => ?_))
                          obtain ⟨rfl, k322⟩ := k322
                          show e_Pn 20 elay kcode eI nq13 dq14 156 (151, [(1, (0, z103)), (0, (1, 1))], [], w324) _
                          refine e_Pn.ord kAlk [0, 1] rfl rfl ((v_156_151 (k322.rf (h319k.rf s310.1.2.2.2.1)) _ z103 w324 kq.r).imp (fun r326 w327 k325 => ?_))
                          obtain ⟨rfl, k325⟩ := k325
                          show e_Pn 20 elay kcode eI n d 145 (356, [(0, (1, 1))], [], w327) _
                          refine e_Pn.ord kAlk [0] rfl rfl ((v_145_356 (k325.rf (k322.rf (h319k.rf s310.1.2.2.2.1))) _  w327 kq.r).imp (fun r329 w330 k328 => ?_))
                          obtain ⟨rfl, k328⟩ := k328
                          exact ⟨rfl, rfl, Or.inr (rpF.tail h319 ((k322.tr k325).tr k328) m321)⟩
                        have s331 := st.re (l' := w 1 13) (m' := v 275 82) (t' := w89 1 12 + 1) (st.tr s310 h319) (Int.le_refl _) rfl (by first | decide | omega) (by first | decide | omega) (by first | decide | omega)
                        clear q312d q312e q312f
                        have q332 := st.nums s331
                        clear q312
                        have q332c := q332.2.2.2.1
                        have q332d := q332.2.1
                        have q332e := q332.2.2.1
                        have q332f := q332.2.2.2.2.1.1
                        show e_Pn 20 elay kcode eI nq244 dq245 157 (14, [(0, (1, 1)), (1, (0, 48))], [], w318) _
                        replace hM : e_Rn 20 elay ecode eI d' 352 (212, [(3, (0, z45)), (2, (0, v37 275 79)), (1, (0, v37 275 81)), (0, (1, 275))], [], v315) r' v' := hM
                        refine e_Pn.run (t' := (15, [(0, (1, 1)), (1, (0, 48))], [(1, 1)], w318)) kAlk 1 rfl ?_
                        refine e_Pn.getr (z := cd) kAlk rfl rfl s331.1.2.2.2.1.2.1 (by first | decide | omega) ?_
                        refine e_Pn.run (t' := (20, [(0, (1, 1)), (1, (0, 48))], [(0, 0), (0, 48), (1, cd)], w318)) kAlk 2 rfl ?_
                        refine e_Pn.callA rfl (fun nq dq => l_21 s331.1.2.2.2.1 (op := 48) (od := 0) (by first | decide | omega) (by first | decide | omega) s331.1.2.2.2.2.2.1) (fun r333 w334 h335 => ?_)
                        obtain ⟨z336, rfl, w334f, w334q⟩ := h335
                        have w334k := kRw.em s331.1.2.2.2.1 w334f
                        have w334l := (emQ.len w334q s331.1.2.2.2.2.2.1).1
                        have w334e : w334 1 5 = w318 1 5 ∧ w334 1 6 = w318 1 6 ∧ w334 1 8 = w318 1 8 := ⟨w334f 1 5 (nf_kEm_1_5 hz.1.2.2.2.1.1), w334f 1 6 (nf_kEm_1_6 hz.1.2.2.2.1.1), w334f 1 8 (nf_kEm_1_8 hz.1.2.2.2.1.1)⟩
                        have s337 := st.em s331 w334f w334q (by first | decide | omega) (by unfold isCl3; omega)
                        have q338 := st.nums s337
                        clear q332
                        have q338c := q338.2.2.2.1
                        have q338d := q338.2.1
                        have q338e := q338.2.2.1
                        have q338f := q338.2.2.2.2.1.1
                        have z336r : 0 ≤ z336 ∧ z336 ≤ 4000 := emQ.z w334q s331.1.2.2.2.2.2.1
                        show e_Pn 20 elay kcode eI nq244 dq245 157 (23, [(0, (1, 1)), (1, (0, 48))], [(0, z336)], w334) _
                        refine e_Pn.run (t' := (24, [(0, (1, 1)), (1, (0, 48))], [], w334)) kAlk 1 rfl ?_
                        refine e_Pn.ret0 rfl ?_
                        show e_Pn 20 elay kcode eI nq13 dq14 156 (151, [(1, (0, z103)), (0, (1, 1))], [], w334) _
                        refine e_Pn.run (t' := (153, [(1, (0, z103)), (0, (1, 1))], [(1, 1), (1, 1)], w334)) kAlk 2 rfl ?_
                        refine e_Pn.getf (z := w318 1 12) kAlk rfl rfl ((w334f 1 12 (nf_kEm_1_12 hz.1.2.2.2.1.1)).trans rfl) (fun b339 => ?_)
                        refine e_Pn.run (t' := (157, [(1, (0, z103)), (0, (1, 1))], [(0, 1), (0, w318 1 12), (1, 1)], w334)) kAlk 1 rfl ?_
                        refine e_Pn.sub' (z := w318 1 12 - 1) kAlk rfl (by first | decide | omega) (by first | decide | omega) ?_
                        refine e_Pn.putf kAlk rfl rfl ?_
                        generalize hw340 : e_up w334 1 12 (w318 1 12 - 1) = w340
                        have w340g : e_fr (kGs cd) w334 w340 := (e_fr.up (e_fr.refl w334) hw340 pf_kGs_1_12)
                        have w340k := kRw.gs w334k w340g
                        have w340l : 0 ≤ w340 cd 0 ∧ w340 cd 0 ≤ 4000 := by rw [w340g cd 0 (nf_kGs_cd_0 hz.1.2.2.2.1.1)]; exact w334l
                        have w340e : w340 1 5 = w334 1 5 ∧ w340 1 6 = w334 1 6 ∧ w340 1 8 = w334 1 8 := ⟨w340g 1 5 (nf_kGs_1_5 hz.1.2.2.2.1.1), w340g 1 6 (nf_kGs_1_6 hz.1.2.2.2.1.1), w340g 1 8 (nf_kGs_1_8 hz.1.2.2.2.1.1)⟩
                        refine e_Pn.run (t' := (162, [(1, (0, z103)), (0, (1, 1))], [(1, 1)], w340)) kAlk 1 rfl ?_
                        refine e_Pn.getr (z := cd) kAlk rfl rfl (by rw [← hw340]; exact (e_up_ne _ _ (Or.inr (by first | decide | omega))).trans ((w334f 1 3 (nf_kEm_1_3 hz.1.2.2.2.1.1)).trans s331.1.2.2.2.1.2.1)) (by first | decide | omega) ?_
                        refine e_Pn.run (t' := (167, [(1, (0, z103)), (0, (1, 1))], [(0, 3), (0, z103), (1, cd)], w340)) kAlk 2 rfl ?_
                        refine e_Pn.add (z := z103 + 3) kAlk rfl (by first | decide | omega) (by first | decide | omega) ?_
                        refine e_Pn.run (t' := (169, [(1, (0, z103)), (0, (1, 1))], [(1, 1), (0, z103 + 3), (1, cd)], w340)) kAlk 1 rfl ?_
                        refine e_Pn.getr (z := cd) kAlk rfl rfl (by rw [← hw340]; exact (e_up_ne _ _ (Or.inr (by first | decide | omega))).trans ((w334f 1 3 (nf_kEm_1_3 hz.1.2.2.2.1.1)).trans s331.1.2.2.2.1.2.1)) (by first | decide | omega) ?_
                        refine e_Pn.getf (z := w334 cd 0) kAlk rfl rfl (by rw [← hw340]; exact (e_up_ne _ _ (Or.inr (by first | decide | omega))).trans rfl) (fun b341 => ?_)
                        refine e_Pn.callA rfl (fun nq dq => l_22 w340k (x := z103 + 3) (od := w334 cd 0) (by first | decide | omega)) (fun r342 w343 h344 => ?_)
                        obtain ⟨rfl, w343f, w343q⟩ := h344
                        have w343k := kRw.em w340k (w343f.mono (fun _ _ q => Or.inr q))
                        have w343l : 0 ≤ w343 cd 0 ∧ w343 cd 0 ≤ 4000 := by rw [w343f cd 0 (nf_kPa_cd_0 hz.1.2.2.2.1.1)]; exact w340l
                        have w343e : w343 1 5 = w340 1 5 ∧ w343 1 6 = w340 1 6 ∧ w343 1 8 = w340 1 8 := ⟨w343f 1 5 (nf_kPa_1_5 hz.1.2.2.2.1.1), w343f 1 6 (nf_kPa_1_6 hz.1.2.2.2.1.1), w343f 1 8 (nf_kPa_1_8 hz.1.2.2.2.1.1)⟩
                        show e_Pn 20 elay kcode eI nq13 dq14 156 (178, [(1, (0, z103)), (0, (1, 1))], [], w343) _
                        refine e_Pn.run (t' := (181, [(1, (0, z103)), (0, (1, 1))], [(0, 23), (1, 1)], w343)) kAlk 2 rfl ?_
                        replace hM := hM.st (t' := (216, [(3, (0, z45)), (2, (0, v37 275 79)), (1, (0, v37 275 81)), (0, (1, 275))], [(0, v37 275 79), (0, 51), (1, 275)], v315)) (fun _ _ q => e_Pn.run eAlk 3 rfl q)
                        obtain ⟨dc345, r346, v347, hc348, hM⟩ := hM.ca rfl
                        obtain ⟨⟨z349, rfl⟩, v347f⟩ := hc348.pn (fun nq => x_336 s331.1.2.2.2.2.1)
                        have v347m := mfr.rf v347f s331.1.2.2.2.2.1
                        replace hM : e_Rn 20 elay ecode eI d' 352 (219, [(3, (0, z45)), (2, (0, v37 275 79)), (1, (0, v37 275 81)), (0, (1, 275))], [(0, z349)], v347) r' v' := hM
                        replace hM := hM.st (t' := (222, [(3, (0, z45)), (2, (0, v37 275 79)), (1, (0, v37 275 81)), (0, (1, 275))], [(0, v37 275 81), (1, 275)], v347)) (fun _ _ q => e_Pn.run eAlk 3 rfl q)
                        replace hM := hM.st (fun _ _ q => e_Pn.putf eAlk rfl rfl q)
                        generalize hv350 : e_up v347 275 81 (v37 275 81) = v350 at hM
                        have v350m := mRw.upd hv350 (fun _ => by first | decide | omega) v347m
                        replace hM := hM.st (t' := (226, [(3, (0, z45)), (2, (0, v37 275 79)), (1, (0, v37 275 81)), (0, (1, 275))], [(1, 275)], v350)) (fun _ _ q => e_Pn.run eAlk 1 rfl q)
                        replace hM := hM.st (fun _ _ q => e_Pn.getr (z := 334) eAlk rfl rfl (by rw [← hv350]; exact (e_up_ne _ _ (Or.inr (by first | decide | omega))).trans ((v347f 275 71 nf_mEm_275_71).trans (s331.1.2.2.2.2.1 (71, 334) (by decide)))) (by first | decide | omega) q)
                        replace hM := hM.st (t' := (231, [(3, (0, z45)), (2, (0, v37 275 79)), (1, (0, v37 275 81)), (0, (1, 275))], [(1, 275), (0, z45), (1, 334)], v350)) (fun _ _ q => e_Pn.run eAlk 2 rfl q)
                        obtain ⟨b351, hM⟩ := hM.of (fun _ _ q => e_Pn.getf (z := v347 275 78) eAlk rfl rfl (by rw [← hv350]; exact (e_up_ne _ _ (Or.inr (by first | decide | omega))).trans rfl) q)
                        obtain ⟨b352, b353, hM⟩ := hM.of2 (fun _ _ q => e_Pn.ast eAlk rfl rfl rfl q)
                        generalize hv354 : e_up v350 334 z45 (v347 275 78) = v354 at hM
                        have v354m := mRw.upd hv354 (fun _ => by first | decide | omega) v350m
                        replace hM := hM.st (t' := (238, [(3, (0, z45)), (2, (0, v37 275 79)), (1, (0, v37 275 81)), (0, (1, 275))], [(0, 2), (1, 275), (1, 275)], v354)) (fun _ _ q => e_Pn.run eAlk 3 rfl q)
                        obtain ⟨dc355, r356, v357, hc358, hM⟩ := hM.ca rfl
                        obtain ⟨z359, rfl, rfl, z359q⟩ := hc358.pn (fun nq => l_332)
                        replace z359q := isS (kM_key (k := 2) s331.1.2.1.2.2.1 (by decide)) (by rw [← hv354]; exact (e_up_ne _ _ (Or.inl (by first | decide | omega))).trans (by rw [← hv350]; exact (e_up_ne _ _ (Or.inr (by first | decide | omega))).trans ((v347f 275 84 nf_mEm_275_84).trans rfl))) (by rw [← hv354]; exact (e_up_ne _ _ (Or.inl (by first | decide | omega))).trans (by rw [← hv350]; exact (e_up_ne _ _ (Or.inr (by first | decide | omega))).trans ((v347f 275 85 nf_mEm_275_85).trans rfl))) z359q
                        replace hM : e_Rn 20 elay ecode eI d' 352 (241, [(3, (0, z45)), (2, (0, v37 275 79)), (1, (0, v37 275 81)), (0, (1, 275))], [(0, z359), (1, 275)], v354) r' v' := hM
                        have e361a : w340 1 11 = w334 1 11 := (by rw [← hw340]; exact e_up_ne _ _ (Or.inr (by first | decide | omega)))
                        have e361b : v354 275 83 = v315 275 83 := (Eq.trans (show v354 275 83 = v350 275 83 by rw [← hv354]; exact e_up_ne _ _ (Or.inl (by first | decide | omega))) (Eq.trans (show v350 275 83 = v347 275 83 by rw [← hv350]; exact e_up_ne _ _ (Or.inr (by first | decide | omega))) (v347f 275 83 nf_mEm_275_83)))
                        have e361c : w340 1 13 = w334 1 13 := (by rw [← hw340]; exact e_up_ne _ _ (Or.inr (by first | decide | omega)))
                        have e361d : v354 275 82 = v315 275 82 := (Eq.trans (show v354 275 82 = v350 275 82 by rw [← hv354]; exact e_up_ne _ _ (Or.inl (by first | decide | omega))) (Eq.trans (show v350 275 82 = v347 275 82 by rw [← hv350]; exact e_up_ne _ _ (Or.inr (by first | decide | omega))) (v347f 275 82 nf_mEm_275_82)))
                        have e361f : w340 1 12 = w318 1 12 - 1 := (by rw [← hw340]; exact e_up_eq _ _ _ _)
                        have e361e : v354 275 80 = v315 275 80 := (Eq.trans (show v354 275 80 = v350 275 80 by rw [← hv354]; exact e_up_ne _ _ (Or.inl (by first | decide | omega))) (Eq.trans (show v350 275 80 = v347 275 80 by rw [← hv350]; exact e_up_ne _ _ (Or.inr (by first | decide | omega))) (v347f 275 80 nf_mEm_275_80)))
                        have s360 := st.gen (o' := 1) (l' := w 1 13) (m' := v 275 82) (t' := w318 1 12 - 1) (b' := 0) s337 (e_fr.up (e_fr.refl w334) hw340 pf_kGs_1_12) (e_fr.up (e_fr.up (e_fr.trans (e_fr.refl v315) (e_fr.mono v347f (fun c k q => by unfold mEm at q; unfold mGs; omega))) hv350 pf_mGs_275_81) hv354 pf_mGs_334_x) (by first | decide | omega) (by first | decide | omega) (by first | decide | omega) (by first | decide | omega)
                        clear q338d q338e q338f
                        have q362 := st.nums s360
                        clear q338 e361a e361b e361c e361d e361e e361f
                        have q362c := q362.2.2.2.1
                        have q362d := q362.2.1
                        have q362e := q362.2.2.1
                        have q362f := q362.2.2.2.2.1.1
                        have pl364 := plcQ.fr phd128 ((show e_fr (kGs cd) w124 w132 from (e_fr.up (e_fr.refl w124) hw132 pf_kGs_1_12)) cd 0 (nf_kGs_cd_0 hz.1.2.2.2.1.1)) (fun i => (show e_fr (kGs cd) w124 w132 from (e_fr.up (e_fr.refl w124) hw132 pf_kGs_1_12)) (cd + 2) i (nf_kGs_cd2_x hz.1.2.2.2.1.1))
                        have pl365 := plcQ.st pl364 h144
                        have pl366 := plcQ.em pl365 w156q
                        have pl367 := plcQ.pa pl366 w236q (w236f cd 0 (nf_kPa_cd_0 hz.1.2.2.2.1.1))
                        have pl368 := plcQ.fr pl367 (h276.2.2.2.2.1 cd 0 (nf_kRa_cd_0 hz.1.2.2.2.1.1)) (fun i => h276.2.2.2.2.1 (cd + 2) i (nf_kRa_cd2_x hz.1.2.2.2.1.1))
                        have pl369 := plcQ.fr pl368 (h290.2.2.2.2.1 cd 0 (nf_kRa_cd_0 hz.1.2.2.2.1.1)) (fun i => h290.2.2.2.2.1 (cd + 2) i (nf_kRa_cd2_x hz.1.2.2.2.1.1))
                        have pl370 := plcQ.st pl369 h319
                        have pl371 := plcQ.em pl370 w334q
                        have pl372 := plcQ.fr pl371 ((show e_fr (kGs cd) w334 w340 from (e_fr.up (e_fr.refl w334) hw340 pf_kGs_1_12)) cd 0 (nf_kGs_cd_0 hz.1.2.2.2.1.1)) (fun i => (show e_fr (kGs cd) w334 w340 from (e_fr.up (e_fr.refl w334) hw340 pf_kGs_1_12)) (cd + 2) i (nf_kGs_cd2_x hz.1.2.2.2.1.1))
                        have s363 := st.pa s360 w343f w343q pl372 (by unfold isCl3; omega)
                        clear q362d q362e q362f
                        have q373 := st.nums s363
                        clear q362
                        have q373c := q373.2.2.2.1
                        have q373d := q373.2.1
                        have q373e := q373.2.2.1
                        have q373f := q373.2.2.2.2.1.1
                        obtain ⟨dc374, r375, v376, hc377, hM⟩ := hM.ca rfl
                        have uhc377 := hc377.pn (fun nq => u_334 s363.1.2.2.2.2.1)
                        refine e_Pn.callA rfl (fun nq dq => e_Pn.and (t_129b s363.1.1 s363.1.2.1 (by have q9 : w343 1 5 = w318 1 5 := (by first | decide | omega); rw [q9]; exact z359q) (d' := dc374) hc377) (u_129 s363.1.2.2.2.1)) (fun r378 w379 h380 => ?_)
                        obtain ⟨⟨rfl, rfl, h380⟩, -, h380k⟩ := h380
                        rcases h380.symm with h380 | ⟨h380c, h380⟩
                        · skip
                          replace hM : e_Rn 20 elay ecode eI d' 352 (244, [(3, (0, z45)), (2, (0, v37 275 79)), (1, (0, v37 275 81)), (0, (1, 275))], [], v376) r' v' := hM
                          obtain ⟨rfl, m381⟩ := (e_Rn.le eAlk [0, 1, 2, 3] rfl rfl hM).pn (fun nq => v_352_244 (uhc377.2.rf s363.1.2.2.2.2.1) _ (v37 275 81) (v37 275 79) z45 v376 mq.r)
                          show e_Pn 20 elay kcode eI nq13 dq14 156 (184, [(1, (0, z103)), (0, (1, 1))], [], w379) _
                          refine e_Pn.ord kAlk [0, 1] rfl rfl ((v_156_184 (h380k.rf s363.1.2.2.2.1) _ z103 w379 kq.r).imp (fun r383 w384 k382 => ?_))
                          obtain ⟨rfl, k382⟩ := k382
                          show e_Pn 20 elay kcode eI n d 145 (356, [(0, (1, 1))], [], w384) _
                          refine e_Pn.ord kAlk [0] rfl rfl ((v_145_356 (k382.rf (h380k.rf s363.1.2.2.2.1)) _  w384 kq.r).imp (fun r386 w387 k385 => ?_))
                          obtain ⟨rfl, k385⟩ := k385
                          exact ⟨rfl, rfl, Or.inr (rpF.tail h380 (k382.tr k385) m381)⟩
                        clear z359q
                        have s388 := st.ad (k := 3) s363 h380 (st.len3 s363 (Or.inl h380c)) (by first | decide | omega)
                        have s388n := h380.2.2.2.1
                        have s388m := st.len3 s363 (Or.inl h380c)
                        have s388g : w 1 6 + 1 ≤ w379 1 6 := by omega
                        clear q373d q373e q373f
                        have q389 := st.nums s388
                        clear q373
                        have q389c := q389.2.2.2.1
                        have q389d := q389.2.1
                        have q389e := q389.2.2.1
                        have q389f := q389.2.2.2.2.1.1
                        show e_Pn 20 elay kcode eI nq13 dq14 156 (184, [(1, (0, z103)), (0, (1, 1))], [], w379) _
                        replace hM : e_Rn 20 elay ecode eI d' 352 (244, [(3, (0, z45)), (2, (0, v37 275 79)), (1, (0, v37 275 81)), (0, (1, 275))], [], v376) r' v' := hM
                        refine e_Pn.run (t' := (186, [(1, (0, z103)), (0, (1, 1))], [(1, 1), (1, 1)], w379)) kAlk 2 rfl ?_
                        refine e_Pn.getf (z := w379 1 11) kAlk rfl rfl rfl (fun b390 => ?_)
                        refine e_Pn.run (t' := (190, [(1, (0, z103)), (0, (1, 1))], [(0, 1), (0, w379 1 11), (1, 1)], w379)) kAlk 1 rfl ?_
                        refine e_Pn.sub' (z := w379 1 11 - 1) kAlk rfl (by first | decide | omega) (by first | decide | omega) ?_
                        refine e_Pn.putf kAlk rfl rfl ?_
                        generalize hw391 : e_up w379 1 11 (w379 1 11 - 1) = w391
                        have w391g : e_fr (kGs cd) w379 w391 := (e_fr.up (e_fr.refl w379) hw391 pf_kGs_1_11)
                        have w391k := kRw.gs s388.1.2.2.2.1 w391g
                        have w391l : 0 ≤ w391 cd 0 ∧ w391 cd 0 ≤ 4000 := by rw [w391g cd 0 (nf_kGs_cd_0 hz.1.2.2.2.1.1)]; exact s388.1.2.2.2.2.2.1
                        have w391e : w391 1 5 = w379 1 5 ∧ w391 1 6 = w379 1 6 ∧ w391 1 8 = w379 1 8 := ⟨w391g 1 5 (nf_kGs_1_5 hz.1.2.2.2.1.1), w391g 1 6 (nf_kGs_1_6 hz.1.2.2.2.1.1), w391g 1 8 (nf_kGs_1_8 hz.1.2.2.2.1.1)⟩
                        refine e_Pn.ret0 rfl ?_
                        show e_Pn 20 elay kcode eI n d 145 (356, [(0, (1, 1))], [], w391) _
                        replace hM := hM.st (t' := (246, [(3, (0, z45)), (2, (0, v37 275 79)), (1, (0, v37 275 81)), (0, (1, 275))], [(1, 275), (1, 275)], v376)) (fun _ _ q => e_Pn.run eAlk 2 rfl q)
                        obtain ⟨b392, hM⟩ := hM.of (fun _ _ q => e_Pn.getf (z := v376 275 83) eAlk rfl rfl rfl q)
                        replace hM := hM.st (t' := (250, [(3, (0, z45)), (2, (0, v37 275 79)), (1, (0, v37 275 81)), (0, (1, 275))], [(0, 1), (0, v376 275 83), (1, 275)], v376)) (fun _ _ q => e_Pn.run eAlk 1 rfl q)
                        replace hM := hM.st (fun _ _ q => e_Pn.sub' (z := v376 275 83 - 1) eAlk rfl (by first | decide | omega) (by first | decide | omega) q)
                        replace hM := hM.st (fun _ _ q => e_Pn.putf eAlk rfl rfl q)
                        generalize hv393 : e_up v376 275 83 (v376 275 83 - 1) = v393 at hM
                        have v393m := mRw.upd hv393 (fun _ => by first | decide | omega) s388.1.2.2.2.2.1
                        have e395a : w391 1 11 = w379 1 11 - 1 := (by rw [← hw391]; exact e_up_eq _ _ _ _)
                        have e395b : v393 275 83 = v376 275 83 - 1 := (by rw [← hv393]; exact e_up_eq _ _ _ _)
                        have e395c : w391 1 13 = w379 1 13 := (by rw [← hw391]; exact e_up_ne _ _ (Or.inr (by first | decide | omega)))
                        have e395d : v393 275 82 = v376 275 82 := (by rw [← hv393]; exact e_up_ne _ _ (Or.inr (by first | decide | omega)))
                        have e395f : w391 1 12 = w379 1 12 := (by rw [← hw391]; exact e_up_ne _ _ (Or.inr (by first | decide | omega)))
                        have e395e : v393 275 80 = v376 275 80 := (by rw [← hv393]; exact e_up_ne _ _ (Or.inr (by first | decide | omega)))
                        have s394 := st.gen (o' := 0) (l' := w 1 13) (m' := v 275 82) (t' := w318 1 12 - 1) (b' := 0) s388 (e_fr.up (e_fr.refl w379) hw391 pf_kGs_1_11) (e_fr.up (e_fr.refl v376) hv393 pf_mGs_275_83) (by first | decide | omega) (by first | decide | omega) (by first | decide | omega) (by first | decide | omega)
                        have q396 := st.nums s394
                        clear q389 e395a e395b e395c e395d e395e e395f
                        have q396c := q396.2.2.2.1
                        have q396d := q396.2.1
                        have q396e := q396.2.2.1
                        have q396f := q396.2.2.2.2.1.1
                        obtain ⟨rfl, rfl⟩ := hM.re0 rfl
                        refine e_Pn.ret0 rfl ?_
                        exact ⟨rfl, rfl, Or.inl ⟨st.re s394 (by first | decide | omega) (by first | decide | omega) (by first | decide | omega) (by first | decide | omega) (by first | decide | omega), by omega⟩⟩
                  · replace h258 : (0 : Int) ≠ 0 := by have q : ¬ ((0 : Int) = 0) := h258; omega
                    exfalso; omega
            · replace h162 : (w143 1 5 : Int) = 43 := by have q : ¬ ((w143 1 5 : Int) ≠ 43) := h162; omega
              exact e_145_42c n N cd w v hz hp hkd ihS d d' r' v' hn hzo q1 q1c q1f q9f h11 nq13 hnq13 dq14 h21b v37 z45 b46 b47 v86 w89 s98g q99c q99d q99e q99f z103 z103r w108 phd112 w116 z118 w116q phd120 w124 z126 w124q phd128 b131 w132 hw132 w132l v134 q137c v140 w143 h144 s153 q154c q154d q154e q154f hM w156 z158 w156f w156q w156k w156l w156e s159 q160 q160c q160d q160e q160f z158r b161 h162
        · replace h64 : (0 : Int) ≠ 0 := by have q : ¬ ((0 : Int) = 0) := h64; omega
          exact (kM_no s29.1.2.1.2.2.1 (fun a b => decide ((a : Int) = 42) && decide ((a : Int) ≠ 41) && decide ((a : Int) = 42) && decide ((0 : Int) ≠ 0)) (fun a b c => true) (by decide) (by decide) (by simp only [Bool.and_eq_true, decide_eq_true_eq]; exact ⟨⟨⟨t31, t32⟩, t33⟩, h64⟩) rfl).elim
      · replace h34 : (1 : Int) = 0 := by have q : ¬ ((1 : Int) ≠ 0) := h34; omega
        exfalso; omega
end
