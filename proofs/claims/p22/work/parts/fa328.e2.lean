noncomputable section
/-! the readers in lockstep: statements -/
set_option maxHeartbeats 4000000 in
theorem e_145_39 {n : Nat} {N cd : Int} {w v : eW} (hz : st0 N cd w v) (hp : 1 ≤ w 1 6) (hkd : w 1 5 = 39) (ihS : ∀ k, k < n → sE k) {d d' : Nat} {r' : List eV} {v' : eW} (hM : e_Rn 20 elay ecode eI d' 350 (0, [(0, (1, 275))], [], v) r' v') : e_Pn 20 elay kcode eI n d 145 (0, [(0, (1, 1))], [], w) (fun r w' => r = [] ∧ r' = [] ∧ ((st N cd w v w' v' 0 0 0 (-1) (w 1 13) (v 275 82) (w 1 12) 2 ∧ w 1 6 < w' 1 6) ∨ rpF w' v')) := by
  have h0 := hz.st (ka := 2)
  have hm := hz.1.2.2.2.1.1.m
  have hn := hz.1.2.2.2.1.1.n
  have hzo := hz.2.2.2
  have q1 := st.nums h0
  have q1c := q1.2.2.2.1
  refine e_Pn.run (t' := (1, [(0, (1, 1))], [(1, 1)], w)) kAlk 1 rfl ?_
  refine e_Pn.getf (z := w 1 5) kAlk rfl rfl rfl (fun b2 => ?_)
  refine e_Pn.run (t' := (6, [(0, (1, 1))], [(0, 41), (0, w 1 5)], w)) kAlk 1 rfl ?_
  refine e_Pn.if2 kAlk rfl (fun h3 => ?_) (fun h3 => ?_)
  · replace h3 : (w 1 5 : Int) = 41 := h3
    exact (kM_no h0.1.2.1.2.2.1 (fun a b => decide ((a : Int) = 39) && decide ((a : Int) = 41)) (fun a b c => true) (by decide) (by decide) (by simp only [Bool.and_eq_true, decide_eq_true_eq]; exact ⟨hkd, h3⟩) rfl).elim
  · replace h3 : (w 1 5 : Int) ≠ 41 := by have q : ¬ ((w 1 5 : Int) = 41) := h3; omega
    refine e_Pn.run (t' := (10, [(0, (1, 1))], [(1, 1)], w)) kAlk 1 rfl ?_
    refine e_Pn.getr (z := cd) kAlk rfl rfl h0.1.2.2.2.1.2.1 (by omega) ?_
    refine e_Pn.run (t' := (16, [(0, (1, 1))], [(0, 0), (0, 50), (1, cd)], w)) kAlk 2 rfl ?_
    refine e_Pn.callA rfl (fun nq dq => l_21 h0.1.2.2.2.1 (op := 50) (od := 0) (by omega) (by omega) h0.1.2.2.2.2.2.1) (fun r4 w5 h6 => ?_)
    obtain ⟨z7, rfl, w5f, w5q⟩ := h6
    have w5k := kRw.em h0.1.2.2.2.1 w5f
    have w5l := (emQ.len w5q h0.1.2.2.2.2.2.1).1
    have w5e : w5 1 5 = w 1 5 ∧ w5 1 6 = w 1 6 ∧ w5 1 8 = w 1 8 := ⟨w5f 1 5 (by unfold kEm; omega), w5f 1 6 (by unfold kEm; omega), w5f 1 8 (by unfold kEm; omega)⟩
    have s8 := st.em h0 w5f w5q (by omega) (by unfold isCl3; omega)
    have q9 := st.nums s8
    have q9c := q9.2.2.2.1
    have z7r : 0 ≤ z7 ∧ z7 ≤ 4000 := emQ.z w5q h0.1.2.2.2.2.2.1
    show e_Pn 20 elay kcode eI n d 145 (19, [(0, (1, 1))], [(0, z7)], w5) _
    refine e_Pn.run (t' := (21, [(0, (1, 1))], [(1, 1)], w5)) kAlk 2 rfl ?_
    refine e_Pn.getf (z := w 1 5) kAlk rfl rfl ((w5f 1 5 (by unfold kEm; omega)).trans rfl) (fun b10 => ?_)
    have hs12 : ∀ x : Int, 39 ≤ x ∧ x ≤ 39 → (x = 39) := fun x h => by omega
    obtain h11 := hs12 (w 1 5) (by omega)
    · refine e_Pn.sw (tg := 338) kAlk rfl (by rw [h11]; rfl) ?_
      replace h11 : (w 1 5 : Int) = 39 := h11
      refine e_Pn.run (t' := (339, [(0, (1, 1))], [(1, 1)], w5)) kAlk 1 rfl ?_
      refine e_Pn.callJ rfl (fun nq13 hnq13 dq14 => ?_)
      show e_Pn 20 elay kcode eI nq13 dq14 154 (0, [(0, (1, 1))], [], w5) _
      refine e_Pn.run (t' := (1, [(0, (1, 1))], [(1, 1)], w5)) kAlk 1 rfl ?_
      replace hM := hM.st (t' := (1, [(0, (1, 275))], [(1, 275)], v)) (fun _ _ q => e_Pn.run eAlk 1 rfl q)
      obtain ⟨dc15, r16, v17, hc18, hM⟩ := hM.ca rfl
      have uhc18 := hc18.pn (fun nq => u_335 s8.1.2.2.2.2.1)
      refine e_Pn.callA rfl (fun nq dq => e_Pn.and (t_132 s8.1.2.1 (by omega) (d' := dc15) hc18) (u_132 s8.1.2.2.2.1)) (fun r19 w20 h21 => ?_)
      obtain ⟨h21, -, h21k⟩ := h21
      rcases h21.symm with ⟨rfl, rfl, h21F⟩ | ⟨rfl, rfl, h21b, h21w, h21v⟩
      · skip
        replace hM : e_Rn 20 elay ecode eI d' 350 (4, [(0, (1, 275))], [], v17) r' v' := hM
        obtain ⟨rfl, m22⟩ := (e_Rn.le eAlk [0] rfl rfl hM).pn (fun nq => v_350_4 (uhc18.2.rf s8.1.2.2.2.2.1) _  v17 mq.r)
        show e_Pn 20 elay kcode eI nq13 dq14 154 (4, [(0, (1, 1))], [(0, 0)], w20) _
        refine e_Pn.ord kAlk [0] rfl rfl ((v_154_4 (h21k.rf s8.1.2.2.2.1) _ 0 w20 kq.r).imp (fun r24 w25 k23 => ?_))
        obtain ⟨rfl, k23⟩ := k23
        show e_Pn 20 elay kcode eI n d 145 (342, [(0, (1, 1))], [], w25) _
        refine e_Pn.ord kAlk [0] rfl rfl ((v_145_342 (k23.rf (h21k.rf s8.1.2.2.2.1)) _  w25 kq.r).imp (fun r27 w28 k26 => ?_))
        obtain ⟨rfl, k26⟩ := k26
        exact ⟨rfl, rfl, Or.inr (rpF.tail h21F (k23.tr k26) m22)⟩
      have s29 := st.opn s8 h21w.symm h21v.symm (by omega)
      have w20g : e_fr (kGs cd) w5 w20 := e_fr.up (e_fr.refl w5) h21w.symm (by unfold kGs; omega)
      have q30 := st.nums s29
      clear q9
      have q30c := q30.2.2.2.1
      have s29t : w20 1 5 = w 1 5 := by have q9 : w20 1 5 = w5 1 5 := (by rw [h21w]; exact e_up_ne _ _ (Or.inr (by decide))); omega
      have t31 : (w20 1 5 : Int) = 39 := by rw [s29t]; exact hkd
      have t32 : (w20 1 5 : Int) ≠ 41 := by rw [s29t]; exact h3
      have t33 : (w20 1 5 : Int) = 39 := by rw [s29t]; exact h11
      show e_Pn 20 elay kcode eI nq13 dq14 154 (4, [(0, (1, 1))], [(0, 1)], w20) _
      replace hM : e_Rn 20 elay ecode eI d' 350 (4, [(0, (1, 275))], [], v17) r' v' := hM
      refine e_Pn.if1 kAlk rfl (fun h34 => ?_) (fun h34 => ?_)
      · replace h34 : (1 : Int) ≠ 0 := h34
        refine e_Pn.run (t' := (9, [(0, (1, 1))], [(1, 1)], w20)) kAlk 1 rfl ?_
        replace hM := hM.st (t' := (8, [(0, (1, 275))], [(0, 0), (0, 30), (1, 275)], v17)) (fun _ _ q => e_Pn.run eAlk 3 rfl q)
        obtain ⟨dc35, r36, v37, hc38, hM⟩ := hM.ca rfl
        obtain ⟨⟨z39, rfl⟩, v37f⟩ := hc38.pn (fun nq => x_336 s29.1.2.2.2.2.1)
        have v37m := mfr.rf v37f s29.1.2.2.2.2.1
        replace hM : e_Rn 20 elay ecode eI d' 350 (11, [(0, (1, 275))], [(0, z39)], v37) r' v' := hM
        replace hM := hM.st (t' := (16, [(0, (1, 275))], [(0, 18), (1, 275), (1, 275)], v37)) (fun _ _ q => e_Pn.run eAlk 4 rfl q)
        obtain ⟨dc40, r41, v42, hc43, hM⟩ := hM.ca rfl
        obtain ⟨z44, rfl, rfl, z44q⟩ := hc43.pn (fun nq => l_332)
        replace z44q := isS (kM_key (k := 18) s29.1.2.1.2.2.1 (by decide)) ((v37f 275 84 (by unfold mEm; omega)).trans rfl) ((v37f 275 85 (by unfold mEm; omega)).trans rfl) z44q
        obtain rfl : z44 = 1 := by omega
        clear z44q
        replace hM : e_Rn 20 elay ecode eI d' 350 (19, [(0, (1, 275))], [(0, 1), (1, 275)], v37) r' v' := hM
        obtain ⟨dhc45, r46, v47, hc45, hM⟩ := hM.ca rfl
        replace hc45 : e_Rn 20 elay ecode eI dhc45 334 (0, [(0, (1, 275)), (1, (0, 1))], [], v37) r46 v47 := hc45
        replace hc45 := hc45.st (t' := (1, [(0, (1, 275)), (1, (0, 1))], [(1, 275)], v37)) (fun _ _ q => e_Pn.run eAlk 1 rfl q)
        obtain ⟨b48, hc45⟩ := hc45.of (fun _ _ q => e_Pn.getf (z := 0) eAlk rfl rfl ((v37f 275 88 (by unfold mEm; omega)).trans s29.1.2.1.1.2) q)
        rcases hc45.or (fun _ _ q1 q2 => e_Pn.if1 eAlk rfl q1 q2) with ⟨h49, hc45⟩ | ⟨h49, hc45⟩
        · replace h49 : (0 : Int) = 0 := h49
          have kw50 : (w20 1 5 : Int) ≠ 1 := fun e9 => absurd (kM_k1 s29.1.2.1.2.2.1 e9) (by omega)
          replace hc45 := hc45.st (t' := (9, [(0, (1, 275)), (1, (0, 1))], [(0, 1)], v37)) (fun _ _ q => e_Pn.run eAlk 1 rfl q)
          rcases hc45.or (fun _ _ q1 q2 => e_Pn.if1 eAlk rfl q1 q2) with ⟨h51, hc45⟩ | ⟨h51, hc45⟩
          · replace h51 : (1 : Int) = 0 := h51
            exfalso; omega
          · replace h51 : (1 : Int) ≠ 0 := by have q : ¬ ((1 : Int) = 0) := h51; omega
            replace hc45 := hc45.st (t' := (13, [(0, (1, 275)), (1, (0, 1))], [(1, 275)], v37)) (fun _ _ q => e_Pn.run eAlk 1 rfl q)
            have e53a : w20 1 11 = w20 1 11 := rfl
            have e53b : v37 275 83 = v17 275 83 := (v37f 275 83 (by unfold mEm; omega))
            have e53c : w20 1 13 = w20 1 13 := rfl
            have e53d : v37 275 82 = v17 275 82 := (v37f 275 82 (by unfold mEm; omega))
            have e53f : w20 1 12 = w20 1 12 := rfl
            have e53e : v37 275 80 = v17 275 80 := (v37f 275 80 (by unfold mEm; omega))
            have s52 := st.gen (o' := 1) (l' := w 1 13) (m' := v 275 82) (t' := w 1 12) (b' := 0) s29 (e_fr.refl w20) (e_fr.trans (e_fr.refl v17) (e_fr.mono v37f (fun c k q => by unfold mEm at q; unfold mGs; omega))) (by omega) (by omega) (by omega) (by omega)
            have q54 := st.nums s52
            clear q30 e53a e53b e53c e53d e53e e53f
            have q54c := q54.2.2.2.1
            obtain ⟨dc55, r56, v57, hc58, hc45⟩ := hc45.ca rfl
            refine e_Pn.callA rfl (fun nq dq => t_123b s52.1.1 s52.1.2.1.1 s52.1.2.1.2.1.2.1 (st.nx s52) (d' := dc55) hc58) (fun r59 w60 h61 => ?_)
            obtain ⟨rfl, rfl, h61⟩ := h61
            have s62 := st.ad (k := 2) s52 h61 (st.len2 s52 (by omega)) (by omega)
            have s62n := h61.2.2.2.1
            have s62m := st.len2 s52 (by omega)
            have s62g : w 1 6 + 1 ≤ w60 1 6 := by omega
            have q63 := st.nums s62
            clear q54
            have q63c := q63.2.2.2.1
            show e_Pn 20 elay kcode eI nq13 dq14 154 (12, [(0, (1, 1))], [], w60) _
            replace hc45 : e_Rn 20 elay ecode eI dhc45 334 (16, [(0, (1, 275)), (1, (0, 1))], [], v57) r46 v47 := hc45
            refine e_Pn.run (t' := (13, [(0, (1, 1))], [(1, 1)], w60)) kAlk 1 rfl ?_
            replace hc45 := hc45.st (t' := (24, [(0, (1, 275)), (1, (0, 1))], [], v57)) (fun _ _ q => e_Pn.run eAlk 1 rfl q)
            obtain ⟨rfl, rfl⟩ := hc45.re0 rfl
            replace hM : e_Rn 20 elay ecode eI d' 350 (22, [(0, (1, 275))], [], v57) r' v' := hM
            replace hM := hM.st (t' := (23, [(0, (1, 275))], [(1, 275)], v57)) (fun _ _ q => e_Pn.run eAlk 1 rfl q)
            obtain ⟨dc64, r65, v66, hc67, hM⟩ := hM.ca rfl
            have uhc67 := hc67.pn (fun nq => uE_all nq 339 (by decide) _ _ s62.1.2.2.2.2.1)
            have z71 : stE N cd w60 v57 := st.zE s62 (by omega) (by omega)
            refine e_Pn.callA rfl (fun nq dq => e_Pn.and (eEg_all nq 158 339 (by decide) _ _ dq _ _ _ z71 hc67) (kE_all nq 158 (by decide) dq _ _ s62.1.2.2.2.1)) (fun r68 w69 h70 => ?_)
            obtain ⟨⟨rfl, rfl, h70⟩, -, h70k⟩ := h70
            rcases h70.symm with h70 | ⟨h70, h70p⟩
            · skip
              replace hM : e_Rn 20 elay ecode eI d' 350 (26, [(0, (1, 275))], [], v66) r' v' := hM
              obtain ⟨rfl, m72⟩ := (e_Rn.le eAlk [0] rfl rfl hM).pn (fun nq => v_350_26 (uhc67.2.rf s62.1.2.2.2.2.1) _  v66 mq.r)
              show e_Pn 20 elay kcode eI nq13 dq14 154 (16, [(0, (1, 1))], [], w69) _
              refine e_Pn.ord kAlk [0] rfl rfl ((v_154_16 (h70k.rf s62.1.2.2.2.1) _  w69 kq.r).imp (fun r74 w75 k73 => ?_))
              obtain ⟨rfl, k73⟩ := k73
              show e_Pn 20 elay kcode eI n d 145 (342, [(0, (1, 1))], [], w75) _
              refine e_Pn.ord kAlk [0] rfl rfl ((v_145_342 (k73.rf (h70k.rf s62.1.2.2.2.1)) _  w75 kq.r).imp (fun r77 w78 k76 => ?_))
              obtain ⟨rfl, k76⟩ := k76
              exact ⟨rfl, rfl, Or.inr (rpF.tail h70 (k73.tr k76) m72)⟩
            have s79 := st.re (l' := w 1 13) (m' := v 275 82) (t' := w 1 12) (st.tr s62 h70) (Int.le_refl _) rfl (by omega) (by omega) (by omega)
            have q80 := st.nums s79
            clear q63
            have q80c := q80.2.2.2.1
            show e_Pn 20 elay kcode eI nq13 dq14 154 (16, [(0, (1, 1))], [], w69) _
            replace hM : e_Rn 20 elay ecode eI d' 350 (26, [(0, (1, 275))], [], v66) r' v' := hM
            refine e_Pn.run (t' := (19, [(0, (1, 1))], [(0, 20), (1, 1)], w69)) kAlk 2 rfl ?_
            replace hM := hM.st (t' := (30, [(0, (1, 275))], [(0, 58), (1, 275), (1, 275)], v66)) (fun _ _ q => e_Pn.run eAlk 3 rfl q)
            obtain ⟨dc81, r82, v83, hc84, hM⟩ := hM.ca rfl
            obtain ⟨z85, rfl, rfl, z85q⟩ := hc84.pn (fun nq => l_331)
            replace z85q := isS (kM_s58 s79.1.2.1.2.2.1) rfl rfl z85q
            replace hM : e_Rn 20 elay ecode eI d' 350 (33, [(0, (1, 275))], [(0, z85), (1, 275)], v66) r' v' := hM
            obtain ⟨dc86, r87, v88, hc89, hM⟩ := hM.ca rfl
            have uhc89 := hc89.pn (fun nq => u_334 s79.1.2.2.2.2.1)
            refine e_Pn.callA rfl (fun nq dq => e_Pn.and (t_129b s79.1.1 s79.1.2.1 z85q (d' := dc86) hc89) (u_129 s79.1.2.2.2.1)) (fun r90 w91 h92 => ?_)
            obtain ⟨⟨rfl, rfl, h92⟩, -, h92k⟩ := h92
            rcases h92.symm with h92 | ⟨h92c, h92⟩
            · skip
              replace hM : e_Rn 20 elay ecode eI d' 350 (36, [(0, (1, 275))], [], v88) r' v' := hM
              obtain ⟨rfl, m93⟩ := (e_Rn.le eAlk [0] rfl rfl hM).pn (fun nq => v_350_36 (uhc89.2.rf s79.1.2.2.2.2.1) _  v88 mq.r)
              show e_Pn 20 elay kcode eI nq13 dq14 154 (22, [(0, (1, 1))], [], w91) _
              refine e_Pn.ord kAlk [0] rfl rfl ((v_154_22 (h92k.rf s79.1.2.2.2.1) _  w91 kq.r).imp (fun r95 w96 k94 => ?_))
              obtain ⟨rfl, k94⟩ := k94
              show e_Pn 20 elay kcode eI n d 145 (342, [(0, (1, 1))], [], w96) _
              refine e_Pn.ord kAlk [0] rfl rfl ((v_145_342 (k94.rf (h92k.rf s79.1.2.2.2.1)) _  w96 kq.r).imp (fun r98 w99 k97 => ?_))
              obtain ⟨rfl, k97⟩ := k97
              exact ⟨rfl, rfl, Or.inr (rpF.tail h92 (k94.tr k97) m93)⟩
            clear z85q
            have s100 := st.ad (k := 1) s79 h92 (st.len1 s79 (by omega)) (by omega)
            have s100n := h92.2.2.2.1
            have s100m := st.len1 s79 (by omega)
            have s100g : w 1 6 + 1 ≤ w91 1 6 := by omega
            have q101 := st.nums s100
            clear q80
            have q101c := q101.2.2.2.1
            show e_Pn 20 elay kcode eI nq13 dq14 154 (22, [(0, (1, 1))], [], w91) _
            replace hM : e_Rn 20 elay ecode eI d' 350 (36, [(0, (1, 275))], [], v88) r' v' := hM
            refine e_Pn.run (t' := (23, [(0, (1, 1))], [(1, 1)], w91)) kAlk 1 rfl ?_
            refine e_Pn.getr (z := cd) kAlk rfl rfl s100.1.2.2.2.1.2.1 (by omega) ?_
            refine e_Pn.run (t' := (29, [(0, (1, 1))], [(0, 0), (0, 41), (1, cd)], w91)) kAlk 2 rfl ?_
            refine e_Pn.callA rfl (fun nq dq => l_21 s100.1.2.2.2.1 (op := 41) (od := 0) (by omega) (by omega) s100.1.2.2.2.2.2.1) (fun r102 w103 h104 => ?_)
            obtain ⟨z105, rfl, w103f, w103q⟩ := h104
            have w103k := kRw.em s100.1.2.2.2.1 w103f
            have w103l := (emQ.len w103q s100.1.2.2.2.2.2.1).1
            have w103e : w103 1 5 = w91 1 5 ∧ w103 1 6 = w91 1 6 ∧ w103 1 8 = w91 1 8 := ⟨w103f 1 5 (by unfold kEm; omega), w103f 1 6 (by unfold kEm; omega), w103f 1 8 (by unfold kEm; omega)⟩
            have s106 := st.em s100 w103f w103q (by omega) (by unfold isCl3; omega)
            have ps106 := plcQ.mk s100 w103q (by omega)
            have q107 := st.nums s106
            clear q101
            have q107c := q107.2.2.2.1
            have z105r : 0 ≤ z105 ∧ z105 ≤ 4000 := emQ.z w103q s100.1.2.2.2.2.2.1
            show e_Pn 20 elay kcode eI nq13 dq14 154 (32, [(0, (1, 1))], [(0, z105)], w103) _
            refine e_Pn.run (t' := (34, [(1, (0, z105)), (0, (1, 1))], [(1, 1)], w103)) kAlk 2 rfl ?_
            replace hM := hM.st (t' := (40, [(0, (1, 275))], [(0, 0), (0, 47), (1, 275)], v88)) (fun _ _ q => e_Pn.run eAlk 3 rfl q)
            obtain ⟨dc108, r109, v110, hc111, hM⟩ := hM.ca rfl
            obtain ⟨⟨z112, rfl⟩, v110f⟩ := hc111.pn (fun nq => x_336 s100.1.2.2.2.2.1)
            have v110m := mfr.rf v110f s100.1.2.2.2.2.1
            replace hM : e_Rn 20 elay ecode eI d' 350 (43, [(0, (1, 275))], [(0, z112)], v110) r' v' := hM
            replace hM := hM.st (t' := (45, [(1, (0, z112)), (0, (1, 275))], [(1, 275)], v110)) (fun _ _ q => e_Pn.run eAlk 2 rfl q)
            have e114a : w103 1 11 = w103 1 11 := rfl
            have e114b : v110 275 83 = v88 275 83 := (v110f 275 83 (by unfold mEm; omega))
            have e114c : w103 1 13 = w103 1 13 := rfl
            have e114d : v110 275 82 = v88 275 82 := (v110f 275 82 (by unfold mEm; omega))
            have e114f : w103 1 12 = w103 1 12 := rfl
            have e114e : v110 275 80 = v88 275 80 := (v110f 275 80 (by unfold mEm; omega))
            have s113 := st.gen (o' := 1) (l' := w 1 13) (m' := v 275 82) (t' := w 1 12) (b' := 0) s106 (e_fr.refl w103) (e_fr.trans (e_fr.refl v88) (e_fr.mono v110f (fun c k q => by unfold mEm at q; unfold mGs; omega))) (by omega) (by omega) (by omega) (by omega)
            have q115 := st.nums s113
            clear q107 e114a e114b e114c e114d e114e e114f
            have q115c := q115.2.2.2.1
            obtain ⟨dc116, r117, v118, hc119, hM⟩ := hM.ca rfl
            have uhc119 := hc119.pn (fun nq => uS_all nq 348 (by decide) _ _ s113.1.2.2.2.2.1)
            have z123 : st0 N cd w103 v110 := st.z s113 (by omega) (st.loo s113 hzo.2.1) (by omega)
            refine e_Pn.callB rfl (fun k9 hk9 d9 => e_Pn.and (ihS k9 (by omega) _ _ _ _ _ _ z123 (by omega) hc119) (kS_all k9 144 (by decide) d9 _ _ s113.1.2.2.2.1)) (fun r120 w121 h122 => ?_)
            obtain ⟨⟨rfl, rfl, h122⟩, -, h122k⟩ := h122
            rcases h122.symm with h122 | h122
            · skip
              replace hM : e_Rn 20 elay ecode eI d' 350 (48, [(1, (0, z112)), (0, (1, 275))], [], v118) r' v' := hM
              obtain ⟨rfl, m124⟩ := (e_Rn.le eAlk [0, 1] rfl rfl hM).pn (fun nq => v_350_48 (uhc119.2.rf s113.1.2.2.2.2.1) _ z112 v118 mq.r)
              show e_Pn 20 elay kcode eI nq13 dq14 154 (37, [(1, (0, z105)), (0, (1, 1))], [], w121) _
              refine e_Pn.ord kAlk [0, 1] rfl rfl ((v_154_37 (h122k.rf s113.1.2.2.2.1) _ z105 w121 kq.r).imp (fun r126 w127 k125 => ?_))
              obtain ⟨rfl, k125⟩ := k125
              show e_Pn 20 elay kcode eI n d 145 (342, [(0, (1, 1))], [], w127) _
              refine e_Pn.ord kAlk [0] rfl rfl ((v_145_342 (k125.rf (h122k.rf s113.1.2.2.2.1)) _  w127 kq.r).imp (fun r129 w130 k128 => ?_))
              obtain ⟨rfl, k128⟩ := k128
              exact ⟨rfl, rfl, Or.inr (rpF.tail h122 (k125.tr k128) m124)⟩
            have s131 := st.re (l' := w 1 13) (m' := v 275 82) (t' := w 1 12) (st.tr s113 h122) (Int.le_refl _) rfl (by omega) (by omega) (by omega)
            have q132 := st.nums s131
            clear q115
            have q132c := q132.2.2.2.1
            show e_Pn 20 elay kcode eI nq13 dq14 154 (37, [(1, (0, z105)), (0, (1, 1))], [], w121) _
            replace hM : e_Rn 20 elay ecode eI d' 350 (48, [(1, (0, z112)), (0, (1, 275))], [], v118) r' v' := hM
            refine e_Pn.run (t' := (38, [(1, (0, z105)), (0, (1, 1))], [(1, 1)], w121)) kAlk 1 rfl ?_
            refine e_Pn.getf (z := w121 1 5) kAlk rfl rfl rfl (fun b133 => ?_)
            refine e_Pn.run (t' := (43, [(1, (0, z105)), (0, (1, 1))], [(0, 40), (0, w121 1 5)], w121)) kAlk 1 rfl ?_
            refine e_Pn.if2 kAlk rfl (fun h134 => ?_) (fun h134 => ?_)
            · replace h134 : (w121 1 5 : Int) ≠ 40 := h134
              refine e_Pn.run (t' := (89, [(1, (0, z105)), (0, (1, 1))], [(1, 1)], w121)) kAlk 1 rfl ?_
              refine e_Pn.getr (z := cd) kAlk rfl rfl s131.1.2.2.2.1.2.1 (by omega) ?_
              refine e_Pn.run (t' := (94, [(1, (0, z105)), (0, (1, 1))], [(1, 1), (0, z105), (1, cd)], w121)) kAlk 2 rfl ?_
              refine e_Pn.getr (z := cd) kAlk rfl rfl s131.1.2.2.2.1.2.1 (by omega) ?_
              refine e_Pn.getf (z := w121 cd 0) kAlk rfl rfl rfl (fun b135 => ?_)
              refine e_Pn.callA rfl (fun nq dq => l_22 s131.1.2.2.2.1 (x := z105) (od := w121 cd 0) (by omega)) (fun r136 w137 h138 => ?_)
              obtain ⟨rfl, w137f, w137q⟩ := h138
              have w137k := kRw.em s131.1.2.2.2.1 (w137f.mono (fun _ _ q => Or.inr q))
              have w137l : 0 ≤ w137 cd 0 ∧ w137 cd 0 ≤ 4000 := by rw [w137f cd 0 (by unfold kPa; omega)]; exact s131.1.2.2.2.2.2.1
              have w137e : w137 1 5 = w121 1 5 ∧ w137 1 6 = w121 1 6 ∧ w137 1 8 = w121 1 8 := ⟨w137f 1 5 (by unfold kPa; omega), w137f 1 6 (by unfold kPa; omega), w137f 1 8 (by unfold kPa; omega)⟩
              have pl140 := plcQ.st ps106 h122
              have s139 := st.pa s131 w137f w137q pl140 (by unfold isCl3; omega)
              have q141 := st.nums s139
              clear q132
              have q141c := q141.2.2.2.1
              show e_Pn 20 elay kcode eI nq13 dq14 154 (103, [(1, (0, z105)), (0, (1, 1))], [], w137) _
              refine e_Pn.run (t' := (106, [(1, (0, z105)), (0, (1, 1))], [(0, 23), (1, 1)], w137)) kAlk 2 rfl ?_
              replace hM := hM.st (t' := (49, [(1, (0, z112)), (0, (1, 275))], [(1, 275)], v118)) (fun _ _ q => e_Pn.run eAlk 1 rfl q)
              obtain ⟨b142, hM⟩ := hM.of (fun _ _ q => e_Pn.getf (z := 0) eAlk rfl rfl s131.1.2.1.1.2 q)
              rcases hM.or (fun _ _ q1 q2 => e_Pn.if1 eAlk rfl q1 q2) with ⟨h143, hM⟩ | ⟨h143, hM⟩
              · replace h143 : (0 : Int) ≠ 0 := h143
                exfalso; omega
              · replace h143 : (0 : Int) = 0 := by have q : ¬ ((0 : Int) ≠ 0) := h143; omega
                replace hM := hM.st (t' := (58, [(1, (0, z112)), (0, (1, 275))], [(0, 19), (1, 275)], v118)) (fun _ _ q => e_Pn.run eAlk 2 rfl q)
                obtain ⟨dc144, r145, v146, hc147, hM⟩ := hM.ca rfl
                obtain ⟨z148, rfl, rfl, z148q⟩ := hc147.pn (fun nq => l_332)
                replace z148q := isS (kM_key (k := 19) s131.1.2.1.2.2.1 (by decide)) rfl rfl z148q
                obtain rfl : z148 = 0 := by omega
                clear z148q
                replace hM : e_Rn 20 elay ecode eI d' 350 (61, [(1, (0, z112)), (0, (1, 275))], [(0, 0)], v118) r' v' := hM
                rcases hM.or (fun _ _ q1 q2 => e_Pn.if1 eAlk rfl q1 q2) with ⟨h149, hM⟩ | ⟨h149, hM⟩
                · replace h149 : (0 : Int) = 0 := h149
                  replace hM := hM.st (t' := (105, [(1, (0, z112)), (0, (1, 275))], [(0, z112), (1, 275)], v118)) (fun _ _ q => e_Pn.run eAlk 2 rfl q)
                  obtain ⟨dc150, r151, v152, hc153, hM⟩ := hM.ca rfl
                  obtain ⟨rfl, v152f⟩ := hc153.pn (fun nq => x_337 s131.1.2.2.2.2.1)
                  have v152m := mfr.rf v152f s131.1.2.2.2.2.1
                  replace hM : e_Rn 20 elay ecode eI d' 350 (108, [(1, (0, z112)), (0, (1, 275))], [], v152) r' v' := hM
                  replace hM := hM.st (t' := (111, [(1, (0, z112)), (0, (1, 275))], [(0, 2), (1, 275), (1, 275)], v152)) (fun _ _ q => e_Pn.run eAlk 3 rfl q)
                  obtain ⟨dc155, r156, v157, hc158, hM⟩ := hM.ca rfl
                  obtain ⟨z159, rfl, rfl, z159q⟩ := hc158.pn (fun nq => l_332)
                  replace z159q := isS (kM_key (k := 2) s131.1.2.1.2.2.1 (by decide)) ((v152f 275 84 (by unfold mEm; omega)).trans rfl) ((v152f 275 85 (by unfold mEm; omega)).trans rfl) z159q
                  replace hM : e_Rn 20 elay ecode eI d' 350 (114, [(1, (0, z112)), (0, (1, 275))], [(0, z159), (1, 275)], v152) r' v' := hM
                  have e161a : w137 1 11 = w137 1 11 := rfl
                  have e161b : v152 275 83 = v118 275 83 := (v152f 275 83 (by unfold mEm; omega))
                  have e161c : w137 1 13 = w137 1 13 := rfl
                  have e161d : v152 275 82 = v118 275 82 := (v152f 275 82 (by unfold mEm; omega))
                  have e161f : w137 1 12 = w137 1 12 := rfl
                  have e161e : v152 275 80 = v118 275 80 := (v152f 275 80 (by unfold mEm; omega))
                  have s160 := st.gen (o' := 1) (l' := w 1 13) (m' := v 275 82) (t' := w 1 12) (b' := 0) s139 (e_fr.refl w137) (e_fr.trans (e_fr.refl v118) (e_fr.mono v152f (fun c k q => by unfold mEm at q; unfold mGs; omega))) (by omega) (by omega) (by omega) (by omega)
                  have q162 := st.nums s160
                  clear q141 e161a e161b e161c e161d e161e e161f
                  have q162c := q162.2.2.2.1
                  obtain ⟨dc163, r164, v165, hc166, hM⟩ := hM.ca rfl
                  have uhc166 := hc166.pn (fun nq => u_334 s160.1.2.2.2.2.1)
                  refine e_Pn.callA rfl (fun nq dq => e_Pn.and (t_129b s160.1.1 s160.1.2.1 (by have q9 : w137 1 5 = w121 1 5 := (by omega); rw [q9]; exact z159q) (d' := dc163) hc166) (u_129 s160.1.2.2.2.1)) (fun r167 w168 h169 => ?_)
                  obtain ⟨⟨rfl, rfl, h169⟩, -, h169k⟩ := h169
                  rcases h169.symm with h169 | ⟨h169c, h169⟩
                  · skip
                    replace hM : e_Rn 20 elay ecode eI d' 350 (117, [(1, (0, z112)), (0, (1, 275))], [], v165) r' v' := hM
                    obtain ⟨rfl, m170⟩ := (e_Rn.le eAlk [0, 1] rfl rfl hM).pn (fun nq => v_350_117 (uhc166.2.rf s160.1.2.2.2.2.1) _ z112 v165 mq.r)
                    show e_Pn 20 elay kcode eI nq13 dq14 154 (109, [(1, (0, z105)), (0, (1, 1))], [], w168) _
                    refine e_Pn.ord kAlk [0, 1] rfl rfl ((v_154_109 (h169k.rf s160.1.2.2.2.1) _ z105 w168 kq.r).imp (fun r172 w173 k171 => ?_))
                    obtain ⟨rfl, k171⟩ := k171
                    show e_Pn 20 elay kcode eI n d 145 (342, [(0, (1, 1))], [], w173) _
                    refine e_Pn.ord kAlk [0] rfl rfl ((v_145_342 (k171.rf (h169k.rf s160.1.2.2.2.1)) _  w173 kq.r).imp (fun r175 w176 k174 => ?_))
                    obtain ⟨rfl, k174⟩ := k174
                    exact ⟨rfl, rfl, Or.inr (rpF.tail h169 (k171.tr k174) m170)⟩
                  clear z159q
                  have s177 := st.ad (k := 3) s160 h169 (st.len3 s160 (Or.inl h169c)) (by omega)
                  have s177n := h169.2.2.2.1
                  have s177m := st.len3 s160 (Or.inl h169c)
                  have s177g : w 1 6 + 1 ≤ w168 1 6 := by omega
                  have q178 := st.nums s177
                  clear q162
                  have q178c := q178.2.2.2.1
                  show e_Pn 20 elay kcode eI nq13 dq14 154 (109, [(1, (0, z105)), (0, (1, 1))], [], w168) _
                  replace hM : e_Rn 20 elay ecode eI d' 350 (117, [(1, (0, z112)), (0, (1, 275))], [], v165) r' v' := hM
                  refine e_Pn.run (t' := (111, [(1, (0, z105)), (0, (1, 1))], [(1, 1), (1, 1)], w168)) kAlk 2 rfl ?_
                  refine e_Pn.getf (z := w168 1 11) kAlk rfl rfl rfl (fun b179 => ?_)
                  refine e_Pn.run (t' := (115, [(1, (0, z105)), (0, (1, 1))], [(0, 1), (0, w168 1 11), (1, 1)], w168)) kAlk 1 rfl ?_
                  refine e_Pn.sub' (z := w168 1 11 - 1) kAlk rfl (by omega) (by omega) ?_
                  refine e_Pn.putf kAlk rfl rfl ?_
                  generalize hw180 : e_up w168 1 11 (w168 1 11 - 1) = w180
                  have w180g : e_fr (kGs cd) w168 w180 := (e_fr.up (e_fr.refl w168) hw180 (by unfold kGs; omega))
                  have w180k := kRw.gs s177.1.2.2.2.1 w180g
                  have w180l : 0 ≤ w180 cd 0 ∧ w180 cd 0 ≤ 4000 := by rw [w180g cd 0 (by unfold kGs; omega)]; exact s177.1.2.2.2.2.2.1
                  have w180e : w180 1 5 = w168 1 5 ∧ w180 1 6 = w168 1 6 ∧ w180 1 8 = w168 1 8 := ⟨w180g 1 5 (by unfold kGs; omega), w180g 1 6 (by unfold kGs; omega), w180g 1 8 (by unfold kGs; omega)⟩
                  refine e_Pn.ret0 rfl ?_
                  show e_Pn 20 elay kcode eI n d 145 (342, [(0, (1, 1))], [], w180) _
                  refine e_Pn.run (t' := (356, [(0, (1, 1))], [], w180)) kAlk 1 rfl ?_
                  replace hM := hM.st (t' := (119, [(1, (0, z112)), (0, (1, 275))], [(1, 275), (1, 275)], v165)) (fun _ _ q => e_Pn.run eAlk 2 rfl q)
                  obtain ⟨b181, hM⟩ := hM.of (fun _ _ q => e_Pn.getf (z := v165 275 83) eAlk rfl rfl rfl q)
                  replace hM := hM.st (t' := (123, [(1, (0, z112)), (0, (1, 275))], [(0, 1), (0, v165 275 83), (1, 275)], v165)) (fun _ _ q => e_Pn.run eAlk 1 rfl q)
                  replace hM := hM.st (fun _ _ q => e_Pn.sub' (z := v165 275 83 - 1) eAlk rfl (by omega) (by omega) q)
                  replace hM := hM.st (fun _ _ q => e_Pn.putf eAlk rfl rfl q)
                  generalize hv182 : e_up v165 275 83 (v165 275 83 - 1) = v182 at hM
                  have v182m := mRw.upd hv182 (fun _ => by omega) s177.1.2.2.2.2.1
                  have e184a : w180 1 11 = w168 1 11 - 1 := (by rw [← hw180]; exact e_up_eq _ _ _ _)
                  have e184b : v182 275 83 = v165 275 83 - 1 := (by rw [← hv182]; exact e_up_eq _ _ _ _)
                  have e184c : w180 1 13 = w168 1 13 := (by rw [← hw180]; exact e_up_ne _ _ (Or.inr (by omega)))
                  have e184d : v182 275 82 = v165 275 82 := (by rw [← hv182]; exact e_up_ne _ _ (Or.inr (by omega)))
                  have e184f : w180 1 12 = w168 1 12 := (by rw [← hw180]; exact e_up_ne _ _ (Or.inr (by omega)))
                  have e184e : v182 275 80 = v165 275 80 := (by rw [← hv182]; exact e_up_ne _ _ (Or.inr (by omega)))
                  have s183 := st.gen (o' := 0) (l' := w 1 13) (m' := v 275 82) (t' := w 1 12) (b' := 0) s177 (e_fr.up (e_fr.refl w168) hw180 (by unfold kGs; omega)) (e_fr.up (e_fr.refl v165) hv182 (by unfold mGs; omega)) (by omega) (by omega) (by omega) (by omega)
                  have q185 := st.nums s183
                  clear q178 e184a e184b e184c e184d e184e e184f
                  have q185c := q185.2.2.2.1
                  obtain ⟨rfl, rfl⟩ := hM.re0 rfl
                  refine e_Pn.ret0 rfl ?_
                  exact ⟨rfl, rfl, Or.inl ⟨st.re s183 (by omega) (by omega) (by omega) (by omega) (by omega), by omega⟩⟩
                · replace h149 : (0 : Int) ≠ 0 := by have q : ¬ ((0 : Int) = 0) := h149; omega
                  exfalso; omega
            · replace h134 : (w121 1 5 : Int) = 40 := by have q : ¬ ((w121 1 5 : Int) ≠ 40) := h134; omega
              refine e_Pn.run (t' := (47, [(1, (0, z105)), (0, (1, 1))], [(1, 1)], w121)) kAlk 1 rfl ?_
              replace hM := hM.st (t' := (49, [(1, (0, z112)), (0, (1, 275))], [(1, 275)], v118)) (fun _ _ q => e_Pn.run eAlk 1 rfl q)
              obtain ⟨b186, hM⟩ := hM.of (fun _ _ q => e_Pn.getf (z := 0) eAlk rfl rfl s131.1.2.1.1.2 q)
              rcases hM.or (fun _ _ q1 q2 => e_Pn.if1 eAlk rfl q1 q2) with ⟨h187, hM⟩ | ⟨h187, hM⟩
              · replace h187 : (0 : Int) ≠ 0 := h187
                exfalso; omega
              · replace h187 : (0 : Int) = 0 := by have q : ¬ ((0 : Int) ≠ 0) := h187; omega
                replace hM := hM.st (t' := (58, [(1, (0, z112)), (0, (1, 275))], [(0, 19), (1, 275)], v118)) (fun _ _ q => e_Pn.run eAlk 2 rfl q)
                obtain ⟨dc188, r189, v190, hc191, hM⟩ := hM.ca rfl
                obtain ⟨z192, rfl, rfl, z192q⟩ := hc191.pn (fun nq => l_332)
                replace z192q := isS (kM_key (k := 19) s131.1.2.1.2.2.1 (by decide)) rfl rfl z192q
                obtain rfl : z192 = 1 := by omega
                clear z192q
                replace hM : e_Rn 20 elay ecode eI d' 350 (61, [(1, (0, z112)), (0, (1, 275))], [(0, 1)], v118) r' v' := hM
                rcases hM.or (fun _ _ q1 q2 => e_Pn.if1 eAlk rfl q1 q2) with ⟨h193, hM⟩ | ⟨h193, hM⟩
                · replace h193 : (1 : Int) = 0 := h193
                  exfalso; omega
                · replace h193 : (1 : Int) ≠ 0 := by have q : ¬ ((1 : Int) = 0) := h193; omega
                  replace hM := hM.st (t' := (65, [(1, (0, z112)), (0, (1, 275))], [(1, 275)], v118)) (fun _ _ q => e_Pn.run eAlk 1 rfl q)
                  obtain ⟨dc194, r195, v196, hc197, hM⟩ := hM.ca rfl
                  refine e_Pn.callA rfl (fun nq dq => t_123b s131.1.1 s131.1.2.1.1 s131.1.2.1.2.1.2.1 (st.nx s131) (d' := dc194) hc197) (fun r198 w199 h200 => ?_)
                  obtain ⟨rfl, rfl, h200⟩ := h200
                  have s201 := st.ad (k := 2) s131 h200 (st.len2 s131 (by omega)) (by omega)
                  have s201n := h200.2.2.2.1
                  have s201m := st.len2 s131 (by omega)
                  have s201g : w 1 6 + 1 ≤ w199 1 6 := by omega
                  have q202 := st.nums s201
                  clear q132
                  have q202c := q202.2.2.2.1
                  show e_Pn 20 elay kcode eI nq13 dq14 154 (50, [(1, (0, z105)), (0, (1, 1))], [], w199) _
                  replace hM : e_Rn 20 elay ecode eI d' 350 (68, [(1, (0, z112)), (0, (1, 275))], [], v196) r' v' := hM
                  refine e_Pn.run (t' := (53, [(1, (0, z105)), (0, (1, 1))], [(0, 20), (1, 1)], w199)) kAlk 2 rfl ?_
                  replace hM := hM.st (t' := (72, [(1, (0, z112)), (0, (1, 275))], [(0, 58), (1, 275), (1, 275)], v196)) (fun _ _ q => e_Pn.run eAlk 3 rfl q)
                  obtain ⟨dc203, r204, v205, hc206, hM⟩ := hM.ca rfl
                  obtain ⟨z207, rfl, rfl, z207q⟩ := hc206.pn (fun nq => l_331)
                  replace z207q := isS (kM_s58 s201.1.2.1.2.2.1) rfl rfl z207q
                  replace hM : e_Rn 20 elay ecode eI d' 350 (75, [(1, (0, z112)), (0, (1, 275))], [(0, z207), (1, 275)], v196) r' v' := hM
                  obtain ⟨dc208, r209, v210, hc211, hM⟩ := hM.ca rfl
                  have uhc211 := hc211.pn (fun nq => u_334 s201.1.2.2.2.2.1)
                  refine e_Pn.callA rfl (fun nq dq => e_Pn.and (t_129b s201.1.1 s201.1.2.1 z207q (d' := dc208) hc211) (u_129 s201.1.2.2.2.1)) (fun r212 w213 h214 => ?_)
                  obtain ⟨⟨rfl, rfl, h214⟩, -, h214k⟩ := h214
                  rcases h214.symm with h214 | ⟨h214c, h214⟩
                  · skip
                    replace hM : e_Rn 20 elay ecode eI d' 350 (78, [(1, (0, z112)), (0, (1, 275))], [], v210) r' v' := hM
                    obtain ⟨rfl, m215⟩ := (e_Rn.le eAlk [0, 1] rfl rfl hM).pn (fun nq => v_350_78 (uhc211.2.rf s201.1.2.2.2.2.1) _ z112 v210 mq.r)
                    show e_Pn 20 elay kcode eI nq13 dq14 154 (56, [(1, (0, z105)), (0, (1, 1))], [], w213) _
                    refine e_Pn.ord kAlk [0, 1] rfl rfl ((v_154_56 (h214k.rf s201.1.2.2.2.1) _ z105 w213 kq.r).imp (fun r217 w218 k216 => ?_))
                    obtain ⟨rfl, k216⟩ := k216
                    show e_Pn 20 elay kcode eI n d 145 (342, [(0, (1, 1))], [], w218) _
                    refine e_Pn.ord kAlk [0] rfl rfl ((v_145_342 (k216.rf (h214k.rf s201.1.2.2.2.1)) _  w218 kq.r).imp (fun r220 w221 k219 => ?_))
                    obtain ⟨rfl, k219⟩ := k219
                    exact ⟨rfl, rfl, Or.inr (rpF.tail h214 (k216.tr k219) m215)⟩
                  clear z207q
                  have s222 := st.ad (k := 1) s201 h214 (st.len1 s201 (by omega)) (by omega)
                  have s222n := h214.2.2.2.1
                  have s222m := st.len1 s201 (by omega)
                  have s222g : w 1 6 + 1 ≤ w213 1 6 := by omega
                  have q223 := st.nums s222
                  clear q202
                  have q223c := q223.2.2.2.1
                  show e_Pn 20 elay kcode eI nq13 dq14 154 (56, [(1, (0, z105)), (0, (1, 1))], [], w213) _
                  replace hM : e_Rn 20 elay ecode eI d' 350 (78, [(1, (0, z112)), (0, (1, 275))], [], v210) r' v' := hM
                  refine e_Pn.run (t' := (57, [(1, (0, z105)), (0, (1, 1))], [(1, 1)], w213)) kAlk 1 rfl ?_
                  refine e_Pn.getr (z := cd) kAlk rfl rfl s222.1.2.2.2.1.2.1 (by omega) ?_
                  refine e_Pn.run (t' := (63, [(1, (0, z105)), (0, (1, 1))], [(0, 0), (0, 40), (1, cd)], w213)) kAlk 2 rfl ?_
                  refine e_Pn.callA rfl (fun nq dq => l_21 s222.1.2.2.2.1 (op := 40) (od := 0) (by omega) (by omega) s222.1.2.2.2.2.2.1) (fun r224 w225 h226 => ?_)
                  obtain ⟨z227, rfl, w225f, w225q⟩ := h226
                  have w225k := kRw.em s222.1.2.2.2.1 w225f
                  have w225l := (emQ.len w225q s222.1.2.2.2.2.2.1).1
                  have w225e : w225 1 5 = w213 1 5 ∧ w225 1 6 = w213 1 6 ∧ w225 1 8 = w213 1 8 := ⟨w225f 1 5 (by unfold kEm; omega), w225f 1 6 (by unfold kEm; omega), w225f 1 8 (by unfold kEm; omega)⟩
                  have s228 := st.em s222 w225f w225q (by omega) (by unfold isCl3; omega)
                  have ps228 := plcQ.mk s222 w225q (by omega)
                  have q229 := st.nums s228
                  clear q223
                  have q229c := q229.2.2.2.1
                  have z227r : 0 ≤ z227 ∧ z227 ≤ 4000 := emQ.z w225q s222.1.2.2.2.2.2.1
                  show e_Pn 20 elay kcode eI nq13 dq14 154 (66, [(1, (0, z105)), (0, (1, 1))], [(0, z227)], w225) _
                  refine e_Pn.run (t' := (68, [(2, (0, z227)), (1, (0, z105)), (0, (1, 1))], [(1, 1)], w225)) kAlk 2 rfl ?_
                  refine e_Pn.getr (z := cd) kAlk rfl rfl ((w225f 1 3 (by unfold kEm; omega)).trans s222.1.2.2.2.1.2.1) (by omega) ?_
                  refine e_Pn.run (t' := (73, [(2, (0, z227)), (1, (0, z105)), (0, (1, 1))], [(1, 1), (0, z105), (1, cd)], w225)) kAlk 2 rfl ?_
                  refine e_Pn.getr (z := cd) kAlk rfl rfl ((w225f 1 3 (by unfold kEm; omega)).trans s222.1.2.2.2.1.2.1) (by omega) ?_
                  refine e_Pn.getf (z := w225 cd 0) kAlk rfl rfl rfl (fun b230 => ?_)
                  refine e_Pn.callA rfl (fun nq dq => l_22 w225k (x := z105) (od := w225 cd 0) (by omega)) (fun r231 w232 h233 => ?_)
                  obtain ⟨rfl, w232f, w232q⟩ := h233
                  have w232k := kRw.em w225k (w232f.mono (fun _ _ q => Or.inr q))
                  have w232l : 0 ≤ w232 cd 0 ∧ w232 cd 0 ≤ 4000 := by rw [w232f cd 0 (by unfold kPa; omega)]; exact w225l
                  have w232e : w232 1 5 = w225 1 5 ∧ w232 1 6 = w225 1 6 ∧ w232 1 8 = w225 1 8 := ⟨w232f 1 5 (by unfold kPa; omega), w232f 1 6 (by unfold kPa; omega), w232f 1 8 (by unfold kPa; omega)⟩
                  have pl235 := plcQ.st ps106 h122
                  have pl236 := plcQ.fr pl235 (h200.2.2.2.2.1 cd 0 (by unfold kRa; omega)) (fun i => h200.2.2.2.2.1 (cd + 2) i (by unfold kRa; omega))
                  have pl237 := plcQ.fr pl236 (h214.2.2.2.2.1 cd 0 (by unfold kRa; omega)) (fun i => h214.2.2.2.2.1 (cd + 2) i (by unfold kRa; omega))
                  have pl238 := plcQ.em pl237 w225q
                  have s234 := st.pa s228 w232f w232q pl238 (by unfold isCl3; omega)
                  have q239 := st.nums s234
                  clear q229
                  have q239c := q239.2.2.2.1
                  show e_Pn 20 elay kcode eI nq13 dq14 154 (82, [(2, (0, z227)), (1, (0, z105)), (0, (1, 1))], [], w232) _
                  refine e_Pn.run (t' := (85, [(1, (0, z227)), (2, (0, z227)), (0, (1, 1))], [(1, 1)], w232)) kAlk 3 rfl ?_
                  replace hM := hM.st (t' := (82, [(1, (0, z112)), (0, (1, 275))], [(0, 0), (0, 48), (1, 275)], v210)) (fun _ _ q => e_Pn.run eAlk 3 rfl q)
                  obtain ⟨dc240, r241, v242, hc243, hM⟩ := hM.ca rfl
                  obtain ⟨⟨z244, rfl⟩, v242f⟩ := hc243.pn (fun nq => x_336 s222.1.2.2.2.2.1)
                  have v242m := mfr.rf v242f s222.1.2.2.2.2.1
                  replace hM : e_Rn 20 elay ecode eI d' 350 (85, [(1, (0, z112)), (0, (1, 275))], [(0, z244)], v242) r' v' := hM
                  replace hM := hM.st (t' := (88, [(2, (0, z244)), (1, (0, z112)), (0, (1, 275))], [(0, z112), (1, 275)], v242)) (fun _ _ q => e_Pn.run eAlk 3 rfl q)
                  obtain ⟨dc245, r246, v247, hc248, hM⟩ := hM.ca rfl
                  obtain ⟨rfl, v247f⟩ := hc248.pn (fun nq => x_337 v242m)
                  have v247m := mfr.rf v247f v242m
                  replace hM : e_Rn 20 elay ecode eI d' 350 (91, [(2, (0, z244)), (1, (0, z112)), (0, (1, 275))], [], v247) r' v' := hM
                  replace hM := hM.st (t' := (92, [(2, (0, z244)), (1, (0, z112)), (0, (1, 275))], [(1, 275)], v247)) (fun _ _ q => e_Pn.run eAlk 1 rfl q)
                  have e251a : w232 1 11 = w232 1 11 := rfl
                  have e251b : v247 275 83 = v210 275 83 := (Eq.trans (v247f 275 83 (by unfold mEm; omega)) (v242f 275 83 (by unfold mEm; omega)))
                  have e251c : w232 1 13 = w232 1 13 := rfl
                  have e251d : v247 275 82 = v210 275 82 := (Eq.trans (v247f 275 82 (by unfold mEm; omega)) (v242f 275 82 (by unfold mEm; omega)))
                  have e251f : w232 1 12 = w232 1 12 := rfl
                  have e251e : v247 275 80 = v210 275 80 := (Eq.trans (v247f 275 80 (by unfold mEm; omega)) (v242f 275 80 (by unfold mEm; omega)))
                  have s250 := st.gen (o' := 1) (l' := w 1 13) (m' := v 275 82) (t' := w 1 12) (b' := 0) s234 (e_fr.refl w232) (e_fr.trans (e_fr.trans (e_fr.refl v210) (e_fr.mono v242f (fun c k q => by unfold mEm at q; unfold mGs; omega))) (e_fr.mono v247f (fun c k q => by unfold mEm at q; unfold mGs; omega))) (by omega) (by omega) (by omega) (by omega)
                  have q252 := st.nums s250
                  clear q239 e251a e251b e251c e251d e251e e251f
                  have q252c := q252.2.2.2.1
                  obtain ⟨dc253, r254, v255, hc256, hM⟩ := hM.ca rfl
                  have uhc256 := hc256.pn (fun nq => uS_all nq 348 (by decide) _ _ s250.1.2.2.2.2.1)
                  have z260 : st0 N cd w232 v247 := st.z s250 (by omega) (st.loo s250 hzo.2.1) (by omega)
                  refine e_Pn.callB rfl (fun k9 hk9 d9 => e_Pn.and (ihS k9 (by omega) _ _ _ _ _ _ z260 (by omega) hc256) (kS_all k9 144 (by decide) d9 _ _ s250.1.2.2.2.1)) (fun r257 w258 h259 => ?_)
                  obtain ⟨⟨rfl, rfl, h259⟩, -, h259k⟩ := h259
                  rcases h259.symm with h259 | h259
                  · skip
                    replace hM : e_Rn 20 elay ecode eI d' 350 (95, [(2, (0, z244)), (1, (0, z112)), (0, (1, 275))], [], v255) r' v' := hM
                    obtain ⟨rfl, m261⟩ := (e_Rn.le eAlk [0, 1, 2] rfl rfl hM).pn (fun nq => v_350_95 (uhc256.2.rf s250.1.2.2.2.2.1) _ z112 z244 v255 mq.r)
                    show e_Pn 20 elay kcode eI nq13 dq14 154 (88, [(1, (0, z227)), (2, (0, z227)), (0, (1, 1))], [], w258) _
                    refine e_Pn.ord kAlk [0, 1, 2] rfl rfl ((v_154_88 (h259k.rf s250.1.2.2.2.1) _ z227 z227 w258 kq.r).imp (fun r263 w264 k262 => ?_))
                    obtain ⟨rfl, k262⟩ := k262
                    show e_Pn 20 elay kcode eI n d 145 (342, [(0, (1, 1))], [], w264) _
                    refine e_Pn.ord kAlk [0] rfl rfl ((v_145_342 (k262.rf (h259k.rf s250.1.2.2.2.1)) _  w264 kq.r).imp (fun r266 w267 k265 => ?_))
                    obtain ⟨rfl, k265⟩ := k265
                    exact ⟨rfl, rfl, Or.inr (rpF.tail h259 (k262.tr k265) m261)⟩
                  have s268 := st.re (l' := w 1 13) (m' := v 275 82) (t' := w 1 12) (st.tr s250 h259) (Int.le_refl _) rfl (by omega) (by omega) (by omega)
                  have q269 := st.nums s268
                  clear q252
                  have q269c := q269.2.2.2.1
                  show e_Pn 20 elay kcode eI nq13 dq14 154 (88, [(1, (0, z227)), (2, (0, z227)), (0, (1, 1))], [], w258) _
                  replace hM : e_Rn 20 elay ecode eI d' 350 (95, [(2, (0, z244)), (1, (0, z112)), (0, (1, 275))], [], v255) r' v' := hM
                  refine e_Pn.run (t' := (89, [(1, (0, z227)), (2, (0, z227)), (0, (1, 1))], [(1, 1)], w258)) kAlk 1 rfl ?_
                  refine e_Pn.getr (z := cd) kAlk rfl rfl s268.1.2.2.2.1.2.1 (by omega) ?_
                  refine e_Pn.run (t' := (94, [(1, (0, z227)), (2, (0, z227)), (0, (1, 1))], [(1, 1), (0, z227), (1, cd)], w258)) kAlk 2 rfl ?_
                  refine e_Pn.getr (z := cd) kAlk rfl rfl s268.1.2.2.2.1.2.1 (by omega) ?_
                  refine e_Pn.getf (z := w258 cd 0) kAlk rfl rfl rfl (fun b270 => ?_)
                  refine e_Pn.callA rfl (fun nq dq => l_22 s268.1.2.2.2.1 (x := z227) (od := w258 cd 0) (by omega)) (fun r271 w272 h273 => ?_)
                  obtain ⟨rfl, w272f, w272q⟩ := h273
                  have w272k := kRw.em s268.1.2.2.2.1 (w272f.mono (fun _ _ q => Or.inr q))
                  have w272l : 0 ≤ w272 cd 0 ∧ w272 cd 0 ≤ 4000 := by rw [w272f cd 0 (by unfold kPa; omega)]; exact s268.1.2.2.2.2.2.1
                  have w272e : w272 1 5 = w258 1 5 ∧ w272 1 6 = w258 1 6 ∧ w272 1 8 = w258 1 8 := ⟨w272f 1 5 (by unfold kPa; omega), w272f 1 6 (by unfold kPa; omega), w272f 1 8 (by unfold kPa; omega)⟩
                  have pl275 := plcQ.pa ps228 w232q (w232f cd 0 (by unfold kPa; omega))
                  have pl276 := plcQ.st pl275 h259
                  have s274 := st.pa s268 w272f w272q pl276 (by unfold isCl3; omega)
                  have q277 := st.nums s274
                  clear q269
                  have q277c := q277.2.2.2.1
                  show e_Pn 20 elay kcode eI nq13 dq14 154 (103, [(1, (0, z227)), (2, (0, z227)), (0, (1, 1))], [], w272) _
                  refine e_Pn.run (t' := (106, [(1, (0, z227)), (2, (0, z227)), (0, (1, 1))], [(0, 23), (1, 1)], w272)) kAlk 2 rfl ?_
                  replace hM := hM.st (t' := (97, [(2, (0, z244)), (1, (0, z112)), (0, (1, 275))], [(0, z244), (1, 275)], v255)) (fun _ _ q => e_Pn.run eAlk 2 rfl q)
                  obtain ⟨dc278, r279, v280, hc281, hM⟩ := hM.ca rfl
                  obtain ⟨rfl, v280f⟩ := hc281.pn (fun nq => x_337 s268.1.2.2.2.2.1)
                  have v280m := mfr.rf v280f s268.1.2.2.2.2.1
                  replace hM : e_Rn 20 elay ecode eI d' 350 (100, [(2, (0, z244)), (1, (0, z112)), (0, (1, 275))], [], v280) r' v' := hM
                  replace hM := hM.st (t' := (111, [(2, (0, z244)), (1, (0, z112)), (0, (1, 275))], [(0, 2), (1, 275), (1, 275)], v280)) (fun _ _ q => e_Pn.run eAlk 4 rfl q)
                  obtain ⟨dc283, r284, v285, hc286, hM⟩ := hM.ca rfl
                  obtain ⟨z287, rfl, rfl, z287q⟩ := hc286.pn (fun nq => l_332)
                  replace z287q := isS (kM_key (k := 2) s268.1.2.1.2.2.1 (by decide)) ((v280f 275 84 (by unfold mEm; omega)).trans rfl) ((v280f 275 85 (by unfold mEm; omega)).trans rfl) z287q
                  replace hM : e_Rn 20 elay ecode eI d' 350 (114, [(2, (0, z244)), (1, (0, z112)), (0, (1, 275))], [(0, z287), (1, 275)], v280) r' v' := hM
                  have e289a : w272 1 11 = w272 1 11 := rfl
                  have e289b : v280 275 83 = v255 275 83 := (v280f 275 83 (by unfold mEm; omega))
                  have e289c : w272 1 13 = w272 1 13 := rfl
                  have e289d : v280 275 82 = v255 275 82 := (v280f 275 82 (by unfold mEm; omega))
                  have e289f : w272 1 12 = w272 1 12 := rfl
                  have e289e : v280 275 80 = v255 275 80 := (v280f 275 80 (by unfold mEm; omega))
                  have s288 := st.gen (o' := 1) (l' := w 1 13) (m' := v 275 82) (t' := w 1 12) (b' := 0) s274 (e_fr.refl w272) (e_fr.trans (e_fr.refl v255) (e_fr.mono v280f (fun c k q => by unfold mEm at q; unfold mGs; omega))) (by omega) (by omega) (by omega) (by omega)
                  have q290 := st.nums s288
                  clear q277 e289a e289b e289c e289d e289e e289f
                  have q290c := q290.2.2.2.1
                  obtain ⟨dc291, r292, v293, hc294, hM⟩ := hM.ca rfl
                  have uhc294 := hc294.pn (fun nq => u_334 s288.1.2.2.2.2.1)
                  refine e_Pn.callA rfl (fun nq dq => e_Pn.and (t_129b s288.1.1 s288.1.2.1 (by have q9 : w272 1 5 = w258 1 5 := (by omega); rw [q9]; exact z287q) (d' := dc291) hc294) (u_129 s288.1.2.2.2.1)) (fun r295 w296 h297 => ?_)
                  obtain ⟨⟨rfl, rfl, h297⟩, -, h297k⟩ := h297
                  rcases h297.symm with h297 | ⟨h297c, h297⟩
                  · skip
                    replace hM : e_Rn 20 elay ecode eI d' 350 (117, [(2, (0, z244)), (1, (0, z112)), (0, (1, 275))], [], v293) r' v' := hM
                    obtain ⟨rfl, m298⟩ := (e_Rn.le eAlk [0, 1] rfl rfl hM).pn (fun nq => v_350_117 (uhc294.2.rf s288.1.2.2.2.2.1) _ z112 v293 mq.r)
                    show e_Pn 20 elay kcode eI nq13 dq14 154 (109, [(1, (0, z227)), (2, (0, z227)), (0, (1, 1))], [], w296) _
                    refine e_Pn.ord kAlk [0, 1] rfl rfl ((v_154_109 (h297k.rf s288.1.2.2.2.1) _ z227 w296 kq.r).imp (fun r300 w301 k299 => ?_))
                    obtain ⟨rfl, k299⟩ := k299
                    show e_Pn 20 elay kcode eI n d 145 (342, [(0, (1, 1))], [], w301) _
                    refine e_Pn.ord kAlk [0] rfl rfl ((v_145_342 (k299.rf (h297k.rf s288.1.2.2.2.1)) _  w301 kq.r).imp (fun r303 w304 k302 => ?_))
                    obtain ⟨rfl, k302⟩ := k302
                    exact ⟨rfl, rfl, Or.inr (rpF.tail h297 (k299.tr k302) m298)⟩
                  clear z287q
                  have s305 := st.ad (k := 3) s288 h297 (st.len3 s288 (Or.inl h297c)) (by omega)
                  have s305n := h297.2.2.2.1
                  have s305m := st.len3 s288 (Or.inl h297c)
                  have s305g : w 1 6 + 1 ≤ w296 1 6 := by omega
                  have q306 := st.nums s305
                  clear q290
                  have q306c := q306.2.2.2.1
                  show e_Pn 20 elay kcode eI nq13 dq14 154 (109, [(1, (0, z227)), (2, (0, z227)), (0, (1, 1))], [], w296) _
                  replace hM : e_Rn 20 elay ecode eI d' 350 (117, [(2, (0, z244)), (1, (0, z112)), (0, (1, 275))], [], v293) r' v' := hM
                  refine e_Pn.run (t' := (111, [(1, (0, z227)), (2, (0, z227)), (0, (1, 1))], [(1, 1), (1, 1)], w296)) kAlk 2 rfl ?_
                  refine e_Pn.getf (z := w296 1 11) kAlk rfl rfl rfl (fun b307 => ?_)
                  refine e_Pn.run (t' := (115, [(1, (0, z227)), (2, (0, z227)), (0, (1, 1))], [(0, 1), (0, w296 1 11), (1, 1)], w296)) kAlk 1 rfl ?_
                  refine e_Pn.sub' (z := w296 1 11 - 1) kAlk rfl (by omega) (by omega) ?_
                  refine e_Pn.putf kAlk rfl rfl ?_
                  generalize hw308 : e_up w296 1 11 (w296 1 11 - 1) = w308
                  have w308g : e_fr (kGs cd) w296 w308 := (e_fr.up (e_fr.refl w296) hw308 (by unfold kGs; omega))
                  have w308k := kRw.gs s305.1.2.2.2.1 w308g
                  have w308l : 0 ≤ w308 cd 0 ∧ w308 cd 0 ≤ 4000 := by rw [w308g cd 0 (by unfold kGs; omega)]; exact s305.1.2.2.2.2.2.1
                  have w308e : w308 1 5 = w296 1 5 ∧ w308 1 6 = w296 1 6 ∧ w308 1 8 = w296 1 8 := ⟨w308g 1 5 (by unfold kGs; omega), w308g 1 6 (by unfold kGs; omega), w308g 1 8 (by unfold kGs; omega)⟩
                  refine e_Pn.ret0 rfl ?_
                  show e_Pn 20 elay kcode eI n d 145 (342, [(0, (1, 1))], [], w308) _
                  refine e_Pn.run (t' := (356, [(0, (1, 1))], [], w308)) kAlk 1 rfl ?_
                  replace hM := hM.st (t' := (119, [(2, (0, z244)), (1, (0, z112)), (0, (1, 275))], [(1, 275), (1, 275)], v293)) (fun _ _ q => e_Pn.run eAlk 2 rfl q)
                  obtain ⟨b309, hM⟩ := hM.of (fun _ _ q => e_Pn.getf (z := v293 275 83) eAlk rfl rfl rfl q)
                  replace hM := hM.st (t' := (123, [(2, (0, z244)), (1, (0, z112)), (0, (1, 275))], [(0, 1), (0, v293 275 83), (1, 275)], v293)) (fun _ _ q => e_Pn.run eAlk 1 rfl q)
                  replace hM := hM.st (fun _ _ q => e_Pn.sub' (z := v293 275 83 - 1) eAlk rfl (by omega) (by omega) q)
                  replace hM := hM.st (fun _ _ q => e_Pn.putf eAlk rfl rfl q)
                  generalize hv310 : e_up v293 275 83 (v293 275 83 - 1) = v310 at hM
                  have v310m := mRw.upd hv310 (fun _ => by omega) s305.1.2.2.2.2.1
                  have e312a : w308 1 11 = w296 1 11 - 1 := (by rw [← hw308]; exact e_up_eq _ _ _ _)
                  have e312b : v310 275 83 = v293 275 83 - 1 := (by rw [← hv310]; exact e_up_eq _ _ _ _)
                  have e312c : w308 1 13 = w296 1 13 := (by rw [← hw308]; exact e_up_ne _ _ (Or.inr (by omega)))
                  have e312d : v310 275 82 = v293 275 82 := (by rw [← hv310]; exact e_up_ne _ _ (Or.inr (by omega)))
                  have e312f : w308 1 12 = w296 1 12 := (by rw [← hw308]; exact e_up_ne _ _ (Or.inr (by omega)))
                  have e312e : v310 275 80 = v293 275 80 := (by rw [← hv310]; exact e_up_ne _ _ (Or.inr (by omega)))
                  have s311 := st.gen (o' := 0) (l' := w 1 13) (m' := v 275 82) (t' := w 1 12) (b' := 0) s305 (e_fr.up (e_fr.refl w296) hw308 (by unfold kGs; omega)) (e_fr.up (e_fr.refl v293) hv310 (by unfold mGs; omega)) (by omega) (by omega) (by omega) (by omega)
                  have q313 := st.nums s311
                  clear q306 e312a e312b e312c e312d e312e e312f
                  have q313c := q313.2.2.2.1
                  obtain ⟨rfl, rfl⟩ := hM.re0 rfl
                  refine e_Pn.ret0 rfl ?_
                  exact ⟨rfl, rfl, Or.inl ⟨st.re s311 (by omega) (by omega) (by omega) (by omega) (by omega), by omega⟩⟩
        · replace h49 : (0 : Int) ≠ 0 := by have q : ¬ ((0 : Int) = 0) := h49; omega
          exact (kM_no s29.1.2.1.2.2.1 (fun a b => decide ((a : Int) = 39) && decide ((a : Int) ≠ 41) && decide ((a : Int) = 39) && decide ((0 : Int) ≠ 0)) (fun a b c => true) (by decide) (by decide) (by simp only [Bool.and_eq_true, decide_eq_true_eq]; exact ⟨⟨⟨t31, t32⟩, t33⟩, h49⟩) rfl).elim
      · replace h34 : (1 : Int) = 0 := by have q : ¬ ((1 : Int) ≠ 0) := h34; omega
        exfalso; omega
end
