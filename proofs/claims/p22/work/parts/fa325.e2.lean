noncomputable section
/-! the readers in lockstep: statements -/
set_option maxHeartbeats 4000000 in
theorem e_145_28 {n : Nat} {N cd : Int} {w v : eW} (hz : st0 N cd w v) (hp : 1 ≤ w 1 6) (hkd : w 1 5 = 28) (ihS : ∀ k, k < n → sE k) {d d' : Nat} {r' : List eV} {v' : eW} (hM : e_Rn 20 elay ecode eI d' 349 (0, [(0, (1, 275)), (1, (0, 7))], [], v) r' v') : e_Pn 20 elay kcode eI n d 145 (0, [(0, (1, 1))], [], w) (fun r w' => r = [] ∧ r' = [] ∧ ((st N cd w v w' v' 0 0 0 (-1) (w 1 13) (v 275 82) (w 1 12) 2 ∧ w 1 6 < w' 1 6) ∨ rpF w' v')) := by
  have h0 := hz.st (ka := 2)
  have hm := hz.1.2.2.2.1.1.m
  have hn := hz.1.2.2.2.1.1.n
  have hzo := hz.2.2.2
  have q1 := st.nums h0
  have q1c := q1.2.2.2.1
  refine e_Pn.run (t' := (1, [(0, (1, 1))], [(1, 1)], w)) kAlk 1 rfl ?_
  refine e_Pn.getf (z := w 1 5) kAlk rfl rfl rfl (fun b2 => ?_)
  refine e_Pn.run (t' := (6, [(0, (1, 1))], [(0, 41), (0, w 1 5)], w)) kAlk 1 rfl ?_
  refine e_Pn.if2 kAlk rfl (fun h3 => ?_) (fun h3 => ?_)
  · replace h3 : (w 1 5 : Int) = 41 := h3
    exact (kM_no h0.1.2.1.2.2.1 (fun a b => decide ((a : Int) = 28) && decide ((a : Int) = 41)) (fun a b c => true) (by decide) (by decide) (by simp only [Bool.and_eq_true, decide_eq_true_eq]; exact ⟨hkd, h3⟩) rfl).elim
  · replace h3 : (w 1 5 : Int) ≠ 41 := by have q : ¬ ((w 1 5 : Int) = 41) := h3; omega
    refine e_Pn.run (t' := (10, [(0, (1, 1))], [(1, 1)], w)) kAlk 1 rfl ?_
    refine e_Pn.getr (z := cd) kAlk rfl rfl h0.1.2.2.2.1.2.1 (by omega) ?_
    refine e_Pn.run (t' := (16, [(0, (1, 1))], [(0, 0), (0, 50), (1, cd)], w)) kAlk 2 rfl ?_
    refine e_Pn.callA rfl (fun nq dq => l_21 h0.1.2.2.2.1 (op := 50) (od := 0) (by omega) (by omega) h0.1.2.2.2.2.2.1) (fun r4 w5 h6 => ?_)
    obtain ⟨z7, rfl, w5f, w5q⟩ := h6
    have w5k := kRw.em h0.1.2.2.2.1 w5f
    have w5l := (emQ.len w5q h0.1.2.2.2.2.2.1).1
    have w5e : w5 1 5 = w 1 5 ∧ w5 1 6 = w 1 6 ∧ w5 1 8 = w 1 8 := ⟨w5f 1 5 (by unfold kEm; omega), w5f 1 6 (by unfold kEm; omega), w5f 1 8 (by unfold kEm; omega)⟩
    have s8 := st.em h0 w5f w5q (by omega) (by unfold isCl3; omega)
    have q9 := st.nums s8
    have q9c := q9.2.2.2.1
    have z7r : 0 ≤ z7 ∧ z7 ≤ 4000 := emQ.z w5q h0.1.2.2.2.2.2.1
    show e_Pn 20 elay kcode eI n d 145 (19, [(0, (1, 1))], [(0, z7)], w5) _
    refine e_Pn.run (t' := (21, [(0, (1, 1))], [(1, 1)], w5)) kAlk 2 rfl ?_
    refine e_Pn.getf (z := w 1 5) kAlk rfl rfl ((w5f 1 5 (by unfold kEm; omega)).trans rfl) (fun b10 => ?_)
    have hs12 : ∀ x : Int, 28 ≤ x ∧ x ≤ 28 → (x = 28) := fun x h => by omega
    obtain h11 := hs12 (w 1 5) (by omega)
    · refine e_Pn.sw (tg := 243) kAlk rfl (by rw [h11]; rfl) ?_
      replace h11 : (w 1 5 : Int) = 28 := h11
      refine e_Pn.run (t' := (246, [(0, (1, 1))], [(0, 31), (1, 1)], w5)) kAlk 2 rfl ?_
      refine e_Pn.callJ rfl (fun nq13 hnq13 dq14 => ?_)
      show e_Pn 20 elay kcode eI nq13 dq14 147 (0, [(0, (1, 1)), (1, (0, 31))], [], w5) _
      refine e_Pn.run (t' := (1, [(0, (1, 1)), (1, (0, 31))], [(1, 1)], w5)) kAlk 1 rfl ?_
      replace hM := hM.st (t' := (4, [(0, (1, 275)), (1, (0, 7))], [(0, 0), (0, 30), (1, 275)], v)) (fun _ _ q => e_Pn.run eAlk 3 rfl q)
      obtain ⟨dc15, r16, v17, hc18, hM⟩ := hM.ca rfl
      obtain ⟨⟨z19, rfl⟩, v17f⟩ := hc18.pn (fun nq => x_336 h0.1.2.2.2.2.1)
      have v17m := mfr.rf v17f h0.1.2.2.2.2.1
      replace hM : e_Rn 20 elay ecode eI d' 349 (7, [(0, (1, 275)), (1, (0, 7))], [(0, z19)], v17) r' v' := hM
      replace hM := hM.st (t' := (9, [(0, (1, 275)), (1, (0, 7))], [(1, 275)], v17)) (fun _ _ q => e_Pn.run eAlk 2 rfl q)
      obtain ⟨b20, hM⟩ := hM.of (fun _ _ q => e_Pn.getf (z := v17 275 78) eAlk rfl rfl rfl q)
      replace hM := hM.st (t' := (16, [(2, (0, v17 275 78)), (0, (1, 275)), (1, (0, 7))], [(0, 17), (0, 7)], v17)) (fun _ _ q => e_Pn.run eAlk 3 rfl q)
      rcases hM.or (fun _ _ q1 q2 => e_Pn.if2 eAlk rfl q1 q2) with ⟨h21, hM⟩ | ⟨h21, hM⟩
      · replace h21 : (7 : Int) ≠ 17 := h21
        replace hM := hM.st (t' := (70, [(2, (0, v17 275 78)), (0, (1, 275)), (1, (0, 7))], [(1, 275)], v17)) (fun _ _ q => e_Pn.run eAlk 1 rfl q)
        have e23a : w5 1 11 = w5 1 11 := rfl
        have e23b : v17 275 83 = v 275 83 := (v17f 275 83 (by unfold mEm; omega))
        have e23c : w5 1 13 = w5 1 13 := rfl
        have e23d : v17 275 82 = v 275 82 := (v17f 275 82 (by unfold mEm; omega))
        have e23f : w5 1 12 = w5 1 12 := rfl
        have e23e : v17 275 80 = v 275 80 := (v17f 275 80 (by unfold mEm; omega))
        have s22 := st.gen (o' := 0) (l' := w 1 13) (m' := v 275 82) (t' := w 1 12) (b' := 0) s8 (e_fr.refl w5) (e_fr.trans (e_fr.refl v) (e_fr.mono v17f (fun c k q => by unfold mEm at q; unfold mGs; omega))) (by omega) (by omega) (by omega) (by omega)
        have q24 := st.nums s22
        clear q9 e23a e23b e23c e23d e23e e23f
        have q24c := q24.2.2.2.1
        obtain ⟨dc25, r26, v27, hc28, hM⟩ := hM.ca rfl
        refine e_Pn.callA rfl (fun nq dq => t_123b s22.1.1 s22.1.2.1.1 s22.1.2.1.2.1.2.1 (st.nx s22) (d' := dc25) hc28) (fun r29 w30 h31 => ?_)
        obtain ⟨rfl, rfl, h31⟩ := h31
        have s32 := st.ad (k := 2) s22 h31 (st.len2 s22 (by omega)) (by omega)
        have s32n := h31.2.2.2.1
        have s32m := st.len2 s22 (by omega)
        have s32g : w 1 6 + 1 ≤ w30 1 6 := by omega
        have q33 := st.nums s32
        clear q24
        have q33c := q33.2.2.2.1
        show e_Pn 20 elay kcode eI nq13 dq14 147 (4, [(0, (1, 1)), (1, (0, 31))], [], w30) _
        replace hM : e_Rn 20 elay ecode eI d' 349 (73, [(2, (0, v17 275 78)), (0, (1, 275)), (1, (0, 7))], [], v27) r' v' := hM
        refine e_Pn.run (t' := (5, [(0, (1, 1)), (1, (0, 31))], [(1, 1)], w30)) kAlk 1 rfl ?_
        refine e_Pn.getr (z := cd) kAlk rfl rfl s32.1.2.2.2.1.2.1 (by omega) ?_
        refine e_Pn.getf (z := w30 cd 0) kAlk rfl rfl rfl (fun b34 => ?_)
        refine e_Pn.run (t' := (13, [(2, (0, w30 cd 0)), (0, (1, 1)), (1, (0, 31))], [(1, 1)], w30)) kAlk 2 rfl ?_
        replace hM := hM.st (t' := (74, [(2, (0, v17 275 78)), (0, (1, 275)), (1, (0, 7))], [(0, 7)], v27)) (fun _ _ q => e_Pn.run eAlk 1 rfl q)
        have hs36 : ∀ x : Int, 7 ≤ x ∧ x ≤ 7 → (x = 7) := fun x h => by omega
        obtain h35 := hs36 (7) (by omega)
        · replace hM := hM.st (fun _ _ q => e_Pn.sw (tg := 330) eAlk rfl (by rw [h35]; rfl) q)
          replace hM := hM.st (t' := (331, [(2, (0, v17 275 78)), (0, (1, 275)), (1, (0, 7))], [(1, 275)], v27)) (fun _ _ q => e_Pn.run eAlk 1 rfl q)
          obtain ⟨dc37, r38, v39, hc40, hM⟩ := hM.ca rfl
          have uhc40 := hc40.pn (fun nq => uE_all nq 339 (by decide) _ _ s32.1.2.2.2.2.1)
          have z44 : stE N cd w30 v27 := st.zE s32 (by omega) (by omega)
          refine e_Pn.callA rfl (fun nq dq => e_Pn.and (eEg_all nq 158 339 (by decide) _ _ dq _ _ _ z44 hc40) (kE_all nq 158 (by decide) dq _ _ s32.1.2.2.2.1)) (fun r41 w42 h43 => ?_)
          obtain ⟨⟨rfl, rfl, h43⟩, -, h43k⟩ := h43
          rcases h43.symm with h43 | ⟨h43, h43p⟩
          · skip
            replace hM : e_Rn 20 elay ecode eI d' 349 (334, [(2, (0, v17 275 78)), (0, (1, 275)), (1, (0, 7))], [], v39) r' v' := hM
            obtain ⟨rfl, m45⟩ := (e_Rn.le eAlk [0, 1, 2] rfl rfl hM).pn (fun nq => v_349_334 (uhc40.2.rf s32.1.2.2.2.2.1) _ 7 (v17 275 78) v39 mq.r)
            show e_Pn 20 elay kcode eI nq13 dq14 147 (16, [(2, (0, w30 cd 0)), (0, (1, 1)), (1, (0, 31))], [], w42) _
            refine e_Pn.ord kAlk [0, 1, 2] rfl rfl ((v_147_16 (h43k.rf s32.1.2.2.2.1) _ 31 (w30 cd 0) w42 kq.r).imp (fun r47 w48 k46 => ?_))
            obtain ⟨rfl, k46⟩ := k46
            show e_Pn 20 elay kcode eI n d 145 (249, [(0, (1, 1))], [], w48) _
            refine e_Pn.ord kAlk [0] rfl rfl ((v_145_249 (k46.rf (h43k.rf s32.1.2.2.2.1)) _  w48 kq.r).imp (fun r50 w51 k49 => ?_))
            obtain ⟨rfl, k49⟩ := k49
            exact ⟨rfl, rfl, Or.inr (rpF.tail h43 (k46.tr k49) m45)⟩
          have s52 := st.re (l' := w 1 13) (m' := v 275 82) (t' := w 1 12) (st.tr s32 h43) (Int.le_refl _) rfl (by omega) (by omega) (by omega)
          have q53 := st.nums s52
          clear q33
          have q53c := q53.2.2.2.1
          show e_Pn 20 elay kcode eI nq13 dq14 147 (16, [(2, (0, w30 cd 0)), (0, (1, 1)), (1, (0, 31))], [], w42) _
          replace hM : e_Rn 20 elay ecode eI d' 349 (334, [(2, (0, v17 275 78)), (0, (1, 275)), (1, (0, 7))], [], v39) r' v' := hM
          refine e_Pn.run (t' := (19, [(2, (0, w30 cd 0)), (0, (1, 1)), (1, (0, 31))], [(0, 19), (1, 1)], w42)) kAlk 2 rfl ?_
          replace hM := hM.st (t' := (337, [(2, (0, v17 275 78)), (0, (1, 275)), (1, (0, 7))], [(0, 4), (0, 7), (1, 275)], v39)) (fun _ _ q => e_Pn.run eAlk 3 rfl q)
          rcases hM.or (fun _ _ q1 q2 => e_Pn.if2 eAlk rfl q1 q2) with ⟨h54, hM⟩ | ⟨h54, hM⟩
          · replace h54 : (7 : Int) ≠ 4 := h54
            replace hM := hM.st (t' := (347, [(2, (0, v17 275 78)), (0, (1, 275)), (1, (0, 7))], [(0, 5), (0, 7), (1, 275)], v39)) (fun _ _ q => e_Pn.run eAlk 2 rfl q)
            rcases hM.or (fun _ _ q1 q2 => e_Pn.if2 eAlk rfl q1 q2) with ⟨h55, hM⟩ | ⟨h55, hM⟩
            · replace h55 : (7 : Int) ≠ 5 := h55
              replace hM := hM.st (t' := (358, [(2, (0, v17 275 78)), (0, (1, 275)), (1, (0, 7))], [(0, 7), (0, 7), (1, 275)], v39)) (fun _ _ q => e_Pn.run eAlk 2 rfl q)
              rcases hM.or (fun _ _ q1 q2 => e_Pn.if2 eAlk rfl q1 q2) with ⟨h56, hM⟩ | ⟨h56, hM⟩
              · replace h56 : (7 : Int) ≠ 7 := h56
                exfalso; omega
              · replace h56 : (7 : Int) = 7 := by have q : ¬ ((7 : Int) ≠ 7) := h56; omega
                replace hM := hM.st (t' := (391, [(2, (0, v17 275 78)), (0, (1, 275)), (1, (0, 7))], [(0, v17 275 78), (0, 36), (1, 275)], v39)) (fun _ _ q => e_Pn.run eAlk 3 rfl q)
                obtain ⟨dc57, r58, v59, hc60, hM⟩ := hM.ca rfl
                obtain ⟨⟨z61, rfl⟩, v59f⟩ := hc60.pn (fun nq => x_336 s52.1.2.2.2.2.1)
                have v59m := mfr.rf v59f s52.1.2.2.2.2.1
                replace hM : e_Rn 20 elay ecode eI d' 349 (394, [(2, (0, v17 275 78)), (0, (1, 275)), (1, (0, 7))], [(0, z61)], v59) r' v' := hM
                replace hM := hM.st (t' := (399, [(2, (0, v17 275 78)), (0, (1, 275)), (1, (0, 7))], [(0, 59), (1, 275), (1, 275)], v59)) (fun _ _ q => e_Pn.run eAlk 4 rfl q)
                obtain ⟨dc62, r63, v64, hc65, hM⟩ := hM.ca rfl
                obtain ⟨z66, rfl, rfl, z66q⟩ := hc65.pn (fun nq => l_331)
                replace z66q := isS (kM_s59 s52.1.2.1.2.2.1) ((v59f 275 84 (by unfold mEm; omega)).trans rfl) ((v59f 275 85 (by unfold mEm; omega)).trans rfl) z66q
                replace hM : e_Rn 20 elay ecode eI d' 349 (402, [(2, (0, v17 275 78)), (0, (1, 275)), (1, (0, 7))], [(0, z66), (1, 275)], v59) r' v' := hM
                have e68a : w42 1 11 = w42 1 11 := rfl
                have e68b : v59 275 83 = v39 275 83 := (v59f 275 83 (by unfold mEm; omega))
                have e68c : w42 1 13 = w42 1 13 := rfl
                have e68d : v59 275 82 = v39 275 82 := (v59f 275 82 (by unfold mEm; omega))
                have e68f : w42 1 12 = w42 1 12 := rfl
                have e68e : v59 275 80 = v39 275 80 := (v59f 275 80 (by unfold mEm; omega))
                have s67 := st.gen (o' := 0) (l' := w 1 13) (m' := v 275 82) (t' := w 1 12) (b' := 0) s52 (e_fr.refl w42) (e_fr.trans (e_fr.refl v39) (e_fr.mono v59f (fun c k q => by unfold mEm at q; unfold mGs; omega))) (by omega) (by omega) (by omega) (by omega)
                have q69 := st.nums s67
                clear q53 e68a e68b e68c e68d e68e e68f
                have q69c := q69.2.2.2.1
                obtain ⟨dc70, r71, v72, hc73, hM⟩ := hM.ca rfl
                have uhc73 := hc73.pn (fun nq => u_334 s67.1.2.2.2.2.1)
                refine e_Pn.callA rfl (fun nq dq => e_Pn.and (t_129b s67.1.1 s67.1.2.1 z66q (d' := dc70) hc73) (u_129 s67.1.2.2.2.1)) (fun r74 w75 h76 => ?_)
                obtain ⟨⟨rfl, rfl, h76⟩, -, h76k⟩ := h76
                rcases h76.symm with h76 | ⟨h76c, h76⟩
                · skip
                  replace hM : e_Rn 20 elay ecode eI d' 349 (405, [(2, (0, v17 275 78)), (0, (1, 275)), (1, (0, 7))], [], v72) r' v' := hM
                  obtain ⟨rfl, m77⟩ := (e_Rn.le eAlk [0, 1, 2] rfl rfl hM).pn (fun nq => v_349_405 (uhc73.2.rf s67.1.2.2.2.2.1) _ 7 (v17 275 78) v72 mq.r)
                  show e_Pn 20 elay kcode eI nq13 dq14 147 (22, [(2, (0, w30 cd 0)), (0, (1, 1)), (1, (0, 31))], [], w75) _
                  refine e_Pn.ord kAlk [0, 1, 2] rfl rfl ((v_147_22 (h76k.rf s67.1.2.2.2.1) _ 31 (w30 cd 0) w75 kq.r).imp (fun r79 w80 k78 => ?_))
                  obtain ⟨rfl, k78⟩ := k78
                  show e_Pn 20 elay kcode eI n d 145 (249, [(0, (1, 1))], [], w80) _
                  refine e_Pn.ord kAlk [0] rfl rfl ((v_145_249 (k78.rf (h76k.rf s67.1.2.2.2.1)) _  w80 kq.r).imp (fun r82 w83 k81 => ?_))
                  obtain ⟨rfl, k81⟩ := k81
                  exact ⟨rfl, rfl, Or.inr (rpF.tail h76 (k78.tr k81) m77)⟩
                clear z66q
                have s84 := st.ad (k := 1) s67 h76 (st.len1 s67 (by omega)) (by omega)
                have s84n := h76.2.2.2.1
                have s84m := st.len1 s67 (by omega)
                have s84g : w 1 6 + 1 ≤ w75 1 6 := by omega
                have q85 := st.nums s84
                clear q69
                have q85c := q85.2.2.2.1
                show e_Pn 20 elay kcode eI nq13 dq14 147 (22, [(2, (0, w30 cd 0)), (0, (1, 1)), (1, (0, 31))], [], w75) _
                replace hM : e_Rn 20 elay ecode eI d' 349 (405, [(2, (0, v17 275 78)), (0, (1, 275)), (1, (0, 7))], [], v72) r' v' := hM
                refine e_Pn.run (t' := (23, [(2, (0, w30 cd 0)), (0, (1, 1)), (1, (0, 31))], [(1, 1)], w75)) kAlk 1 rfl ?_
                refine e_Pn.getr (z := cd) kAlk rfl rfl s84.1.2.2.2.1.2.1 (by omega) ?_
                refine e_Pn.run (t' := (28, [(2, (0, w30 cd 0)), (0, (1, 1)), (1, (0, 31))], [(0, w30 cd 0), (0, 31), (1, cd)], w75)) kAlk 2 rfl ?_
                refine e_Pn.callA rfl (fun nq dq => l_21 s84.1.2.2.2.1 (op := 31) (od := w30 cd 0) (by omega) (by omega) s84.1.2.2.2.2.2.1) (fun r86 w87 h88 => ?_)
                obtain ⟨z89, rfl, w87f, w87q⟩ := h88
                have w87k := kRw.em s84.1.2.2.2.1 w87f
                have w87l := (emQ.len w87q s84.1.2.2.2.2.2.1).1
                have w87e : w87 1 5 = w75 1 5 ∧ w87 1 6 = w75 1 6 ∧ w87 1 8 = w75 1 8 := ⟨w87f 1 5 (by unfold kEm; omega), w87f 1 6 (by unfold kEm; omega), w87f 1 8 (by unfold kEm; omega)⟩
                have s90 := st.em s84 w87f w87q (by omega) (by unfold isCl3; omega)
                have q91 := st.nums s90
                clear q85
                have q91c := q91.2.2.2.1
                have z89r : 0 ≤ z89 ∧ z89 ≤ 4000 := emQ.z w87q s84.1.2.2.2.2.2.1
                show e_Pn 20 elay kcode eI nq13 dq14 147 (31, [(2, (0, w30 cd 0)), (0, (1, 1)), (1, (0, 31))], [(0, z89)], w87) _
                refine e_Pn.run (t' := (32, [(2, (0, w30 cd 0)), (0, (1, 1)), (1, (0, 31))], [], w87)) kAlk 1 rfl ?_
                refine e_Pn.ret0 rfl ?_
                show e_Pn 20 elay kcode eI n d 145 (249, [(0, (1, 1))], [], w87) _
                refine e_Pn.run (t' := (356, [(0, (1, 1))], [], w87)) kAlk 1 rfl ?_
                obtain ⟨rfl, rfl⟩ := hM.re0 rfl
                refine e_Pn.ret0 rfl ?_
                exact ⟨rfl, rfl, Or.inl ⟨st.re s90 (by omega) (by omega) (by omega) (by omega) (by omega), by omega⟩⟩
            · replace h55 : (7 : Int) = 5 := by have q : ¬ ((7 : Int) ≠ 5) := h55; omega
              exfalso; omega
          · replace h54 : (7 : Int) = 4 := by have q : ¬ ((7 : Int) ≠ 4) := h54; omega
            exfalso; omega
      · replace h21 : (7 : Int) = 17 := by have q : ¬ ((7 : Int) ≠ 17) := h21; omega
        exfalso; omega
set_option maxHeartbeats 4000000 in
theorem e_145_29 {n : Nat} {N cd : Int} {w v : eW} (hz : st0 N cd w v) (hp : 1 ≤ w 1 6) (hkd : w 1 5 = 29) (ihS : ∀ k, k < n → sE k) {d d' : Nat} {r' : List eV} {v' : eW} (hM : e_Rn 20 elay ecode eI d' 349 (0, [(0, (1, 275)), (1, (0, 8))], [], v) r' v') : e_Pn 20 elay kcode eI n d 145 (0, [(0, (1, 1))], [], w) (fun r w' => r = [] ∧ r' = [] ∧ ((st N cd w v w' v' 0 0 0 (-1) (w 1 13) (v 275 82) (w 1 12) 2 ∧ w 1 6 < w' 1 6) ∨ rpF w' v')) := by
  have h0 := hz.st (ka := 2)
  have hm := hz.1.2.2.2.1.1.m
  have hn := hz.1.2.2.2.1.1.n
  have hzo := hz.2.2.2
  have q1 := st.nums h0
  have q1c := q1.2.2.2.1
  refine e_Pn.run (t' := (1, [(0, (1, 1))], [(1, 1)], w)) kAlk 1 rfl ?_
  refine e_Pn.getf (z := w 1 5) kAlk rfl rfl rfl (fun b2 => ?_)
  refine e_Pn.run (t' := (6, [(0, (1, 1))], [(0, 41), (0, w 1 5)], w)) kAlk 1 rfl ?_
  refine e_Pn.if2 kAlk rfl (fun h3 => ?_) (fun h3 => ?_)
  · replace h3 : (w 1 5 : Int) = 41 := h3
    exact (kM_no h0.1.2.1.2.2.1 (fun a b => decide ((a : Int) = 29) && decide ((a : Int) = 41)) (fun a b c => true) (by decide) (by decide) (by simp only [Bool.and_eq_true, decide_eq_true_eq]; exact ⟨hkd, h3⟩) rfl).elim
  · replace h3 : (w 1 5 : Int) ≠ 41 := by have q : ¬ ((w 1 5 : Int) = 41) := h3; omega
    refine e_Pn.run (t' := (10, [(0, (1, 1))], [(1, 1)], w)) kAlk 1 rfl ?_
    refine e_Pn.getr (z := cd) kAlk rfl rfl h0.1.2.2.2.1.2.1 (by omega) ?_
    refine e_Pn.run (t' := (16, [(0, (1, 1))], [(0, 0), (0, 50), (1, cd)], w)) kAlk 2 rfl ?_
    refine e_Pn.callA rfl (fun nq dq => l_21 h0.1.2.2.2.1 (op := 50) (od := 0) (by omega) (by omega) h0.1.2.2.2.2.2.1) (fun r4 w5 h6 => ?_)
    obtain ⟨z7, rfl, w5f, w5q⟩ := h6
    have w5k := kRw.em h0.1.2.2.2.1 w5f
    have w5l := (emQ.len w5q h0.1.2.2.2.2.2.1).1
    have w5e : w5 1 5 = w 1 5 ∧ w5 1 6 = w 1 6 ∧ w5 1 8 = w 1 8 := ⟨w5f 1 5 (by unfold kEm; omega), w5f 1 6 (by unfold kEm; omega), w5f 1 8 (by unfold kEm; omega)⟩
    have s8 := st.em h0 w5f w5q (by omega) (by unfold isCl3; omega)
    have q9 := st.nums s8
    have q9c := q9.2.2.2.1
    have z7r : 0 ≤ z7 ∧ z7 ≤ 4000 := emQ.z w5q h0.1.2.2.2.2.2.1
    show e_Pn 20 elay kcode eI n d 145 (19, [(0, (1, 1))], [(0, z7)], w5) _
    refine e_Pn.run (t' := (21, [(0, (1, 1))], [(1, 1)], w5)) kAlk 2 rfl ?_
    refine e_Pn.getf (z := w 1 5) kAlk rfl rfl ((w5f 1 5 (by unfold kEm; omega)).trans rfl) (fun b10 => ?_)
    have hs12 : ∀ x : Int, 29 ≤ x ∧ x ≤ 29 → (x = 29) := fun x h => by omega
    obtain h11 := hs12 (w 1 5) (by omega)
    · refine e_Pn.sw (tg := 252) kAlk rfl (by rw [h11]; rfl) ?_
      replace h11 : (w 1 5 : Int) = 29 := h11
      refine e_Pn.run (t' := (255, [(0, (1, 1))], [(0, 32), (1, 1)], w5)) kAlk 2 rfl ?_
      refine e_Pn.callJ rfl (fun nq13 hnq13 dq14 => ?_)
      show e_Pn 20 elay kcode eI nq13 dq14 147 (0, [(0, (1, 1)), (1, (0, 32))], [], w5) _
      refine e_Pn.run (t' := (1, [(0, (1, 1)), (1, (0, 32))], [(1, 1)], w5)) kAlk 1 rfl ?_
      replace hM := hM.st (t' := (4, [(0, (1, 275)), (1, (0, 8))], [(0, 0), (0, 30), (1, 275)], v)) (fun _ _ q => e_Pn.run eAlk 3 rfl q)
      obtain ⟨dc15, r16, v17, hc18, hM⟩ := hM.ca rfl
      obtain ⟨⟨z19, rfl⟩, v17f⟩ := hc18.pn (fun nq => x_336 h0.1.2.2.2.2.1)
      have v17m := mfr.rf v17f h0.1.2.2.2.2.1
      replace hM : e_Rn 20 elay ecode eI d' 349 (7, [(0, (1, 275)), (1, (0, 8))], [(0, z19)], v17) r' v' := hM
      replace hM := hM.st (t' := (9, [(0, (1, 275)), (1, (0, 8))], [(1, 275)], v17)) (fun _ _ q => e_Pn.run eAlk 2 rfl q)
      obtain ⟨b20, hM⟩ := hM.of (fun _ _ q => e_Pn.getf (z := v17 275 78) eAlk rfl rfl rfl q)
      replace hM := hM.st (t' := (16, [(2, (0, v17 275 78)), (0, (1, 275)), (1, (0, 8))], [(0, 17), (0, 8)], v17)) (fun _ _ q => e_Pn.run eAlk 3 rfl q)
      rcases hM.or (fun _ _ q1 q2 => e_Pn.if2 eAlk rfl q1 q2) with ⟨h21, hM⟩ | ⟨h21, hM⟩
      · replace h21 : (8 : Int) ≠ 17 := h21
        replace hM := hM.st (t' := (70, [(2, (0, v17 275 78)), (0, (1, 275)), (1, (0, 8))], [(1, 275)], v17)) (fun _ _ q => e_Pn.run eAlk 1 rfl q)
        have e23a : w5 1 11 = w5 1 11 := rfl
        have e23b : v17 275 83 = v 275 83 := (v17f 275 83 (by unfold mEm; omega))
        have e23c : w5 1 13 = w5 1 13 := rfl
        have e23d : v17 275 82 = v 275 82 := (v17f 275 82 (by unfold mEm; omega))
        have e23f : w5 1 12 = w5 1 12 := rfl
        have e23e : v17 275 80 = v 275 80 := (v17f 275 80 (by unfold mEm; omega))
        have s22 := st.gen (o' := 0) (l' := w 1 13) (m' := v 275 82) (t' := w 1 12) (b' := 0) s8 (e_fr.refl w5) (e_fr.trans (e_fr.refl v) (e_fr.mono v17f (fun c k q => by unfold mEm at q; unfold mGs; omega))) (by omega) (by omega) (by omega) (by omega)
        have q24 := st.nums s22
        clear q9 e23a e23b e23c e23d e23e e23f
        have q24c := q24.2.2.2.1
        obtain ⟨dc25, r26, v27, hc28, hM⟩ := hM.ca rfl
        refine e_Pn.callA rfl (fun nq dq => t_123b s22.1.1 s22.1.2.1.1 s22.1.2.1.2.1.2.1 (st.nx s22) (d' := dc25) hc28) (fun r29 w30 h31 => ?_)
        obtain ⟨rfl, rfl, h31⟩ := h31
        have s32 := st.ad (k := 2) s22 h31 (st.len2 s22 (by omega)) (by omega)
        have s32n := h31.2.2.2.1
        have s32m := st.len2 s22 (by omega)
        have s32g : w 1 6 + 1 ≤ w30 1 6 := by omega
        have q33 := st.nums s32
        clear q24
        have q33c := q33.2.2.2.1
        show e_Pn 20 elay kcode eI nq13 dq14 147 (4, [(0, (1, 1)), (1, (0, 32))], [], w30) _
        replace hM : e_Rn 20 elay ecode eI d' 349 (73, [(2, (0, v17 275 78)), (0, (1, 275)), (1, (0, 8))], [], v27) r' v' := hM
        refine e_Pn.run (t' := (5, [(0, (1, 1)), (1, (0, 32))], [(1, 1)], w30)) kAlk 1 rfl ?_
        refine e_Pn.getr (z := cd) kAlk rfl rfl s32.1.2.2.2.1.2.1 (by omega) ?_
        refine e_Pn.getf (z := w30 cd 0) kAlk rfl rfl rfl (fun b34 => ?_)
        refine e_Pn.run (t' := (13, [(2, (0, w30 cd 0)), (0, (1, 1)), (1, (0, 32))], [(1, 1)], w30)) kAlk 2 rfl ?_
        replace hM := hM.st (t' := (74, [(2, (0, v17 275 78)), (0, (1, 275)), (1, (0, 8))], [(0, 8)], v27)) (fun _ _ q => e_Pn.run eAlk 1 rfl q)
        have hs36 : ∀ x : Int, 8 ≤ x ∧ x ≤ 8 → (x = 8) := fun x h => by omega
        obtain h35 := hs36 (8) (by omega)
        · replace hM := hM.st (fun _ _ q => e_Pn.sw (tg := 330) eAlk rfl (by rw [h35]; rfl) q)
          replace hM := hM.st (t' := (331, [(2, (0, v17 275 78)), (0, (1, 275)), (1, (0, 8))], [(1, 275)], v27)) (fun _ _ q => e_Pn.run eAlk 1 rfl q)
          obtain ⟨dc37, r38, v39, hc40, hM⟩ := hM.ca rfl
          have uhc40 := hc40.pn (fun nq => uE_all nq 339 (by decide) _ _ s32.1.2.2.2.2.1)
          have z44 : stE N cd w30 v27 := st.zE s32 (by omega) (by omega)
          refine e_Pn.callA rfl (fun nq dq => e_Pn.and (eEg_all nq 158 339 (by decide) _ _ dq _ _ _ z44 hc40) (kE_all nq 158 (by decide) dq _ _ s32.1.2.2.2.1)) (fun r41 w42 h43 => ?_)
          obtain ⟨⟨rfl, rfl, h43⟩, -, h43k⟩ := h43
          rcases h43.symm with h43 | ⟨h43, h43p⟩
          · skip
            replace hM : e_Rn 20 elay ecode eI d' 349 (334, [(2, (0, v17 275 78)), (0, (1, 275)), (1, (0, 8))], [], v39) r' v' := hM
            obtain ⟨rfl, m45⟩ := (e_Rn.le eAlk [0, 1, 2] rfl rfl hM).pn (fun nq => v_349_334 (uhc40.2.rf s32.1.2.2.2.2.1) _ 8 (v17 275 78) v39 mq.r)
            show e_Pn 20 elay kcode eI nq13 dq14 147 (16, [(2, (0, w30 cd 0)), (0, (1, 1)), (1, (0, 32))], [], w42) _
            refine e_Pn.ord kAlk [0, 1, 2] rfl rfl ((v_147_16 (h43k.rf s32.1.2.2.2.1) _ 32 (w30 cd 0) w42 kq.r).imp (fun r47 w48 k46 => ?_))
            obtain ⟨rfl, k46⟩ := k46
            show e_Pn 20 elay kcode eI n d 145 (258, [(0, (1, 1))], [], w48) _
            refine e_Pn.ord kAlk [0] rfl rfl ((v_145_258 (k46.rf (h43k.rf s32.1.2.2.2.1)) _  w48 kq.r).imp (fun r50 w51 k49 => ?_))
            obtain ⟨rfl, k49⟩ := k49
            exact ⟨rfl, rfl, Or.inr (rpF.tail h43 (k46.tr k49) m45)⟩
          have s52 := st.re (l' := w 1 13) (m' := v 275 82) (t' := w 1 12) (st.tr s32 h43) (Int.le_refl _) rfl (by omega) (by omega) (by omega)
          have q53 := st.nums s52
          clear q33
          have q53c := q53.2.2.2.1
          show e_Pn 20 elay kcode eI nq13 dq14 147 (16, [(2, (0, w30 cd 0)), (0, (1, 1)), (1, (0, 32))], [], w42) _
          replace hM : e_Rn 20 elay ecode eI d' 349 (334, [(2, (0, v17 275 78)), (0, (1, 275)), (1, (0, 8))], [], v39) r' v' := hM
          refine e_Pn.run (t' := (19, [(2, (0, w30 cd 0)), (0, (1, 1)), (1, (0, 32))], [(0, 19), (1, 1)], w42)) kAlk 2 rfl ?_
          replace hM := hM.st (t' := (337, [(2, (0, v17 275 78)), (0, (1, 275)), (1, (0, 8))], [(0, 4), (0, 8), (1, 275)], v39)) (fun _ _ q => e_Pn.run eAlk 3 rfl q)
          rcases hM.or (fun _ _ q1 q2 => e_Pn.if2 eAlk rfl q1 q2) with ⟨h54, hM⟩ | ⟨h54, hM⟩
          · replace h54 : (8 : Int) ≠ 4 := h54
            replace hM := hM.st (t' := (347, [(2, (0, v17 275 78)), (0, (1, 275)), (1, (0, 8))], [(0, 5), (0, 8), (1, 275)], v39)) (fun _ _ q => e_Pn.run eAlk 2 rfl q)
            rcases hM.or (fun _ _ q1 q2 => e_Pn.if2 eAlk rfl q1 q2) with ⟨h55, hM⟩ | ⟨h55, hM⟩
            · replace h55 : (8 : Int) ≠ 5 := h55
              replace hM := hM.st (t' := (358, [(2, (0, v17 275 78)), (0, (1, 275)), (1, (0, 8))], [(0, 7), (0, 8), (1, 275)], v39)) (fun _ _ q => e_Pn.run eAlk 2 rfl q)
              rcases hM.or (fun _ _ q1 q2 => e_Pn.if2 eAlk rfl q1 q2) with ⟨h56, hM⟩ | ⟨h56, hM⟩
              · replace h56 : (8 : Int) ≠ 7 := h56
                replace hM := hM.st (t' := (369, [(2, (0, v17 275 78)), (0, (1, 275)), (1, (0, 8))], [(0, 8), (0, 8), (1, 275)], v39)) (fun _ _ q => e_Pn.run eAlk 2 rfl q)
                rcases hM.or (fun _ _ q1 q2 => e_Pn.if2 eAlk rfl q1 q2) with ⟨h57, hM⟩ | ⟨h57, hM⟩
                · replace h57 : (8 : Int) ≠ 8 := h57
                  exfalso; omega
                · replace h57 : (8 : Int) = 8 := by have q : ¬ ((8 : Int) ≠ 8) := h57; omega
                  replace hM := hM.st (t' := (391, [(2, (0, v17 275 78)), (0, (1, 275)), (1, (0, 8))], [(0, v17 275 78), (0, 37), (1, 275)], v39)) (fun _ _ q => e_Pn.run eAlk 3 rfl q)
                  obtain ⟨dc58, r59, v60, hc61, hM⟩ := hM.ca rfl
                  obtain ⟨⟨z62, rfl⟩, v60f⟩ := hc61.pn (fun nq => x_336 s52.1.2.2.2.2.1)
                  have v60m := mfr.rf v60f s52.1.2.2.2.2.1
                  replace hM : e_Rn 20 elay ecode eI d' 349 (394, [(2, (0, v17 275 78)), (0, (1, 275)), (1, (0, 8))], [(0, z62)], v60) r' v' := hM
                  replace hM := hM.st (t' := (399, [(2, (0, v17 275 78)), (0, (1, 275)), (1, (0, 8))], [(0, 59), (1, 275), (1, 275)], v60)) (fun _ _ q => e_Pn.run eAlk 4 rfl q)
                  obtain ⟨dc63, r64, v65, hc66, hM⟩ := hM.ca rfl
                  obtain ⟨z67, rfl, rfl, z67q⟩ := hc66.pn (fun nq => l_331)
                  replace z67q := isS (kM_s59 s52.1.2.1.2.2.1) ((v60f 275 84 (by unfold mEm; omega)).trans rfl) ((v60f 275 85 (by unfold mEm; omega)).trans rfl) z67q
                  replace hM : e_Rn 20 elay ecode eI d' 349 (402, [(2, (0, v17 275 78)), (0, (1, 275)), (1, (0, 8))], [(0, z67), (1, 275)], v60) r' v' := hM
                  have e69a : w42 1 11 = w42 1 11 := rfl
                  have e69b : v60 275 83 = v39 275 83 := (v60f 275 83 (by unfold mEm; omega))
                  have e69c : w42 1 13 = w42 1 13 := rfl
                  have e69d : v60 275 82 = v39 275 82 := (v60f 275 82 (by unfold mEm; omega))
                  have e69f : w42 1 12 = w42 1 12 := rfl
                  have e69e : v60 275 80 = v39 275 80 := (v60f 275 80 (by unfold mEm; omega))
                  have s68 := st.gen (o' := 0) (l' := w 1 13) (m' := v 275 82) (t' := w 1 12) (b' := 0) s52 (e_fr.refl w42) (e_fr.trans (e_fr.refl v39) (e_fr.mono v60f (fun c k q => by unfold mEm at q; unfold mGs; omega))) (by omega) (by omega) (by omega) (by omega)
                  have q70 := st.nums s68
                  clear q53 e69a e69b e69c e69d e69e e69f
                  have q70c := q70.2.2.2.1
                  obtain ⟨dc71, r72, v73, hc74, hM⟩ := hM.ca rfl
                  have uhc74 := hc74.pn (fun nq => u_334 s68.1.2.2.2.2.1)
                  refine e_Pn.callA rfl (fun nq dq => e_Pn.and (t_129b s68.1.1 s68.1.2.1 z67q (d' := dc71) hc74) (u_129 s68.1.2.2.2.1)) (fun r75 w76 h77 => ?_)
                  obtain ⟨⟨rfl, rfl, h77⟩, -, h77k⟩ := h77
                  rcases h77.symm with h77 | ⟨h77c, h77⟩
                  · skip
                    replace hM : e_Rn 20 elay ecode eI d' 349 (405, [(2, (0, v17 275 78)), (0, (1, 275)), (1, (0, 8))], [], v73) r' v' := hM
                    obtain ⟨rfl, m78⟩ := (e_Rn.le eAlk [0, 1, 2] rfl rfl hM).pn (fun nq => v_349_405 (uhc74.2.rf s68.1.2.2.2.2.1) _ 8 (v17 275 78) v73 mq.r)
                    show e_Pn 20 elay kcode eI nq13 dq14 147 (22, [(2, (0, w30 cd 0)), (0, (1, 1)), (1, (0, 32))], [], w76) _
                    refine e_Pn.ord kAlk [0, 1, 2] rfl rfl ((v_147_22 (h77k.rf s68.1.2.2.2.1) _ 32 (w30 cd 0) w76 kq.r).imp (fun r80 w81 k79 => ?_))
                    obtain ⟨rfl, k79⟩ := k79
                    show e_Pn 20 elay kcode eI n d 145 (258, [(0, (1, 1))], [], w81) _
                    refine e_Pn.ord kAlk [0] rfl rfl ((v_145_258 (k79.rf (h77k.rf s68.1.2.2.2.1)) _  w81 kq.r).imp (fun r83 w84 k82 => ?_))
                    obtain ⟨rfl, k82⟩ := k82
                    exact ⟨rfl, rfl, Or.inr (rpF.tail h77 (k79.tr k82) m78)⟩
                  clear z67q
                  have s85 := st.ad (k := 1) s68 h77 (st.len1 s68 (by omega)) (by omega)
                  have s85n := h77.2.2.2.1
                  have s85m := st.len1 s68 (by omega)
                  have s85g : w 1 6 + 1 ≤ w76 1 6 := by omega
                  have q86 := st.nums s85
                  clear q70
                  have q86c := q86.2.2.2.1
                  show e_Pn 20 elay kcode eI nq13 dq14 147 (22, [(2, (0, w30 cd 0)), (0, (1, 1)), (1, (0, 32))], [], w76) _
                  replace hM : e_Rn 20 elay ecode eI d' 349 (405, [(2, (0, v17 275 78)), (0, (1, 275)), (1, (0, 8))], [], v73) r' v' := hM
                  refine e_Pn.run (t' := (23, [(2, (0, w30 cd 0)), (0, (1, 1)), (1, (0, 32))], [(1, 1)], w76)) kAlk 1 rfl ?_
                  refine e_Pn.getr (z := cd) kAlk rfl rfl s85.1.2.2.2.1.2.1 (by omega) ?_
                  refine e_Pn.run (t' := (28, [(2, (0, w30 cd 0)), (0, (1, 1)), (1, (0, 32))], [(0, w30 cd 0), (0, 32), (1, cd)], w76)) kAlk 2 rfl ?_
                  refine e_Pn.callA rfl (fun nq dq => l_21 s85.1.2.2.2.1 (op := 32) (od := w30 cd 0) (by omega) (by omega) s85.1.2.2.2.2.2.1) (fun r87 w88 h89 => ?_)
                  obtain ⟨z90, rfl, w88f, w88q⟩ := h89
                  have w88k := kRw.em s85.1.2.2.2.1 w88f
                  have w88l := (emQ.len w88q s85.1.2.2.2.2.2.1).1
                  have w88e : w88 1 5 = w76 1 5 ∧ w88 1 6 = w76 1 6 ∧ w88 1 8 = w76 1 8 := ⟨w88f 1 5 (by unfold kEm; omega), w88f 1 6 (by unfold kEm; omega), w88f 1 8 (by unfold kEm; omega)⟩
                  have s91 := st.em s85 w88f w88q (by omega) (by unfold isCl3; omega)
                  have q92 := st.nums s91
                  clear q86
                  have q92c := q92.2.2.2.1
                  have z90r : 0 ≤ z90 ∧ z90 ≤ 4000 := emQ.z w88q s85.1.2.2.2.2.2.1
                  show e_Pn 20 elay kcode eI nq13 dq14 147 (31, [(2, (0, w30 cd 0)), (0, (1, 1)), (1, (0, 32))], [(0, z90)], w88) _
                  refine e_Pn.run (t' := (32, [(2, (0, w30 cd 0)), (0, (1, 1)), (1, (0, 32))], [], w88)) kAlk 1 rfl ?_
                  refine e_Pn.ret0 rfl ?_
                  show e_Pn 20 elay kcode eI n d 145 (258, [(0, (1, 1))], [], w88) _
                  refine e_Pn.run (t' := (356, [(0, (1, 1))], [], w88)) kAlk 1 rfl ?_
                  obtain ⟨rfl, rfl⟩ := hM.re0 rfl
                  refine e_Pn.ret0 rfl ?_
                  exact ⟨rfl, rfl, Or.inl ⟨st.re s91 (by omega) (by omega) (by omega) (by omega) (by omega), by omega⟩⟩
              · replace h56 : (8 : Int) = 7 := by have q : ¬ ((8 : Int) ≠ 7) := h56; omega
                exfalso; omega
            · replace h55 : (8 : Int) = 5 := by have q : ¬ ((8 : Int) ≠ 5) := h55; omega
              exfalso; omega
          · replace h54 : (8 : Int) = 4 := by have q : ¬ ((8 : Int) ≠ 4) := h54; omega
            exfalso; omega
      · replace h21 : (8 : Int) = 17 := by have q : ¬ ((8 : Int) ≠ 17) := h21; omega
        exfalso; omega
set_option maxHeartbeats 4000000 in
theorem e_145_30 {n : Nat} {N cd : Int} {w v : eW} (hz : st0 N cd w v) (hp : 1 ≤ w 1 6) (hkd : w 1 5 = 30) (ihS : ∀ k, k < n → sE k) {d d' : Nat} {r' : List eV} {v' : eW} (hM : e_Rn 20 elay ecode eI d' 349 (0, [(0, (1, 275)), (1, (0, 9))], [], v) r' v') : e_Pn 20 elay kcode eI n d 145 (0, [(0, (1, 1))], [], w) (fun r w' => r = [] ∧ r' = [] ∧ ((st N cd w v w' v' 0 0 0 (-1) (w 1 13) (v 275 82) (w 1 12) 2 ∧ w 1 6 < w' 1 6) ∨ rpF w' v')) := by
  have h0 := hz.st (ka := 2)
  have hm := hz.1.2.2.2.1.1.m
  have hn := hz.1.2.2.2.1.1.n
  have hzo := hz.2.2.2
  have q1 := st.nums h0
  have q1c := q1.2.2.2.1
  refine e_Pn.run (t' := (1, [(0, (1, 1))], [(1, 1)], w)) kAlk 1 rfl ?_
  refine e_Pn.getf (z := w 1 5) kAlk rfl rfl rfl (fun b2 => ?_)
  refine e_Pn.run (t' := (6, [(0, (1, 1))], [(0, 41), (0, w 1 5)], w)) kAlk 1 rfl ?_
  refine e_Pn.if2 kAlk rfl (fun h3 => ?_) (fun h3 => ?_)
  · replace h3 : (w 1 5 : Int) = 41 := h3
    exact (kM_no h0.1.2.1.2.2.1 (fun a b => decide ((a : Int) = 30) && decide ((a : Int) = 41)) (fun a b c => true) (by decide) (by decide) (by simp only [Bool.and_eq_true, decide_eq_true_eq]; exact ⟨hkd, h3⟩) rfl).elim
  · replace h3 : (w 1 5 : Int) ≠ 41 := by have q : ¬ ((w 1 5 : Int) = 41) := h3; omega
    refine e_Pn.run (t' := (10, [(0, (1, 1))], [(1, 1)], w)) kAlk 1 rfl ?_
    refine e_Pn.getr (z := cd) kAlk rfl rfl h0.1.2.2.2.1.2.1 (by omega) ?_
    refine e_Pn.run (t' := (16, [(0, (1, 1))], [(0, 0), (0, 50), (1, cd)], w)) kAlk 2 rfl ?_
    refine e_Pn.callA rfl (fun nq dq => l_21 h0.1.2.2.2.1 (op := 50) (od := 0) (by omega) (by omega) h0.1.2.2.2.2.2.1) (fun r4 w5 h6 => ?_)
    obtain ⟨z7, rfl, w5f, w5q⟩ := h6
    have w5k := kRw.em h0.1.2.2.2.1 w5f
    have w5l := (emQ.len w5q h0.1.2.2.2.2.2.1).1
    have w5e : w5 1 5 = w 1 5 ∧ w5 1 6 = w 1 6 ∧ w5 1 8 = w 1 8 := ⟨w5f 1 5 (by unfold kEm; omega), w5f 1 6 (by unfold kEm; omega), w5f 1 8 (by unfold kEm; omega)⟩
    have s8 := st.em h0 w5f w5q (by omega) (by unfold isCl3; omega)
    have q9 := st.nums s8
    have q9c := q9.2.2.2.1
    have z7r : 0 ≤ z7 ∧ z7 ≤ 4000 := emQ.z w5q h0.1.2.2.2.2.2.1
    show e_Pn 20 elay kcode eI n d 145 (19, [(0, (1, 1))], [(0, z7)], w5) _
    refine e_Pn.run (t' := (21, [(0, (1, 1))], [(1, 1)], w5)) kAlk 2 rfl ?_
    refine e_Pn.getf (z := w 1 5) kAlk rfl rfl ((w5f 1 5 (by unfold kEm; omega)).trans rfl) (fun b10 => ?_)
    have hs12 : ∀ x : Int, 30 ≤ x ∧ x ≤ 30 → (x = 30) := fun x h => by omega
    obtain h11 := hs12 (w 1 5) (by omega)
    · refine e_Pn.sw (tg := 261) kAlk rfl (by rw [h11]; rfl) ?_
      replace h11 : (w 1 5 : Int) = 30 := h11
      refine e_Pn.run (t' := (264, [(0, (1, 1))], [(0, 33), (1, 1)], w5)) kAlk 2 rfl ?_
      refine e_Pn.callJ rfl (fun nq13 hnq13 dq14 => ?_)
      show e_Pn 20 elay kcode eI nq13 dq14 148 (0, [(0, (1, 1)), (1, (0, 33))], [], w5) _
      refine e_Pn.run (t' := (1, [(0, (1, 1)), (1, (0, 33))], [(1, 1)], w5)) kAlk 1 rfl ?_
      replace hM := hM.st (t' := (4, [(0, (1, 275)), (1, (0, 9))], [(0, 0), (0, 30), (1, 275)], v)) (fun _ _ q => e_Pn.run eAlk 3 rfl q)
      obtain ⟨dc15, r16, v17, hc18, hM⟩ := hM.ca rfl
      obtain ⟨⟨z19, rfl⟩, v17f⟩ := hc18.pn (fun nq => x_336 h0.1.2.2.2.2.1)
      have v17m := mfr.rf v17f h0.1.2.2.2.2.1
      replace hM : e_Rn 20 elay ecode eI d' 349 (7, [(0, (1, 275)), (1, (0, 9))], [(0, z19)], v17) r' v' := hM
      replace hM := hM.st (t' := (9, [(0, (1, 275)), (1, (0, 9))], [(1, 275)], v17)) (fun _ _ q => e_Pn.run eAlk 2 rfl q)
      obtain ⟨b20, hM⟩ := hM.of (fun _ _ q => e_Pn.getf (z := v17 275 78) eAlk rfl rfl rfl q)
      replace hM := hM.st (t' := (16, [(2, (0, v17 275 78)), (0, (1, 275)), (1, (0, 9))], [(0, 17), (0, 9)], v17)) (fun _ _ q => e_Pn.run eAlk 3 rfl q)
      rcases hM.or (fun _ _ q1 q2 => e_Pn.if2 eAlk rfl q1 q2) with ⟨h21, hM⟩ | ⟨h21, hM⟩
      · replace h21 : (9 : Int) ≠ 17 := h21
        replace hM := hM.st (t' := (70, [(2, (0, v17 275 78)), (0, (1, 275)), (1, (0, 9))], [(1, 275)], v17)) (fun _ _ q => e_Pn.run eAlk 1 rfl q)
        have e23a : w5 1 11 = w5 1 11 := rfl
        have e23b : v17 275 83 = v 275 83 := (v17f 275 83 (by unfold mEm; omega))
        have e23c : w5 1 13 = w5 1 13 := rfl
        have e23d : v17 275 82 = v 275 82 := (v17f 275 82 (by unfold mEm; omega))
        have e23f : w5 1 12 = w5 1 12 := rfl
        have e23e : v17 275 80 = v 275 80 := (v17f 275 80 (by unfold mEm; omega))
        have s22 := st.gen (o' := 0) (l' := w 1 13) (m' := v 275 82) (t' := w 1 12) (b' := 0) s8 (e_fr.refl w5) (e_fr.trans (e_fr.refl v) (e_fr.mono v17f (fun c k q => by unfold mEm at q; unfold mGs; omega))) (by omega) (by omega) (by omega) (by omega)
        have q24 := st.nums s22
        clear q9 e23a e23b e23c e23d e23e e23f
        have q24c := q24.2.2.2.1
        obtain ⟨dc25, r26, v27, hc28, hM⟩ := hM.ca rfl
        refine e_Pn.callA rfl (fun nq dq => t_123b s22.1.1 s22.1.2.1.1 s22.1.2.1.2.1.2.1 (st.nx s22) (d' := dc25) hc28) (fun r29 w30 h31 => ?_)
        obtain ⟨rfl, rfl, h31⟩ := h31
        have s32 := st.ad (k := 2) s22 h31 (st.len2 s22 (by omega)) (by omega)
        have s32n := h31.2.2.2.1
        have s32m := st.len2 s22 (by omega)
        have s32g : w 1 6 + 1 ≤ w30 1 6 := by omega
        have q33 := st.nums s32
        clear q24
        have q33c := q33.2.2.2.1
        show e_Pn 20 elay kcode eI nq13 dq14 148 (4, [(0, (1, 1)), (1, (0, 33))], [], w30) _
        replace hM : e_Rn 20 elay ecode eI d' 349 (73, [(2, (0, v17 275 78)), (0, (1, 275)), (1, (0, 9))], [], v27) r' v' := hM
        refine e_Pn.run (t' := (5, [(0, (1, 1)), (1, (0, 33))], [(1, 1)], w30)) kAlk 1 rfl ?_
        refine e_Pn.getf (z := w30 1 6) kAlk rfl rfl rfl (fun b34 => ?_)
        refine e_Pn.run (t' := (11, [(2, (0, w30 1 6)), (0, (1, 1)), (1, (0, 33))], [(0, 1), (1, 1)], w30)) kAlk 3 rfl ?_
        replace hM := hM.st (t' := (74, [(2, (0, v17 275 78)), (0, (1, 275)), (1, (0, 9))], [(0, 9)], v27)) (fun _ _ q => e_Pn.run eAlk 1 rfl q)
        have hs36 : ∀ x : Int, 9 ≤ x ∧ x ≤ 9 → (x = 9) := fun x h => by omega
        obtain h35 := hs36 (9) (by omega)
        · replace hM := hM.st (fun _ _ q => e_Pn.sw (tg := 224) eAlk rfl (by rw [h35]; rfl) q)
          replace hM := hM.st (t' := (230, [(2, (0, v17 275 78)), (0, (1, 275)), (1, (0, 9))], [(0, 0), (0, 38), (1, 275), (0, 3), (1, 275)], v27)) (fun _ _ q => e_Pn.run eAlk 5 rfl q)
          obtain ⟨dc37, r38, v39, hc40, hM⟩ := hM.ca rfl
          obtain ⟨⟨z41, rfl⟩, v39f⟩ := hc40.pn (fun nq => x_336 s32.1.2.2.2.2.1)
          have v39m := mfr.rf v39f s32.1.2.2.2.2.1
          replace hM : e_Rn 20 elay ecode eI d' 349 (233, [(2, (0, v17 275 78)), (0, (1, 275)), (1, (0, 9))], [(0, z41), (0, 3), (1, 275)], v39) r' v' := hM
          obtain ⟨dhc42, r43, v44, hc42, hM⟩ := hM.ca rfl
          replace hc42 : e_Rn 20 elay ecode eI dhc42 338 (0, [(0, (1, 275)), (1, (0, 3)), (2, (0, z41))], [], v39) r43 v44 := hc42
          replace hc42 := hc42.st (t' := (1, [(0, (1, 275)), (1, (0, 3)), (2, (0, z41))], [(1, 275)], v39)) (fun _ _ q => e_Pn.run eAlk 1 rfl q)
          obtain ⟨b45, hc42⟩ := hc42.of (fun _ _ q => e_Pn.getf (z := 0) eAlk rfl rfl ((v39f 275 88 (by unfold mEm; omega)).trans s32.1.2.1.1.2) q)
          rcases hc42.or (fun _ _ q1 q2 => e_Pn.if1 eAlk rfl q1 q2) with ⟨h46, hc42⟩ | ⟨h46, hc42⟩
          · replace h46 : (0 : Int) ≠ 0 := h46
            exfalso; omega
          · replace h46 : (0 : Int) = 0 := by have q : ¬ ((0 : Int) ≠ 0) := h46; omega
            replace hc42 := hc42.st (t' := (8, [(0, (1, 275)), (1, (0, 3)), (2, (0, z41))], [(1, 275)], v39)) (fun _ _ q => e_Pn.run eAlk 1 rfl q)
            obtain ⟨b48, hc42⟩ := hc42.of (fun _ _ q => e_Pn.getf (z := v27 275 84) eAlk rfl rfl ((v39f 275 84 (by unfold mEm; omega)).trans rfl) q)
            replace hc42 := hc42.st (t' := (12, [(0, (1, 275)), (1, (0, 3)), (2, (0, z41))], [(0, 1), (0, v27 275 84)], v39)) (fun _ _ q => e_Pn.run eAlk 1 rfl q)
            rcases hc42.or (fun _ _ q1 q2 => e_Pn.if2 eAlk rfl q1 q2) with ⟨h49, hc42⟩ | ⟨h49, hc42⟩
            · replace h49 : (v27 275 84 : Int) ≠ 1 := h49
              have kw50 : (w30 1 5 : Int) ≠ 1 := fun e9 => absurd (kM_k1 s32.1.2.1.2.2.1 e9) (by omega)
              replace hc42 := hc42.st (t' := (78, [(0, (1, 275)), (1, (0, 3)), (2, (0, z41))], [(1, 275), (1, 275)], v39)) (fun _ _ q => e_Pn.run eAlk 2 rfl q)
              obtain ⟨b51, hc42⟩ := hc42.of (fun _ _ q => e_Pn.getf (z := v27 275 84) eAlk rfl rfl ((v39f 275 84 (by unfold mEm; omega)).trans rfl) q)
              replace hc42 := hc42.st (t' := (82, [(0, (1, 275)), (1, (0, 3)), (2, (0, z41))], [(0, 1), (0, v27 275 84), (1, 275)], v39)) (fun _ _ q => e_Pn.run eAlk 1 rfl q)
              rcases hc42.or (fun _ _ q1 q2 => e_Pn.if2 eAlk rfl q1 q2) with ⟨h52, hc42⟩ | ⟨h52, hc42⟩
              · replace h52 : (v27 275 84 : Int) ≠ 1 := h52
                replace hc42 := hc42.st (t' := (90, [(0, (1, 275)), (1, (0, 3)), (2, (0, z41))], [(0, 0), (1, 275)], v39)) (fun _ _ q => e_Pn.run eAlk 1 rfl q)
                have e54a : w30 1 11 = w30 1 11 := rfl
                have e54b : v39 275 83 = v27 275 83 := (v39f 275 83 (by unfold mEm; omega))
                have e54c : w30 1 13 = w30 1 13 := rfl
                have e54d : v39 275 82 = v27 275 82 := (v39f 275 82 (by unfold mEm; omega))
                have e54f : w30 1 12 = w30 1 12 := rfl
                have e54e : v39 275 80 = v27 275 80 := (v39f 275 80 (by unfold mEm; omega))
                have s53 := st.gen (o' := 0) (l' := w 1 13) (m' := v 275 82) (t' := w 1 12) (b' := 0) s32 (e_fr.refl w30) (e_fr.trans (e_fr.refl v27) (e_fr.mono v39f (fun c k q => by unfold mEm at q; unfold mGs; omega))) (by omega) (by omega) (by omega) (by omega)
                have q55 := st.nums s53
                clear q33 e54a e54b e54c e54d e54e e54f
                have q55c := q55.2.2.2.1
                obtain ⟨dc56, r57, v58, hc59, hc42⟩ := hc42.ca rfl
                have uhc59 := hc59.pn (fun nq => u_334 s53.1.2.2.2.2.1)
                refine e_Pn.callA rfl (fun nq dq => e_Pn.and (t_129b s53.1.1 s53.1.2.1 (by omega) (d' := dc56) hc59) (u_129 s53.1.2.2.2.1)) (fun r60 w61 h62 => ?_)
                obtain ⟨⟨rfl, rfl, h62⟩, -, h62k⟩ := h62
                rcases h62.symm with h62 | ⟨h62c, h62⟩
                · skip
                  replace hc42 : e_Rn 20 elay ecode eI dhc42 338 (93, [(0, (1, 275)), (1, (0, 3)), (2, (0, z41))], [], v58) r43 v44 := hc42
                  obtain ⟨rfl, m63⟩ := (e_Rn.le eAlk [0, 1, 2] rfl rfl hc42).pn (fun nq => v_338_93 (uhc59.2.rf s53.1.2.2.2.2.1) _ 3 z41 v58 mq.r)
                  replace hM : e_Rn 20 elay ecode eI d' 349 (236, [(2, (0, v17 275 78)), (0, (1, 275)), (1, (0, 9))], [], v44) r' v' := hM
                  obtain ⟨rfl, m64⟩ := (e_Rn.le eAlk [0, 1, 2] rfl rfl hM).pn (fun nq => v_349_236 (m63.rf (uhc59.2.rf s53.1.2.2.2.2.1)) _ 9 (v17 275 78) v44 mq.r)
                  show e_Pn 20 elay kcode eI nq13 dq14 148 (14, [(2, (0, w30 1 6)), (0, (1, 1)), (1, (0, 33))], [], w61) _
                  refine e_Pn.ord kAlk [0, 1, 2] rfl rfl ((v_148_14 (h62k.rf s53.1.2.2.2.1) _ 33 (w30 1 6) w61 kq.r).imp (fun r66 w67 k65 => ?_))
                  obtain ⟨rfl, k65⟩ := k65
                  show e_Pn 20 elay kcode eI n d 145 (267, [(0, (1, 1))], [], w67) _
                  refine e_Pn.ord kAlk [0] rfl rfl ((v_145_267 (k65.rf (h62k.rf s53.1.2.2.2.1)) _  w67 kq.r).imp (fun r69 w70 k68 => ?_))
                  obtain ⟨rfl, k68⟩ := k68
                  exact ⟨rfl, rfl, Or.inr (rpF.tail h62 (k65.tr k68) (m63.tr m64))⟩
                exfalso; omega
              · replace h52 : (v27 275 84 : Int) = 1 := by have q : ¬ ((v27 275 84 : Int) ≠ 1) := h52; omega
                exfalso; omega
            · replace h49 : (v27 275 84 : Int) = 1 := by have q : ¬ ((v27 275 84 : Int) ≠ 1) := h49; omega
              have kw71 : (w30 1 5 : Int) = 1 := kM_1k s32.1.2.1.2.2.1 (by omega)
              replace hc42 := hc42.st (t' := (16, [(0, (1, 275)), (1, (0, 3)), (2, (0, z41))], [(1, 275)], v39)) (fun _ _ q => e_Pn.run eAlk 1 rfl q)
              replace hc42 := hc42.st (fun _ _ q => e_Pn.getr (z := 341) eAlk rfl rfl ((v39f 275 90 (by unfold mEm; omega)).trans (s32.1.2.2.2.2.1 (90, 341) (by decide))) (by omega) q)
              replace hc42 := hc42.st (t' := (20, [(0, (1, 275)), (1, (0, 3)), (2, (0, z41))], [(1, 275), (1, 341)], v39)) (fun _ _ q => e_Pn.run eAlk 1 rfl q)
              obtain ⟨b72, hc42⟩ := hc42.of (fun _ _ q => e_Pn.getf (z := v27 275 94) eAlk rfl rfl ((v39f 275 94 (by unfold mEm; omega)).trans rfl) q)
              replace hc42 := hc42.st (t' := (24, [(0, (1, 275)), (1, (0, 3)), (2, (0, z41))], [(0, 3), (0, v27 275 94), (1, 341)], v39)) (fun _ _ q => e_Pn.run eAlk 1 rfl q)
              obtain ⟨b73, b74, hc42⟩ := hc42.of2 (fun _ _ q => e_Pn.ast eAlk rfl rfl rfl q)
              generalize hv75 : e_up v39 341 (v27 275 94) 3 = v75 at hc42
              have v75m := mRw.upd hv75 (fun _ => by omega) v39m
              replace hc42 := hc42.st (t' := (26, [(0, (1, 275)), (1, (0, 3)), (2, (0, z41))], [(1, 275)], v75)) (fun _ _ q => e_Pn.run eAlk 1 rfl q)
              replace hc42 := hc42.st (fun _ _ q => e_Pn.getr (z := 342) eAlk rfl rfl (by rw [← hv75]; exact (e_up_ne _ _ (Or.inl (by omega))).trans ((v39f 275 91 (by unfold mEm; omega)).trans (s32.1.2.2.2.2.1 (91, 342) (by decide)))) (by omega) q)
              replace hc42 := hc42.st (t' := (30, [(0, (1, 275)), (1, (0, 3)), (2, (0, z41))], [(1, 275), (1, 342)], v75)) (fun _ _ q => e_Pn.run eAlk 1 rfl q)
              obtain ⟨b76, hc42⟩ := hc42.of (fun _ _ q => e_Pn.getf (z := v27 275 94) eAlk rfl rfl (by rw [← hv75]; exact (e_up_ne _ _ (Or.inl (by omega))).trans ((v39f 275 94 (by unfold mEm; omega)).trans rfl)) q)
              replace hc42 := hc42.st (t' := (34, [(0, (1, 275)), (1, (0, 3)), (2, (0, z41))], [(1, 275), (0, v27 275 94), (1, 342)], v75)) (fun _ _ q => e_Pn.run eAlk 1 rfl q)
              obtain ⟨b77, hc42⟩ := hc42.of (fun _ _ q => e_Pn.getf (z := v27 275 86) eAlk rfl rfl (by rw [← hv75]; exact (e_up_ne _ _ (Or.inl (by omega))).trans ((v39f 275 86 (by unfold mEm; omega)).trans rfl)) q)
              obtain ⟨b78, b79, hc42⟩ := hc42.of2 (fun _ _ q => e_Pn.ast eAlk rfl rfl rfl q)
              generalize hv80 : e_up v75 342 (v27 275 94) (v27 275 86) = v80 at hc42
              have v80m := mRw.upd hv80 (fun _ => by omega) v75m
              replace hc42 := hc42.st (t' := (39, [(0, (1, 275)), (1, (0, 3)), (2, (0, z41))], [(1, 275)], v80)) (fun _ _ q => e_Pn.run eAlk 1 rfl q)
              replace hc42 := hc42.st (fun _ _ q => e_Pn.getr (z := 343) eAlk rfl rfl (by rw [← hv80]; exact (e_up_ne _ _ (Or.inl (by omega))).trans (by rw [← hv75]; exact (e_up_ne _ _ (Or.inl (by omega))).trans ((v39f 275 92 (by unfold mEm; omega)).trans (s32.1.2.2.2.2.1 (92, 343) (by decide))))) (by omega) q)
              replace hc42 := hc42.st (t' := (43, [(0, (1, 275)), (1, (0, 3)), (2, (0, z41))], [(1, 275), (1, 343)], v80)) (fun _ _ q => e_Pn.run eAlk 1 rfl q)
              obtain ⟨b81, hc42⟩ := hc42.of (fun _ _ q => e_Pn.getf (z := v27 275 94) eAlk rfl rfl (by rw [← hv80]; exact (e_up_ne _ _ (Or.inl (by omega))).trans (by rw [← hv75]; exact (e_up_ne _ _ (Or.inl (by omega))).trans ((v39f 275 94 (by unfold mEm; omega)).trans rfl))) q)
              replace hc42 := hc42.st (t' := (47, [(0, (1, 275)), (1, (0, 3)), (2, (0, z41))], [(1, 275), (0, v27 275 94), (1, 343)], v80)) (fun _ _ q => e_Pn.run eAlk 1 rfl q)
              obtain ⟨b82, hc42⟩ := hc42.of (fun _ _ q => e_Pn.getf (z := v27 275 87) eAlk rfl rfl (by rw [← hv80]; exact (e_up_ne _ _ (Or.inl (by omega))).trans (by rw [← hv75]; exact (e_up_ne _ _ (Or.inl (by omega))).trans ((v39f 275 87 (by unfold mEm; omega)).trans rfl))) q)
              replace hc42 := hc42.st (t' := (51, [(0, (1, 275)), (1, (0, 3)), (2, (0, z41))], [(1, 275), (0, v27 275 87), (0, v27 275 94), (1, 343)], v80)) (fun _ _ q => e_Pn.run eAlk 1 rfl q)
              obtain ⟨b83, hc42⟩ := hc42.of (fun _ _ q => e_Pn.getf (z := v27 275 86) eAlk rfl rfl (by rw [← hv80]; exact (e_up_ne _ _ (Or.inl (by omega))).trans (by rw [← hv75]; exact (e_up_ne _ _ (Or.inl (by omega))).trans ((v39f 275 86 (by unfold mEm; omega)).trans rfl))) q)
              replace hc42 := hc42.st (fun _ _ q => e_Pn.sub' (z := v27 275 87 - v27 275 86) eAlk rfl (by omega) (by omega) q)
              obtain ⟨b84, b85, hc42⟩ := hc42.of2 (fun _ _ q => e_Pn.ast eAlk rfl rfl rfl q)
              generalize hv86 : e_up v80 343 (v27 275 94) (v27 275 87 - v27 275 86) = v86 at hc42
              have v86m := mRw.upd hv86 (fun _ => by omega) v80m
              replace hc42 := hc42.st (t' := (57, [(0, (1, 275)), (1, (0, 3)), (2, (0, z41))], [(1, 275)], v86)) (fun _ _ q => e_Pn.run eAlk 1 rfl q)
              replace hc42 := hc42.st (fun _ _ q => e_Pn.getr (z := 344) eAlk rfl rfl (by rw [← hv86]; exact (e_up_ne _ _ (Or.inl (by omega))).trans (by rw [← hv80]; exact (e_up_ne _ _ (Or.inl (by omega))).trans (by rw [← hv75]; exact (e_up_ne _ _ (Or.inl (by omega))).trans ((v39f 275 93 (by unfold mEm; omega)).trans (s32.1.2.2.2.2.1 (93, 344) (by decide)))))) (by omega) q)
              replace hc42 := hc42.st (t' := (61, [(0, (1, 275)), (1, (0, 3)), (2, (0, z41))], [(1, 275), (1, 344)], v86)) (fun _ _ q => e_Pn.run eAlk 1 rfl q)
              obtain ⟨b87, hc42⟩ := hc42.of (fun _ _ q => e_Pn.getf (z := v27 275 94) eAlk rfl rfl (by rw [← hv86]; exact (e_up_ne _ _ (Or.inl (by omega))).trans (by rw [← hv80]; exact (e_up_ne _ _ (Or.inl (by omega))).trans (by rw [← hv75]; exact (e_up_ne _ _ (Or.inl (by omega))).trans ((v39f 275 94 (by unfold mEm; omega)).trans rfl)))) q)
              replace hc42 := hc42.st (t' := (65, [(0, (1, 275)), (1, (0, 3)), (2, (0, z41))], [(0, z41), (0, v27 275 94), (1, 344)], v86)) (fun _ _ q => e_Pn.run eAlk 1 rfl q)
              obtain ⟨b88, b89, hc42⟩ := hc42.of2 (fun _ _ q => e_Pn.ast eAlk rfl rfl rfl q)
              generalize hv90 : e_up v86 344 (v27 275 94) z41 = v90 at hc42
              have v90m := mRw.upd hv90 (fun _ => by omega) v86m
              replace hc42 := hc42.st (t' := (68, [(0, (1, 275)), (1, (0, 3)), (2, (0, z41))], [(1, 275), (1, 275)], v90)) (fun _ _ q => e_Pn.run eAlk 2 rfl q)
              obtain ⟨b91, hc42⟩ := hc42.of (fun _ _ q => e_Pn.getf (z := v27 275 94) eAlk rfl rfl (by rw [← hv90]; exact (e_up_ne _ _ (Or.inl (by omega))).trans (by rw [← hv86]; exact (e_up_ne _ _ (Or.inl (by omega))).trans (by rw [← hv80]; exact (e_up_ne _ _ (Or.inl (by omega))).trans (by rw [← hv75]; exact (e_up_ne _ _ (Or.inl (by omega))).trans ((v39f 275 94 (by unfold mEm; omega)).trans rfl))))) q)
              replace hc42 := hc42.st (t' := (72, [(0, (1, 275)), (1, (0, 3)), (2, (0, z41))], [(0, 1), (0, v27 275 94), (1, 275)], v90)) (fun _ _ q => e_Pn.run eAlk 1 rfl q)
              replace hc42 := hc42.st (fun _ _ q => e_Pn.add (z := v27 275 94 + 1) eAlk rfl (by omega) (by omega) q)
              replace hc42 := hc42.st (fun _ _ q => e_Pn.putf eAlk rfl rfl q)
              generalize hv92 : e_up v90 275 94 (v27 275 94 + 1) = v92 at hc42
              have v92m := mRw.upd hv92 (fun _ => by omega) v90m
              replace hc42 := hc42.st (t' := (78, [(0, (1, 275)), (1, (0, 3)), (2, (0, z41))], [(1, 275), (1, 275)], v92)) (fun _ _ q => e_Pn.run eAlk 2 rfl q)
              obtain ⟨b93, hc42⟩ := hc42.of (fun _ _ q => e_Pn.getf (z := 1) eAlk rfl rfl (by rw [← hv92]; exact (e_up_ne _ _ (Or.inr (by omega))).trans (by rw [← hv90]; exact (e_up_ne _ _ (Or.inl (by omega))).trans (by rw [← hv86]; exact (e_up_ne _ _ (Or.inl (by omega))).trans (by rw [← hv80]; exact (e_up_ne _ _ (Or.inl (by omega))).trans (by rw [← hv75]; exact (e_up_ne _ _ (Or.inl (by omega))).trans ((v39f 275 84 (by unfold mEm; omega)).trans (kM_k1 s32.1.2.1.2.2.1 (by omega)))))))) q)
              replace hc42 := hc42.st (t' := (82, [(0, (1, 275)), (1, (0, 3)), (2, (0, z41))], [(0, 1), (0, 1), (1, 275)], v92)) (fun _ _ q => e_Pn.run eAlk 1 rfl q)
              rcases hc42.or (fun _ _ q1 q2 => e_Pn.if2 eAlk rfl q1 q2) with ⟨h94, hc42⟩ | ⟨h94, hc42⟩
              · replace h94 : (1 : Int) ≠ 1 := h94
                exfalso; omega
              · replace h94 : (1 : Int) = 1 := by have q : ¬ ((1 : Int) ≠ 1) := h94; omega
                replace hc42 := hc42.st (t' := (90, [(0, (1, 275)), (1, (0, 3)), (2, (0, z41))], [(0, 1), (1, 275)], v92)) (fun _ _ q => e_Pn.run eAlk 2 rfl q)
                have e96a : w30 1 11 = w30 1 11 := rfl
                have e96b : v39 275 83 = v27 275 83 := (v39f 275 83 (by unfold mEm; omega))
                have e96c : w30 1 13 = w30 1 13 := rfl
                have e96d : v39 275 82 = v27 275 82 := (v39f 275 82 (by unfold mEm; omega))
                have e96f : w30 1 12 = w30 1 12 := rfl
                have e96e : v39 275 80 = v27 275 80 := (v39f 275 80 (by unfold mEm; omega))
                have s95 := st.gen (o' := 0) (l' := w 1 13) (m' := v 275 82) (t' := w 1 12) (b' := 0) s32 (e_fr.refl w30) (e_fr.trans (e_fr.refl v27) (e_fr.mono v39f (fun c k q => by unfold mEm at q; unfold mGs; omega))) (by omega) (by omega) (by omega) (by omega)
                have q97 := st.nums s95
                clear q33 e96a e96b e96c e96d e96e e96f
                have q97c := q97.2.2.2.1
                have as9894 : v39 275 94 = v27 275 94 := ((v39f 275 94 (by unfold mEm; omega)).trans rfl)
                have as9886 : v39 275 86 = v27 275 86 := ((v39f 275 86 (by unfold mEm; omega)).trans rfl)
                have as9887 : v39 275 87 = v27 275 87 := ((v39f 275 87 (by unfold mEm; omega)).trans rfl)
                obtain ⟨as98, as98g⟩ := nmA.mk hv75 hv80 hv86 hv90 hv92 (by omega) (by omega)
                have s98 := st.rec3 (by decide) s95 (by omega) as98 (by omega) (by omega) as98g
                have q99 := st.nums s98
                clear q97
                have q99c := q99.2.2.2.1
                obtain ⟨dc100, r101, v102, hc103, hc42⟩ := hc42.ca rfl
                have uhc103 := hc103.pn (fun nq => u_334 s98.1.2.2.2.2.1)
                refine e_Pn.callA rfl (fun nq dq => e_Pn.and (t_129b s98.1.1 s98.1.2.1 (by omega) (d' := dc100) hc103) (u_129 s98.1.2.2.2.1)) (fun r104 w105 h106 => ?_)
                obtain ⟨⟨rfl, rfl, h106⟩, -, h106k⟩ := h106
                rcases h106.symm with h106 | ⟨h106c, h106⟩
                · skip
                  replace hc42 : e_Rn 20 elay ecode eI dhc42 338 (93, [(0, (1, 275)), (1, (0, 3)), (2, (0, z41))], [], v102) r43 v44 := hc42
                  obtain ⟨rfl, m107⟩ := (e_Rn.le eAlk [0, 1, 2] rfl rfl hc42).pn (fun nq => v_338_93 (uhc103.2.rf s98.1.2.2.2.2.1) _ 3 z41 v102 mq.r)
                  replace hM : e_Rn 20 elay ecode eI d' 349 (236, [(2, (0, v17 275 78)), (0, (1, 275)), (1, (0, 9))], [], v44) r' v' := hM
                  obtain ⟨rfl, m108⟩ := (e_Rn.le eAlk [0, 1, 2] rfl rfl hM).pn (fun nq => v_349_236 (m107.rf (uhc103.2.rf s98.1.2.2.2.2.1)) _ 9 (v17 275 78) v44 mq.r)
                  show e_Pn 20 elay kcode eI nq13 dq14 148 (14, [(2, (0, w30 1 6)), (0, (1, 1)), (1, (0, 33))], [], w105) _
                  refine e_Pn.ord kAlk [0, 1, 2] rfl rfl ((v_148_14 (h106k.rf s98.1.2.2.2.1) _ 33 (w30 1 6) w105 kq.r).imp (fun r110 w111 k109 => ?_))
                  obtain ⟨rfl, k109⟩ := k109
                  show e_Pn 20 elay kcode eI n d 145 (267, [(0, (1, 1))], [], w111) _
                  refine e_Pn.ord kAlk [0] rfl rfl ((v_145_267 (k109.rf (h106k.rf s98.1.2.2.2.1)) _  w111 kq.r).imp (fun r113 w114 k112 => ?_))
                  obtain ⟨rfl, k112⟩ := k112
                  exact ⟨rfl, rfl, Or.inr (rpF.tail h106 (k109.tr k112) (m107.tr m108))⟩
                have s115 := st.ad (k := 1) s98 h106 (st.len1 s98 (by omega)) (by omega)
                have s115n := h106.2.2.2.1
                have s115m := st.len1 s98 (by omega)
                have s115g : w 1 6 + 1 ≤ w105 1 6 := by omega
                have q116 := st.nums s115
                clear q99
                have q116c := q116.2.2.2.1
                show e_Pn 20 elay kcode eI nq13 dq14 148 (14, [(2, (0, w30 1 6)), (0, (1, 1)), (1, (0, 33))], [], w105) _
                replace hc42 : e_Rn 20 elay ecode eI dhc42 338 (93, [(0, (1, 275)), (1, (0, 3)), (2, (0, z41))], [], v102) r43 v44 := hc42
                refine e_Pn.run (t' := (17, [(2, (0, w30 1 6)), (0, (1, 1)), (1, (0, 33))], [(0, 19), (1, 1)], w105)) kAlk 2 rfl ?_
                obtain ⟨rfl, rfl⟩ := hc42.re0 rfl
                replace hM : e_Rn 20 elay ecode eI d' 349 (236, [(2, (0, v17 275 78)), (0, (1, 275)), (1, (0, 9))], [], v102) r' v' := hM
                replace hM := hM.st (t' := (399, [(2, (0, v17 275 78)), (0, (1, 275)), (1, (0, 9))], [(0, 59), (1, 275), (1, 275)], v102)) (fun _ _ q => e_Pn.run eAlk 4 rfl q)
                obtain ⟨dc117, r118, v119, hc120, hM⟩ := hM.ca rfl
                obtain ⟨z121, rfl, rfl, z121q⟩ := hc120.pn (fun nq => l_331)
                replace z121q := isS (kM_s59 s115.1.2.1.2.2.1) rfl rfl z121q
                replace hM : e_Rn 20 elay ecode eI d' 349 (402, [(2, (0, v17 275 78)), (0, (1, 275)), (1, (0, 9))], [(0, z121), (1, 275)], v102) r' v' := hM
                obtain ⟨dc122, r123, v124, hc125, hM⟩ := hM.ca rfl
                have uhc125 := hc125.pn (fun nq => u_334 s115.1.2.2.2.2.1)
                refine e_Pn.callA rfl (fun nq dq => e_Pn.and (t_129b s115.1.1 s115.1.2.1 z121q (d' := dc122) hc125) (u_129 s115.1.2.2.2.1)) (fun r126 w127 h128 => ?_)
                obtain ⟨⟨rfl, rfl, h128⟩, -, h128k⟩ := h128
                rcases h128.symm with h128 | ⟨h128c, h128⟩
                · skip
                  replace hM : e_Rn 20 elay ecode eI d' 349 (405, [(2, (0, v17 275 78)), (0, (1, 275)), (1, (0, 9))], [], v124) r' v' := hM
                  obtain ⟨rfl, m129⟩ := (e_Rn.le eAlk [0, 1, 2] rfl rfl hM).pn (fun nq => v_349_405 (uhc125.2.rf s115.1.2.2.2.2.1) _ 9 (v17 275 78) v124 mq.r)
                  show e_Pn 20 elay kcode eI nq13 dq14 148 (20, [(2, (0, w30 1 6)), (0, (1, 1)), (1, (0, 33))], [], w127) _
                  refine e_Pn.ord kAlk [0, 1, 2] rfl rfl ((v_148_20 (h128k.rf s115.1.2.2.2.1) _ 33 (w30 1 6) w127 kq.r).imp (fun r131 w132 k130 => ?_))
                  obtain ⟨rfl, k130⟩ := k130
                  show e_Pn 20 elay kcode eI n d 145 (267, [(0, (1, 1))], [], w132) _
                  refine e_Pn.ord kAlk [0] rfl rfl ((v_145_267 (k130.rf (h128k.rf s115.1.2.2.2.1)) _  w132 kq.r).imp (fun r134 w135 k133 => ?_))
                  obtain ⟨rfl, k133⟩ := k133
                  exact ⟨rfl, rfl, Or.inr (rpF.tail h128 (k130.tr k133) m129)⟩
                clear z121q
                have s136 := st.ad (k := 1) s115 h128 (st.len1 s115 (by omega)) (by omega)
                have s136n := h128.2.2.2.1
                have s136m := st.len1 s115 (by omega)
                have s136g : w 1 6 + 1 ≤ w127 1 6 := by omega
                have q137 := st.nums s136
                clear q116
                have q137c := q137.2.2.2.1
                show e_Pn 20 elay kcode eI nq13 dq14 148 (20, [(2, (0, w30 1 6)), (0, (1, 1)), (1, (0, 33))], [], w127) _
                replace hM : e_Rn 20 elay ecode eI d' 349 (405, [(2, (0, v17 275 78)), (0, (1, 275)), (1, (0, 9))], [], v124) r' v' := hM
                refine e_Pn.run (t' := (21, [(2, (0, w30 1 6)), (0, (1, 1)), (1, (0, 33))], [(1, 1)], w127)) kAlk 1 rfl ?_
                refine e_Pn.getr (z := cd) kAlk rfl rfl s136.1.2.2.2.1.2.1 (by omega) ?_
                refine e_Pn.run (t' := (26, [(2, (0, w30 1 6)), (0, (1, 1)), (1, (0, 33))], [(0, w30 1 6), (0, 33), (1, cd)], w127)) kAlk 2 rfl ?_
                refine e_Pn.callA rfl (fun nq dq => l_21 s136.1.2.2.2.1 (op := 33) (od := w30 1 6) (by omega) (by omega) s136.1.2.2.2.2.2.1) (fun r138 w139 h140 => ?_)
                obtain ⟨z141, rfl, w139f, w139q⟩ := h140
                have w139k := kRw.em s136.1.2.2.2.1 w139f
                have w139l := (emQ.len w139q s136.1.2.2.2.2.2.1).1
                have w139e : w139 1 5 = w127 1 5 ∧ w139 1 6 = w127 1 6 ∧ w139 1 8 = w127 1 8 := ⟨w139f 1 5 (by unfold kEm; omega), w139f 1 6 (by unfold kEm; omega), w139f 1 8 (by unfold kEm; omega)⟩
                have s142 := st.emc s136 w139f w139q (by omega) (by unfold isCl3; omega) (by omega)
                have q143 := st.nums s142
                clear q137
                have q143c := q143.2.2.2.1
                have z141r : 0 ≤ z141 ∧ z141 ≤ 4000 := emQ.z w139q s136.1.2.2.2.2.2.1
                show e_Pn 20 elay kcode eI nq13 dq14 148 (29, [(2, (0, w30 1 6)), (0, (1, 1)), (1, (0, 33))], [(0, z141)], w139) _
                refine e_Pn.run (t' := (30, [(2, (0, w30 1 6)), (0, (1, 1)), (1, (0, 33))], [], w139)) kAlk 1 rfl ?_
                refine e_Pn.ret0 rfl ?_
                show e_Pn 20 elay kcode eI n d 145 (267, [(0, (1, 1))], [], w139) _
                refine e_Pn.run (t' := (356, [(0, (1, 1))], [], w139)) kAlk 1 rfl ?_
                obtain ⟨rfl, rfl⟩ := hM.re0 rfl
                refine e_Pn.ret0 rfl ?_
                exact ⟨rfl, rfl, Or.inl ⟨st.re s142 (by omega) (by omega) (by omega) (by omega) (by omega), by omega⟩⟩
      · replace h21 : (9 : Int) = 17 := by have q : ¬ ((9 : Int) ≠ 17) := h21; omega
        exfalso; omega
set_option maxHeartbeats 4000000 in
theorem e_145_31 {n : Nat} {N cd : Int} {w v : eW} (hz : st0 N cd w v) (hp : 1 ≤ w 1 6) (hkd : w 1 5 = 31) (ihS : ∀ k, k < n → sE k) {d d' : Nat} {r' : List eV} {v' : eW} (hM : e_Rn 20 elay ecode eI d' 349 (0, [(0, (1, 275)), (1, (0, 10))], [], v) r' v') : e_Pn 20 elay kcode eI n d 145 (0, [(0, (1, 1))], [], w) (fun r w' => r = [] ∧ r' = [] ∧ ((st N cd w v w' v' 0 0 0 (-1) (w 1 13) (v 275 82) (w 1 12) 2 ∧ w 1 6 < w' 1 6) ∨ rpF w' v')) := by
  have h0 := hz.st (ka := 2)
  have hm := hz.1.2.2.2.1.1.m
  have hn := hz.1.2.2.2.1.1.n
  have hzo := hz.2.2.2
  have q1 := st.nums h0
  have q1c := q1.2.2.2.1
  refine e_Pn.run (t' := (1, [(0, (1, 1))], [(1, 1)], w)) kAlk 1 rfl ?_
  refine e_Pn.getf (z := w 1 5) kAlk rfl rfl rfl (fun b2 => ?_)
  refine e_Pn.run (t' := (6, [(0, (1, 1))], [(0, 41), (0, w 1 5)], w)) kAlk 1 rfl ?_
  refine e_Pn.if2 kAlk rfl (fun h3 => ?_) (fun h3 => ?_)
  · replace h3 : (w 1 5 : Int) = 41 := h3
    exact (kM_no h0.1.2.1.2.2.1 (fun a b => decide ((a : Int) = 31) && decide ((a : Int) = 41)) (fun a b c => true) (by decide) (by decide) (by simp only [Bool.and_eq_true, decide_eq_true_eq]; exact ⟨hkd, h3⟩) rfl).elim
  · replace h3 : (w 1 5 : Int) ≠ 41 := by have q : ¬ ((w 1 5 : Int) = 41) := h3; omega
    refine e_Pn.run (t' := (10, [(0, (1, 1))], [(1, 1)], w)) kAlk 1 rfl ?_
    refine e_Pn.getr (z := cd) kAlk rfl rfl h0.1.2.2.2.1.2.1 (by omega) ?_
    refine e_Pn.run (t' := (16, [(0, (1, 1))], [(0, 0), (0, 50), (1, cd)], w)) kAlk 2 rfl ?_
    refine e_Pn.callA rfl (fun nq dq => l_21 h0.1.2.2.2.1 (op := 50) (od := 0) (by omega) (by omega) h0.1.2.2.2.2.2.1) (fun r4 w5 h6 => ?_)
    obtain ⟨z7, rfl, w5f, w5q⟩ := h6
    have w5k := kRw.em h0.1.2.2.2.1 w5f
    have w5l := (emQ.len w5q h0.1.2.2.2.2.2.1).1
    have w5e : w5 1 5 = w 1 5 ∧ w5 1 6 = w 1 6 ∧ w5 1 8 = w 1 8 := ⟨w5f 1 5 (by unfold kEm; omega), w5f 1 6 (by unfold kEm; omega), w5f 1 8 (by unfold kEm; omega)⟩
    have s8 := st.em h0 w5f w5q (by omega) (by unfold isCl3; omega)
    have q9 := st.nums s8
    have q9c := q9.2.2.2.1
    have z7r : 0 ≤ z7 ∧ z7 ≤ 4000 := emQ.z w5q h0.1.2.2.2.2.2.1
    show e_Pn 20 elay kcode eI n d 145 (19, [(0, (1, 1))], [(0, z7)], w5) _
    refine e_Pn.run (t' := (21, [(0, (1, 1))], [(1, 1)], w5)) kAlk 2 rfl ?_
    refine e_Pn.getf (z := w 1 5) kAlk rfl rfl ((w5f 1 5 (by unfold kEm; omega)).trans rfl) (fun b10 => ?_)
    have hs12 : ∀ x : Int, 31 ≤ x ∧ x ≤ 31 → (x = 31) := fun x h => by omega
    obtain h11 := hs12 (w 1 5) (by omega)
    · refine e_Pn.sw (tg := 270) kAlk rfl (by rw [h11]; rfl) ?_
      replace h11 : (w 1 5 : Int) = 31 := h11
      refine e_Pn.run (t' := (273, [(0, (1, 1))], [(0, 34), (1, 1)], w5)) kAlk 2 rfl ?_
      refine e_Pn.callJ rfl (fun nq13 hnq13 dq14 => ?_)
      show e_Pn 20 elay kcode eI nq13 dq14 148 (0, [(0, (1, 1)), (1, (0, 34))], [], w5) _
      refine e_Pn.run (t' := (1, [(0, (1, 1)), (1, (0, 34))], [(1, 1)], w5)) kAlk 1 rfl ?_
      replace hM := hM.st (t' := (4, [(0, (1, 275)), (1, (0, 10))], [(0, 0), (0, 30), (1, 275)], v)) (fun _ _ q => e_Pn.run eAlk 3 rfl q)
      obtain ⟨dc15, r16, v17, hc18, hM⟩ := hM.ca rfl
      obtain ⟨⟨z19, rfl⟩, v17f⟩ := hc18.pn (fun nq => x_336 h0.1.2.2.2.2.1)
      have v17m := mfr.rf v17f h0.1.2.2.2.2.1
      replace hM : e_Rn 20 elay ecode eI d' 349 (7, [(0, (1, 275)), (1, (0, 10))], [(0, z19)], v17) r' v' := hM
      replace hM := hM.st (t' := (9, [(0, (1, 275)), (1, (0, 10))], [(1, 275)], v17)) (fun _ _ q => e_Pn.run eAlk 2 rfl q)
      obtain ⟨b20, hM⟩ := hM.of (fun _ _ q => e_Pn.getf (z := v17 275 78) eAlk rfl rfl rfl q)
      replace hM := hM.st (t' := (16, [(2, (0, v17 275 78)), (0, (1, 275)), (1, (0, 10))], [(0, 17), (0, 10)], v17)) (fun _ _ q => e_Pn.run eAlk 3 rfl q)
      rcases hM.or (fun _ _ q1 q2 => e_Pn.if2 eAlk rfl q1 q2) with ⟨h21, hM⟩ | ⟨h21, hM⟩
      · replace h21 : (10 : Int) ≠ 17 := h21
        replace hM := hM.st (t' := (70, [(2, (0, v17 275 78)), (0, (1, 275)), (1, (0, 10))], [(1, 275)], v17)) (fun _ _ q => e_Pn.run eAlk 1 rfl q)
        have e23a : w5 1 11 = w5 1 11 := rfl
        have e23b : v17 275 83 = v 275 83 := (v17f 275 83 (by unfold mEm; omega))
        have e23c : w5 1 13 = w5 1 13 := rfl
        have e23d : v17 275 82 = v 275 82 := (v17f 275 82 (by unfold mEm; omega))
        have e23f : w5 1 12 = w5 1 12 := rfl
        have e23e : v17 275 80 = v 275 80 := (v17f 275 80 (by unfold mEm; omega))
        have s22 := st.gen (o' := 0) (l' := w 1 13) (m' := v 275 82) (t' := w 1 12) (b' := 0) s8 (e_fr.refl w5) (e_fr.trans (e_fr.refl v) (e_fr.mono v17f (fun c k q => by unfold mEm at q; unfold mGs; omega))) (by omega) (by omega) (by omega) (by omega)
        have q24 := st.nums s22
        clear q9 e23a e23b e23c e23d e23e e23f
        have q24c := q24.2.2.2.1
        obtain ⟨dc25, r26, v27, hc28, hM⟩ := hM.ca rfl
        refine e_Pn.callA rfl (fun nq dq => t_123b s22.1.1 s22.1.2.1.1 s22.1.2.1.2.1.2.1 (st.nx s22) (d' := dc25) hc28) (fun r29 w30 h31 => ?_)
        obtain ⟨rfl, rfl, h31⟩ := h31
        have s32 := st.ad (k := 2) s22 h31 (st.len2 s22 (by omega)) (by omega)
        have s32n := h31.2.2.2.1
        have s32m := st.len2 s22 (by omega)
        have s32g : w 1 6 + 1 ≤ w30 1 6 := by omega
        have q33 := st.nums s32
        clear q24
        have q33c := q33.2.2.2.1
        show e_Pn 20 elay kcode eI nq13 dq14 148 (4, [(0, (1, 1)), (1, (0, 34))], [], w30) _
        replace hM : e_Rn 20 elay ecode eI d' 349 (73, [(2, (0, v17 275 78)), (0, (1, 275)), (1, (0, 10))], [], v27) r' v' := hM
        refine e_Pn.run (t' := (5, [(0, (1, 1)), (1, (0, 34))], [(1, 1)], w30)) kAlk 1 rfl ?_
        refine e_Pn.getf (z := w30 1 6) kAlk rfl rfl rfl (fun b34 => ?_)
        refine e_Pn.run (t' := (11, [(2, (0, w30 1 6)), (0, (1, 1)), (1, (0, 34))], [(0, 1), (1, 1)], w30)) kAlk 3 rfl ?_
        replace hM := hM.st (t' := (74, [(2, (0, v17 275 78)), (0, (1, 275)), (1, (0, 10))], [(0, 10)], v27)) (fun _ _ q => e_Pn.run eAlk 1 rfl q)
        have hs36 : ∀ x : Int, 10 ≤ x ∧ x ≤ 10 → (x = 10) := fun x h => by omega
        obtain h35 := hs36 (10) (by omega)
        · replace hM := hM.st (fun _ _ q => e_Pn.sw (tg := 239) eAlk rfl (by rw [h35]; rfl) q)
          replace hM := hM.st (t' := (245, [(2, (0, v17 275 78)), (0, (1, 275)), (1, (0, 10))], [(0, 0), (0, 39), (1, 275), (0, 3), (1, 275)], v27)) (fun _ _ q => e_Pn.run eAlk 5 rfl q)
          obtain ⟨dc37, r38, v39, hc40, hM⟩ := hM.ca rfl
          obtain ⟨⟨z41, rfl⟩, v39f⟩ := hc40.pn (fun nq => x_336 s32.1.2.2.2.2.1)
          have v39m := mfr.rf v39f s32.1.2.2.2.2.1
          replace hM : e_Rn 20 elay ecode eI d' 349 (248, [(2, (0, v17 275 78)), (0, (1, 275)), (1, (0, 10))], [(0, z41), (0, 3), (1, 275)], v39) r' v' := hM
          obtain ⟨dhc42, r43, v44, hc42, hM⟩ := hM.ca rfl
          replace hc42 : e_Rn 20 elay ecode eI dhc42 338 (0, [(0, (1, 275)), (1, (0, 3)), (2, (0, z41))], [], v39) r43 v44 := hc42
          replace hc42 := hc42.st (t' := (1, [(0, (1, 275)), (1, (0, 3)), (2, (0, z41))], [(1, 275)], v39)) (fun _ _ q => e_Pn.run eAlk 1 rfl q)
          obtain ⟨b45, hc42⟩ := hc42.of (fun _ _ q => e_Pn.getf (z := 0) eAlk rfl rfl ((v39f 275 88 (by unfold mEm; omega)).trans s32.1.2.1.1.2) q)
          rcases hc42.or (fun _ _ q1 q2 => e_Pn.if1 eAlk rfl q1 q2) with ⟨h46, hc42⟩ | ⟨h46, hc42⟩
          · replace h46 : (0 : Int) ≠ 0 := h46
            exfalso; omega
          · replace h46 : (0 : Int) = 0 := by have q : ¬ ((0 : Int) ≠ 0) := h46; omega
            replace hc42 := hc42.st (t' := (8, [(0, (1, 275)), (1, (0, 3)), (2, (0, z41))], [(1, 275)], v39)) (fun _ _ q => e_Pn.run eAlk 1 rfl q)
            obtain ⟨b48, hc42⟩ := hc42.of (fun _ _ q => e_Pn.getf (z := v27 275 84) eAlk rfl rfl ((v39f 275 84 (by unfold mEm; omega)).trans rfl) q)
            replace hc42 := hc42.st (t' := (12, [(0, (1, 275)), (1, (0, 3)), (2, (0, z41))], [(0, 1), (0, v27 275 84)], v39)) (fun _ _ q => e_Pn.run eAlk 1 rfl q)
            rcases hc42.or (fun _ _ q1 q2 => e_Pn.if2 eAlk rfl q1 q2) with ⟨h49, hc42⟩ | ⟨h49, hc42⟩
            · replace h49 : (v27 275 84 : Int) ≠ 1 := h49
              have kw50 : (w30 1 5 : Int) ≠ 1 := fun e9 => absurd (kM_k1 s32.1.2.1.2.2.1 e9) (by omega)
              replace hc42 := hc42.st (t' := (78, [(0, (1, 275)), (1, (0, 3)), (2, (0, z41))], [(1, 275), (1, 275)], v39)) (fun _ _ q => e_Pn.run eAlk 2 rfl q)
              obtain ⟨b51, hc42⟩ := hc42.of (fun _ _ q => e_Pn.getf (z := v27 275 84) eAlk rfl rfl ((v39f 275 84 (by unfold mEm; omega)).trans rfl) q)
              replace hc42 := hc42.st (t' := (82, [(0, (1, 275)), (1, (0, 3)), (2, (0, z41))], [(0, 1), (0, v27 275 84), (1, 275)], v39)) (fun _ _ q => e_Pn.run eAlk 1 rfl q)
              rcases hc42.or (fun _ _ q1 q2 => e_Pn.if2 eAlk rfl q1 q2) with ⟨h52, hc42⟩ | ⟨h52, hc42⟩
              · replace h52 : (v27 275 84 : Int) ≠ 1 := h52
                replace hc42 := hc42.st (t' := (90, [(0, (1, 275)), (1, (0, 3)), (2, (0, z41))], [(0, 0), (1, 275)], v39)) (fun _ _ q => e_Pn.run eAlk 1 rfl q)
                have e54a : w30 1 11 = w30 1 11 := rfl
                have e54b : v39 275 83 = v27 275 83 := (v39f 275 83 (by unfold mEm; omega))
                have e54c : w30 1 13 = w30 1 13 := rfl
                have e54d : v39 275 82 = v27 275 82 := (v39f 275 82 (by unfold mEm; omega))
                have e54f : w30 1 12 = w30 1 12 := rfl
                have e54e : v39 275 80 = v27 275 80 := (v39f 275 80 (by unfold mEm; omega))
                have s53 := st.gen (o' := 0) (l' := w 1 13) (m' := v 275 82) (t' := w 1 12) (b' := 0) s32 (e_fr.refl w30) (e_fr.trans (e_fr.refl v27) (e_fr.mono v39f (fun c k q => by unfold mEm at q; unfold mGs; omega))) (by omega) (by omega) (by omega) (by omega)
                have q55 := st.nums s53
                clear q33 e54a e54b e54c e54d e54e e54f
                have q55c := q55.2.2.2.1
                obtain ⟨dc56, r57, v58, hc59, hc42⟩ := hc42.ca rfl
                have uhc59 := hc59.pn (fun nq => u_334 s53.1.2.2.2.2.1)
                refine e_Pn.callA rfl (fun nq dq => e_Pn.and (t_129b s53.1.1 s53.1.2.1 (by omega) (d' := dc56) hc59) (u_129 s53.1.2.2.2.1)) (fun r60 w61 h62 => ?_)
                obtain ⟨⟨rfl, rfl, h62⟩, -, h62k⟩ := h62
                rcases h62.symm with h62 | ⟨h62c, h62⟩
                · skip
                  replace hc42 : e_Rn 20 elay ecode eI dhc42 338 (93, [(0, (1, 275)), (1, (0, 3)), (2, (0, z41))], [], v58) r43 v44 := hc42
                  obtain ⟨rfl, m63⟩ := (e_Rn.le eAlk [0, 1, 2] rfl rfl hc42).pn (fun nq => v_338_93 (uhc59.2.rf s53.1.2.2.2.2.1) _ 3 z41 v58 mq.r)
                  replace hM : e_Rn 20 elay ecode eI d' 349 (251, [(2, (0, v17 275 78)), (0, (1, 275)), (1, (0, 10))], [], v44) r' v' := hM
                  obtain ⟨rfl, m64⟩ := (e_Rn.le eAlk [0, 1, 2] rfl rfl hM).pn (fun nq => v_349_251 (m63.rf (uhc59.2.rf s53.1.2.2.2.2.1)) _ 10 (v17 275 78) v44 mq.r)
                  show e_Pn 20 elay kcode eI nq13 dq14 148 (14, [(2, (0, w30 1 6)), (0, (1, 1)), (1, (0, 34))], [], w61) _
                  refine e_Pn.ord kAlk [0, 1, 2] rfl rfl ((v_148_14 (h62k.rf s53.1.2.2.2.1) _ 34 (w30 1 6) w61 kq.r).imp (fun r66 w67 k65 => ?_))
                  obtain ⟨rfl, k65⟩ := k65
                  show e_Pn 20 elay kcode eI n d 145 (276, [(0, (1, 1))], [], w67) _
                  refine e_Pn.ord kAlk [0] rfl rfl ((v_145_276 (k65.rf (h62k.rf s53.1.2.2.2.1)) _  w67 kq.r).imp (fun r69 w70 k68 => ?_))
                  obtain ⟨rfl, k68⟩ := k68
                  exact ⟨rfl, rfl, Or.inr (rpF.tail h62 (k65.tr k68) (m63.tr m64))⟩
                exfalso; omega
              · replace h52 : (v27 275 84 : Int) = 1 := by have q : ¬ ((v27 275 84 : Int) ≠ 1) := h52; omega
                exfalso; omega
            · replace h49 : (v27 275 84 : Int) = 1 := by have q : ¬ ((v27 275 84 : Int) ≠ 1) := h49; omega
              have kw71 : (w30 1 5 : Int) = 1 := kM_1k s32.1.2.1.2.2.1 (by omega)
              replace hc42 := hc42.st (t' := (16, [(0, (1, 275)), (1, (0, 3)), (2, (0, z41))], [(1, 275)], v39)) (fun _ _ q => e_Pn.run eAlk 1 rfl q)
              replace hc42 := hc42.st (fun _ _ q => e_Pn.getr (z := 341) eAlk rfl rfl ((v39f 275 90 (by unfold mEm; omega)).trans (s32.1.2.2.2.2.1 (90, 341) (by decide))) (by omega) q)
              replace hc42 := hc42.st (t' := (20, [(0, (1, 275)), (1, (0, 3)), (2, (0, z41))], [(1, 275), (1, 341)], v39)) (fun _ _ q => e_Pn.run eAlk 1 rfl q)
              obtain ⟨b72, hc42⟩ := hc42.of (fun _ _ q => e_Pn.getf (z := v27 275 94) eAlk rfl rfl ((v39f 275 94 (by unfold mEm; omega)).trans rfl) q)
              replace hc42 := hc42.st (t' := (24, [(0, (1, 275)), (1, (0, 3)), (2, (0, z41))], [(0, 3), (0, v27 275 94), (1, 341)], v39)) (fun _ _ q => e_Pn.run eAlk 1 rfl q)
              obtain ⟨b73, b74, hc42⟩ := hc42.of2 (fun _ _ q => e_Pn.ast eAlk rfl rfl rfl q)
              generalize hv75 : e_up v39 341 (v27 275 94) 3 = v75 at hc42
              have v75m := mRw.upd hv75 (fun _ => by omega) v39m
              replace hc42 := hc42.st (t' := (26, [(0, (1, 275)), (1, (0, 3)), (2, (0, z41))], [(1, 275)], v75)) (fun _ _ q => e_Pn.run eAlk 1 rfl q)
              replace hc42 := hc42.st (fun _ _ q => e_Pn.getr (z := 342) eAlk rfl rfl (by rw [← hv75]; exact (e_up_ne _ _ (Or.inl (by omega))).trans ((v39f 275 91 (by unfold mEm; omega)).trans (s32.1.2.2.2.2.1 (91, 342) (by decide)))) (by omega) q)
              replace hc42 := hc42.st (t' := (30, [(0, (1, 275)), (1, (0, 3)), (2, (0, z41))], [(1, 275), (1, 342)], v75)) (fun _ _ q => e_Pn.run eAlk 1 rfl q)
              obtain ⟨b76, hc42⟩ := hc42.of (fun _ _ q => e_Pn.getf (z := v27 275 94) eAlk rfl rfl (by rw [← hv75]; exact (e_up_ne _ _ (Or.inl (by omega))).trans ((v39f 275 94 (by unfold mEm; omega)).trans rfl)) q)
              replace hc42 := hc42.st (t' := (34, [(0, (1, 275)), (1, (0, 3)), (2, (0, z41))], [(1, 275), (0, v27 275 94), (1, 342)], v75)) (fun _ _ q => e_Pn.run eAlk 1 rfl q)
              obtain ⟨b77, hc42⟩ := hc42.of (fun _ _ q => e_Pn.getf (z := v27 275 86) eAlk rfl rfl (by rw [← hv75]; exact (e_up_ne _ _ (Or.inl (by omega))).trans ((v39f 275 86 (by unfold mEm; omega)).trans rfl)) q)
              obtain ⟨b78, b79, hc42⟩ := hc42.of2 (fun _ _ q => e_Pn.ast eAlk rfl rfl rfl q)
              generalize hv80 : e_up v75 342 (v27 275 94) (v27 275 86) = v80 at hc42
              have v80m := mRw.upd hv80 (fun _ => by omega) v75m
              replace hc42 := hc42.st (t' := (39, [(0, (1, 275)), (1, (0, 3)), (2, (0, z41))], [(1, 275)], v80)) (fun _ _ q => e_Pn.run eAlk 1 rfl q)
              replace hc42 := hc42.st (fun _ _ q => e_Pn.getr (z := 343) eAlk rfl rfl (by rw [← hv80]; exact (e_up_ne _ _ (Or.inl (by omega))).trans (by rw [← hv75]; exact (e_up_ne _ _ (Or.inl (by omega))).trans ((v39f 275 92 (by unfold mEm; omega)).trans (s32.1.2.2.2.2.1 (92, 343) (by decide))))) (by omega) q)
              replace hc42 := hc42.st (t' := (43, [(0, (1, 275)), (1, (0, 3)), (2, (0, z41))], [(1, 275), (1, 343)], v80)) (fun _ _ q => e_Pn.run eAlk 1 rfl q)
              obtain ⟨b81, hc42⟩ := hc42.of (fun _ _ q => e_Pn.getf (z := v27 275 94) eAlk rfl rfl (by rw [← hv80]; exact (e_up_ne _ _ (Or.inl (by omega))).trans (by rw [← hv75]; exact (e_up_ne _ _ (Or.inl (by omega))).trans ((v39f 275 94 (by unfold mEm; omega)).trans rfl))) q)
              replace hc42 := hc42.st (t' := (47, [(0, (1, 275)), (1, (0, 3)), (2, (0, z41))], [(1, 275), (0, v27 275 94), (1, 343)], v80)) (fun _ _ q => e_Pn.run eAlk 1 rfl q)
              obtain ⟨b82, hc42⟩ := hc42.of (fun _ _ q => e_Pn.getf (z := v27 275 87) eAlk rfl rfl (by rw [← hv80]; exact (e_up_ne _ _ (Or.inl (by omega))).trans (by rw [← hv75]; exact (e_up_ne _ _ (Or.inl (by omega))).trans ((v39f 275 87 (by unfold mEm; omega)).trans rfl))) q)
              replace hc42 := hc42.st (t' := (51, [(0, (1, 275)), (1, (0, 3)), (2, (0, z41))], [(1, 275), (0, v27 275 87), (0, v27 275 94), (1, 343)], v80)) (fun _ _ q => e_Pn.run eAlk 1 rfl q)
              obtain ⟨b83, hc42⟩ := hc42.of (fun _ _ q => e_Pn.getf (z := v27 275 86) eAlk rfl rfl (by rw [← hv80]; exact (e_up_ne _ _ (Or.inl (by omega))).trans (by rw [← hv75]; exact (e_up_ne _ _ (Or.inl (by omega))).trans ((v39f 275 86 (by unfold mEm; omega)).trans rfl))) q)
              replace hc42 := hc42.st (fun _ _ q => e_Pn.sub' (z := v27 275 87 - v27 275 86) eAlk rfl (by omega) (by omega) q)
              obtain ⟨b84, b85, hc42⟩ := hc42.of2 (fun _ _ q => e_Pn.ast eAlk rfl rfl rfl q)
              generalize hv86 : e_up v80 343 (v27 275 94) (v27 275 87 - v27 275 86) = v86 at hc42
              have v86m := mRw.upd hv86 (fun _ => by omega) v80m
              replace hc42 := hc42.st (t' := (57, [(0, (1, 275)), (1, (0, 3)), (2, (0, z41))], [(1, 275)], v86)) (fun _ _ q => e_Pn.run eAlk 1 rfl q)
              replace hc42 := hc42.st (fun _ _ q => e_Pn.getr (z := 344) eAlk rfl rfl (by rw [← hv86]; exact (e_up_ne _ _ (Or.inl (by omega))).trans (by rw [← hv80]; exact (e_up_ne _ _ (Or.inl (by omega))).trans (by rw [← hv75]; exact (e_up_ne _ _ (Or.inl (by omega))).trans ((v39f 275 93 (by unfold mEm; omega)).trans (s32.1.2.2.2.2.1 (93, 344) (by decide)))))) (by omega) q)
              replace hc42 := hc42.st (t' := (61, [(0, (1, 275)), (1, (0, 3)), (2, (0, z41))], [(1, 275), (1, 344)], v86)) (fun _ _ q => e_Pn.run eAlk 1 rfl q)
              obtain ⟨b87, hc42⟩ := hc42.of (fun _ _ q => e_Pn.getf (z := v27 275 94) eAlk rfl rfl (by rw [← hv86]; exact (e_up_ne _ _ (Or.inl (by omega))).trans (by rw [← hv80]; exact (e_up_ne _ _ (Or.inl (by omega))).trans (by rw [← hv75]; exact (e_up_ne _ _ (Or.inl (by omega))).trans ((v39f 275 94 (by unfold mEm; omega)).trans rfl)))) q)
              replace hc42 := hc42.st (t' := (65, [(0, (1, 275)), (1, (0, 3)), (2, (0, z41))], [(0, z41), (0, v27 275 94), (1, 344)], v86)) (fun _ _ q => e_Pn.run eAlk 1 rfl q)
              obtain ⟨b88, b89, hc42⟩ := hc42.of2 (fun _ _ q => e_Pn.ast eAlk rfl rfl rfl q)
              generalize hv90 : e_up v86 344 (v27 275 94) z41 = v90 at hc42
              have v90m := mRw.upd hv90 (fun _ => by omega) v86m
              replace hc42 := hc42.st (t' := (68, [(0, (1, 275)), (1, (0, 3)), (2, (0, z41))], [(1, 275), (1, 275)], v90)) (fun _ _ q => e_Pn.run eAlk 2 rfl q)
              obtain ⟨b91, hc42⟩ := hc42.of (fun _ _ q => e_Pn.getf (z := v27 275 94) eAlk rfl rfl (by rw [← hv90]; exact (e_up_ne _ _ (Or.inl (by omega))).trans (by rw [← hv86]; exact (e_up_ne _ _ (Or.inl (by omega))).trans (by rw [← hv80]; exact (e_up_ne _ _ (Or.inl (by omega))).trans (by rw [← hv75]; exact (e_up_ne _ _ (Or.inl (by omega))).trans ((v39f 275 94 (by unfold mEm; omega)).trans rfl))))) q)
              replace hc42 := hc42.st (t' := (72, [(0, (1, 275)), (1, (0, 3)), (2, (0, z41))], [(0, 1), (0, v27 275 94), (1, 275)], v90)) (fun _ _ q => e_Pn.run eAlk 1 rfl q)
              replace hc42 := hc42.st (fun _ _ q => e_Pn.add (z := v27 275 94 + 1) eAlk rfl (by omega) (by omega) q)
              replace hc42 := hc42.st (fun _ _ q => e_Pn.putf eAlk rfl rfl q)
              generalize hv92 : e_up v90 275 94 (v27 275 94 + 1) = v92 at hc42
              have v92m := mRw.upd hv92 (fun _ => by omega) v90m
              replace hc42 := hc42.st (t' := (78, [(0, (1, 275)), (1, (0, 3)), (2, (0, z41))], [(1, 275), (1, 275)], v92)) (fun _ _ q => e_Pn.run eAlk 2 rfl q)
              obtain ⟨b93, hc42⟩ := hc42.of (fun _ _ q => e_Pn.getf (z := 1) eAlk rfl rfl (by rw [← hv92]; exact (e_up_ne _ _ (Or.inr (by omega))).trans (by rw [← hv90]; exact (e_up_ne _ _ (Or.inl (by omega))).trans (by rw [← hv86]; exact (e_up_ne _ _ (Or.inl (by omega))).trans (by rw [← hv80]; exact (e_up_ne _ _ (Or.inl (by omega))).trans (by rw [← hv75]; exact (e_up_ne _ _ (Or.inl (by omega))).trans ((v39f 275 84 (by unfold mEm; omega)).trans (kM_k1 s32.1.2.1.2.2.1 (by omega)))))))) q)
              replace hc42 := hc42.st (t' := (82, [(0, (1, 275)), (1, (0, 3)), (2, (0, z41))], [(0, 1), (0, 1), (1, 275)], v92)) (fun _ _ q => e_Pn.run eAlk 1 rfl q)
              rcases hc42.or (fun _ _ q1 q2 => e_Pn.if2 eAlk rfl q1 q2) with ⟨h94, hc42⟩ | ⟨h94, hc42⟩
              · replace h94 : (1 : Int) ≠ 1 := h94
                exfalso; omega
              · replace h94 : (1 : Int) = 1 := by have q : ¬ ((1 : Int) ≠ 1) := h94; omega
                replace hc42 := hc42.st (t' := (90, [(0, (1, 275)), (1, (0, 3)), (2, (0, z41))], [(0, 1), (1, 275)], v92)) (fun _ _ q => e_Pn.run eAlk 2 rfl q)
                have e96a : w30 1 11 = w30 1 11 := rfl
                have e96b : v39 275 83 = v27 275 83 := (v39f 275 83 (by unfold mEm; omega))
                have e96c : w30 1 13 = w30 1 13 := rfl
                have e96d : v39 275 82 = v27 275 82 := (v39f 275 82 (by unfold mEm; omega))
                have e96f : w30 1 12 = w30 1 12 := rfl
                have e96e : v39 275 80 = v27 275 80 := (v39f 275 80 (by unfold mEm; omega))
                have s95 := st.gen (o' := 0) (l' := w 1 13) (m' := v 275 82) (t' := w 1 12) (b' := 0) s32 (e_fr.refl w30) (e_fr.trans (e_fr.refl v27) (e_fr.mono v39f (fun c k q => by unfold mEm at q; unfold mGs; omega))) (by omega) (by omega) (by omega) (by omega)
                have q97 := st.nums s95
                clear q33 e96a e96b e96c e96d e96e e96f
                have q97c := q97.2.2.2.1
                have as9894 : v39 275 94 = v27 275 94 := ((v39f 275 94 (by unfold mEm; omega)).trans rfl)
                have as9886 : v39 275 86 = v27 275 86 := ((v39f 275 86 (by unfold mEm; omega)).trans rfl)
                have as9887 : v39 275 87 = v27 275 87 := ((v39f 275 87 (by unfold mEm; omega)).trans rfl)
                obtain ⟨as98, as98g⟩ := nmA.mk hv75 hv80 hv86 hv90 hv92 (by omega) (by omega)
                have s98 := st.rec3 (by decide) s95 (by omega) as98 (by omega) (by omega) as98g
                have q99 := st.nums s98
                clear q97
                have q99c := q99.2.2.2.1
                obtain ⟨dc100, r101, v102, hc103, hc42⟩ := hc42.ca rfl
                have uhc103 := hc103.pn (fun nq => u_334 s98.1.2.2.2.2.1)
                refine e_Pn.callA rfl (fun nq dq => e_Pn.and (t_129b s98.1.1 s98.1.2.1 (by omega) (d' := dc100) hc103) (u_129 s98.1.2.2.2.1)) (fun r104 w105 h106 => ?_)
                obtain ⟨⟨rfl, rfl, h106⟩, -, h106k⟩ := h106
                rcases h106.symm with h106 | ⟨h106c, h106⟩
                · skip
                  replace hc42 : e_Rn 20 elay ecode eI dhc42 338 (93, [(0, (1, 275)), (1, (0, 3)), (2, (0, z41))], [], v102) r43 v44 := hc42
                  obtain ⟨rfl, m107⟩ := (e_Rn.le eAlk [0, 1, 2] rfl rfl hc42).pn (fun nq => v_338_93 (uhc103.2.rf s98.1.2.2.2.2.1) _ 3 z41 v102 mq.r)
                  replace hM : e_Rn 20 elay ecode eI d' 349 (251, [(2, (0, v17 275 78)), (0, (1, 275)), (1, (0, 10))], [], v44) r' v' := hM
                  obtain ⟨rfl, m108⟩ := (e_Rn.le eAlk [0, 1, 2] rfl rfl hM).pn (fun nq => v_349_251 (m107.rf (uhc103.2.rf s98.1.2.2.2.2.1)) _ 10 (v17 275 78) v44 mq.r)
                  show e_Pn 20 elay kcode eI nq13 dq14 148 (14, [(2, (0, w30 1 6)), (0, (1, 1)), (1, (0, 34))], [], w105) _
                  refine e_Pn.ord kAlk [0, 1, 2] rfl rfl ((v_148_14 (h106k.rf s98.1.2.2.2.1) _ 34 (w30 1 6) w105 kq.r).imp (fun r110 w111 k109 => ?_))
                  obtain ⟨rfl, k109⟩ := k109
                  show e_Pn 20 elay kcode eI n d 145 (276, [(0, (1, 1))], [], w111) _
                  refine e_Pn.ord kAlk [0] rfl rfl ((v_145_276 (k109.rf (h106k.rf s98.1.2.2.2.1)) _  w111 kq.r).imp (fun r113 w114 k112 => ?_))
                  obtain ⟨rfl, k112⟩ := k112
                  exact ⟨rfl, rfl, Or.inr (rpF.tail h106 (k109.tr k112) (m107.tr m108))⟩
                have s115 := st.ad (k := 1) s98 h106 (st.len1 s98 (by omega)) (by omega)
                have s115n := h106.2.2.2.1
                have s115m := st.len1 s98 (by omega)
                have s115g : w 1 6 + 1 ≤ w105 1 6 := by omega
                have q116 := st.nums s115
                clear q99
                have q116c := q116.2.2.2.1
                show e_Pn 20 elay kcode eI nq13 dq14 148 (14, [(2, (0, w30 1 6)), (0, (1, 1)), (1, (0, 34))], [], w105) _
                replace hc42 : e_Rn 20 elay ecode eI dhc42 338 (93, [(0, (1, 275)), (1, (0, 3)), (2, (0, z41))], [], v102) r43 v44 := hc42
                refine e_Pn.run (t' := (17, [(2, (0, w30 1 6)), (0, (1, 1)), (1, (0, 34))], [(0, 19), (1, 1)], w105)) kAlk 2 rfl ?_
                obtain ⟨rfl, rfl⟩ := hc42.re0 rfl
                replace hM : e_Rn 20 elay ecode eI d' 349 (251, [(2, (0, v17 275 78)), (0, (1, 275)), (1, (0, 10))], [], v102) r' v' := hM
                replace hM := hM.st (t' := (399, [(2, (0, v17 275 78)), (0, (1, 275)), (1, (0, 10))], [(0, 59), (1, 275), (1, 275)], v102)) (fun _ _ q => e_Pn.run eAlk 4 rfl q)
                obtain ⟨dc117, r118, v119, hc120, hM⟩ := hM.ca rfl
                obtain ⟨z121, rfl, rfl, z121q⟩ := hc120.pn (fun nq => l_331)
                replace z121q := isS (kM_s59 s115.1.2.1.2.2.1) rfl rfl z121q
                replace hM : e_Rn 20 elay ecode eI d' 349 (402, [(2, (0, v17 275 78)), (0, (1, 275)), (1, (0, 10))], [(0, z121), (1, 275)], v102) r' v' := hM
                obtain ⟨dc122, r123, v124, hc125, hM⟩ := hM.ca rfl
                have uhc125 := hc125.pn (fun nq => u_334 s115.1.2.2.2.2.1)
                refine e_Pn.callA rfl (fun nq dq => e_Pn.and (t_129b s115.1.1 s115.1.2.1 z121q (d' := dc122) hc125) (u_129 s115.1.2.2.2.1)) (fun r126 w127 h128 => ?_)
                obtain ⟨⟨rfl, rfl, h128⟩, -, h128k⟩ := h128
                rcases h128.symm with h128 | ⟨h128c, h128⟩
                · skip
                  replace hM : e_Rn 20 elay ecode eI d' 349 (405, [(2, (0, v17 275 78)), (0, (1, 275)), (1, (0, 10))], [], v124) r' v' := hM
                  obtain ⟨rfl, m129⟩ := (e_Rn.le eAlk [0, 1, 2] rfl rfl hM).pn (fun nq => v_349_405 (uhc125.2.rf s115.1.2.2.2.2.1) _ 10 (v17 275 78) v124 mq.r)
                  show e_Pn 20 elay kcode eI nq13 dq14 148 (20, [(2, (0, w30 1 6)), (0, (1, 1)), (1, (0, 34))], [], w127) _
                  refine e_Pn.ord kAlk [0, 1, 2] rfl rfl ((v_148_20 (h128k.rf s115.1.2.2.2.1) _ 34 (w30 1 6) w127 kq.r).imp (fun r131 w132 k130 => ?_))
                  obtain ⟨rfl, k130⟩ := k130
                  show e_Pn 20 elay kcode eI n d 145 (276, [(0, (1, 1))], [], w132) _
                  refine e_Pn.ord kAlk [0] rfl rfl ((v_145_276 (k130.rf (h128k.rf s115.1.2.2.2.1)) _  w132 kq.r).imp (fun r134 w135 k133 => ?_))
                  obtain ⟨rfl, k133⟩ := k133
                  exact ⟨rfl, rfl, Or.inr (rpF.tail h128 (k130.tr k133) m129)⟩
                clear z121q
                have s136 := st.ad (k := 1) s115 h128 (st.len1 s115 (by omega)) (by omega)
                have s136n := h128.2.2.2.1
                have s136m := st.len1 s115 (by omega)
                have s136g : w 1 6 + 1 ≤ w127 1 6 := by omega
                have q137 := st.nums s136
                clear q116
                have q137c := q137.2.2.2.1
                show e_Pn 20 elay kcode eI nq13 dq14 148 (20, [(2, (0, w30 1 6)), (0, (1, 1)), (1, (0, 34))], [], w127) _
                replace hM : e_Rn 20 elay ecode eI d' 349 (405, [(2, (0, v17 275 78)), (0, (1, 275)), (1, (0, 10))], [], v124) r' v' := hM
                refine e_Pn.run (t' := (21, [(2, (0, w30 1 6)), (0, (1, 1)), (1, (0, 34))], [(1, 1)], w127)) kAlk 1 rfl ?_
                refine e_Pn.getr (z := cd) kAlk rfl rfl s136.1.2.2.2.1.2.1 (by omega) ?_
                refine e_Pn.run (t' := (26, [(2, (0, w30 1 6)), (0, (1, 1)), (1, (0, 34))], [(0, w30 1 6), (0, 34), (1, cd)], w127)) kAlk 2 rfl ?_
                refine e_Pn.callA rfl (fun nq dq => l_21 s136.1.2.2.2.1 (op := 34) (od := w30 1 6) (by omega) (by omega) s136.1.2.2.2.2.2.1) (fun r138 w139 h140 => ?_)
                obtain ⟨z141, rfl, w139f, w139q⟩ := h140
                have w139k := kRw.em s136.1.2.2.2.1 w139f
                have w139l := (emQ.len w139q s136.1.2.2.2.2.2.1).1
                have w139e : w139 1 5 = w127 1 5 ∧ w139 1 6 = w127 1 6 ∧ w139 1 8 = w127 1 8 := ⟨w139f 1 5 (by unfold kEm; omega), w139f 1 6 (by unfold kEm; omega), w139f 1 8 (by unfold kEm; omega)⟩
                have s142 := st.emc s136 w139f w139q (by omega) (by unfold isCl3; omega) (by omega)
                have q143 := st.nums s142
                clear q137
                have q143c := q143.2.2.2.1
                have z141r : 0 ≤ z141 ∧ z141 ≤ 4000 := emQ.z w139q s136.1.2.2.2.2.2.1
                show e_Pn 20 elay kcode eI nq13 dq14 148 (29, [(2, (0, w30 1 6)), (0, (1, 1)), (1, (0, 34))], [(0, z141)], w139) _
                refine e_Pn.run (t' := (30, [(2, (0, w30 1 6)), (0, (1, 1)), (1, (0, 34))], [], w139)) kAlk 1 rfl ?_
                refine e_Pn.ret0 rfl ?_
                show e_Pn 20 elay kcode eI n d 145 (276, [(0, (1, 1))], [], w139) _
                refine e_Pn.run (t' := (356, [(0, (1, 1))], [], w139)) kAlk 1 rfl ?_
                obtain ⟨rfl, rfl⟩ := hM.re0 rfl
                refine e_Pn.ret0 rfl ?_
                exact ⟨rfl, rfl, Or.inl ⟨st.re s142 (by omega) (by omega) (by omega) (by omega) (by omega), by omega⟩⟩
      · replace h21 : (10 : Int) = 17 := by have q : ¬ ((10 : Int) ≠ 17) := h21; omega
        exfalso; omega
end
