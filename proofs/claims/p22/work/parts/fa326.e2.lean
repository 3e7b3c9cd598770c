noncomputable section
/-! the readers in lockstep: statements -/
set_option maxHeartbeats 4000000 in
theorem e_145_32 {n : Nat} {N cd : Int} {w v : eW} (hz : st0 N cd w v) (hp : 1 ≤ w 1 6) (hkd : w 1 5 = 32) (ihS : ∀ k, k < n → sE k) {d d' : Nat} {r' : List eV} {v' : eW} (hM : e_Rn 20 elay ecode eI d' 349 (0, [(0, (1, 275)), (1, (0, 11))], [], v) r' v') : e_Pn 20 elay kcode eI n d 145 (0, [(0, (1, 1))], [], w) (fun r w' => r = [] ∧ r' = [] ∧ ((st N cd w v w' v' 0 0 0 (-1) (w 1 13) (v 275 82) (w 1 12) 2 ∧ w 1 6 < w' 1 6) ∨ rpF w' v')) := by
  have h0 := hz.st (ka := 2)
  have hm := hz.1.2.2.2.1.1.m
  have hn := hz.1.2.2.2.1.1.n
  have hzo := hz.2.2.2
  have q1 := st.nums h0
  have q1c := q1.2.2.2.1
  refine e_Pn.run (t' := (1, [(0, (1, 1))], [(1, 1)], w)) kAlk 1 rfl ?_
  refine e_Pn.getf (z := w 1 5) kAlk rfl rfl rfl (fun b2 => ?_)
  refine e_Pn.run (t' := (6, [(0, (1, 1))], [(0, 41), (0, w 1 5)], w)) kAlk 1 rfl ?_
  refine e_Pn.if2 kAlk rfl (fun h3 => ?_) (fun h3 => ?_)
  · replace h3 : (w 1 5 : Int) = 41 := h3
    exact (kM_no h0.1.2.1.2.2.1 (fun a b => decide ((a : Int) = 32) && decide ((a : Int) = 41)) (fun a b c => true) (by decide) (by decide) (by simp only [Bool.and_eq_true, decide_eq_true_eq]; exact ⟨hkd, h3⟩) rfl).elim
  · replace h3 : (w 1 5 : Int) ≠ 41 := by have q : ¬ ((w 1 5 : Int) = 41) := h3; omega
    refine e_Pn.run (t' := (10, [(0, (1, 1))], [(1, 1)], w)) kAlk 1 rfl ?_
    refine e_Pn.getr (z := cd) kAlk rfl rfl h0.1.2.2.2.1.2.1 (by omega) ?_
    refine e_Pn.run (t' := (16, [(0, (1, 1))], [(0, 0), (0, 50), (1, cd)], w)) kAlk 2 rfl ?_
    refine e_Pn.callA rfl (fun nq dq => l_21 h0.1.2.2.2.1 (op := 50) (od := 0) (by omega) (by omega) h0.1.2.2.2.2.2.1) (fun r4 w5 h6 => ?_)
    obtain ⟨z7, rfl, w5f, w5q⟩ := h6
    have w5k := kRw.em h0.1.2.2.2.1 w5f
    have w5l := (emQ.len w5q h0.1.2.2.2.2.2.1).1
    have w5e : w5 1 5 = w 1 5 ∧ w5 1 6 = w 1 6 ∧ w5 1 8 = w 1 8 := ⟨w5f 1 5 (by unfold kEm; omega), w5f 1 6 (by unfold kEm; omega), w5f 1 8 (by unfold kEm; omega)⟩
    have s8 := st.em h0 w5f w5q (by omega) (by unfold isCl3; omega)
    have q9 := st.nums s8
    have q9c := q9.2.2.2.1
    have z7r : 0 ≤ z7 ∧ z7 ≤ 4000 := emQ.z w5q h0.1.2.2.2.2.2.1
    show e_Pn 20 elay kcode eI n d 145 (19, [(0, (1, 1))], [(0, z7)], w5) _
    refine e_Pn.run (t' := (21, [(0, (1, 1))], [(1, 1)], w5)) kAlk 2 rfl ?_
    refine e_Pn.getf (z := w 1 5) kAlk rfl rfl ((w5f 1 5 (by unfold kEm; omega)).trans rfl) (fun b10 => ?_)
    have hs12 : ∀ x : Int, 32 ≤ x ∧ x ≤ 32 → (x = 32) := fun x h => by omega
    obtain h11 := hs12 (w 1 5) (by omega)
    · refine e_Pn.sw (tg := 279) kAlk rfl (by rw [h11]; rfl) ?_
      replace h11 : (w 1 5 : Int) = 32 := h11
      refine e_Pn.run (t' := (282, [(0, (1, 1))], [(0, 35), (1, 1)], w5)) kAlk 2 rfl ?_
      refine e_Pn.callJ rfl (fun nq13 hnq13 dq14 => ?_)
      show e_Pn 20 elay kcode eI nq13 dq14 147 (0, [(0, (1, 1)), (1, (0, 35))], [], w5) _
      refine e_Pn.run (t' := (1, [(0, (1, 1)), (1, (0, 35))], [(1, 1)], w5)) kAlk 1 rfl ?_
      replace hM := hM.st (t' := (4, [(0, (1, 275)), (1, (0, 11))], [(0, 0), (0, 30), (1, 275)], v)) (fun _ _ q => e_Pn.run eAlk 3 rfl q)
      obtain ⟨dc15, r16, v17, hc18, hM⟩ := hM.ca rfl
      obtain ⟨⟨z19, rfl⟩, v17f⟩ := hc18.pn (fun nq => x_336 h0.1.2.2.2.2.1)
      have v17m := mfr.rf v17f h0.1.2.2.2.2.1
      replace hM : e_Rn 20 elay ecode eI d' 349 (7, [(0, (1, 275)), (1, (0, 11))], [(0, z19)], v17) r' v' := hM
      replace hM := hM.st (t' := (9, [(0, (1, 275)), (1, (0, 11))], [(1, 275)], v17)) (fun _ _ q => e_Pn.run eAlk 2 rfl q)
      obtain ⟨b20, hM⟩ := hM.of (fun _ _ q => e_Pn.getf (z := v17 275 78) eAlk rfl rfl rfl q)
      replace hM := hM.st (t' := (16, [(2, (0, v17 275 78)), (0, (1, 275)), (1, (0, 11))], [(0, 17), (0, 11)], v17)) (fun _ _ q => e_Pn.run eAlk 3 rfl q)
      rcases hM.or (fun _ _ q1 q2 => e_Pn.if2 eAlk rfl q1 q2) with ⟨h21, hM⟩ | ⟨h21, hM⟩
      · replace h21 : (11 : Int) ≠ 17 := h21
        replace hM := hM.st (t' := (70, [(2, (0, v17 275 78)), (0, (1, 275)), (1, (0, 11))], [(1, 275)], v17)) (fun _ _ q => e_Pn.run eAlk 1 rfl q)
        have e23a : w5 1 11 = w5 1 11 := rfl
        have e23b : v17 275 83 = v 275 83 := (v17f 275 83 (by unfold mEm; omega))
        have e23c : w5 1 13 = w5 1 13 := rfl
        have e23d : v17 275 82 = v 275 82 := (v17f 275 82 (by unfold mEm; omega))
        have e23f : w5 1 12 = w5 1 12 := rfl
        have e23e : v17 275 80 = v 275 80 := (v17f 275 80 (by unfold mEm; omega))
        have s22 := st.gen (o' := 0) (l' := w 1 13) (m' := v 275 82) (t' := w 1 12) (b' := 0) s8 (e_fr.refl w5) (e_fr.trans (e_fr.refl v) (e_fr.mono v17f (fun c k q => by unfold mEm at q; unfold mGs; omega))) (by omega) (by omega) (by omega) (by omega)
        have q24 := st.nums s22
        clear q9 e23a e23b e23c e23d e23e e23f
        have q24c := q24.2.2.2.1
        obtain ⟨dc25, r26, v27, hc28, hM⟩ := hM.ca rfl
        refine e_Pn.callA rfl (fun nq dq => t_123b s22.1.1 s22.1.2.1.1 s22.1.2.1.2.1.2.1 (st.nx s22) (d' := dc25) hc28) (fun r29 w30 h31 => ?_)
        obtain ⟨rfl, rfl, h31⟩ := h31
        have s32 := st.ad (k := 2) s22 h31 (st.len2 s22 (by omega)) (by omega)
        have s32n := h31.2.2.2.1
        have s32m := st.len2 s22 (by omega)
        have s32g : w 1 6 + 1 ≤ w30 1 6 := by omega
        have q33 := st.nums s32
        clear q24
        have q33c := q33.2.2.2.1
        show e_Pn 20 elay kcode eI nq13 dq14 147 (4, [(0, (1, 1)), (1, (0, 35))], [], w30) _
        replace hM : e_Rn 20 elay ecode eI d' 349 (73, [(2, (0, v17 275 78)), (0, (1, 275)), (1, (0, 11))], [], v27) r' v' := hM
        refine e_Pn.run (t' := (5, [(0, (1, 1)), (1, (0, 35))], [(1, 1)], w30)) kAlk 1 rfl ?_
        refine e_Pn.getr (z := cd) kAlk rfl rfl s32.1.2.2.2.1.2.1 (by omega) ?_
        refine e_Pn.getf (z := w30 cd 0) kAlk rfl rfl rfl (fun b34 => ?_)
        refine e_Pn.run (t' := (13, [(2, (0, w30 cd 0)), (0, (1, 1)), (1, (0, 35))], [(1, 1)], w30)) kAlk 2 rfl ?_
        replace hM := hM.st (t' := (74, [(2, (0, v17 275 78)), (0, (1, 275)), (1, (0, 11))], [(0, 11)], v27)) (fun _ _ q => e_Pn.run eAlk 1 rfl q)
        have hs36 : ∀ x : Int, 11 ≤ x ∧ x ≤ 11 → (x = 11) := fun x h => by omega
        obtain h35 := hs36 (11) (by omega)
        · replace hM := hM.st (fun _ _ q => e_Pn.sw (tg := 330) eAlk rfl (by rw [h35]; rfl) q)
          replace hM := hM.st (t' := (331, [(2, (0, v17 275 78)), (0, (1, 275)), (1, (0, 11))], [(1, 275)], v27)) (fun _ _ q => e_Pn.run eAlk 1 rfl q)
          obtain ⟨dc37, r38, v39, hc40, hM⟩ := hM.ca rfl
          have uhc40 := hc40.pn (fun nq => uE_all nq 339 (by decide) _ _ s32.1.2.2.2.2.1)
          have z44 : stE N cd w30 v27 := st.zE s32 (by omega) (by omega)
          refine e_Pn.callA rfl (fun nq dq => e_Pn.and (eEg_all nq 158 339 (by decide) _ _ dq _ _ _ z44 hc40) (kE_all nq 158 (by decide) dq _ _ s32.1.2.2.2.1)) (fun r41 w42 h43 => ?_)
          obtain ⟨⟨rfl, rfl, h43⟩, -, h43k⟩ := h43
          rcases h43.symm with h43 | ⟨h43, h43p⟩
          · skip
            replace hM : e_Rn 20 elay ecode eI d' 349 (334, [(2, (0, v17 275 78)), (0, (1, 275)), (1, (0, 11))], [], v39) r' v' := hM
            obtain ⟨rfl, m45⟩ := (e_Rn.le eAlk [0, 1, 2] rfl rfl hM).pn (fun nq => v_349_334 (uhc40.2.rf s32.1.2.2.2.2.1) _ 11 (v17 275 78) v39 mq.r)
            show e_Pn 20 elay kcode eI nq13 dq14 147 (16, [(2, (0, w30 cd 0)), (0, (1, 1)), (1, (0, 35))], [], w42) _
            refine e_Pn.ord kAlk [0, 1, 2] rfl rfl ((v_147_16 (h43k.rf s32.1.2.2.2.1) _ 35 (w30 cd 0) w42 kq.r).imp (fun r47 w48 k46 => ?_))
            obtain ⟨rfl, k46⟩ := k46
            show e_Pn 20 elay kcode eI n d 145 (285, [(0, (1, 1))], [], w48) _
            refine e_Pn.ord kAlk [0] rfl rfl ((v_145_285 (k46.rf (h43k.rf s32.1.2.2.2.1)) _  w48 kq.r).imp (fun r50 w51 k49 => ?_))
            obtain ⟨rfl, k49⟩ := k49
            exact ⟨rfl, rfl, Or.inr (rpF.tail h43 (k46.tr k49) m45)⟩
          have s52 := st.re (l' := w 1 13) (m' := v 275 82) (t' := w 1 12) (st.tr s32 h43) (Int.le_refl _) rfl (by omega) (by omega) (by omega)
          have q53 := st.nums s52
          clear q33
          have q53c := q53.2.2.2.1
          show e_Pn 20 elay kcode eI nq13 dq14 147 (16, [(2, (0, w30 cd 0)), (0, (1, 1)), (1, (0, 35))], [], w42) _
          replace hM : e_Rn 20 elay ecode eI d' 349 (334, [(2, (0, v17 275 78)), (0, (1, 275)), (1, (0, 11))], [], v39) r' v' := hM
          refine e_Pn.run (t' := (19, [(2, (0, w30 cd 0)), (0, (1, 1)), (1, (0, 35))], [(0, 19), (1, 1)], w42)) kAlk 2 rfl ?_
          replace hM := hM.st (t' := (337, [(2, (0, v17 275 78)), (0, (1, 275)), (1, (0, 11))], [(0, 4), (0, 11), (1, 275)], v39)) (fun _ _ q => e_Pn.run eAlk 3 rfl q)
          rcases hM.or (fun _ _ q1 q2 => e_Pn.if2 eAlk rfl q1 q2) with ⟨h54, hM⟩ | ⟨h54, hM⟩
          · replace h54 : (11 : Int) ≠ 4 := h54
            replace hM := hM.st (t' := (347, [(2, (0, v17 275 78)), (0, (1, 275)), (1, (0, 11))], [(0, 5), (0, 11), (1, 275)], v39)) (fun _ _ q => e_Pn.run eAlk 2 rfl q)
            rcases hM.or (fun _ _ q1 q2 => e_Pn.if2 eAlk rfl q1 q2) with ⟨h55, hM⟩ | ⟨h55, hM⟩
            · replace h55 : (11 : Int) ≠ 5 := h55
              replace hM := hM.st (t' := (358, [(2, (0, v17 275 78)), (0, (1, 275)), (1, (0, 11))], [(0, 7), (0, 11), (1, 275)], v39)) (fun _ _ q => e_Pn.run eAlk 2 rfl q)
              rcases hM.or (fun _ _ q1 q2 => e_Pn.if2 eAlk rfl q1 q2) with ⟨h56, hM⟩ | ⟨h56, hM⟩
              · replace h56 : (11 : Int) ≠ 7 := h56
                replace hM := hM.st (t' := (369, [(2, (0, v17 275 78)), (0, (1, 275)), (1, (0, 11))], [(0, 8), (0, 11), (1, 275)], v39)) (fun _ _ q => e_Pn.run eAlk 2 rfl q)
                rcases hM.or (fun _ _ q1 q2 => e_Pn.if2 eAlk rfl q1 q2) with ⟨h57, hM⟩ | ⟨h57, hM⟩
                · replace h57 : (11 : Int) ≠ 8 := h57
                  replace hM := hM.st (t' := (380, [(2, (0, v17 275 78)), (0, (1, 275)), (1, (0, 11))], [(0, 11), (0, 11), (1, 275)], v39)) (fun _ _ q => e_Pn.run eAlk 2 rfl q)
                  rcases hM.or (fun _ _ q1 q2 => e_Pn.if2 eAlk rfl q1 q2) with ⟨h58, hM⟩ | ⟨h58, hM⟩
                  · replace h58 : (11 : Int) ≠ 11 := h58
                    exfalso; omega
                  · replace h58 : (11 : Int) = 11 := by have q : ¬ ((11 : Int) ≠ 11) := h58; omega
                    replace hM := hM.st (t' := (391, [(2, (0, v17 275 78)), (0, (1, 275)), (1, (0, 11))], [(0, v17 275 78), (0, 40), (1, 275)], v39)) (fun _ _ q => e_Pn.run eAlk 3 rfl q)
                    obtain ⟨dc59, r60, v61, hc62, hM⟩ := hM.ca rfl
                    obtain ⟨⟨z63, rfl⟩, v61f⟩ := hc62.pn (fun nq => x_336 s52.1.2.2.2.2.1)
                    have v61m := mfr.rf v61f s52.1.2.2.2.2.1
                    replace hM : e_Rn 20 elay ecode eI d' 349 (394, [(2, (0, v17 275 78)), (0, (1, 275)), (1, (0, 11))], [(0, z63)], v61) r' v' := hM
                    replace hM := hM.st (t' := (399, [(2, (0, v17 275 78)), (0, (1, 275)), (1, (0, 11))], [(0, 59), (1, 275), (1, 275)], v61)) (fun _ _ q => e_Pn.run eAlk 4 rfl q)
                    obtain ⟨dc64, r65, v66, hc67, hM⟩ := hM.ca rfl
                    obtain ⟨z68, rfl, rfl, z68q⟩ := hc67.pn (fun nq => l_331)
                    replace z68q := isS (kM_s59 s52.1.2.1.2.2.1) ((v61f 275 84 (by unfold mEm; omega)).trans rfl) ((v61f 275 85 (by unfold mEm; omega)).trans rfl) z68q
                    replace hM : e_Rn 20 elay ecode eI d' 349 (402, [(2, (0, v17 275 78)), (0, (1, 275)), (1, (0, 11))], [(0, z68), (1, 275)], v61) r' v' := hM
                    have e70a : w42 1 11 = w42 1 11 := rfl
                    have e70b : v61 275 83 = v39 275 83 := (v61f 275 83 (by unfold mEm; omega))
                    have e70c : w42 1 13 = w42 1 13 := rfl
                    have e70d : v61 275 82 = v39 275 82 := (v61f 275 82 (by unfold mEm; omega))
                    have e70f : w42 1 12 = w42 1 12 := rfl
                    have e70e : v61 275 80 = v39 275 80 := (v61f 275 80 (by unfold mEm; omega))
                    have s69 := st.gen (o' := 0) (l' := w 1 13) (m' := v 275 82) (t' := w 1 12) (b' := 0) s52 (e_fr.refl w42) (e_fr.trans (e_fr.refl v39) (e_fr.mono v61f (fun c k q => by unfold mEm at q; unfold mGs; omega))) (by omega) (by omega) (by omega) (by omega)
                    have q71 := st.nums s69
                    clear q53 e70a e70b e70c e70d e70e e70f
                    have q71c := q71.2.2.2.1
                    obtain ⟨dc72, r73, v74, hc75, hM⟩ := hM.ca rfl
                    have uhc75 := hc75.pn (fun nq => u_334 s69.1.2.2.2.2.1)
                    refine e_Pn.callA rfl (fun nq dq => e_Pn.and (t_129b s69.1.1 s69.1.2.1 z68q (d' := dc72) hc75) (u_129 s69.1.2.2.2.1)) (fun r76 w77 h78 => ?_)
                    obtain ⟨⟨rfl, rfl, h78⟩, -, h78k⟩ := h78
                    rcases h78.symm with h78 | ⟨h78c, h78⟩
                    · skip
                      replace hM : e_Rn 20 elay ecode eI d' 349 (405, [(2, (0, v17 275 78)), (0, (1, 275)), (1, (0, 11))], [], v74) r' v' := hM
                      obtain ⟨rfl, m79⟩ := (e_Rn.le eAlk [0, 1, 2] rfl rfl hM).pn (fun nq => v_349_405 (uhc75.2.rf s69.1.2.2.2.2.1) _ 11 (v17 275 78) v74 mq.r)
                      show e_Pn 20 elay kcode eI nq13 dq14 147 (22, [(2, (0, w30 cd 0)), (0, (1, 1)), (1, (0, 35))], [], w77) _
                      refine e_Pn.ord kAlk [0, 1, 2] rfl rfl ((v_147_22 (h78k.rf s69.1.2.2.2.1) _ 35 (w30 cd 0) w77 kq.r).imp (fun r81 w82 k80 => ?_))
                      obtain ⟨rfl, k80⟩ := k80
                      show e_Pn 20 elay kcode eI n d 145 (285, [(0, (1, 1))], [], w82) _
                      refine e_Pn.ord kAlk [0] rfl rfl ((v_145_285 (k80.rf (h78k.rf s69.1.2.2.2.1)) _  w82 kq.r).imp (fun r84 w85 k83 => ?_))
                      obtain ⟨rfl, k83⟩ := k83
                      exact ⟨rfl, rfl, Or.inr (rpF.tail h78 (k80.tr k83) m79)⟩
                    clear z68q
                    have s86 := st.ad (k := 1) s69 h78 (st.len1 s69 (by omega)) (by omega)
                    have s86n := h78.2.2.2.1
                    have s86m := st.len1 s69 (by omega)
                    have s86g : w 1 6 + 1 ≤ w77 1 6 := by omega
                    have q87 := st.nums s86
                    clear q71
                    have q87c := q87.2.2.2.1
                    show e_Pn 20 elay kcode eI nq13 dq14 147 (22, [(2, (0, w30 cd 0)), (0, (1, 1)), (1, (0, 35))], [], w77) _
                    replace hM : e_Rn 20 elay ecode eI d' 349 (405, [(2, (0, v17 275 78)), (0, (1, 275)), (1, (0, 11))], [], v74) r' v' := hM
                    refine e_Pn.run (t' := (23, [(2, (0, w30 cd 0)), (0, (1, 1)), (1, (0, 35))], [(1, 1)], w77)) kAlk 1 rfl ?_
                    refine e_Pn.getr (z := cd) kAlk rfl rfl s86.1.2.2.2.1.2.1 (by omega) ?_
                    refine e_Pn.run (t' := (28, [(2, (0, w30 cd 0)), (0, (1, 1)), (1, (0, 35))], [(0, w30 cd 0), (0, 35), (1, cd)], w77)) kAlk 2 rfl ?_
                    refine e_Pn.callA rfl (fun nq dq => l_21 s86.1.2.2.2.1 (op := 35) (od := w30 cd 0) (by omega) (by omega) s86.1.2.2.2.2.2.1) (fun r88 w89 h90 => ?_)
                    obtain ⟨z91, rfl, w89f, w89q⟩ := h90
                    have w89k := kRw.em s86.1.2.2.2.1 w89f
                    have w89l := (emQ.len w89q s86.1.2.2.2.2.2.1).1
                    have w89e : w89 1 5 = w77 1 5 ∧ w89 1 6 = w77 1 6 ∧ w89 1 8 = w77 1 8 := ⟨w89f 1 5 (by unfold kEm; omega), w89f 1 6 (by unfold kEm; omega), w89f 1 8 (by unfold kEm; omega)⟩
                    have s92 := st.em s86 w89f w89q (by omega) (by unfold isCl3; omega)
                    have q93 := st.nums s92
                    clear q87
                    have q93c := q93.2.2.2.1
                    have z91r : 0 ≤ z91 ∧ z91 ≤ 4000 := emQ.z w89q s86.1.2.2.2.2.2.1
                    show e_Pn 20 elay kcode eI nq13 dq14 147 (31, [(2, (0, w30 cd 0)), (0, (1, 1)), (1, (0, 35))], [(0, z91)], w89) _
                    refine e_Pn.run (t' := (32, [(2, (0, w30 cd 0)), (0, (1, 1)), (1, (0, 35))], [], w89)) kAlk 1 rfl ?_
                    refine e_Pn.ret0 rfl ?_
                    show e_Pn 20 elay kcode eI n d 145 (285, [(0, (1, 1))], [], w89) _
                    refine e_Pn.run (t' := (356, [(0, (1, 1))], [], w89)) kAlk 1 rfl ?_
                    obtain ⟨rfl, rfl⟩ := hM.re0 rfl
                    refine e_Pn.ret0 rfl ?_
                    exact ⟨rfl, rfl, Or.inl ⟨st.re s92 (by omega) (by omega) (by omega) (by omega) (by omega), by omega⟩⟩
                · replace h57 : (11 : Int) = 8 := by have q : ¬ ((11 : Int) ≠ 8) := h57; omega
                  exfalso; omega
              · replace h56 : (11 : Int) = 7 := by have q : ¬ ((11 : Int) ≠ 7) := h56; omega
                exfalso; omega
            · replace h55 : (11 : Int) = 5 := by have q : ¬ ((11 : Int) ≠ 5) := h55; omega
              exfalso; omega
          · replace h54 : (11 : Int) = 4 := by have q : ¬ ((11 : Int) ≠ 4) := h54; omega
            exfalso; omega
      · replace h21 : (11 : Int) = 17 := by have q : ¬ ((11 : Int) ≠ 17) := h21; omega
        exfalso; omega
set_option maxHeartbeats 4000000 in
theorem e_145_33 {n : Nat} {N cd : Int} {w v : eW} (hz : st0 N cd w v) (hp : 1 ≤ w 1 6) (hkd : w 1 5 = 33) (ihS : ∀ k, k < n → sE k) {d d' : Nat} {r' : List eV} {v' : eW} (hM : e_Rn 20 elay ecode eI d' 349 (0, [(0, (1, 275)), (1, (0, 12))], [], v) r' v') : e_Pn 20 elay kcode eI n d 145 (0, [(0, (1, 1))], [], w) (fun r w' => r = [] ∧ r' = [] ∧ ((st N cd w v w' v' 0 0 0 (-1) (w 1 13) (v 275 82) (w 1 12) 2 ∧ w 1 6 < w' 1 6) ∨ rpF w' v')) := by
  have h0 := hz.st (ka := 2)
  have hm := hz.1.2.2.2.1.1.m
  have hn := hz.1.2.2.2.1.1.n
  have hzo := hz.2.2.2
  have q1 := st.nums h0
  have q1c := q1.2.2.2.1
  refine e_Pn.run (t' := (1, [(0, (1, 1))], [(1, 1)], w)) kAlk 1 rfl ?_
  refine e_Pn.getf (z := w 1 5) kAlk rfl rfl rfl (fun b2 => ?_)
  refine e_Pn.run (t' := (6, [(0, (1, 1))], [(0, 41), (0, w 1 5)], w)) kAlk 1 rfl ?_
  refine e_Pn.if2 kAlk rfl (fun h3 => ?_) (fun h3 => ?_)
  · replace h3 : (w 1 5 : Int) = 41 := h3
    exact (kM_no h0.1.2.1.2.2.1 (fun a b => decide ((a : Int) = 33) && decide ((a : Int) = 41)) (fun a b c => true) (by decide) (by decide) (by simp only [Bool.and_eq_true, decide_eq_true_eq]; exact ⟨hkd, h3⟩) rfl).elim
  · replace h3 : (w 1 5 : Int) ≠ 41 := by have q : ¬ ((w 1 5 : Int) = 41) := h3; omega
    refine e_Pn.run (t' := (10, [(0, (1, 1))], [(1, 1)], w)) kAlk 1 rfl ?_
    refine e_Pn.getr (z := cd) kAlk rfl rfl h0.1.2.2.2.1.2.1 (by omega) ?_
    refine e_Pn.run (t' := (16, [(0, (1, 1))], [(0, 0), (0, 50), (1, cd)], w)) kAlk 2 rfl ?_
    refine e_Pn.callA rfl (fun nq dq => l_21 h0.1.2.2.2.1 (op := 50) (od := 0) (by omega) (by omega) h0.1.2.2.2.2.2.1) (fun r4 w5 h6 => ?_)
    obtain ⟨z7, rfl, w5f, w5q⟩ := h6
    have w5k := kRw.em h0.1.2.2.2.1 w5f
    have w5l := (emQ.len w5q h0.1.2.2.2.2.2.1).1
    have w5e : w5 1 5 = w 1 5 ∧ w5 1 6 = w 1 6 ∧ w5 1 8 = w 1 8 := ⟨w5f 1 5 (by unfold kEm; omega), w5f 1 6 (by unfold kEm; omega), w5f 1 8 (by unfold kEm; omega)⟩
    have s8 := st.em h0 w5f w5q (by omega) (by unfold isCl3; omega)
    have q9 := st.nums s8
    have q9c := q9.2.2.2.1
    have z7r : 0 ≤ z7 ∧ z7 ≤ 4000 := emQ.z w5q h0.1.2.2.2.2.2.1
    show e_Pn 20 elay kcode eI n d 145 (19, [(0, (1, 1))], [(0, z7)], w5) _
    refine e_Pn.run (t' := (21, [(0, (1, 1))], [(1, 1)], w5)) kAlk 2 rfl ?_
    refine e_Pn.getf (z := w 1 5) kAlk rfl rfl ((w5f 1 5 (by unfold kEm; omega)).trans rfl) (fun b10 => ?_)
    have hs12 : ∀ x : Int, 33 ≤ x ∧ x ≤ 33 → (x = 33) := fun x h => by omega
    obtain h11 := hs12 (w 1 5) (by omega)
    · refine e_Pn.sw (tg := 288) kAlk rfl (by rw [h11]; rfl) ?_
      replace h11 : (w 1 5 : Int) = 33 := h11
      refine e_Pn.run (t' := (291, [(0, (1, 1))], [(0, 36), (1, 1)], w5)) kAlk 2 rfl ?_
      refine e_Pn.callJ rfl (fun nq13 hnq13 dq14 => ?_)
      show e_Pn 20 elay kcode eI nq13 dq14 147 (0, [(0, (1, 1)), (1, (0, 36))], [], w5) _
      refine e_Pn.run (t' := (1, [(0, (1, 1)), (1, (0, 36))], [(1, 1)], w5)) kAlk 1 rfl ?_
      replace hM := hM.st (t' := (4, [(0, (1, 275)), (1, (0, 12))], [(0, 0), (0, 30), (1, 275)], v)) (fun _ _ q => e_Pn.run eAlk 3 rfl q)
      obtain ⟨dc15, r16, v17, hc18, hM⟩ := hM.ca rfl
      obtain ⟨⟨z19, rfl⟩, v17f⟩ := hc18.pn (fun nq => x_336 h0.1.2.2.2.2.1)
      have v17m := mfr.rf v17f h0.1.2.2.2.2.1
      replace hM : e_Rn 20 elay ecode eI d' 349 (7, [(0, (1, 275)), (1, (0, 12))], [(0, z19)], v17) r' v' := hM
      replace hM := hM.st (t' := (9, [(0, (1, 275)), (1, (0, 12))], [(1, 275)], v17)) (fun _ _ q => e_Pn.run eAlk 2 rfl q)
      obtain ⟨b20, hM⟩ := hM.of (fun _ _ q => e_Pn.getf (z := v17 275 78) eAlk rfl rfl rfl q)
      replace hM := hM.st (t' := (16, [(2, (0, v17 275 78)), (0, (1, 275)), (1, (0, 12))], [(0, 17), (0, 12)], v17)) (fun _ _ q => e_Pn.run eAlk 3 rfl q)
      rcases hM.or (fun _ _ q1 q2 => e_Pn.if2 eAlk rfl q1 q2) with ⟨h21, hM⟩ | ⟨h21, hM⟩
      · replace h21 : (12 : Int) ≠ 17 := h21
        replace hM := hM.st (t' := (70, [(2, (0, v17 275 78)), (0, (1, 275)), (1, (0, 12))], [(1, 275)], v17)) (fun _ _ q => e_Pn.run eAlk 1 rfl q)
        have e23a : w5 1 11 = w5 1 11 := rfl
        have e23b : v17 275 83 = v 275 83 := (v17f 275 83 (by unfold mEm; omega))
        have e23c : w5 1 13 = w5 1 13 := rfl
        have e23d : v17 275 82 = v 275 82 := (v17f 275 82 (by unfold mEm; omega))
        have e23f : w5 1 12 = w5 1 12 := rfl
        have e23e : v17 275 80 = v 275 80 := (v17f 275 80 (by unfold mEm; omega))
        have s22 := st.gen (o' := 0) (l' := w 1 13) (m' := v 275 82) (t' := w 1 12) (b' := 0) s8 (e_fr.refl w5) (e_fr.trans (e_fr.refl v) (e_fr.mono v17f (fun c k q => by unfold mEm at q; unfold mGs; omega))) (by omega) (by omega) (by omega) (by omega)
        have q24 := st.nums s22
        clear q9 e23a e23b e23c e23d e23e e23f
        have q24c := q24.2.2.2.1
        obtain ⟨dc25, r26, v27, hc28, hM⟩ := hM.ca rfl
        refine e_Pn.callA rfl (fun nq dq => t_123b s22.1.1 s22.1.2.1.1 s22.1.2.1.2.1.2.1 (st.nx s22) (d' := dc25) hc28) (fun r29 w30 h31 => ?_)
        obtain ⟨rfl, rfl, h31⟩ := h31
        have s32 := st.ad (k := 2) s22 h31 (st.len2 s22 (by omega)) (by omega)
        have s32n := h31.2.2.2.1
        have s32m := st.len2 s22 (by omega)
        have s32g : w 1 6 + 1 ≤ w30 1 6 := by omega
        have q33 := st.nums s32
        clear q24
        have q33c := q33.2.2.2.1
        show e_Pn 20 elay kcode eI nq13 dq14 147 (4, [(0, (1, 1)), (1, (0, 36))], [], w30) _
        replace hM : e_Rn 20 elay ecode eI d' 349 (73, [(2, (0, v17 275 78)), (0, (1, 275)), (1, (0, 12))], [], v27) r' v' := hM
        refine e_Pn.run (t' := (5, [(0, (1, 1)), (1, (0, 36))], [(1, 1)], w30)) kAlk 1 rfl ?_
        refine e_Pn.getr (z := cd) kAlk rfl rfl s32.1.2.2.2.1.2.1 (by omega) ?_
        refine e_Pn.getf (z := w30 cd 0) kAlk rfl rfl rfl (fun b34 => ?_)
        refine e_Pn.run (t' := (13, [(2, (0, w30 cd 0)), (0, (1, 1)), (1, (0, 36))], [(1, 1)], w30)) kAlk 2 rfl ?_
        replace hM := hM.st (t' := (74, [(2, (0, v17 275 78)), (0, (1, 275)), (1, (0, 12))], [(0, 12)], v27)) (fun _ _ q => e_Pn.run eAlk 1 rfl q)
        have hs36 : ∀ x : Int, 12 ≤ x ∧ x ≤ 12 → (x = 12) := fun x h => by omega
        obtain h35 := hs36 (12) (by omega)
        · replace hM := hM.st (fun _ _ q => e_Pn.sw (tg := 330) eAlk rfl (by rw [h35]; rfl) q)
          replace hM := hM.st (t' := (331, [(2, (0, v17 275 78)), (0, (1, 275)), (1, (0, 12))], [(1, 275)], v27)) (fun _ _ q => e_Pn.run eAlk 1 rfl q)
          obtain ⟨dc37, r38, v39, hc40, hM⟩ := hM.ca rfl
          have uhc40 := hc40.pn (fun nq => uE_all nq 339 (by decide) _ _ s32.1.2.2.2.2.1)
          have z44 : stE N cd w30 v27 := st.zE s32 (by omega) (by omega)
          refine e_Pn.callA rfl (fun nq dq => e_Pn.and (eEg_all nq 158 339 (by decide) _ _ dq _ _ _ z44 hc40) (kE_all nq 158 (by decide) dq _ _ s32.1.2.2.2.1)) (fun r41 w42 h43 => ?_)
          obtain ⟨⟨rfl, rfl, h43⟩, -, h43k⟩ := h43
          rcases h43.symm with h43 | ⟨h43, h43p⟩
          · skip
            replace hM : e_Rn 20 elay ecode eI d' 349 (334, [(2, (0, v17 275 78)), (0, (1, 275)), (1, (0, 12))], [], v39) r' v' := hM
            obtain ⟨rfl, m45⟩ := (e_Rn.le eAlk [0, 1, 2] rfl rfl hM).pn (fun nq => v_349_334 (uhc40.2.rf s32.1.2.2.2.2.1) _ 12 (v17 275 78) v39 mq.r)
            show e_Pn 20 elay kcode eI nq13 dq14 147 (16, [(2, (0, w30 cd 0)), (0, (1, 1)), (1, (0, 36))], [], w42) _
            refine e_Pn.ord kAlk [0, 1, 2] rfl rfl ((v_147_16 (h43k.rf s32.1.2.2.2.1) _ 36 (w30 cd 0) w42 kq.r).imp (fun r47 w48 k46 => ?_))
            obtain ⟨rfl, k46⟩ := k46
            show e_Pn 20 elay kcode eI n d 145 (294, [(0, (1, 1))], [], w48) _
            refine e_Pn.ord kAlk [0] rfl rfl ((v_145_294 (k46.rf (h43k.rf s32.1.2.2.2.1)) _  w48 kq.r).imp (fun r50 w51 k49 => ?_))
            obtain ⟨rfl, k49⟩ := k49
            exact ⟨rfl, rfl, Or.inr (rpF.tail h43 (k46.tr k49) m45)⟩
          have s52 := st.re (l' := w 1 13) (m' := v 275 82) (t' := w 1 12) (st.tr s32 h43) (Int.le_refl _) rfl (by omega) (by omega) (by omega)
          have q53 := st.nums s52
          clear q33
          have q53c := q53.2.2.2.1
          show e_Pn 20 elay kcode eI nq13 dq14 147 (16, [(2, (0, w30 cd 0)), (0, (1, 1)), (1, (0, 36))], [], w42) _
          replace hM : e_Rn 20 elay ecode eI d' 349 (334, [(2, (0, v17 275 78)), (0, (1, 275)), (1, (0, 12))], [], v39) r' v' := hM
          refine e_Pn.run (t' := (19, [(2, (0, w30 cd 0)), (0, (1, 1)), (1, (0, 36))], [(0, 19), (1, 1)], w42)) kAlk 2 rfl ?_
          replace hM := hM.st (t' := (337, [(2, (0, v17 275 78)), (0, (1, 275)), (1, (0, 12))], [(0, 4), (0, 12), (1, 275)], v39)) (fun _ _ q => e_Pn.run eAlk 3 rfl q)
          rcases hM.or (fun _ _ q1 q2 => e_Pn.if2 eAlk rfl q1 q2) with ⟨h54, hM⟩ | ⟨h54, hM⟩
          · replace h54 : (12 : Int) ≠ 4 := h54
            replace hM := hM.st (t' := (347, [(2, (0, v17 275 78)), (0, (1, 275)), (1, (0, 12))], [(0, 5), (0, 12), (1, 275)], v39)) (fun _ _ q => e_Pn.run eAlk 2 rfl q)
            rcases hM.or (fun _ _ q1 q2 => e_Pn.if2 eAlk rfl q1 q2) with ⟨h55, hM⟩ | ⟨h55, hM⟩
            · replace h55 : (12 : Int) ≠ 5 := h55
              replace hM := hM.st (t' := (358, [(2, (0, v17 275 78)), (0, (1, 275)), (1, (0, 12))], [(0, 7), (0, 12), (1, 275)], v39)) (fun _ _ q => e_Pn.run eAlk 2 rfl q)
              rcases hM.or (fun _ _ q1 q2 => e_Pn.if2 eAlk rfl q1 q2) with ⟨h56, hM⟩ | ⟨h56, hM⟩
              · replace h56 : (12 : Int) ≠ 7 := h56
                replace hM := hM.st (t' := (369, [(2, (0, v17 275 78)), (0, (1, 275)), (1, (0, 12))], [(0, 8), (0, 12), (1, 275)], v39)) (fun _ _ q => e_Pn.run eAlk 2 rfl q)
                rcases hM.or (fun _ _ q1 q2 => e_Pn.if2 eAlk rfl q1 q2) with ⟨h57, hM⟩ | ⟨h57, hM⟩
                · replace h57 : (12 : Int) ≠ 8 := h57
                  replace hM := hM.st (t' := (380, [(2, (0, v17 275 78)), (0, (1, 275)), (1, (0, 12))], [(0, 11), (0, 12), (1, 275)], v39)) (fun _ _ q => e_Pn.run eAlk 2 rfl q)
                  rcases hM.or (fun _ _ q1 q2 => e_Pn.if2 eAlk rfl q1 q2) with ⟨h58, hM⟩ | ⟨h58, hM⟩
                  · replace h58 : (12 : Int) ≠ 11 := h58
                    replace hM := hM.st (t' := (391, [(2, (0, v17 275 78)), (0, (1, 275)), (1, (0, 12))], [(0, v17 275 78), (0, 41), (1, 275)], v39)) (fun _ _ q => e_Pn.run eAlk 2 rfl q)
                    obtain ⟨dc59, r60, v61, hc62, hM⟩ := hM.ca rfl
                    obtain ⟨⟨z63, rfl⟩, v61f⟩ := hc62.pn (fun nq => x_336 s52.1.2.2.2.2.1)
                    have v61m := mfr.rf v61f s52.1.2.2.2.2.1
                    replace hM : e_Rn 20 elay ecode eI d' 349 (394, [(2, (0, v17 275 78)), (0, (1, 275)), (1, (0, 12))], [(0, z63)], v61) r' v' := hM
                    replace hM := hM.st (t' := (399, [(2, (0, v17 275 78)), (0, (1, 275)), (1, (0, 12))], [(0, 59), (1, 275), (1, 275)], v61)) (fun _ _ q => e_Pn.run eAlk 4 rfl q)
                    obtain ⟨dc64, r65, v66, hc67, hM⟩ := hM.ca rfl
                    obtain ⟨z68, rfl, rfl, z68q⟩ := hc67.pn (fun nq => l_331)
                    replace z68q := isS (kM_s59 s52.1.2.1.2.2.1) ((v61f 275 84 (by unfold mEm; omega)).trans rfl) ((v61f 275 85 (by unfold mEm; omega)).trans rfl) z68q
                    replace hM : e_Rn 20 elay ecode eI d' 349 (402, [(2, (0, v17 275 78)), (0, (1, 275)), (1, (0, 12))], [(0, z68), (1, 275)], v61) r' v' := hM
                    have e70a : w42 1 11 = w42 1 11 := rfl
                    have e70b : v61 275 83 = v39 275 83 := (v61f 275 83 (by unfold mEm; omega))
                    have e70c : w42 1 13 = w42 1 13 := rfl
                    have e70d : v61 275 82 = v39 275 82 := (v61f 275 82 (by unfold mEm; omega))
                    have e70f : w42 1 12 = w42 1 12 := rfl
                    have e70e : v61 275 80 = v39 275 80 := (v61f 275 80 (by unfold mEm; omega))
                    have s69 := st.gen (o' := 0) (l' := w 1 13) (m' := v 275 82) (t' := w 1 12) (b' := 0) s52 (e_fr.refl w42) (e_fr.trans (e_fr.refl v39) (e_fr.mono v61f (fun c k q => by unfold mEm at q; unfold mGs; omega))) (by omega) (by omega) (by omega) (by omega)
                    have q71 := st.nums s69
                    clear q53 e70a e70b e70c e70d e70e e70f
                    have q71c := q71.2.2.2.1
                    obtain ⟨dc72, r73, v74, hc75, hM⟩ := hM.ca rfl
                    have uhc75 := hc75.pn (fun nq => u_334 s69.1.2.2.2.2.1)
                    refine e_Pn.callA rfl (fun nq dq => e_Pn.and (t_129b s69.1.1 s69.1.2.1 z68q (d' := dc72) hc75) (u_129 s69.1.2.2.2.1)) (fun r76 w77 h78 => ?_)
                    obtain ⟨⟨rfl, rfl, h78⟩, -, h78k⟩ := h78
                    rcases h78.symm with h78 | ⟨h78c, h78⟩
                    · skip
                      replace hM : e_Rn 20 elay ecode eI d' 349 (405, [(2, (0, v17 275 78)), (0, (1, 275)), (1, (0, 12))], [], v74) r' v' := hM
                      obtain ⟨rfl, m79⟩ := (e_Rn.le eAlk [0, 1, 2] rfl rfl hM).pn (fun nq => v_349_405 (uhc75.2.rf s69.1.2.2.2.2.1) _ 12 (v17 275 78) v74 mq.r)
                      show e_Pn 20 elay kcode eI nq13 dq14 147 (22, [(2, (0, w30 cd 0)), (0, (1, 1)), (1, (0, 36))], [], w77) _
                      refine e_Pn.ord kAlk [0, 1, 2] rfl rfl ((v_147_22 (h78k.rf s69.1.2.2.2.1) _ 36 (w30 cd 0) w77 kq.r).imp (fun r81 w82 k80 => ?_))
                      obtain ⟨rfl, k80⟩ := k80
                      show e_Pn 20 elay kcode eI n d 145 (294, [(0, (1, 1))], [], w82) _
                      refine e_Pn.ord kAlk [0] rfl rfl ((v_145_294 (k80.rf (h78k.rf s69.1.2.2.2.1)) _  w82 kq.r).imp (fun r84 w85 k83 => ?_))
                      obtain ⟨rfl, k83⟩ := k83
                      exact ⟨rfl, rfl, Or.inr (rpF.tail h78 (k80.tr k83) m79)⟩
                    clear z68q
                    have s86 := st.ad (k := 1) s69 h78 (st.len1 s69 (by omega)) (by omega)
                    have s86n := h78.2.2.2.1
                    have s86m := st.len1 s69 (by omega)
                    have s86g : w 1 6 + 1 ≤ w77 1 6 := by omega
                    have q87 := st.nums s86
                    clear q71
                    have q87c := q87.2.2.2.1
                    show e_Pn 20 elay kcode eI nq13 dq14 147 (22, [(2, (0, w30 cd 0)), (0, (1, 1)), (1, (0, 36))], [], w77) _
                    replace hM : e_Rn 20 elay ecode eI d' 349 (405, [(2, (0, v17 275 78)), (0, (1, 275)), (1, (0, 12))], [], v74) r' v' := hM
                    refine e_Pn.run (t' := (23, [(2, (0, w30 cd 0)), (0, (1, 1)), (1, (0, 36))], [(1, 1)], w77)) kAlk 1 rfl ?_
                    refine e_Pn.getr (z := cd) kAlk rfl rfl s86.1.2.2.2.1.2.1 (by omega) ?_
                    refine e_Pn.run (t' := (28, [(2, (0, w30 cd 0)), (0, (1, 1)), (1, (0, 36))], [(0, w30 cd 0), (0, 36), (1, cd)], w77)) kAlk 2 rfl ?_
                    refine e_Pn.callA rfl (fun nq dq => l_21 s86.1.2.2.2.1 (op := 36) (od := w30 cd 0) (by omega) (by omega) s86.1.2.2.2.2.2.1) (fun r88 w89 h90 => ?_)
                    obtain ⟨z91, rfl, w89f, w89q⟩ := h90
                    have w89k := kRw.em s86.1.2.2.2.1 w89f
                    have w89l := (emQ.len w89q s86.1.2.2.2.2.2.1).1
                    have w89e : w89 1 5 = w77 1 5 ∧ w89 1 6 = w77 1 6 ∧ w89 1 8 = w77 1 8 := ⟨w89f 1 5 (by unfold kEm; omega), w89f 1 6 (by unfold kEm; omega), w89f 1 8 (by unfold kEm; omega)⟩
                    have s92 := st.em s86 w89f w89q (by omega) (by unfold isCl3; omega)
                    have q93 := st.nums s92
                    clear q87
                    have q93c := q93.2.2.2.1
                    have z91r : 0 ≤ z91 ∧ z91 ≤ 4000 := emQ.z w89q s86.1.2.2.2.2.2.1
                    show e_Pn 20 elay kcode eI nq13 dq14 147 (31, [(2, (0, w30 cd 0)), (0, (1, 1)), (1, (0, 36))], [(0, z91)], w89) _
                    refine e_Pn.run (t' := (32, [(2, (0, w30 cd 0)), (0, (1, 1)), (1, (0, 36))], [], w89)) kAlk 1 rfl ?_
                    refine e_Pn.ret0 rfl ?_
                    show e_Pn 20 elay kcode eI n d 145 (294, [(0, (1, 1))], [], w89) _
                    refine e_Pn.run (t' := (356, [(0, (1, 1))], [], w89)) kAlk 1 rfl ?_
                    obtain ⟨rfl, rfl⟩ := hM.re0 rfl
                    refine e_Pn.ret0 rfl ?_
                    exact ⟨rfl, rfl, Or.inl ⟨st.re s92 (by omega) (by omega) (by omega) (by omega) (by omega), by omega⟩⟩
                  · replace h58 : (12 : Int) = 11 := by have q : ¬ ((12 : Int) ≠ 11) := h58; omega
                    exfalso; omega
                · replace h57 : (12 : Int) = 8 := by have q : ¬ ((12 : Int) ≠ 8) := h57; omega
                  exfalso; omega
              · replace h56 : (12 : Int) = 7 := by have q : ¬ ((12 : Int) ≠ 7) := h56; omega
                exfalso; omega
            · replace h55 : (12 : Int) = 5 := by have q : ¬ ((12 : Int) ≠ 5) := h55; omega
              exfalso; omega
          · replace h54 : (12 : Int) = 4 := by have q : ¬ ((12 : Int) ≠ 4) := h54; omega
            exfalso; omega
      · replace h21 : (12 : Int) = 17 := by have q : ¬ ((12 : Int) ≠ 17) := h21; omega
        exfalso; omega
set_option maxHeartbeats 4000000 in
theorem e_145_34 {n : Nat} {N cd : Int} {w v : eW} (hz : st0 N cd w v) (hp : 1 ≤ w 1 6) (hkd : w 1 5 = 34) (ihS : ∀ k, k < n → sE k) {d d' : Nat} {r' : List eV} {v' : eW} (hM : e_Rn 20 elay ecode eI d' 349 (0, [(0, (1, 275)), (1, (0, 13))], [], v) r' v') : e_Pn 20 elay kcode eI n d 145 (0, [(0, (1, 1))], [], w) (fun r w' => r = [] ∧ r' = [] ∧ ((st N cd w v w' v' 0 0 0 (-1) (w 1 13) (v 275 82) (w 1 12) 2 ∧ w 1 6 < w' 1 6) ∨ rpF w' v')) := by
  have h0 := hz.st (ka := 2)
  have hm := hz.1.2.2.2.1.1.m
  have hn := hz.1.2.2.2.1.1.n
  have hzo := hz.2.2.2
  have q1 := st.nums h0
  have q1c := q1.2.2.2.1
  refine e_Pn.run (t' := (1, [(0, (1, 1))], [(1, 1)], w)) kAlk 1 rfl ?_
  refine e_Pn.getf (z := w 1 5) kAlk rfl rfl rfl (fun b2 => ?_)
  refine e_Pn.run (t' := (6, [(0, (1, 1))], [(0, 41), (0, w 1 5)], w)) kAlk 1 rfl ?_
  refine e_Pn.if2 kAlk rfl (fun h3 => ?_) (fun h3 => ?_)
  · replace h3 : (w 1 5 : Int) = 41 := h3
    exact (kM_no h0.1.2.1.2.2.1 (fun a b => decide ((a : Int) = 34) && decide ((a : Int) = 41)) (fun a b c => true) (by decide) (by decide) (by simp only [Bool.and_eq_true, decide_eq_true_eq]; exact ⟨hkd, h3⟩) rfl).elim
  · replace h3 : (w 1 5 : Int) ≠ 41 := by have q : ¬ ((w 1 5 : Int) = 41) := h3; omega
    refine e_Pn.run (t' := (10, [(0, (1, 1))], [(1, 1)], w)) kAlk 1 rfl ?_
    refine e_Pn.getr (z := cd) kAlk rfl rfl h0.1.2.2.2.1.2.1 (by omega) ?_
    refine e_Pn.run (t' := (16, [(0, (1, 1))], [(0, 0), (0, 50), (1, cd)], w)) kAlk 2 rfl ?_
    refine e_Pn.callA rfl (fun nq dq => l_21 h0.1.2.2.2.1 (op := 50) (od := 0) (by omega) (by omega) h0.1.2.2.2.2.2.1) (fun r4 w5 h6 => ?_)
    obtain ⟨z7, rfl, w5f, w5q⟩ := h6
    have w5k := kRw.em h0.1.2.2.2.1 w5f
    have w5l := (emQ.len w5q h0.1.2.2.2.2.2.1).1
    have w5e : w5 1 5 = w 1 5 ∧ w5 1 6 = w 1 6 ∧ w5 1 8 = w 1 8 := ⟨w5f 1 5 (by unfold kEm; omega), w5f 1 6 (by unfold kEm; omega), w5f 1 8 (by unfold kEm; omega)⟩
    have s8 := st.em h0 w5f w5q (by omega) (by unfold isCl3; omega)
    have q9 := st.nums s8
    have q9c := q9.2.2.2.1
    have z7r : 0 ≤ z7 ∧ z7 ≤ 4000 := emQ.z w5q h0.1.2.2.2.2.2.1
    show e_Pn 20 elay kcode eI n d 145 (19, [(0, (1, 1))], [(0, z7)], w5) _
    refine e_Pn.run (t' := (21, [(0, (1, 1))], [(1, 1)], w5)) kAlk 2 rfl ?_
    refine e_Pn.getf (z := w 1 5) kAlk rfl rfl ((w5f 1 5 (by unfold kEm; omega)).trans rfl) (fun b10 => ?_)
    have hs12 : ∀ x : Int, 34 ≤ x ∧ x ≤ 34 → (x = 34) := fun x h => by omega
    obtain h11 := hs12 (w 1 5) (by omega)
    · refine e_Pn.sw (tg := 297) kAlk rfl (by rw [h11]; rfl) ?_
      replace h11 : (w 1 5 : Int) = 34 := h11
      refine e_Pn.run (t' := (300, [(0, (1, 1))], [(0, 37), (1, 1)], w5)) kAlk 2 rfl ?_
      refine e_Pn.callJ rfl (fun nq13 hnq13 dq14 => ?_)
      show e_Pn 20 elay kcode eI nq13 dq14 146 (0, [(0, (1, 1)), (1, (0, 37))], [], w5) _
      refine e_Pn.run (t' := (1, [(0, (1, 1)), (1, (0, 37))], [(1, 1)], w5)) kAlk 1 rfl ?_
      replace hM := hM.st (t' := (4, [(0, (1, 275)), (1, (0, 13))], [(0, 0), (0, 30), (1, 275)], v)) (fun _ _ q => e_Pn.run eAlk 3 rfl q)
      obtain ⟨dc15, r16, v17, hc18, hM⟩ := hM.ca rfl
      obtain ⟨⟨z19, rfl⟩, v17f⟩ := hc18.pn (fun nq => x_336 h0.1.2.2.2.2.1)
      have v17m := mfr.rf v17f h0.1.2.2.2.2.1
      replace hM : e_Rn 20 elay ecode eI d' 349 (7, [(0, (1, 275)), (1, (0, 13))], [(0, z19)], v17) r' v' := hM
      replace hM := hM.st (t' := (9, [(0, (1, 275)), (1, (0, 13))], [(1, 275)], v17)) (fun _ _ q => e_Pn.run eAlk 2 rfl q)
      obtain ⟨b20, hM⟩ := hM.of (fun _ _ q => e_Pn.getf (z := v17 275 78) eAlk rfl rfl rfl q)
      replace hM := hM.st (t' := (16, [(2, (0, v17 275 78)), (0, (1, 275)), (1, (0, 13))], [(0, 17), (0, 13)], v17)) (fun _ _ q => e_Pn.run eAlk 3 rfl q)
      rcases hM.or (fun _ _ q1 q2 => e_Pn.if2 eAlk rfl q1 q2) with ⟨h21, hM⟩ | ⟨h21, hM⟩
      · replace h21 : (13 : Int) ≠ 17 := h21
        replace hM := hM.st (t' := (70, [(2, (0, v17 275 78)), (0, (1, 275)), (1, (0, 13))], [(1, 275)], v17)) (fun _ _ q => e_Pn.run eAlk 1 rfl q)
        have e23a : w5 1 11 = w5 1 11 := rfl
        have e23b : v17 275 83 = v 275 83 := (v17f 275 83 (by unfold mEm; omega))
        have e23c : w5 1 13 = w5 1 13 := rfl
        have e23d : v17 275 82 = v 275 82 := (v17f 275 82 (by unfold mEm; omega))
        have e23f : w5 1 12 = w5 1 12 := rfl
        have e23e : v17 275 80 = v 275 80 := (v17f 275 80 (by unfold mEm; omega))
        have s22 := st.gen (o' := 0) (l' := w 1 13) (m' := v 275 82) (t' := w 1 12) (b' := 0) s8 (e_fr.refl w5) (e_fr.trans (e_fr.refl v) (e_fr.mono v17f (fun c k q => by unfold mEm at q; unfold mGs; omega))) (by omega) (by omega) (by omega) (by omega)
        have q24 := st.nums s22
        clear q9 e23a e23b e23c e23d e23e e23f
        have q24c := q24.2.2.2.1
        obtain ⟨dc25, r26, v27, hc28, hM⟩ := hM.ca rfl
        refine e_Pn.callA rfl (fun nq dq => t_123b s22.1.1 s22.1.2.1.1 s22.1.2.1.2.1.2.1 (st.nx s22) (d' := dc25) hc28) (fun r29 w30 h31 => ?_)
        obtain ⟨rfl, rfl, h31⟩ := h31
        have s32 := st.ad (k := 2) s22 h31 (st.len2 s22 (by omega)) (by omega)
        have s32n := h31.2.2.2.1
        have s32m := st.len2 s22 (by omega)
        have s32g : w 1 6 + 1 ≤ w30 1 6 := by omega
        have q33 := st.nums s32
        clear q24
        have q33c := q33.2.2.2.1
        show e_Pn 20 elay kcode eI nq13 dq14 146 (4, [(0, (1, 1)), (1, (0, 37))], [], w30) _
        replace hM : e_Rn 20 elay ecode eI d' 349 (73, [(2, (0, v17 275 78)), (0, (1, 275)), (1, (0, 13))], [], v27) r' v' := hM
        refine e_Pn.run (t' := (7, [(0, (1, 1)), (1, (0, 37))], [(0, 19), (1, 1)], w30)) kAlk 2 rfl ?_
        replace hM := hM.st (t' := (74, [(2, (0, v17 275 78)), (0, (1, 275)), (1, (0, 13))], [(0, 13)], v27)) (fun _ _ q => e_Pn.run eAlk 1 rfl q)
        have hs35 : ∀ x : Int, 13 ≤ x ∧ x ≤ 13 → (x = 13) := fun x h => by omega
        obtain h34 := hs35 (13) (by omega)
        · replace hM := hM.st (fun _ _ q => e_Pn.sw (tg := 283) eAlk rfl (by rw [h34]; rfl) q)
          replace hM := hM.st (t' := (287, [(2, (0, v17 275 78)), (0, (1, 275)), (1, (0, 13))], [(0, 0), (0, 42), (1, 275)], v27)) (fun _ _ q => e_Pn.run eAlk 3 rfl q)
          obtain ⟨dc36, r37, v38, hc39, hM⟩ := hM.ca rfl
          obtain ⟨⟨z40, rfl⟩, v38f⟩ := hc39.pn (fun nq => x_336 s32.1.2.2.2.2.1)
          have v38m := mfr.rf v38f s32.1.2.2.2.2.1
          replace hM : e_Rn 20 elay ecode eI d' 349 (290, [(2, (0, v17 275 78)), (0, (1, 275)), (1, (0, 13))], [(0, z40)], v38) r' v' := hM
          replace hM := hM.st (t' := (399, [(2, (0, v17 275 78)), (0, (1, 275)), (1, (0, 13))], [(0, 59), (1, 275), (1, 275)], v38)) (fun _ _ q => e_Pn.run eAlk 5 rfl q)
          obtain ⟨dc41, r42, v43, hc44, hM⟩ := hM.ca rfl
          obtain ⟨z45, rfl, rfl, z45q⟩ := hc44.pn (fun nq => l_331)
          replace z45q := isS (kM_s59 s32.1.2.1.2.2.1) ((v38f 275 84 (by unfold mEm; omega)).trans rfl) ((v38f 275 85 (by unfold mEm; omega)).trans rfl) z45q
          replace hM : e_Rn 20 elay ecode eI d' 349 (402, [(2, (0, v17 275 78)), (0, (1, 275)), (1, (0, 13))], [(0, z45), (1, 275)], v38) r' v' := hM
          have e47a : w30 1 11 = w30 1 11 := rfl
          have e47b : v38 275 83 = v27 275 83 := (v38f 275 83 (by unfold mEm; omega))
          have e47c : w30 1 13 = w30 1 13 := rfl
          have e47d : v38 275 82 = v27 275 82 := (v38f 275 82 (by unfold mEm; omega))
          have e47f : w30 1 12 = w30 1 12 := rfl
          have e47e : v38 275 80 = v27 275 80 := (v38f 275 80 (by unfold mEm; omega))
          have s46 := st.gen (o' := 0) (l' := w 1 13) (m' := v 275 82) (t' := w 1 12) (b' := 0) s32 (e_fr.refl w30) (e_fr.trans (e_fr.refl v27) (e_fr.mono v38f (fun c k q => by unfold mEm at q; unfold mGs; omega))) (by omega) (by omega) (by omega) (by omega)
          have q48 := st.nums s46
          clear q33 e47a e47b e47c e47d e47e e47f
          have q48c := q48.2.2.2.1
          obtain ⟨dc49, r50, v51, hc52, hM⟩ := hM.ca rfl
          have uhc52 := hc52.pn (fun nq => u_334 s46.1.2.2.2.2.1)
          refine e_Pn.callA rfl (fun nq dq => e_Pn.and (t_129b s46.1.1 s46.1.2.1 z45q (d' := dc49) hc52) (u_129 s46.1.2.2.2.1)) (fun r53 w54 h55 => ?_)
          obtain ⟨⟨rfl, rfl, h55⟩, -, h55k⟩ := h55
          rcases h55.symm with h55 | ⟨h55c, h55⟩
          · skip
            replace hM : e_Rn 20 elay ecode eI d' 349 (405, [(2, (0, v17 275 78)), (0, (1, 275)), (1, (0, 13))], [], v51) r' v' := hM
            obtain ⟨rfl, m56⟩ := (e_Rn.le eAlk [0, 1, 2] rfl rfl hM).pn (fun nq => v_349_405 (uhc52.2.rf s46.1.2.2.2.2.1) _ 13 (v17 275 78) v51 mq.r)
            show e_Pn 20 elay kcode eI nq13 dq14 146 (10, [(0, (1, 1)), (1, (0, 37))], [], w54) _
            refine e_Pn.ord kAlk [0, 1] rfl rfl ((v_146_10 (h55k.rf s46.1.2.2.2.1) _ 37 w54 kq.r).imp (fun r58 w59 k57 => ?_))
            obtain ⟨rfl, k57⟩ := k57
            show e_Pn 20 elay kcode eI n d 145 (303, [(0, (1, 1))], [], w59) _
            refine e_Pn.ord kAlk [0] rfl rfl ((v_145_303 (k57.rf (h55k.rf s46.1.2.2.2.1)) _  w59 kq.r).imp (fun r61 w62 k60 => ?_))
            obtain ⟨rfl, k60⟩ := k60
            exact ⟨rfl, rfl, Or.inr (rpF.tail h55 (k57.tr k60) m56)⟩
          clear z45q
          have s63 := st.ad (k := 1) s46 h55 (st.len1 s46 (by omega)) (by omega)
          have s63n := h55.2.2.2.1
          have s63m := st.len1 s46 (by omega)
          have s63g : w 1 6 + 1 ≤ w54 1 6 := by omega
          have q64 := st.nums s63
          clear q48
          have q64c := q64.2.2.2.1
          show e_Pn 20 elay kcode eI nq13 dq14 146 (10, [(0, (1, 1)), (1, (0, 37))], [], w54) _
          replace hM : e_Rn 20 elay ecode eI d' 349 (405, [(2, (0, v17 275 78)), (0, (1, 275)), (1, (0, 13))], [], v51) r' v' := hM
          refine e_Pn.run (t' := (11, [(0, (1, 1)), (1, (0, 37))], [(1, 1)], w54)) kAlk 1 rfl ?_
          refine e_Pn.getr (z := cd) kAlk rfl rfl s63.1.2.2.2.1.2.1 (by omega) ?_
          refine e_Pn.run (t' := (16, [(0, (1, 1)), (1, (0, 37))], [(0, 0), (0, 37), (1, cd)], w54)) kAlk 2 rfl ?_
          refine e_Pn.callA rfl (fun nq dq => l_21 s63.1.2.2.2.1 (op := 37) (od := 0) (by omega) (by omega) s63.1.2.2.2.2.2.1) (fun r65 w66 h67 => ?_)
          obtain ⟨z68, rfl, w66f, w66q⟩ := h67
          have w66k := kRw.em s63.1.2.2.2.1 w66f
          have w66l := (emQ.len w66q s63.1.2.2.2.2.2.1).1
          have w66e : w66 1 5 = w54 1 5 ∧ w66 1 6 = w54 1 6 ∧ w66 1 8 = w54 1 8 := ⟨w66f 1 5 (by unfold kEm; omega), w66f 1 6 (by unfold kEm; omega), w66f 1 8 (by unfold kEm; omega)⟩
          have s69 := st.em s63 w66f w66q (by omega) (by unfold isCl3; omega)
          have q70 := st.nums s69
          clear q64
          have q70c := q70.2.2.2.1
          have z68r : 0 ≤ z68 ∧ z68 ≤ 4000 := emQ.z w66q s63.1.2.2.2.2.2.1
          show e_Pn 20 elay kcode eI nq13 dq14 146 (19, [(0, (1, 1)), (1, (0, 37))], [(0, z68)], w66) _
          refine e_Pn.run (t' := (20, [(0, (1, 1)), (1, (0, 37))], [], w66)) kAlk 1 rfl ?_
          refine e_Pn.ret0 rfl ?_
          show e_Pn 20 elay kcode eI n d 145 (303, [(0, (1, 1))], [], w66) _
          refine e_Pn.run (t' := (356, [(0, (1, 1))], [], w66)) kAlk 1 rfl ?_
          obtain ⟨rfl, rfl⟩ := hM.re0 rfl
          refine e_Pn.ret0 rfl ?_
          exact ⟨rfl, rfl, Or.inl ⟨st.re s69 (by omega) (by omega) (by omega) (by omega) (by omega), by omega⟩⟩
      · replace h21 : (13 : Int) = 17 := by have q : ¬ ((13 : Int) ≠ 17) := h21; omega
        exfalso; omega
set_option maxHeartbeats 4000000 in
theorem e_145_35 {n : Nat} {N cd : Int} {w v : eW} (hz : st0 N cd w v) (hp : 1 ≤ w 1 6) (hkd : w 1 5 = 35) (ihS : ∀ k, k < n → sE k) {d d' : Nat} {r' : List eV} {v' : eW} (hM : e_Rn 20 elay ecode eI d' 349 (0, [(0, (1, 275)), (1, (0, 14))], [], v) r' v') : e_Pn 20 elay kcode eI n d 145 (0, [(0, (1, 1))], [], w) (fun r w' => r = [] ∧ r' = [] ∧ ((st N cd w v w' v' 0 0 0 (-1) (w 1 13) (v 275 82) (w 1 12) 2 ∧ w 1 6 < w' 1 6) ∨ rpF w' v')) := by
  have h0 := hz.st (ka := 2)
  have hm := hz.1.2.2.2.1.1.m
  have hn := hz.1.2.2.2.1.1.n
  have hzo := hz.2.2.2
  have q1 := st.nums h0
  have q1c := q1.2.2.2.1
  refine e_Pn.run (t' := (1, [(0, (1, 1))], [(1, 1)], w)) kAlk 1 rfl ?_
  refine e_Pn.getf (z := w 1 5) kAlk rfl rfl rfl (fun b2 => ?_)
  refine e_Pn.run (t' := (6, [(0, (1, 1))], [(0, 41), (0, w 1 5)], w)) kAlk 1 rfl ?_
  refine e_Pn.if2 kAlk rfl (fun h3 => ?_) (fun h3 => ?_)
  · replace h3 : (w 1 5 : Int) = 41 := h3
    exact (kM_no h0.1.2.1.2.2.1 (fun a b => decide ((a : Int) = 35) && decide ((a : Int) = 41)) (fun a b c => true) (by decide) (by decide) (by simp only [Bool.and_eq_true, decide_eq_true_eq]; exact ⟨hkd, h3⟩) rfl).elim
  · replace h3 : (w 1 5 : Int) ≠ 41 := by have q : ¬ ((w 1 5 : Int) = 41) := h3; omega
    refine e_Pn.run (t' := (10, [(0, (1, 1))], [(1, 1)], w)) kAlk 1 rfl ?_
    refine e_Pn.getr (z := cd) kAlk rfl rfl h0.1.2.2.2.1.2.1 (by omega) ?_
    refine e_Pn.run (t' := (16, [(0, (1, 1))], [(0, 0), (0, 50), (1, cd)], w)) kAlk 2 rfl ?_
    refine e_Pn.callA rfl (fun nq dq => l_21 h0.1.2.2.2.1 (op := 50) (od := 0) (by omega) (by omega) h0.1.2.2.2.2.2.1) (fun r4 w5 h6 => ?_)
    obtain ⟨z7, rfl, w5f, w5q⟩ := h6
    have w5k := kRw.em h0.1.2.2.2.1 w5f
    have w5l := (emQ.len w5q h0.1.2.2.2.2.2.1).1
    have w5e : w5 1 5 = w 1 5 ∧ w5 1 6 = w 1 6 ∧ w5 1 8 = w 1 8 := ⟨w5f 1 5 (by unfold kEm; omega), w5f 1 6 (by unfold kEm; omega), w5f 1 8 (by unfold kEm; omega)⟩
    have s8 := st.em h0 w5f w5q (by omega) (by unfold isCl3; omega)
    have q9 := st.nums s8
    have q9c := q9.2.2.2.1
    have z7r : 0 ≤ z7 ∧ z7 ≤ 4000 := emQ.z w5q h0.1.2.2.2.2.2.1
    show e_Pn 20 elay kcode eI n d 145 (19, [(0, (1, 1))], [(0, z7)], w5) _
    refine e_Pn.run (t' := (21, [(0, (1, 1))], [(1, 1)], w5)) kAlk 2 rfl ?_
    refine e_Pn.getf (z := w 1 5) kAlk rfl rfl ((w5f 1 5 (by unfold kEm; omega)).trans rfl) (fun b10 => ?_)
    have hs12 : ∀ x : Int, 35 ≤ x ∧ x ≤ 35 → (x = 35) := fun x h => by omega
    obtain h11 := hs12 (w 1 5) (by omega)
    · refine e_Pn.sw (tg := 306) kAlk rfl (by rw [h11]; rfl) ?_
      replace h11 : (w 1 5 : Int) = 35 := h11
      refine e_Pn.run (t' := (309, [(0, (1, 1))], [(0, 38), (1, 1)], w5)) kAlk 2 rfl ?_
      refine e_Pn.callJ rfl (fun nq13 hnq13 dq14 => ?_)
      show e_Pn 20 elay kcode eI nq13 dq14 146 (0, [(0, (1, 1)), (1, (0, 38))], [], w5) _
      refine e_Pn.run (t' := (1, [(0, (1, 1)), (1, (0, 38))], [(1, 1)], w5)) kAlk 1 rfl ?_
      replace hM := hM.st (t' := (4, [(0, (1, 275)), (1, (0, 14))], [(0, 0), (0, 30), (1, 275)], v)) (fun _ _ q => e_Pn.run eAlk 3 rfl q)
      obtain ⟨dc15, r16, v17, hc18, hM⟩ := hM.ca rfl
      obtain ⟨⟨z19, rfl⟩, v17f⟩ := hc18.pn (fun nq => x_336 h0.1.2.2.2.2.1)
      have v17m := mfr.rf v17f h0.1.2.2.2.2.1
      replace hM : e_Rn 20 elay ecode eI d' 349 (7, [(0, (1, 275)), (1, (0, 14))], [(0, z19)], v17) r' v' := hM
      replace hM := hM.st (t' := (9, [(0, (1, 275)), (1, (0, 14))], [(1, 275)], v17)) (fun _ _ q => e_Pn.run eAlk 2 rfl q)
      obtain ⟨b20, hM⟩ := hM.of (fun _ _ q => e_Pn.getf (z := v17 275 78) eAlk rfl rfl rfl q)
      replace hM := hM.st (t' := (16, [(2, (0, v17 275 78)), (0, (1, 275)), (1, (0, 14))], [(0, 17), (0, 14)], v17)) (fun _ _ q => e_Pn.run eAlk 3 rfl q)
      rcases hM.or (fun _ _ q1 q2 => e_Pn.if2 eAlk rfl q1 q2) with ⟨h21, hM⟩ | ⟨h21, hM⟩
      · replace h21 : (14 : Int) ≠ 17 := h21
        replace hM := hM.st (t' := (70, [(2, (0, v17 275 78)), (0, (1, 275)), (1, (0, 14))], [(1, 275)], v17)) (fun _ _ q => e_Pn.run eAlk 1 rfl q)
        have e23a : w5 1 11 = w5 1 11 := rfl
        have e23b : v17 275 83 = v 275 83 := (v17f 275 83 (by unfold mEm; omega))
        have e23c : w5 1 13 = w5 1 13 := rfl
        have e23d : v17 275 82 = v 275 82 := (v17f 275 82 (by unfold mEm; omega))
        have e23f : w5 1 12 = w5 1 12 := rfl
        have e23e : v17 275 80 = v 275 80 := (v17f 275 80 (by unfold mEm; omega))
        have s22 := st.gen (o' := 0) (l' := w 1 13) (m' := v 275 82) (t' := w 1 12) (b' := 0) s8 (e_fr.refl w5) (e_fr.trans (e_fr.refl v) (e_fr.mono v17f (fun c k q => by unfold mEm at q; unfold mGs; omega))) (by omega) (by omega) (by omega) (by omega)
        have q24 := st.nums s22
        clear q9 e23a e23b e23c e23d e23e e23f
        have q24c := q24.2.2.2.1
        obtain ⟨dc25, r26, v27, hc28, hM⟩ := hM.ca rfl
        refine e_Pn.callA rfl (fun nq dq => t_123b s22.1.1 s22.1.2.1.1 s22.1.2.1.2.1.2.1 (st.nx s22) (d' := dc25) hc28) (fun r29 w30 h31 => ?_)
        obtain ⟨rfl, rfl, h31⟩ := h31
        have s32 := st.ad (k := 2) s22 h31 (st.len2 s22 (by omega)) (by omega)
        have s32n := h31.2.2.2.1
        have s32m := st.len2 s22 (by omega)
        have s32g : w 1 6 + 1 ≤ w30 1 6 := by omega
        have q33 := st.nums s32
        clear q24
        have q33c := q33.2.2.2.1
        show e_Pn 20 elay kcode eI nq13 dq14 146 (4, [(0, (1, 1)), (1, (0, 38))], [], w30) _
        replace hM : e_Rn 20 elay ecode eI d' 349 (73, [(2, (0, v17 275 78)), (0, (1, 275)), (1, (0, 14))], [], v27) r' v' := hM
        refine e_Pn.run (t' := (7, [(0, (1, 1)), (1, (0, 38))], [(0, 19), (1, 1)], w30)) kAlk 2 rfl ?_
        replace hM := hM.st (t' := (74, [(2, (0, v17 275 78)), (0, (1, 275)), (1, (0, 14))], [(0, 14)], v27)) (fun _ _ q => e_Pn.run eAlk 1 rfl q)
        have hs35 : ∀ x : Int, 14 ≤ x ∧ x ≤ 14 → (x = 14) := fun x h => by omega
        obtain h34 := hs35 (14) (by omega)
        · replace hM := hM.st (fun _ _ q => e_Pn.sw (tg := 294) eAlk rfl (by rw [h34]; rfl) q)
          replace hM := hM.st (t' := (298, [(2, (0, v17 275 78)), (0, (1, 275)), (1, (0, 14))], [(0, 0), (0, 43), (1, 275)], v27)) (fun _ _ q => e_Pn.run eAlk 3 rfl q)
          obtain ⟨dc36, r37, v38, hc39, hM⟩ := hM.ca rfl
          obtain ⟨⟨z40, rfl⟩, v38f⟩ := hc39.pn (fun nq => x_336 s32.1.2.2.2.2.1)
          have v38m := mfr.rf v38f s32.1.2.2.2.2.1
          replace hM : e_Rn 20 elay ecode eI d' 349 (301, [(2, (0, v17 275 78)), (0, (1, 275)), (1, (0, 14))], [(0, z40)], v38) r' v' := hM
          replace hM := hM.st (t' := (399, [(2, (0, v17 275 78)), (0, (1, 275)), (1, (0, 14))], [(0, 59), (1, 275), (1, 275)], v38)) (fun _ _ q => e_Pn.run eAlk 5 rfl q)
          obtain ⟨dc41, r42, v43, hc44, hM⟩ := hM.ca rfl
          obtain ⟨z45, rfl, rfl, z45q⟩ := hc44.pn (fun nq => l_331)
          replace z45q := isS (kM_s59 s32.1.2.1.2.2.1) ((v38f 275 84 (by unfold mEm; omega)).trans rfl) ((v38f 275 85 (by unfold mEm; omega)).trans rfl) z45q
          replace hM : e_Rn 20 elay ecode eI d' 349 (402, [(2, (0, v17 275 78)), (0, (1, 275)), (1, (0, 14))], [(0, z45), (1, 275)], v38) r' v' := hM
          have e47a : w30 1 11 = w30 1 11 := rfl
          have e47b : v38 275 83 = v27 275 83 := (v38f 275 83 (by unfold mEm; omega))
          have e47c : w30 1 13 = w30 1 13 := rfl
          have e47d : v38 275 82 = v27 275 82 := (v38f 275 82 (by unfold mEm; omega))
          have e47f : w30 1 12 = w30 1 12 := rfl
          have e47e : v38 275 80 = v27 275 80 := (v38f 275 80 (by unfold mEm; omega))
          have s46 := st.gen (o' := 0) (l' := w 1 13) (m' := v 275 82) (t' := w 1 12) (b' := 0) s32 (e_fr.refl w30) (e_fr.trans (e_fr.refl v27) (e_fr.mono v38f (fun c k q => by unfold mEm at q; unfold mGs; omega))) (by omega) (by omega) (by omega) (by omega)
          have q48 := st.nums s46
          clear q33 e47a e47b e47c e47d e47e e47f
          have q48c := q48.2.2.2.1
          obtain ⟨dc49, r50, v51, hc52, hM⟩ := hM.ca rfl
          have uhc52 := hc52.pn (fun nq => u_334 s46.1.2.2.2.2.1)
          refine e_Pn.callA rfl (fun nq dq => e_Pn.and (t_129b s46.1.1 s46.1.2.1 z45q (d' := dc49) hc52) (u_129 s46.1.2.2.2.1)) (fun r53 w54 h55 => ?_)
          obtain ⟨⟨rfl, rfl, h55⟩, -, h55k⟩ := h55
          rcases h55.symm with h55 | ⟨h55c, h55⟩
          · skip
            replace hM : e_Rn 20 elay ecode eI d' 349 (405, [(2, (0, v17 275 78)), (0, (1, 275)), (1, (0, 14))], [], v51) r' v' := hM
            obtain ⟨rfl, m56⟩ := (e_Rn.le eAlk [0, 1, 2] rfl rfl hM).pn (fun nq => v_349_405 (uhc52.2.rf s46.1.2.2.2.2.1) _ 14 (v17 275 78) v51 mq.r)
            show e_Pn 20 elay kcode eI nq13 dq14 146 (10, [(0, (1, 1)), (1, (0, 38))], [], w54) _
            refine e_Pn.ord kAlk [0, 1] rfl rfl ((v_146_10 (h55k.rf s46.1.2.2.2.1) _ 38 w54 kq.r).imp (fun r58 w59 k57 => ?_))
            obtain ⟨rfl, k57⟩ := k57
            show e_Pn 20 elay kcode eI n d 145 (312, [(0, (1, 1))], [], w59) _
            refine e_Pn.ord kAlk [0] rfl rfl ((v_145_312 (k57.rf (h55k.rf s46.1.2.2.2.1)) _  w59 kq.r).imp (fun r61 w62 k60 => ?_))
            obtain ⟨rfl, k60⟩ := k60
            exact ⟨rfl, rfl, Or.inr (rpF.tail h55 (k57.tr k60) m56)⟩
          clear z45q
          have s63 := st.ad (k := 1) s46 h55 (st.len1 s46 (by omega)) (by omega)
          have s63n := h55.2.2.2.1
          have s63m := st.len1 s46 (by omega)
          have s63g : w 1 6 + 1 ≤ w54 1 6 := by omega
          have q64 := st.nums s63
          clear q48
          have q64c := q64.2.2.2.1
          show e_Pn 20 elay kcode eI nq13 dq14 146 (10, [(0, (1, 1)), (1, (0, 38))], [], w54) _
          replace hM : e_Rn 20 elay ecode eI d' 349 (405, [(2, (0, v17 275 78)), (0, (1, 275)), (1, (0, 14))], [], v51) r' v' := hM
          refine e_Pn.run (t' := (11, [(0, (1, 1)), (1, (0, 38))], [(1, 1)], w54)) kAlk 1 rfl ?_
          refine e_Pn.getr (z := cd) kAlk rfl rfl s63.1.2.2.2.1.2.1 (by omega) ?_
          refine e_Pn.run (t' := (16, [(0, (1, 1)), (1, (0, 38))], [(0, 0), (0, 38), (1, cd)], w54)) kAlk 2 rfl ?_
          refine e_Pn.callA rfl (fun nq dq => l_21 s63.1.2.2.2.1 (op := 38) (od := 0) (by omega) (by omega) s63.1.2.2.2.2.2.1) (fun r65 w66 h67 => ?_)
          obtain ⟨z68, rfl, w66f, w66q⟩ := h67
          have w66k := kRw.em s63.1.2.2.2.1 w66f
          have w66l := (emQ.len w66q s63.1.2.2.2.2.2.1).1
          have w66e : w66 1 5 = w54 1 5 ∧ w66 1 6 = w54 1 6 ∧ w66 1 8 = w54 1 8 := ⟨w66f 1 5 (by unfold kEm; omega), w66f 1 6 (by unfold kEm; omega), w66f 1 8 (by unfold kEm; omega)⟩
          have s69 := st.em s63 w66f w66q (by omega) (by unfold isCl3; omega)
          have q70 := st.nums s69
          clear q64
          have q70c := q70.2.2.2.1
          have z68r : 0 ≤ z68 ∧ z68 ≤ 4000 := emQ.z w66q s63.1.2.2.2.2.2.1
          show e_Pn 20 elay kcode eI nq13 dq14 146 (19, [(0, (1, 1)), (1, (0, 38))], [(0, z68)], w66) _
          refine e_Pn.run (t' := (20, [(0, (1, 1)), (1, (0, 38))], [], w66)) kAlk 1 rfl ?_
          refine e_Pn.ret0 rfl ?_
          show e_Pn 20 elay kcode eI n d 145 (312, [(0, (1, 1))], [], w66) _
          refine e_Pn.run (t' := (356, [(0, (1, 1))], [], w66)) kAlk 1 rfl ?_
          obtain ⟨rfl, rfl⟩ := hM.re0 rfl
          refine e_Pn.ret0 rfl ?_
          exact ⟨rfl, rfl, Or.inl ⟨st.re s69 (by omega) (by omega) (by omega) (by omega) (by omega), by omega⟩⟩
      · replace h21 : (14 : Int) = 17 := by have q : ¬ ((14 : Int) ≠ 17) := h21; omega
        exfalso; omega
set_option maxHeartbeats 4000000 in
theorem e_145_36 {n : Nat} {N cd : Int} {w v : eW} (hz : st0 N cd w v) (hp : 1 ≤ w 1 6) (hkd : w 1 5 = 36) (ihS : ∀ k, k < n → sE k) {d d' : Nat} {r' : List eV} {v' : eW} (hM : e_Rn 20 elay ecode eI d' 349 (0, [(0, (1, 275)), (1, (0, 15))], [], v) r' v') : e_Pn 20 elay kcode eI n d 145 (0, [(0, (1, 1))], [], w) (fun r w' => r = [] ∧ r' = [] ∧ ((st N cd w v w' v' 0 0 0 (-1) (w 1 13) (v 275 82) (w 1 12) 2 ∧ w 1 6 < w' 1 6) ∨ rpF w' v')) := by
  have h0 := hz.st (ka := 2)
  have hm := hz.1.2.2.2.1.1.m
  have hn := hz.1.2.2.2.1.1.n
  have hzo := hz.2.2.2
  have q1 := st.nums h0
  have q1c := q1.2.2.2.1
  refine e_Pn.run (t' := (1, [(0, (1, 1))], [(1, 1)], w)) kAlk 1 rfl ?_
  refine e_Pn.getf (z := w 1 5) kAlk rfl rfl rfl (fun b2 => ?_)
  refine e_Pn.run (t' := (6, [(0, (1, 1))], [(0, 41), (0, w 1 5)], w)) kAlk 1 rfl ?_
  refine e_Pn.if2 kAlk rfl (fun h3 => ?_) (fun h3 => ?_)
  · replace h3 : (w 1 5 : Int) = 41 := h3
    exact (kM_no h0.1.2.1.2.2.1 (fun a b => decide ((a : Int) = 36) && decide ((a : Int) = 41)) (fun a b c => true) (by decide) (by decide) (by simp only [Bool.and_eq_true, decide_eq_true_eq]; exact ⟨hkd, h3⟩) rfl).elim
  · replace h3 : (w 1 5 : Int) ≠ 41 := by have q : ¬ ((w 1 5 : Int) = 41) := h3; omega
    refine e_Pn.run (t' := (10, [(0, (1, 1))], [(1, 1)], w)) kAlk 1 rfl ?_
    refine e_Pn.getr (z := cd) kAlk rfl rfl h0.1.2.2.2.1.2.1 (by omega) ?_
    refine e_Pn.run (t' := (16, [(0, (1, 1))], [(0, 0), (0, 50), (1, cd)], w)) kAlk 2 rfl ?_
    refine e_Pn.callA rfl (fun nq dq => l_21 h0.1.2.2.2.1 (op := 50) (od := 0) (by omega) (by omega) h0.1.2.2.2.2.2.1) (fun r4 w5 h6 => ?_)
    obtain ⟨z7, rfl, w5f, w5q⟩ := h6
    have w5k := kRw.em h0.1.2.2.2.1 w5f
    have w5l := (emQ.len w5q h0.1.2.2.2.2.2.1).1
    have w5e : w5 1 5 = w 1 5 ∧ w5 1 6 = w 1 6 ∧ w5 1 8 = w 1 8 := ⟨w5f 1 5 (by unfold kEm; omega), w5f 1 6 (by unfold kEm; omega), w5f 1 8 (by unfold kEm; omega)⟩
    have s8 := st.em h0 w5f w5q (by omega) (by unfold isCl3; omega)
    have q9 := st.nums s8
    have q9c := q9.2.2.2.1
    have z7r : 0 ≤ z7 ∧ z7 ≤ 4000 := emQ.z w5q h0.1.2.2.2.2.2.1
    show e_Pn 20 elay kcode eI n d 145 (19, [(0, (1, 1))], [(0, z7)], w5) _
    refine e_Pn.run (t' := (21, [(0, (1, 1))], [(1, 1)], w5)) kAlk 2 rfl ?_
    refine e_Pn.getf (z := w 1 5) kAlk rfl rfl ((w5f 1 5 (by unfold kEm; omega)).trans rfl) (fun b10 => ?_)
    have hs12 : ∀ x : Int, 36 ≤ x ∧ x ≤ 36 → (x = 36) := fun x h => by omega
    obtain h11 := hs12 (w 1 5) (by omega)
    · refine e_Pn.sw (tg := 315) kAlk rfl (by rw [h11]; rfl) ?_
      replace h11 : (w 1 5 : Int) = 36 := h11
      refine e_Pn.run (t' := (316, [(0, (1, 1))], [(1, 1)], w5)) kAlk 1 rfl ?_
      refine e_Pn.callJ rfl (fun nq13 hnq13 dq14 => ?_)
      show e_Pn 20 elay kcode eI nq13 dq14 152 (0, [(0, (1, 1))], [], w5) _
      refine e_Pn.run (t' := (1, [(0, (1, 1))], [(1, 1)], w5)) kAlk 1 rfl ?_
      replace hM := hM.st (t' := (4, [(0, (1, 275)), (1, (0, 15))], [(0, 0), (0, 30), (1, 275)], v)) (fun _ _ q => e_Pn.run eAlk 3 rfl q)
      obtain ⟨dc15, r16, v17, hc18, hM⟩ := hM.ca rfl
      obtain ⟨⟨z19, rfl⟩, v17f⟩ := hc18.pn (fun nq => x_336 h0.1.2.2.2.2.1)
      have v17m := mfr.rf v17f h0.1.2.2.2.2.1
      replace hM : e_Rn 20 elay ecode eI d' 349 (7, [(0, (1, 275)), (1, (0, 15))], [(0, z19)], v17) r' v' := hM
      replace hM := hM.st (t' := (9, [(0, (1, 275)), (1, (0, 15))], [(1, 275)], v17)) (fun _ _ q => e_Pn.run eAlk 2 rfl q)
      obtain ⟨b20, hM⟩ := hM.of (fun _ _ q => e_Pn.getf (z := v17 275 78) eAlk rfl rfl rfl q)
      replace hM := hM.st (t' := (16, [(2, (0, v17 275 78)), (0, (1, 275)), (1, (0, 15))], [(0, 17), (0, 15)], v17)) (fun _ _ q => e_Pn.run eAlk 3 rfl q)
      rcases hM.or (fun _ _ q1 q2 => e_Pn.if2 eAlk rfl q1 q2) with ⟨h21, hM⟩ | ⟨h21, hM⟩
      · replace h21 : (15 : Int) ≠ 17 := h21
        replace hM := hM.st (t' := (70, [(2, (0, v17 275 78)), (0, (1, 275)), (1, (0, 15))], [(1, 275)], v17)) (fun _ _ q => e_Pn.run eAlk 1 rfl q)
        have e23a : w5 1 11 = w5 1 11 := rfl
        have e23b : v17 275 83 = v 275 83 := (v17f 275 83 (by unfold mEm; omega))
        have e23c : w5 1 13 = w5 1 13 := rfl
        have e23d : v17 275 82 = v 275 82 := (v17f 275 82 (by unfold mEm; omega))
        have e23f : w5 1 12 = w5 1 12 := rfl
        have e23e : v17 275 80 = v 275 80 := (v17f 275 80 (by unfold mEm; omega))
        have s22 := st.gen (o' := 0) (l' := w 1 13) (m' := v 275 82) (t' := w 1 12) (b' := 0) s8 (e_fr.refl w5) (e_fr.trans (e_fr.refl v) (e_fr.mono v17f (fun c k q => by unfold mEm at q; unfold mGs; omega))) (by omega) (by omega) (by omega) (by omega)
        have q24 := st.nums s22
        clear q9 e23a e23b e23c e23d e23e e23f
        have q24c := q24.2.2.2.1
        obtain ⟨dc25, r26, v27, hc28, hM⟩ := hM.ca rfl
        refine e_Pn.callA rfl (fun nq dq => t_123b s22.1.1 s22.1.2.1.1 s22.1.2.1.2.1.2.1 (st.nx s22) (d' := dc25) hc28) (fun r29 w30 h31 => ?_)
        obtain ⟨rfl, rfl, h31⟩ := h31
        have s32 := st.ad (k := 2) s22 h31 (st.len2 s22 (by omega)) (by omega)
        have s32n := h31.2.2.2.1
        have s32m := st.len2 s22 (by omega)
        have s32g : w 1 6 + 1 ≤ w30 1 6 := by omega
        have q33 := st.nums s32
        clear q24
        have q33c := q33.2.2.2.1
        show e_Pn 20 elay kcode eI nq13 dq14 152 (4, [(0, (1, 1))], [], w30) _
        replace hM : e_Rn 20 elay ecode eI d' 349 (73, [(2, (0, v17 275 78)), (0, (1, 275)), (1, (0, 15))], [], v27) r' v' := hM
        refine e_Pn.run (t' := (5, [(0, (1, 1))], [(1, 1)], w30)) kAlk 1 rfl ?_
        replace hM := hM.st (t' := (74, [(2, (0, v17 275 78)), (0, (1, 275)), (1, (0, 15))], [(0, 15)], v27)) (fun _ _ q => e_Pn.run eAlk 1 rfl q)
        have hs35 : ∀ x : Int, 15 ≤ x ∧ x ≤ 15 → (x = 15) := fun x h => by omega
        obtain h34 := hs35 (15) (by omega)
        · replace hM := hM.st (fun _ _ q => e_Pn.sw (tg := 254) eAlk rfl (by rw [h34]; rfl) q)
          replace hM := hM.st (t' := (255, [(2, (0, v17 275 78)), (0, (1, 275)), (1, (0, 15))], [(1, 275)], v27)) (fun _ _ q => e_Pn.run eAlk 1 rfl q)
          obtain ⟨dc36, r37, v38, hc39, hM⟩ := hM.ca rfl
          have uhc39 := hc39.pn (fun nq => uE_all nq 339 (by decide) _ _ s32.1.2.2.2.2.1)
          have z43 : stE N cd w30 v27 := st.zE s32 (by omega) (by omega)
          refine e_Pn.callA rfl (fun nq dq => e_Pn.and (eEg_all nq 158 339 (by decide) _ _ dq _ _ _ z43 hc39) (kE_all nq 158 (by decide) dq _ _ s32.1.2.2.2.1)) (fun r40 w41 h42 => ?_)
          obtain ⟨⟨rfl, rfl, h42⟩, -, h42k⟩ := h42
          rcases h42.symm with h42 | ⟨h42, h42p⟩
          · skip
            replace hM : e_Rn 20 elay ecode eI d' 349 (258, [(2, (0, v17 275 78)), (0, (1, 275)), (1, (0, 15))], [], v38) r' v' := hM
            obtain ⟨rfl, m44⟩ := (e_Rn.le eAlk [0, 1, 2] rfl rfl hM).pn (fun nq => v_349_258 (uhc39.2.rf s32.1.2.2.2.2.1) _ 15 (v17 275 78) v38 mq.r)
            show e_Pn 20 elay kcode eI nq13 dq14 152 (8, [(0, (1, 1))], [], w41) _
            refine e_Pn.ord kAlk [0] rfl rfl ((v_152_8 (h42k.rf s32.1.2.2.2.1) _  w41 kq.r).imp (fun r46 w47 k45 => ?_))
            obtain ⟨rfl, k45⟩ := k45
            show e_Pn 20 elay kcode eI n d 145 (319, [(0, (1, 1))], [], w47) _
            refine e_Pn.ord kAlk [0] rfl rfl ((v_145_319 (k45.rf (h42k.rf s32.1.2.2.2.1)) _  w47 kq.r).imp (fun r49 w50 k48 => ?_))
            obtain ⟨rfl, k48⟩ := k48
            exact ⟨rfl, rfl, Or.inr (rpF.tail h42 (k45.tr k48) m44)⟩
          have s51 := st.re (l' := w 1 13) (m' := v 275 82) (t' := w 1 12) (st.tr s32 h42) (Int.le_refl _) rfl (by omega) (by omega) (by omega)
          have q52 := st.nums s51
          clear q33
          have q52c := q52.2.2.2.1
          show e_Pn 20 elay kcode eI nq13 dq14 152 (8, [(0, (1, 1))], [], w41) _
          replace hM : e_Rn 20 elay ecode eI d' 349 (258, [(2, (0, v17 275 78)), (0, (1, 275)), (1, (0, 15))], [], v38) r' v' := hM
          refine e_Pn.run (t' := (11, [(0, (1, 1))], [(0, 18), (1, 1)], w41)) kAlk 2 rfl ?_
          replace hM := hM.st (t' := (262, [(2, (0, v17 275 78)), (0, (1, 275)), (1, (0, 15))], [(0, 44), (1, 275), (1, 275)], v38)) (fun _ _ q => e_Pn.run eAlk 3 rfl q)
          obtain ⟨dc53, r54, v55, hc56, hM⟩ := hM.ca rfl
          obtain ⟨z57, rfl, rfl, z57q⟩ := hc56.pn (fun nq => l_331)
          replace z57q := isS (kM_s44 s51.1.2.1.2.2.1) rfl rfl z57q
          replace hM : e_Rn 20 elay ecode eI d' 349 (265, [(2, (0, v17 275 78)), (0, (1, 275)), (1, (0, 15))], [(0, z57), (1, 275)], v38) r' v' := hM
          obtain ⟨dc58, r59, v60, hc61, hM⟩ := hM.ca rfl
          have uhc61 := hc61.pn (fun nq => u_334 s51.1.2.2.2.2.1)
          refine e_Pn.callA rfl (fun nq dq => e_Pn.and (t_129b s51.1.1 s51.1.2.1 z57q (d' := dc58) hc61) (u_129 s51.1.2.2.2.1)) (fun r62 w63 h64 => ?_)
          obtain ⟨⟨rfl, rfl, h64⟩, -, h64k⟩ := h64
          rcases h64.symm with h64 | ⟨h64c, h64⟩
          · skip
            replace hM : e_Rn 20 elay ecode eI d' 349 (268, [(2, (0, v17 275 78)), (0, (1, 275)), (1, (0, 15))], [], v60) r' v' := hM
            obtain ⟨rfl, m65⟩ := (e_Rn.le eAlk [0, 1, 2] rfl rfl hM).pn (fun nq => v_349_268 (uhc61.2.rf s51.1.2.2.2.2.1) _ 15 (v17 275 78) v60 mq.r)
            show e_Pn 20 elay kcode eI nq13 dq14 152 (14, [(0, (1, 1))], [], w63) _
            refine e_Pn.ord kAlk [0] rfl rfl ((v_152_14 (h64k.rf s51.1.2.2.2.1) _  w63 kq.r).imp (fun r67 w68 k66 => ?_))
            obtain ⟨rfl, k66⟩ := k66
            show e_Pn 20 elay kcode eI n d 145 (319, [(0, (1, 1))], [], w68) _
            refine e_Pn.ord kAlk [0] rfl rfl ((v_145_319 (k66.rf (h64k.rf s51.1.2.2.2.1)) _  w68 kq.r).imp (fun r70 w71 k69 => ?_))
            obtain ⟨rfl, k69⟩ := k69
            exact ⟨rfl, rfl, Or.inr (rpF.tail h64 (k66.tr k69) m65)⟩
          clear z57q
          have s72 := st.ad (k := 1) s51 h64 (st.len1 s51 (by omega)) (by omega)
          have s72n := h64.2.2.2.1
          have s72m := st.len1 s51 (by omega)
          have s72g : w 1 6 + 1 ≤ w63 1 6 := by omega
          have q73 := st.nums s72
          clear q52
          have q73c := q73.2.2.2.1
          show e_Pn 20 elay kcode eI nq13 dq14 152 (14, [(0, (1, 1))], [], w63) _
          replace hM : e_Rn 20 elay ecode eI d' 349 (268, [(2, (0, v17 275 78)), (0, (1, 275)), (1, (0, 15))], [], v60) r' v' := hM
          refine e_Pn.run (t' := (15, [(0, (1, 1))], [(1, 1)], w63)) kAlk 1 rfl ?_
          refine e_Pn.getf (z := w63 1 6) kAlk rfl rfl rfl (fun b74 => ?_)
          refine e_Pn.run (t' := (21, [(1, (0, w63 1 6)), (0, (1, 1))], [(0, 1), (1, 1)], w63)) kAlk 3 rfl ?_
          replace hM := hM.st (t' := (274, [(2, (0, v17 275 78)), (0, (1, 275)), (1, (0, 15))], [(0, 0), (0, 44), (1, 275), (0, 3), (1, 275)], v60)) (fun _ _ q => e_Pn.run eAlk 5 rfl q)
          obtain ⟨dc75, r76, v77, hc78, hM⟩ := hM.ca rfl
          obtain ⟨⟨z79, rfl⟩, v77f⟩ := hc78.pn (fun nq => x_336 s72.1.2.2.2.2.1)
          have v77m := mfr.rf v77f s72.1.2.2.2.2.1
          replace hM : e_Rn 20 elay ecode eI d' 349 (277, [(2, (0, v17 275 78)), (0, (1, 275)), (1, (0, 15))], [(0, z79), (0, 3), (1, 275)], v77) r' v' := hM
          obtain ⟨dhc80, r81, v82, hc80, hM⟩ := hM.ca rfl
          replace hc80 : e_Rn 20 elay ecode eI dhc80 338 (0, [(0, (1, 275)), (1, (0, 3)), (2, (0, z79))], [], v77) r81 v82 := hc80
          replace hc80 := hc80.st (t' := (1, [(0, (1, 275)), (1, (0, 3)), (2, (0, z79))], [(1, 275)], v77)) (fun _ _ q => e_Pn.run eAlk 1 rfl q)
          obtain ⟨b83, hc80⟩ := hc80.of (fun _ _ q => e_Pn.getf (z := 0) eAlk rfl rfl ((v77f 275 88 (by unfold mEm; omega)).trans s72.1.2.1.1.2) q)
          rcases hc80.or (fun _ _ q1 q2 => e_Pn.if1 eAlk rfl q1 q2) with ⟨h84, hc80⟩ | ⟨h84, hc80⟩
          · replace h84 : (0 : Int) ≠ 0 := h84
            exfalso; omega
          · replace h84 : (0 : Int) = 0 := by have q : ¬ ((0 : Int) ≠ 0) := h84; omega
            replace hc80 := hc80.st (t' := (8, [(0, (1, 275)), (1, (0, 3)), (2, (0, z79))], [(1, 275)], v77)) (fun _ _ q => e_Pn.run eAlk 1 rfl q)
            obtain ⟨b86, hc80⟩ := hc80.of (fun _ _ q => e_Pn.getf (z := v60 275 84) eAlk rfl rfl ((v77f 275 84 (by unfold mEm; omega)).trans rfl) q)
            replace hc80 := hc80.st (t' := (12, [(0, (1, 275)), (1, (0, 3)), (2, (0, z79))], [(0, 1), (0, v60 275 84)], v77)) (fun _ _ q => e_Pn.run eAlk 1 rfl q)
            rcases hc80.or (fun _ _ q1 q2 => e_Pn.if2 eAlk rfl q1 q2) with ⟨h87, hc80⟩ | ⟨h87, hc80⟩
            · replace h87 : (v60 275 84 : Int) ≠ 1 := h87
              have kw88 : (w63 1 5 : Int) ≠ 1 := fun e9 => absurd (kM_k1 s72.1.2.1.2.2.1 e9) (by omega)
              replace hc80 := hc80.st (t' := (78, [(0, (1, 275)), (1, (0, 3)), (2, (0, z79))], [(1, 275), (1, 275)], v77)) (fun _ _ q => e_Pn.run eAlk 2 rfl q)
              obtain ⟨b89, hc80⟩ := hc80.of (fun _ _ q => e_Pn.getf (z := v60 275 84) eAlk rfl rfl ((v77f 275 84 (by unfold mEm; omega)).trans rfl) q)
              replace hc80 := hc80.st (t' := (82, [(0, (1, 275)), (1, (0, 3)), (2, (0, z79))], [(0, 1), (0, v60 275 84), (1, 275)], v77)) (fun _ _ q => e_Pn.run eAlk 1 rfl q)
              rcases hc80.or (fun _ _ q1 q2 => e_Pn.if2 eAlk rfl q1 q2) with ⟨h90, hc80⟩ | ⟨h90, hc80⟩
              · replace h90 : (v60 275 84 : Int) ≠ 1 := h90
                replace hc80 := hc80.st (t' := (90, [(0, (1, 275)), (1, (0, 3)), (2, (0, z79))], [(0, 0), (1, 275)], v77)) (fun _ _ q => e_Pn.run eAlk 1 rfl q)
                have e92a : w63 1 11 = w63 1 11 := rfl
                have e92b : v77 275 83 = v60 275 83 := (v77f 275 83 (by unfold mEm; omega))
                have e92c : w63 1 13 = w63 1 13 := rfl
                have e92d : v77 275 82 = v60 275 82 := (v77f 275 82 (by unfold mEm; omega))
                have e92f : w63 1 12 = w63 1 12 := rfl
                have e92e : v77 275 80 = v60 275 80 := (v77f 275 80 (by unfold mEm; omega))
                have s91 := st.gen (o' := 0) (l' := w 1 13) (m' := v 275 82) (t' := w 1 12) (b' := 0) s72 (e_fr.refl w63) (e_fr.trans (e_fr.refl v60) (e_fr.mono v77f (fun c k q => by unfold mEm at q; unfold mGs; omega))) (by omega) (by omega) (by omega) (by omega)
                have q93 := st.nums s91
                clear q73 e92a e92b e92c e92d e92e e92f
                have q93c := q93.2.2.2.1
                obtain ⟨dc94, r95, v96, hc97, hc80⟩ := hc80.ca rfl
                have uhc97 := hc97.pn (fun nq => u_334 s91.1.2.2.2.2.1)
                refine e_Pn.callA rfl (fun nq dq => e_Pn.and (t_129b s91.1.1 s91.1.2.1 (by omega) (d' := dc94) hc97) (u_129 s91.1.2.2.2.1)) (fun r98 w99 h100 => ?_)
                obtain ⟨⟨rfl, rfl, h100⟩, -, h100k⟩ := h100
                rcases h100.symm with h100 | ⟨h100c, h100⟩
                · skip
                  replace hc80 : e_Rn 20 elay ecode eI dhc80 338 (93, [(0, (1, 275)), (1, (0, 3)), (2, (0, z79))], [], v96) r81 v82 := hc80
                  obtain ⟨rfl, m101⟩ := (e_Rn.le eAlk [0, 1, 2] rfl rfl hc80).pn (fun nq => v_338_93 (uhc97.2.rf s91.1.2.2.2.2.1) _ 3 z79 v96 mq.r)
                  replace hM : e_Rn 20 elay ecode eI d' 349 (280, [(2, (0, v17 275 78)), (0, (1, 275)), (1, (0, 15))], [], v82) r' v' := hM
                  obtain ⟨rfl, m102⟩ := (e_Rn.le eAlk [0, 1, 2] rfl rfl hM).pn (fun nq => v_349_280 (m101.rf (uhc97.2.rf s91.1.2.2.2.2.1)) _ 15 (v17 275 78) v82 mq.r)
                  show e_Pn 20 elay kcode eI nq13 dq14 152 (24, [(1, (0, w63 1 6)), (0, (1, 1))], [], w99) _
                  refine e_Pn.ord kAlk [0, 1] rfl rfl ((v_152_24 (h100k.rf s91.1.2.2.2.1) _ (w63 1 6) w99 kq.r).imp (fun r104 w105 k103 => ?_))
                  obtain ⟨rfl, k103⟩ := k103
                  show e_Pn 20 elay kcode eI n d 145 (319, [(0, (1, 1))], [], w105) _
                  refine e_Pn.ord kAlk [0] rfl rfl ((v_145_319 (k103.rf (h100k.rf s91.1.2.2.2.1)) _  w105 kq.r).imp (fun r107 w108 k106 => ?_))
                  obtain ⟨rfl, k106⟩ := k106
                  exact ⟨rfl, rfl, Or.inr (rpF.tail h100 (k103.tr k106) (m101.tr m102))⟩
                exfalso; omega
              · replace h90 : (v60 275 84 : Int) = 1 := by have q : ¬ ((v60 275 84 : Int) ≠ 1) := h90; omega
                exfalso; omega
            · replace h87 : (v60 275 84 : Int) = 1 := by have q : ¬ ((v60 275 84 : Int) ≠ 1) := h87; omega
              have kw109 : (w63 1 5 : Int) = 1 := kM_1k s72.1.2.1.2.2.1 (by omega)
              replace hc80 := hc80.st (t' := (16, [(0, (1, 275)), (1, (0, 3)), (2, (0, z79))], [(1, 275)], v77)) (fun _ _ q => e_Pn.run eAlk 1 rfl q)
              replace hc80 := hc80.st (fun _ _ q => e_Pn.getr (z := 341) eAlk rfl rfl ((v77f 275 90 (by unfold mEm; omega)).trans (s72.1.2.2.2.2.1 (90, 341) (by decide))) (by omega) q)
              replace hc80 := hc80.st (t' := (20, [(0, (1, 275)), (1, (0, 3)), (2, (0, z79))], [(1, 275), (1, 341)], v77)) (fun _ _ q => e_Pn.run eAlk 1 rfl q)
              obtain ⟨b110, hc80⟩ := hc80.of (fun _ _ q => e_Pn.getf (z := v60 275 94) eAlk rfl rfl ((v77f 275 94 (by unfold mEm; omega)).trans rfl) q)
              replace hc80 := hc80.st (t' := (24, [(0, (1, 275)), (1, (0, 3)), (2, (0, z79))], [(0, 3), (0, v60 275 94), (1, 341)], v77)) (fun _ _ q => e_Pn.run eAlk 1 rfl q)
              obtain ⟨b111, b112, hc80⟩ := hc80.of2 (fun _ _ q => e_Pn.ast eAlk rfl rfl rfl q)
              generalize hv113 : e_up v77 341 (v60 275 94) 3 = v113 at hc80
              have v113m := mRw.upd hv113 (fun _ => by omega) v77m
              replace hc80 := hc80.st (t' := (26, [(0, (1, 275)), (1, (0, 3)), (2, (0, z79))], [(1, 275)], v113)) (fun _ _ q => e_Pn.run eAlk 1 rfl q)
              replace hc80 := hc80.st (fun _ _ q => e_Pn.getr (z := 342) eAlk rfl rfl (by rw [← hv113]; exact (e_up_ne _ _ (Or.inl (by omega))).trans ((v77f 275 91 (by unfold mEm; omega)).trans (s72.1.2.2.2.2.1 (91, 342) (by decide)))) (by omega) q)
              replace hc80 := hc80.st (t' := (30, [(0, (1, 275)), (1, (0, 3)), (2, (0, z79))], [(1, 275), (1, 342)], v113)) (fun _ _ q => e_Pn.run eAlk 1 rfl q)
              obtain ⟨b114, hc80⟩ := hc80.of (fun _ _ q => e_Pn.getf (z := v60 275 94) eAlk rfl rfl (by rw [← hv113]; exact (e_up_ne _ _ (Or.inl (by omega))).trans ((v77f 275 94 (by unfold mEm; omega)).trans rfl)) q)
              replace hc80 := hc80.st (t' := (34, [(0, (1, 275)), (1, (0, 3)), (2, (0, z79))], [(1, 275), (0, v60 275 94), (1, 342)], v113)) (fun _ _ q => e_Pn.run eAlk 1 rfl q)
              obtain ⟨b115, hc80⟩ := hc80.of (fun _ _ q => e_Pn.getf (z := v60 275 86) eAlk rfl rfl (by rw [← hv113]; exact (e_up_ne _ _ (Or.inl (by omega))).trans ((v77f 275 86 (by unfold mEm; omega)).trans rfl)) q)
              obtain ⟨b116, b117, hc80⟩ := hc80.of2 (fun _ _ q => e_Pn.ast eAlk rfl rfl rfl q)
              generalize hv118 : e_up v113 342 (v60 275 94) (v60 275 86) = v118 at hc80
              have v118m := mRw.upd hv118 (fun _ => by omega) v113m
              replace hc80 := hc80.st (t' := (39, [(0, (1, 275)), (1, (0, 3)), (2, (0, z79))], [(1, 275)], v118)) (fun _ _ q => e_Pn.run eAlk 1 rfl q)
              replace hc80 := hc80.st (fun _ _ q => e_Pn.getr (z := 343) eAlk rfl rfl (by rw [← hv118]; exact (e_up_ne _ _ (Or.inl (by omega))).trans (by rw [← hv113]; exact (e_up_ne _ _ (Or.inl (by omega))).trans ((v77f 275 92 (by unfold mEm; omega)).trans (s72.1.2.2.2.2.1 (92, 343) (by decide))))) (by omega) q)
              replace hc80 := hc80.st (t' := (43, [(0, (1, 275)), (1, (0, 3)), (2, (0, z79))], [(1, 275), (1, 343)], v118)) (fun _ _ q => e_Pn.run eAlk 1 rfl q)
              obtain ⟨b119, hc80⟩ := hc80.of (fun _ _ q => e_Pn.getf (z := v60 275 94) eAlk rfl rfl (by rw [← hv118]; exact (e_up_ne _ _ (Or.inl (by omega))).trans (by rw [← hv113]; exact (e_up_ne _ _ (Or.inl (by omega))).trans ((v77f 275 94 (by unfold mEm; omega)).trans rfl))) q)
              replace hc80 := hc80.st (t' := (47, [(0, (1, 275)), (1, (0, 3)), (2, (0, z79))], [(1, 275), (0, v60 275 94), (1, 343)], v118)) (fun _ _ q => e_Pn.run eAlk 1 rfl q)
              obtain ⟨b120, hc80⟩ := hc80.of (fun _ _ q => e_Pn.getf (z := v60 275 87) eAlk rfl rfl (by rw [← hv118]; exact (e_up_ne _ _ (Or.inl (by omega))).trans (by rw [← hv113]; exact (e_up_ne _ _ (Or.inl (by omega))).trans ((v77f 275 87 (by unfold mEm; omega)).trans rfl))) q)
              replace hc80 := hc80.st (t' := (51, [(0, (1, 275)), (1, (0, 3)), (2, (0, z79))], [(1, 275), (0, v60 275 87), (0, v60 275 94), (1, 343)], v118)) (fun _ _ q => e_Pn.run eAlk 1 rfl q)
              obtain ⟨b121, hc80⟩ := hc80.of (fun _ _ q => e_Pn.getf (z := v60 275 86) eAlk rfl rfl (by rw [← hv118]; exact (e_up_ne _ _ (Or.inl (by omega))).trans (by rw [← hv113]; exact (e_up_ne _ _ (Or.inl (by omega))).trans ((v77f 275 86 (by unfold mEm; omega)).trans rfl))) q)
              replace hc80 := hc80.st (fun _ _ q => e_Pn.sub' (z := v60 275 87 - v60 275 86) eAlk rfl (by omega) (by omega) q)
              obtain ⟨b122, b123, hc80⟩ := hc80.of2 (fun _ _ q => e_Pn.ast eAlk rfl rfl rfl q)
              generalize hv124 : e_up v118 343 (v60 275 94) (v60 275 87 - v60 275 86) = v124 at hc80
              have v124m := mRw.upd hv124 (fun _ => by omega) v118m
              replace hc80 := hc80.st (t' := (57, [(0, (1, 275)), (1, (0, 3)), (2, (0, z79))], [(1, 275)], v124)) (fun _ _ q => e_Pn.run eAlk 1 rfl q)
              replace hc80 := hc80.st (fun _ _ q => e_Pn.getr (z := 344) eAlk rfl rfl (by rw [← hv124]; exact (e_up_ne _ _ (Or.inl (by omega))).trans (by rw [← hv118]; exact (e_up_ne _ _ (Or.inl (by omega))).trans (by rw [← hv113]; exact (e_up_ne _ _ (Or.inl (by omega))).trans ((v77f 275 93 (by unfold mEm; omega)).trans (s72.1.2.2.2.2.1 (93, 344) (by decide)))))) (by omega) q)
              replace hc80 := hc80.st (t' := (61, [(0, (1, 275)), (1, (0, 3)), (2, (0, z79))], [(1, 275), (1, 344)], v124)) (fun _ _ q => e_Pn.run eAlk 1 rfl q)
              obtain ⟨b125, hc80⟩ := hc80.of (fun _ _ q => e_Pn.getf (z := v60 275 94) eAlk rfl rfl (by rw [← hv124]; exact (e_up_ne _ _ (Or.inl (by omega))).trans (by rw [← hv118]; exact (e_up_ne _ _ (Or.inl (by omega))).trans (by rw [← hv113]; exact (e_up_ne _ _ (Or.inl (by omega))).trans ((v77f 275 94 (by unfold mEm; omega)).trans rfl)))) q)
              replace hc80 := hc80.st (t' := (65, [(0, (1, 275)), (1, (0, 3)), (2, (0, z79))], [(0, z79), (0, v60 275 94), (1, 344)], v124)) (fun _ _ q => e_Pn.run eAlk 1 rfl q)
              obtain ⟨b126, b127, hc80⟩ := hc80.of2 (fun _ _ q => e_Pn.ast eAlk rfl rfl rfl q)
              generalize hv128 : e_up v124 344 (v60 275 94) z79 = v128 at hc80
              have v128m := mRw.upd hv128 (fun _ => by omega) v124m
              replace hc80 := hc80.st (t' := (68, [(0, (1, 275)), (1, (0, 3)), (2, (0, z79))], [(1, 275), (1, 275)], v128)) (fun _ _ q => e_Pn.run eAlk 2 rfl q)
              obtain ⟨b129, hc80⟩ := hc80.of (fun _ _ q => e_Pn.getf (z := v60 275 94) eAlk rfl rfl (by rw [← hv128]; exact (e_up_ne _ _ (Or.inl (by omega))).trans (by rw [← hv124]; exact (e_up_ne _ _ (Or.inl (by omega))).trans (by rw [← hv118]; exact (e_up_ne _ _ (Or.inl (by omega))).trans (by rw [← hv113]; exact (e_up_ne _ _ (Or.inl (by omega))).trans ((v77f 275 94 (by unfold mEm; omega)).trans rfl))))) q)
              replace hc80 := hc80.st (t' := (72, [(0, (1, 275)), (1, (0, 3)), (2, (0, z79))], [(0, 1), (0, v60 275 94), (1, 275)], v128)) (fun _ _ q => e_Pn.run eAlk 1 rfl q)
              replace hc80 := hc80.st (fun _ _ q => e_Pn.add (z := v60 275 94 + 1) eAlk rfl (by omega) (by omega) q)
              replace hc80 := hc80.st (fun _ _ q => e_Pn.putf eAlk rfl rfl q)
              generalize hv130 : e_up v128 275 94 (v60 275 94 + 1) = v130 at hc80
              have v130m := mRw.upd hv130 (fun _ => by omega) v128m
              replace hc80 := hc80.st (t' := (78, [(0, (1, 275)), (1, (0, 3)), (2, (0, z79))], [(1, 275), (1, 275)], v130)) (fun _ _ q => e_Pn.run eAlk 2 rfl q)
              obtain ⟨b131, hc80⟩ := hc80.of (fun _ _ q => e_Pn.getf (z := 1) eAlk rfl rfl (by rw [← hv130]; exact (e_up_ne _ _ (Or.inr (by omega))).trans (by rw [← hv128]; exact (e_up_ne _ _ (Or.inl (by omega))).trans (by rw [← hv124]; exact (e_up_ne _ _ (Or.inl (by omega))).trans (by rw [← hv118]; exact (e_up_ne _ _ (Or.inl (by omega))).trans (by rw [← hv113]; exact (e_up_ne _ _ (Or.inl (by omega))).trans ((v77f 275 84 (by unfold mEm; omega)).trans (kM_k1 s72.1.2.1.2.2.1 (by omega)))))))) q)
              replace hc80 := hc80.st (t' := (82, [(0, (1, 275)), (1, (0, 3)), (2, (0, z79))], [(0, 1), (0, 1), (1, 275)], v130)) (fun _ _ q => e_Pn.run eAlk 1 rfl q)
              rcases hc80.or (fun _ _ q1 q2 => e_Pn.if2 eAlk rfl q1 q2) with ⟨h132, hc80⟩ | ⟨h132, hc80⟩
              · replace h132 : (1 : Int) ≠ 1 := h132
                exfalso; omega
              · replace h132 : (1 : Int) = 1 := by have q : ¬ ((1 : Int) ≠ 1) := h132; omega
                replace hc80 := hc80.st (t' := (90, [(0, (1, 275)), (1, (0, 3)), (2, (0, z79))], [(0, 1), (1, 275)], v130)) (fun _ _ q => e_Pn.run eAlk 2 rfl q)
                have e134a : w63 1 11 = w63 1 11 := rfl
                have e134b : v77 275 83 = v60 275 83 := (v77f 275 83 (by unfold mEm; omega))
                have e134c : w63 1 13 = w63 1 13 := rfl
                have e134d : v77 275 82 = v60 275 82 := (v77f 275 82 (by unfold mEm; omega))
                have e134f : w63 1 12 = w63 1 12 := rfl
                have e134e : v77 275 80 = v60 275 80 := (v77f 275 80 (by unfold mEm; omega))
                have s133 := st.gen (o' := 0) (l' := w 1 13) (m' := v 275 82) (t' := w 1 12) (b' := 0) s72 (e_fr.refl w63) (e_fr.trans (e_fr.refl v60) (e_fr.mono v77f (fun c k q => by unfold mEm at q; unfold mGs; omega))) (by omega) (by omega) (by omega) (by omega)
                have q135 := st.nums s133
                clear q73 e134a e134b e134c e134d e134e e134f
                have q135c := q135.2.2.2.1
                have as13694 : v77 275 94 = v60 275 94 := ((v77f 275 94 (by unfold mEm; omega)).trans rfl)
                have as13686 : v77 275 86 = v60 275 86 := ((v77f 275 86 (by unfold mEm; omega)).trans rfl)
                have as13687 : v77 275 87 = v60 275 87 := ((v77f 275 87 (by unfold mEm; omega)).trans rfl)
                obtain ⟨as136, as136g⟩ := nmA.mk hv113 hv118 hv124 hv128 hv130 (by omega) (by omega)
                have s136 := st.rec3 (by decide) s133 (by omega) as136 (by omega) (by omega) as136g
                have q137 := st.nums s136
                clear q135
                have q137c := q137.2.2.2.1
                obtain ⟨dc138, r139, v140, hc141, hc80⟩ := hc80.ca rfl
                have uhc141 := hc141.pn (fun nq => u_334 s136.1.2.2.2.2.1)
                refine e_Pn.callA rfl (fun nq dq => e_Pn.and (t_129b s136.1.1 s136.1.2.1 (by omega) (d' := dc138) hc141) (u_129 s136.1.2.2.2.1)) (fun r142 w143 h144 => ?_)
                obtain ⟨⟨rfl, rfl, h144⟩, -, h144k⟩ := h144
                rcases h144.symm with h144 | ⟨h144c, h144⟩
                · skip
                  replace hc80 : e_Rn 20 elay ecode eI dhc80 338 (93, [(0, (1, 275)), (1, (0, 3)), (2, (0, z79))], [], v140) r81 v82 := hc80
                  obtain ⟨rfl, m145⟩ := (e_Rn.le eAlk [0, 1, 2] rfl rfl hc80).pn (fun nq => v_338_93 (uhc141.2.rf s136.1.2.2.2.2.1) _ 3 z79 v140 mq.r)
                  replace hM : e_Rn 20 elay ecode eI d' 349 (280, [(2, (0, v17 275 78)), (0, (1, 275)), (1, (0, 15))], [], v82) r' v' := hM
                  obtain ⟨rfl, m146⟩ := (e_Rn.le eAlk [0, 1, 2] rfl rfl hM).pn (fun nq => v_349_280 (m145.rf (uhc141.2.rf s136.1.2.2.2.2.1)) _ 15 (v17 275 78) v82 mq.r)
                  show e_Pn 20 elay kcode eI nq13 dq14 152 (24, [(1, (0, w63 1 6)), (0, (1, 1))], [], w143) _
                  refine e_Pn.ord kAlk [0, 1] rfl rfl ((v_152_24 (h144k.rf s136.1.2.2.2.1) _ (w63 1 6) w143 kq.r).imp (fun r148 w149 k147 => ?_))
                  obtain ⟨rfl, k147⟩ := k147
                  show e_Pn 20 elay kcode eI n d 145 (319, [(0, (1, 1))], [], w149) _
                  refine e_Pn.ord kAlk [0] rfl rfl ((v_145_319 (k147.rf (h144k.rf s136.1.2.2.2.1)) _  w149 kq.r).imp (fun r151 w152 k150 => ?_))
                  obtain ⟨rfl, k150⟩ := k150
                  exact ⟨rfl, rfl, Or.inr (rpF.tail h144 (k147.tr k150) (m145.tr m146))⟩
                have s153 := st.ad (k := 1) s136 h144 (st.len1 s136 (by omega)) (by omega)
                have s153n := h144.2.2.2.1
                have s153m := st.len1 s136 (by omega)
                have s153g : w 1 6 + 1 ≤ w143 1 6 := by omega
                have q154 := st.nums s153
                clear q137
                have q154c := q154.2.2.2.1
                show e_Pn 20 elay kcode eI nq13 dq14 152 (24, [(1, (0, w63 1 6)), (0, (1, 1))], [], w143) _
                replace hc80 : e_Rn 20 elay ecode eI dhc80 338 (93, [(0, (1, 275)), (1, (0, 3)), (2, (0, z79))], [], v140) r81 v82 := hc80
                refine e_Pn.run (t' := (27, [(1, (0, w63 1 6)), (0, (1, 1))], [(0, 19), (1, 1)], w143)) kAlk 2 rfl ?_
                obtain ⟨rfl, rfl⟩ := hc80.re0 rfl
                replace hM : e_Rn 20 elay ecode eI d' 349 (280, [(2, (0, v17 275 78)), (0, (1, 275)), (1, (0, 15))], [], v140) r' v' := hM
                replace hM := hM.st (t' := (399, [(2, (0, v17 275 78)), (0, (1, 275)), (1, (0, 15))], [(0, 59), (1, 275), (1, 275)], v140)) (fun _ _ q => e_Pn.run eAlk 4 rfl q)
                obtain ⟨dc155, r156, v157, hc158, hM⟩ := hM.ca rfl
                obtain ⟨z159, rfl, rfl, z159q⟩ := hc158.pn (fun nq => l_331)
                replace z159q := isS (kM_s59 s153.1.2.1.2.2.1) rfl rfl z159q
                replace hM : e_Rn 20 elay ecode eI d' 349 (402, [(2, (0, v17 275 78)), (0, (1, 275)), (1, (0, 15))], [(0, z159), (1, 275)], v140) r' v' := hM
                obtain ⟨dc160, r161, v162, hc163, hM⟩ := hM.ca rfl
                have uhc163 := hc163.pn (fun nq => u_334 s153.1.2.2.2.2.1)
                refine e_Pn.callA rfl (fun nq dq => e_Pn.and (t_129b s153.1.1 s153.1.2.1 z159q (d' := dc160) hc163) (u_129 s153.1.2.2.2.1)) (fun r164 w165 h166 => ?_)
                obtain ⟨⟨rfl, rfl, h166⟩, -, h166k⟩ := h166
                rcases h166.symm with h166 | ⟨h166c, h166⟩
                · skip
                  replace hM : e_Rn 20 elay ecode eI d' 349 (405, [(2, (0, v17 275 78)), (0, (1, 275)), (1, (0, 15))], [], v162) r' v' := hM
                  obtain ⟨rfl, m167⟩ := (e_Rn.le eAlk [0, 1, 2] rfl rfl hM).pn (fun nq => v_349_405 (uhc163.2.rf s153.1.2.2.2.2.1) _ 15 (v17 275 78) v162 mq.r)
                  show e_Pn 20 elay kcode eI nq13 dq14 152 (30, [(1, (0, w63 1 6)), (0, (1, 1))], [], w165) _
                  refine e_Pn.ord kAlk [0, 1] rfl rfl ((v_152_30 (h166k.rf s153.1.2.2.2.1) _ (w63 1 6) w165 kq.r).imp (fun r169 w170 k168 => ?_))
                  obtain ⟨rfl, k168⟩ := k168
                  show e_Pn 20 elay kcode eI n d 145 (319, [(0, (1, 1))], [], w170) _
                  refine e_Pn.ord kAlk [0] rfl rfl ((v_145_319 (k168.rf (h166k.rf s153.1.2.2.2.1)) _  w170 kq.r).imp (fun r172 w173 k171 => ?_))
                  obtain ⟨rfl, k171⟩ := k171
                  exact ⟨rfl, rfl, Or.inr (rpF.tail h166 (k168.tr k171) m167)⟩
                clear z159q
                have s174 := st.ad (k := 1) s153 h166 (st.len1 s153 (by omega)) (by omega)
                have s174n := h166.2.2.2.1
                have s174m := st.len1 s153 (by omega)
                have s174g : w 1 6 + 1 ≤ w165 1 6 := by omega
                have q175 := st.nums s174
                clear q154
                have q175c := q175.2.2.2.1
                show e_Pn 20 elay kcode eI nq13 dq14 152 (30, [(1, (0, w63 1 6)), (0, (1, 1))], [], w165) _
                replace hM : e_Rn 20 elay ecode eI d' 349 (405, [(2, (0, v17 275 78)), (0, (1, 275)), (1, (0, 15))], [], v162) r' v' := hM
                refine e_Pn.run (t' := (31, [(1, (0, w63 1 6)), (0, (1, 1))], [(1, 1)], w165)) kAlk 1 rfl ?_
                refine e_Pn.getr (z := cd) kAlk rfl rfl s174.1.2.2.2.1.2.1 (by omega) ?_
                refine e_Pn.run (t' := (37, [(1, (0, w63 1 6)), (0, (1, 1))], [(0, w63 1 6), (0, 39), (1, cd)], w165)) kAlk 2 rfl ?_
                refine e_Pn.callA rfl (fun nq dq => l_21 s174.1.2.2.2.1 (op := 39) (od := w63 1 6) (by omega) (by omega) s174.1.2.2.2.2.2.1) (fun r176 w177 h178 => ?_)
                obtain ⟨z179, rfl, w177f, w177q⟩ := h178
                have w177k := kRw.em s174.1.2.2.2.1 w177f
                have w177l := (emQ.len w177q s174.1.2.2.2.2.2.1).1
                have w177e : w177 1 5 = w165 1 5 ∧ w177 1 6 = w165 1 6 ∧ w177 1 8 = w165 1 8 := ⟨w177f 1 5 (by unfold kEm; omega), w177f 1 6 (by unfold kEm; omega), w177f 1 8 (by unfold kEm; omega)⟩
                have s180 := st.emc s174 w177f w177q (by omega) (by unfold isCl3; omega) (by omega)
                have q181 := st.nums s180
                clear q175
                have q181c := q181.2.2.2.1
                have z179r : 0 ≤ z179 ∧ z179 ≤ 4000 := emQ.z w177q s174.1.2.2.2.2.2.1
                show e_Pn 20 elay kcode eI nq13 dq14 152 (40, [(1, (0, w63 1 6)), (0, (1, 1))], [(0, z179)], w177) _
                refine e_Pn.run (t' := (41, [(1, (0, w63 1 6)), (0, (1, 1))], [], w177)) kAlk 1 rfl ?_
                refine e_Pn.ret0 rfl ?_
                show e_Pn 20 elay kcode eI n d 145 (319, [(0, (1, 1))], [], w177) _
                refine e_Pn.run (t' := (356, [(0, (1, 1))], [], w177)) kAlk 1 rfl ?_
                obtain ⟨rfl, rfl⟩ := hM.re0 rfl
                refine e_Pn.ret0 rfl ?_
                exact ⟨rfl, rfl, Or.inl ⟨st.re s180 (by omega) (by omega) (by omega) (by omega) (by omega), by omega⟩⟩
      · replace h21 : (15 : Int) = 17 := by have q : ¬ ((15 : Int) ≠ 17) := h21; omega
        exfalso; omega
end
