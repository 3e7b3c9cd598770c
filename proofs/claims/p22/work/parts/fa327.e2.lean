noncomputable section
/-! the readers in lockstep: statements -/
set_option maxHeartbeats 4000000 in
theorem e_145_37 {n : Nat} {N cd : Int} {w v : eW} (hz : st0 N cd w v) (hp : 1 ≤ w 1 6) (hkd : w 1 5 = 37) (ihS : ∀ k, k < n → sE k) {d d' : Nat} {r' : List eV} {v' : eW} (hM : e_Rn 20 elay ecode eI d' 349 (0, [(0, (1, 275)), (1, (0, 16))], [], v) r' v') : e_Pn 20 elay kcode eI n d 145 (0, [(0, (1, 1))], [], w) (fun r w' => r = [] ∧ r' = [] ∧ ((st N cd w v w' v' 0 0 0 (-1) (w 1 13) (v 275 82) (w 1 12) 2 ∧ w 1 6 < w' 1 6) ∨ rpF w' v')) := by
  have h0 := hz.st (ka := 2)
  have hm := hz.1.2.2.2.1.1.m
  have hn := hz.1.2.2.2.1.1.n
  have hzo := hz.2.2.2
  have q1 := st.nums h0
  have q1c := q1.2.2.2.1
  refine e_Pn.run (t' := (1, [(0, (1, 1))], [(1, 1)], w)) kAlk 1 rfl ?_
  refine e_Pn.getf (z := w 1 5) kAlk rfl rfl rfl (fun b2 => ?_)
  refine e_Pn.run (t' := (6, [(0, (1, 1))], [(0, 41), (0, w 1 5)], w)) kAlk 1 rfl ?_
  refine e_Pn.if2 kAlk rfl (fun h3 => ?_) (fun h3 => ?_)
  · replace h3 : (w 1 5 : Int) = 41 := h3
    exact (kM_no h0.1.2.1.2.2.1 (fun a b => decide ((a : Int) = 37) && decide ((a : Int) = 41)) (fun a b c => true) (by decide) (by decide) (by simp only [Bool.and_eq_true, decide_eq_true_eq]; exact ⟨hkd, h3⟩) rfl).elim
  · replace h3 : (w 1 5 : Int) ≠ 41 := by have q : ¬ ((w 1 5 : Int) = 41) := h3; omega
    refine e_Pn.run (t' := (10, [(0, (1, 1))], [(1, 1)], w)) kAlk 1 rfl ?_
    refine e_Pn.getr (z := cd) kAlk rfl rfl h0.1.2.2.2.1.2.1 (by omega) ?_
    refine e_Pn.run (t' := (16, [(0, (1, 1))], [(0, 0), (0, 50), (1, cd)], w)) kAlk 2 rfl ?_
    refine e_Pn.callA rfl (fun nq dq => l_21 h0.1.2.2.2.1 (op := 50) (od := 0) (by omega) (by omega) h0.1.2.2.2.2.2.1) (fun r4 w5 h6 => ?_)
    obtain ⟨z7, rfl, w5f, w5q⟩ := h6
    have w5k := kRw.em h0.1.2.2.2.1 w5f
    have w5l := (emQ.len w5q h0.1.2.2.2.2.2.1).1
    have w5e : w5 1 5 = w 1 5 ∧ w5 1 6 = w 1 6 ∧ w5 1 8 = w 1 8 := ⟨w5f 1 5 (by unfold kEm; omega), w5f 1 6 (by unfold kEm; omega), w5f 1 8 (by unfold kEm; omega)⟩
    have s8 := st.em h0 w5f w5q (by omega) (by unfold isCl3; omega)
    have q9 := st.nums s8
    have q9c := q9.2.2.2.1
    have z7r : 0 ≤ z7 ∧ z7 ≤ 4000 := emQ.z w5q h0.1.2.2.2.2.2.1
    show e_Pn 20 elay kcode eI n d 145 (19, [(0, (1, 1))], [(0, z7)], w5) _
    refine e_Pn.run (t' := (21, [(0, (1, 1))], [(1, 1)], w5)) kAlk 2 rfl ?_
    refine e_Pn.getf (z := w 1 5) kAlk rfl rfl ((w5f 1 5 (by unfold kEm; omega)).trans rfl) (fun b10 => ?_)
    have hs12 : ∀ x : Int, 37 ≤ x ∧ x ≤ 37 → (x = 37) := fun x h => by omega
    obtain h11 := hs12 (w 1 5) (by omega)
    · refine e_Pn.sw (tg := 322) kAlk rfl (by rw [h11]; rfl) ?_
      replace h11 : (w 1 5 : Int) = 37 := h11
      refine e_Pn.run (t' := (325, [(0, (1, 1))], [(0, 42), (1, 1)], w5)) kAlk 2 rfl ?_
      refine e_Pn.callJ rfl (fun nq13 hnq13 dq14 => ?_)
      show e_Pn 20 elay kcode eI nq13 dq14 146 (0, [(0, (1, 1)), (1, (0, 42))], [], w5) _
      refine e_Pn.run (t' := (1, [(0, (1, 1)), (1, (0, 42))], [(1, 1)], w5)) kAlk 1 rfl ?_
      replace hM := hM.st (t' := (4, [(0, (1, 275)), (1, (0, 16))], [(0, 0), (0, 30), (1, 275)], v)) (fun _ _ q => e_Pn.run eAlk 3 rfl q)
      obtain ⟨dc15, r16, v17, hc18, hM⟩ := hM.ca rfl
      obtain ⟨⟨z19, rfl⟩, v17f⟩ := hc18.pn (fun nq => x_336 h0.1.2.2.2.2.1)
      have v17m := mfr.rf v17f h0.1.2.2.2.2.1
      replace hM : e_Rn 20 elay ecode eI d' 349 (7, [(0, (1, 275)), (1, (0, 16))], [(0, z19)], v17) r' v' := hM
      replace hM := hM.st (t' := (9, [(0, (1, 275)), (1, (0, 16))], [(1, 275)], v17)) (fun _ _ q => e_Pn.run eAlk 2 rfl q)
      obtain ⟨b20, hM⟩ := hM.of (fun _ _ q => e_Pn.getf (z := v17 275 78) eAlk rfl rfl rfl q)
      replace hM := hM.st (t' := (16, [(2, (0, v17 275 78)), (0, (1, 275)), (1, (0, 16))], [(0, 17), (0, 16)], v17)) (fun _ _ q => e_Pn.run eAlk 3 rfl q)
      rcases hM.or (fun _ _ q1 q2 => e_Pn.if2 eAlk rfl q1 q2) with ⟨h21, hM⟩ | ⟨h21, hM⟩
      · replace h21 : (16 : Int) ≠ 17 := h21
        replace hM := hM.st (t' := (70, [(2, (0, v17 275 78)), (0, (1, 275)), (1, (0, 16))], [(1, 275)], v17)) (fun _ _ q => e_Pn.run eAlk 1 rfl q)
        have e23a : w5 1 11 = w5 1 11 := rfl
        have e23b : v17 275 83 = v 275 83 := (v17f 275 83 (by unfold mEm; omega))
        have e23c : w5 1 13 = w5 1 13 := rfl
        have e23d : v17 275 82 = v 275 82 := (v17f 275 82 (by unfold mEm; omega))
        have e23f : w5 1 12 = w5 1 12 := rfl
        have e23e : v17 275 80 = v 275 80 := (v17f 275 80 (by unfold mEm; omega))
        have s22 := st.gen (o' := 0) (l' := w 1 13) (m' := v 275 82) (t' := w 1 12) (b' := 0) s8 (e_fr.refl w5) (e_fr.trans (e_fr.refl v) (e_fr.mono v17f (fun c k q => by unfold mEm at q; unfold mGs; omega))) (by omega) (by omega) (by omega) (by omega)
        have q24 := st.nums s22
        clear q9 e23a e23b e23c e23d e23e e23f
        have q24c := q24.2.2.2.1
        obtain ⟨dc25, r26, v27, hc28, hM⟩ := hM.ca rfl
        refine e_Pn.callA rfl (fun nq dq => t_123b s22.1.1 s22.1.2.1.1 s22.1.2.1.2.1.2.1 (st.nx s22) (d' := dc25) hc28) (fun r29 w30 h31 => ?_)
        obtain ⟨rfl, rfl, h31⟩ := h31
        have s32 := st.ad (k := 2) s22 h31 (st.len2 s22 (by omega)) (by omega)
        have s32n := h31.2.2.2.1
        have s32m := st.len2 s22 (by omega)
        have s32g : w 1 6 + 1 ≤ w30 1 6 := by omega
        have q33 := st.nums s32
        clear q24
        have q33c := q33.2.2.2.1
        show e_Pn 20 elay kcode eI nq13 dq14 146 (4, [(0, (1, 1)), (1, (0, 42))], [], w30) _
        replace hM : e_Rn 20 elay ecode eI d' 349 (73, [(2, (0, v17 275 78)), (0, (1, 275)), (1, (0, 16))], [], v27) r' v' := hM
        refine e_Pn.run (t' := (7, [(0, (1, 1)), (1, (0, 42))], [(0, 19), (1, 1)], w30)) kAlk 2 rfl ?_
        replace hM := hM.st (t' := (74, [(2, (0, v17 275 78)), (0, (1, 275)), (1, (0, 16))], [(0, 16)], v27)) (fun _ _ q => e_Pn.run eAlk 1 rfl q)
        have hs35 : ∀ x : Int, 16 ≤ x ∧ x ≤ 16 → (x = 16) := fun x h => by omega
        obtain h34 := hs35 (16) (by omega)
        · replace hM := hM.st (fun _ _ q => e_Pn.sw (tg := 305) eAlk rfl (by rw [h34]; rfl) q)
          replace hM := hM.st (t' := (309, [(2, (0, v17 275 78)), (0, (1, 275)), (1, (0, 16))], [(0, 0), (0, 45), (1, 275)], v27)) (fun _ _ q => e_Pn.run eAlk 3 rfl q)
          obtain ⟨dc36, r37, v38, hc39, hM⟩ := hM.ca rfl
          obtain ⟨⟨z40, rfl⟩, v38f⟩ := hc39.pn (fun nq => x_336 s32.1.2.2.2.2.1)
          have v38m := mfr.rf v38f s32.1.2.2.2.2.1
          replace hM : e_Rn 20 elay ecode eI d' 349 (312, [(2, (0, v17 275 78)), (0, (1, 275)), (1, (0, 16))], [(0, z40)], v38) r' v' := hM
          replace hM := hM.st (t' := (399, [(2, (0, v17 275 78)), (0, (1, 275)), (1, (0, 16))], [(0, 59), (1, 275), (1, 275)], v38)) (fun _ _ q => e_Pn.run eAlk 5 rfl q)
          obtain ⟨dc41, r42, v43, hc44, hM⟩ := hM.ca rfl
          obtain ⟨z45, rfl, rfl, z45q⟩ := hc44.pn (fun nq => l_331)
          replace z45q := isS (kM_s59 s32.1.2.1.2.2.1) ((v38f 275 84 (by unfold mEm; omega)).trans rfl) ((v38f 275 85 (by unfold mEm; omega)).trans rfl) z45q
          replace hM : e_Rn 20 elay ecode eI d' 349 (402, [(2, (0, v17 275 78)), (0, (1, 275)), (1, (0, 16))], [(0, z45), (1, 275)], v38) r' v' := hM
          have e47a : w30 1 11 = w30 1 11 := rfl
          have e47b : v38 275 83 = v27 275 83 := (v38f 275 83 (by unfold mEm; omega))
          have e47c : w30 1 13 = w30 1 13 := rfl
          have e47d : v38 275 82 = v27 275 82 := (v38f 275 82 (by unfold mEm; omega))
          have e47f : w30 1 12 = w30 1 12 := rfl
          have e47e : v38 275 80 = v27 275 80 := (v38f 275 80 (by unfold mEm; omega))
          have s46 := st.gen (o' := 0) (l' := w 1 13) (m' := v 275 82) (t' := w 1 12) (b' := 0) s32 (e_fr.refl w30) (e_fr.trans (e_fr.refl v27) (e_fr.mono v38f (fun c k q => by unfold mEm at q; unfold mGs; omega))) (by omega) (by omega) (by omega) (by omega)
          have q48 := st.nums s46
          clear q33 e47a e47b e47c e47d e47e e47f
          have q48c := q48.2.2.2.1
          obtain ⟨dc49, r50, v51, hc52, hM⟩ := hM.ca rfl
          have uhc52 := hc52.pn (fun nq => u_334 s46.1.2.2.2.2.1)
          refine e_Pn.callA rfl (fun nq dq => e_Pn.and (t_129b s46.1.1 s46.1.2.1 z45q (d' := dc49) hc52) (u_129 s46.1.2.2.2.1)) (fun r53 w54 h55 => ?_)
          obtain ⟨⟨rfl, rfl, h55⟩, -, h55k⟩ := h55
          rcases h55.symm with h55 | ⟨h55c, h55⟩
          · skip
            replace hM : e_Rn 20 elay ecode eI d' 349 (405, [(2, (0, v17 275 78)), (0, (1, 275)), (1, (0, 16))], [], v51) r' v' := hM
            obtain ⟨rfl, m56⟩ := (e_Rn.le eAlk [0, 1, 2] rfl rfl hM).pn (fun nq => v_349_405 (uhc52.2.rf s46.1.2.2.2.2.1) _ 16 (v17 275 78) v51 mq.r)
            show e_Pn 20 elay kcode eI nq13 dq14 146 (10, [(0, (1, 1)), (1, (0, 42))], [], w54) _
            refine e_Pn.ord kAlk [0, 1] rfl rfl ((v_146_10 (h55k.rf s46.1.2.2.2.1) _ 42 w54 kq.r).imp (fun r58 w59 k57 => ?_))
            obtain ⟨rfl, k57⟩ := k57
            show e_Pn 20 elay kcode eI n d 145 (328, [(0, (1, 1))], [], w59) _
            refine e_Pn.ord kAlk [0] rfl rfl ((v_145_328 (k57.rf (h55k.rf s46.1.2.2.2.1)) _  w59 kq.r).imp (fun r61 w62 k60 => ?_))
            obtain ⟨rfl, k60⟩ := k60
            exact ⟨rfl, rfl, Or.inr (rpF.tail h55 (k57.tr k60) m56)⟩
          clear z45q
          have s63 := st.ad (k := 1) s46 h55 (st.len1 s46 (by omega)) (by omega)
          have s63n := h55.2.2.2.1
          have s63m := st.len1 s46 (by omega)
          have s63g : w 1 6 + 1 ≤ w54 1 6 := by omega
          have q64 := st.nums s63
          clear q48
          have q64c := q64.2.2.2.1
          show e_Pn 20 elay kcode eI nq13 dq14 146 (10, [(0, (1, 1)), (1, (0, 42))], [], w54) _
          replace hM : e_Rn 20 elay ecode eI d' 349 (405, [(2, (0, v17 275 78)), (0, (1, 275)), (1, (0, 16))], [], v51) r' v' := hM
          refine e_Pn.run (t' := (11, [(0, (1, 1)), (1, (0, 42))], [(1, 1)], w54)) kAlk 1 rfl ?_
          refine e_Pn.getr (z := cd) kAlk rfl rfl s63.1.2.2.2.1.2.1 (by omega) ?_
          refine e_Pn.run (t' := (16, [(0, (1, 1)), (1, (0, 42))], [(0, 0), (0, 42), (1, cd)], w54)) kAlk 2 rfl ?_
          refine e_Pn.callA rfl (fun nq dq => l_21 s63.1.2.2.2.1 (op := 42) (od := 0) (by omega) (by omega) s63.1.2.2.2.2.2.1) (fun r65 w66 h67 => ?_)
          obtain ⟨z68, rfl, w66f, w66q⟩ := h67
          have w66k := kRw.em s63.1.2.2.2.1 w66f
          have w66l := (emQ.len w66q s63.1.2.2.2.2.2.1).1
          have w66e : w66 1 5 = w54 1 5 ∧ w66 1 6 = w54 1 6 ∧ w66 1 8 = w54 1 8 := ⟨w66f 1 5 (by unfold kEm; omega), w66f 1 6 (by unfold kEm; omega), w66f 1 8 (by unfold kEm; omega)⟩
          have s69 := st.em s63 w66f w66q (by omega) (by unfold isCl3; omega)
          have q70 := st.nums s69
          clear q64
          have q70c := q70.2.2.2.1
          have z68r : 0 ≤ z68 ∧ z68 ≤ 4000 := emQ.z w66q s63.1.2.2.2.2.2.1
          show e_Pn 20 elay kcode eI nq13 dq14 146 (19, [(0, (1, 1)), (1, (0, 42))], [(0, z68)], w66) _
          refine e_Pn.run (t' := (20, [(0, (1, 1)), (1, (0, 42))], [], w66)) kAlk 1 rfl ?_
          refine e_Pn.ret0 rfl ?_
          show e_Pn 20 elay kcode eI n d 145 (328, [(0, (1, 1))], [], w66) _
          refine e_Pn.run (t' := (356, [(0, (1, 1))], [], w66)) kAlk 1 rfl ?_
          obtain ⟨rfl, rfl⟩ := hM.re0 rfl
          refine e_Pn.ret0 rfl ?_
          exact ⟨rfl, rfl, Or.inl ⟨st.re s69 (by omega) (by omega) (by omega) (by omega) (by omega), by omega⟩⟩
      · replace h21 : (16 : Int) = 17 := by have q : ¬ ((16 : Int) ≠ 17) := h21; omega
        exfalso; omega
set_option maxHeartbeats 4000000 in
theorem e_145_38 {n : Nat} {N cd : Int} {w v : eW} (hz : st0 N cd w v) (hp : 1 ≤ w 1 6) (hkd : w 1 5 = 38) (ihS : ∀ k, k < n → sE k) {d d' : Nat} {r' : List eV} {v' : eW} (hM : e_Rn 20 elay ecode eI d' 349 (0, [(0, (1, 275)), (1, (0, 17))], [], v) r' v') : e_Pn 20 elay kcode eI n d 145 (0, [(0, (1, 1))], [], w) (fun r w' => r = [] ∧ r' = [] ∧ ((st N cd w v w' v' 0 0 0 (-1) (w 1 13) (v 275 82) (w 1 12) 2 ∧ w 1 6 < w' 1 6) ∨ rpF w' v')) := by
  have h0 := hz.st (ka := 2)
  have hm := hz.1.2.2.2.1.1.m
  have hn := hz.1.2.2.2.1.1.n
  have hzo := hz.2.2.2
  have q1 := st.nums h0
  have q1c := q1.2.2.2.1
  refine e_Pn.run (t' := (1, [(0, (1, 1))], [(1, 1)], w)) kAlk 1 rfl ?_
  refine e_Pn.getf (z := w 1 5) kAlk rfl rfl rfl (fun b2 => ?_)
  refine e_Pn.run (t' := (6, [(0, (1, 1))], [(0, 41), (0, w 1 5)], w)) kAlk 1 rfl ?_
  refine e_Pn.if2 kAlk rfl (fun h3 => ?_) (fun h3 => ?_)
  · replace h3 : (w 1 5 : Int) = 41 := h3
    exact (kM_no h0.1.2.1.2.2.1 (fun a b => decide ((a : Int) = 38) && decide ((a : Int) = 41)) (fun a b c => true) (by decide) (by decide) (by simp only [Bool.and_eq_true, decide_eq_true_eq]; exact ⟨hkd, h3⟩) rfl).elim
  · replace h3 : (w 1 5 : Int) ≠ 41 := by have q : ¬ ((w 1 5 : Int) = 41) := h3; omega
    refine e_Pn.run (t' := (10, [(0, (1, 1))], [(1, 1)], w)) kAlk 1 rfl ?_
    refine e_Pn.getr (z := cd) kAlk rfl rfl h0.1.2.2.2.1.2.1 (by omega) ?_
    refine e_Pn.run (t' := (16, [(0, (1, 1))], [(0, 0), (0, 50), (1, cd)], w)) kAlk 2 rfl ?_
    refine e_Pn.callA rfl (fun nq dq => l_21 h0.1.2.2.2.1 (op := 50) (od := 0) (by omega) (by omega) h0.1.2.2.2.2.2.1) (fun r4 w5 h6 => ?_)
    obtain ⟨z7, rfl, w5f, w5q⟩ := h6
    have w5k := kRw.em h0.1.2.2.2.1 w5f
    have w5l := (emQ.len w5q h0.1.2.2.2.2.2.1).1
    have w5e : w5 1 5 = w 1 5 ∧ w5 1 6 = w 1 6 ∧ w5 1 8 = w 1 8 := ⟨w5f 1 5 (by unfold kEm; omega), w5f 1 6 (by unfold kEm; omega), w5f 1 8 (by unfold kEm; omega)⟩
    have s8 := st.em h0 w5f w5q (by omega) (by unfold isCl3; omega)
    have q9 := st.nums s8
    have q9c := q9.2.2.2.1
    have z7r : 0 ≤ z7 ∧ z7 ≤ 4000 := emQ.z w5q h0.1.2.2.2.2.2.1
    show e_Pn 20 elay kcode eI n d 145 (19, [(0, (1, 1))], [(0, z7)], w5) _
    refine e_Pn.run (t' := (21, [(0, (1, 1))], [(1, 1)], w5)) kAlk 2 rfl ?_
    refine e_Pn.getf (z := w 1 5) kAlk rfl rfl ((w5f 1 5 (by unfold kEm; omega)).trans rfl) (fun b10 => ?_)
    have hs12 : ∀ x : Int, 38 ≤ x ∧ x ≤ 38 → (x = 38) := fun x h => by omega
    obtain h11 := hs12 (w 1 5) (by omega)
    · refine e_Pn.sw (tg := 331) kAlk rfl (by rw [h11]; rfl) ?_
      replace h11 : (w 1 5 : Int) = 38 := h11
      refine e_Pn.run (t' := (332, [(0, (1, 1))], [(1, 1)], w5)) kAlk 1 rfl ?_
      refine e_Pn.callJ rfl (fun nq13 hnq13 dq14 => ?_)
      show e_Pn 20 elay kcode eI nq13 dq14 153 (0, [(0, (1, 1))], [], w5) _
      refine e_Pn.run (t' := (1, [(0, (1, 1))], [(1, 1)], w5)) kAlk 1 rfl ?_
      refine e_Pn.getf (z := w 1 13) kAlk rfl rfl ((w5f 1 13 (by unfold kEm; omega)).trans rfl) (fun b15 => ?_)
      refine e_Pn.if1 kAlk rfl (fun h16 => ?_) (fun h16 => ?_)
      · replace h16 : (w 1 13 : Int) ≥ 0 := h16
        refine e_Pn.run (t' := (18, [(0, (1, 1))], [(1, 1)], w5)) kAlk 1 rfl ?_
        replace hM := hM.st (t' := (4, [(0, (1, 275)), (1, (0, 17))], [(0, 0), (0, 30), (1, 275)], v)) (fun _ _ q => e_Pn.run eAlk 3 rfl q)
        obtain ⟨dc17, r18, v19, hc20, hM⟩ := hM.ca rfl
        obtain ⟨⟨z21, rfl⟩, v19f⟩ := hc20.pn (fun nq => x_336 h0.1.2.2.2.2.1)
        have v19m := mfr.rf v19f h0.1.2.2.2.2.1
        replace hM : e_Rn 20 elay ecode eI d' 349 (7, [(0, (1, 275)), (1, (0, 17))], [(0, z21)], v19) r' v' := hM
        replace hM := hM.st (t' := (9, [(0, (1, 275)), (1, (0, 17))], [(1, 275)], v19)) (fun _ _ q => e_Pn.run eAlk 2 rfl q)
        obtain ⟨b22, hM⟩ := hM.of (fun _ _ q => e_Pn.getf (z := v19 275 78) eAlk rfl rfl rfl q)
        replace hM := hM.st (t' := (16, [(2, (0, v19 275 78)), (0, (1, 275)), (1, (0, 17))], [(0, 17), (0, 17)], v19)) (fun _ _ q => e_Pn.run eAlk 3 rfl q)
        rcases hM.or (fun _ _ q1 q2 => e_Pn.if2 eAlk rfl q1 q2) with ⟨h23, hM⟩ | ⟨h23, hM⟩
        · replace h23 : (17 : Int) ≠ 17 := h23
          exfalso; omega
        · replace h23 : (17 : Int) = 17 := by have q : ¬ ((17 : Int) ≠ 17) := h23; omega
          replace hM := hM.st (t' := (20, [(2, (0, v19 275 78)), (0, (1, 275)), (1, (0, 17))], [(1, 275)], v19)) (fun _ _ q => e_Pn.run eAlk 1 rfl q)
          obtain ⟨b24, hM⟩ := hM.of (fun _ _ q => e_Pn.getf (z := v 275 82) eAlk rfl rfl ((v19f 275 82 (by unfold mEm; omega)).trans rfl) q)
          rcases hM.or (fun _ _ q1 q2 => e_Pn.if1 eAlk rfl q1 q2) with ⟨h25, hM⟩ | ⟨h25, hM⟩
          · replace h25 : (v 275 82 : Int) ≥ 0 := h25
            replace hM := hM.st (t' := (70, [(2, (0, v19 275 78)), (0, (1, 275)), (1, (0, 17))], [(1, 275)], v19)) (fun _ _ q => e_Pn.run eAlk 1 rfl q)
            have e27a : w5 1 11 = w5 1 11 := rfl
            have e27b : v19 275 83 = v 275 83 := (v19f 275 83 (by unfold mEm; omega))
            have e27c : w5 1 13 = w5 1 13 := rfl
            have e27d : v19 275 82 = v 275 82 := (v19f 275 82 (by unfold mEm; omega))
            have e27f : w5 1 12 = w5 1 12 := rfl
            have e27e : v19 275 80 = v 275 80 := (v19f 275 80 (by unfold mEm; omega))
            have s26 := st.gen (o' := 0) (l' := w 1 13) (m' := v 275 82) (t' := w 1 12) (b' := 0) s8 (e_fr.refl w5) (e_fr.trans (e_fr.refl v) (e_fr.mono v19f (fun c k q => by unfold mEm at q; unfold mGs; omega))) (by omega) (by omega) (by omega) (by omega)
            have q28 := st.nums s26
            clear q9 e27a e27b e27c e27d e27e e27f
            have q28c := q28.2.2.2.1
            obtain ⟨dc29, r30, v31, hc32, hM⟩ := hM.ca rfl
            refine e_Pn.callA rfl (fun nq dq => t_123b s26.1.1 s26.1.2.1.1 s26.1.2.1.2.1.2.1 (st.nx s26) (d' := dc29) hc32) (fun r33 w34 h35 => ?_)
            obtain ⟨rfl, rfl, h35⟩ := h35
            have s36 := st.ad (k := 2) s26 h35 (st.len2 s26 (by omega)) (by omega)
            have s36n := h35.2.2.2.1
            have s36m := st.len2 s26 (by omega)
            have s36g : w 1 6 + 1 ≤ w34 1 6 := by omega
            have q37 := st.nums s36
            clear q28
            have q37c := q37.2.2.2.1
            show e_Pn 20 elay kcode eI nq13 dq14 153 (21, [(0, (1, 1))], [], w34) _
            replace hM : e_Rn 20 elay ecode eI d' 349 (73, [(2, (0, v19 275 78)), (0, (1, 275)), (1, (0, 17))], [], v31) r' v' := hM
            refine e_Pn.run (t' := (24, [(0, (1, 1))], [(0, 19), (1, 1)], w34)) kAlk 2 rfl ?_
            replace hM := hM.st (t' := (74, [(2, (0, v19 275 78)), (0, (1, 275)), (1, (0, 17))], [(0, 17)], v31)) (fun _ _ q => e_Pn.run eAlk 1 rfl q)
            have hs39 : ∀ x : Int, 17 ≤ x ∧ x ≤ 17 → (x = 17) := fun x h => by omega
            obtain h38 := hs39 (17) (by omega)
            · replace hM := hM.st (fun _ _ q => e_Pn.sw (tg := 316) eAlk rfl (by rw [h38]; rfl) q)
              replace hM := hM.st (t' := (320, [(2, (0, v19 275 78)), (0, (1, 275)), (1, (0, 17))], [(1, 275), (0, 46), (1, 275)], v31)) (fun _ _ q => e_Pn.run eAlk 3 rfl q)
              obtain ⟨b40, hM⟩ := hM.of (fun _ _ q => e_Pn.getf (z := v31 275 82) eAlk rfl rfl rfl q)
              obtain ⟨dc41, r42, v43, hc44, hM⟩ := hM.ca rfl
              obtain ⟨⟨z45, rfl⟩, v43f⟩ := hc44.pn (fun nq => x_336 s36.1.2.2.2.2.1)
              have v43m := mfr.rf v43f s36.1.2.2.2.2.1
              replace hM : e_Rn 20 elay ecode eI d' 349 (326, [(2, (0, v19 275 78)), (0, (1, 275)), (1, (0, 17))], [(0, z45)], v43) r' v' := hM
              replace hM := hM.st (t' := (399, [(2, (0, v19 275 78)), (0, (1, 275)), (1, (0, 17))], [(0, 59), (1, 275), (1, 275)], v43)) (fun _ _ q => e_Pn.run eAlk 5 rfl q)
              obtain ⟨dc46, r47, v48, hc49, hM⟩ := hM.ca rfl
              obtain ⟨z50, rfl, rfl, z50q⟩ := hc49.pn (fun nq => l_331)
              replace z50q := isS (kM_s59 s36.1.2.1.2.2.1) ((v43f 275 84 (by unfold mEm; omega)).trans rfl) ((v43f 275 85 (by unfold mEm; omega)).trans rfl) z50q
              replace hM : e_Rn 20 elay ecode eI d' 349 (402, [(2, (0, v19 275 78)), (0, (1, 275)), (1, (0, 17))], [(0, z50), (1, 275)], v43) r' v' := hM
              have e52a : w34 1 11 = w34 1 11 := rfl
              have e52b : v43 275 83 = v31 275 83 := (v43f 275 83 (by unfold mEm; omega))
              have e52c : w34 1 13 = w34 1 13 := rfl
              have e52d : v43 275 82 = v31 275 82 := (v43f 275 82 (by unfold mEm; omega))
              have e52f : w34 1 12 = w34 1 12 := rfl
              have e52e : v43 275 80 = v31 275 80 := (v43f 275 80 (by unfold mEm; omega))
              have s51 := st.gen (o' := 0) (l' := w 1 13) (m' := v 275 82) (t' := w 1 12) (b' := 0) s36 (e_fr.refl w34) (e_fr.trans (e_fr.refl v31) (e_fr.mono v43f (fun c k q => by unfold mEm at q; unfold mGs; omega))) (by omega) (by omega) (by omega) (by omega)
              have q53 := st.nums s51
              clear q37 e52a e52b e52c e52d e52e e52f
              have q53c := q53.2.2.2.1
              obtain ⟨dc54, r55, v56, hc57, hM⟩ := hM.ca rfl
              have uhc57 := hc57.pn (fun nq => u_334 s51.1.2.2.2.2.1)
              refine e_Pn.callA rfl (fun nq dq => e_Pn.and (t_129b s51.1.1 s51.1.2.1 z50q (d' := dc54) hc57) (u_129 s51.1.2.2.2.1)) (fun r58 w59 h60 => ?_)
              obtain ⟨⟨rfl, rfl, h60⟩, -, h60k⟩ := h60
              rcases h60.symm with h60 | ⟨h60c, h60⟩
              · skip
                replace hM : e_Rn 20 elay ecode eI d' 349 (405, [(2, (0, v19 275 78)), (0, (1, 275)), (1, (0, 17))], [], v56) r' v' := hM
                obtain ⟨rfl, m61⟩ := (e_Rn.le eAlk [0, 1, 2] rfl rfl hM).pn (fun nq => v_349_405 (uhc57.2.rf s51.1.2.2.2.2.1) _ 17 (v19 275 78) v56 mq.r)
                show e_Pn 20 elay kcode eI nq13 dq14 153 (27, [(0, (1, 1))], [], w59) _
                refine e_Pn.ord kAlk [0] rfl rfl ((v_153_27 (h60k.rf s51.1.2.2.2.1) _  w59 kq.r).imp (fun r63 w64 k62 => ?_))
                obtain ⟨rfl, k62⟩ := k62
                show e_Pn 20 elay kcode eI n d 145 (335, [(0, (1, 1))], [], w64) _
                refine e_Pn.ord kAlk [0] rfl rfl ((v_145_335 (k62.rf (h60k.rf s51.1.2.2.2.1)) _  w64 kq.r).imp (fun r66 w67 k65 => ?_))
                obtain ⟨rfl, k65⟩ := k65
                exact ⟨rfl, rfl, Or.inr (rpF.tail h60 (k62.tr k65) m61)⟩
              clear z50q
              have s68 := st.ad (k := 1) s51 h60 (st.len1 s51 (by omega)) (by omega)
              have s68n := h60.2.2.2.1
              have s68m := st.len1 s51 (by omega)
              have s68g : w 1 6 + 1 ≤ w59 1 6 := by omega
              have q69 := st.nums s68
              clear q53
              have q69c := q69.2.2.2.1
              show e_Pn 20 elay kcode eI nq13 dq14 153 (27, [(0, (1, 1))], [], w59) _
              replace hM : e_Rn 20 elay ecode eI d' 349 (405, [(2, (0, v19 275 78)), (0, (1, 275)), (1, (0, 17))], [], v56) r' v' := hM
              refine e_Pn.run (t' := (28, [(0, (1, 1))], [(1, 1)], w59)) kAlk 1 rfl ?_
              refine e_Pn.getr (z := cd) kAlk rfl rfl s68.1.2.2.2.1.2.1 (by omega) ?_
              refine e_Pn.run (t' := (34, [(0, (1, 1))], [(1, 1), (0, 44), (1, cd)], w59)) kAlk 2 rfl ?_
              refine e_Pn.getf (z := w59 1 13) kAlk rfl rfl rfl (fun b70 => ?_)
              refine e_Pn.run (t' := (38, [(0, (1, 1))], [(0, 0), (0, w59 1 13), (0, 44), (1, cd)], w59)) kAlk 1 rfl ?_
              refine e_Pn.mmax kAlk rfl (fun z71 hz71 => ?_)
              replace hz71 : ((w59 1 13) < 0 ∧ z71 = 0) ∨ (0 ≤ w59 1 13 ∧ z71 = w59 1 13) := hz71
              refine e_Pn.callA rfl (fun nq dq => l_21 s68.1.2.2.2.1 (op := 44) (od := z71) (by omega) (by omega) s68.1.2.2.2.2.2.1) (fun r72 w73 h74 => ?_)
              obtain ⟨z75, rfl, w73f, w73q⟩ := h74
              have w73k := kRw.em s68.1.2.2.2.1 w73f
              have w73l := (emQ.len w73q s68.1.2.2.2.2.2.1).1
              have w73e : w73 1 5 = w59 1 5 ∧ w73 1 6 = w59 1 6 ∧ w73 1 8 = w59 1 8 := ⟨w73f 1 5 (by unfold kEm; omega), w73f 1 6 (by unfold kEm; omega), w73f 1 8 (by unfold kEm; omega)⟩
              have s76 := st.em s68 w73f w73q (by omega) (by unfold isCl3; omega)
              have q77 := st.nums s76
              clear q69
              have q77c := q77.2.2.2.1
              have z75r : 0 ≤ z75 ∧ z75 ≤ 4000 := emQ.z w73q s68.1.2.2.2.2.2.1
              show e_Pn 20 elay kcode eI nq13 dq14 153 (44, [(0, (1, 1))], [(0, z75)], w73) _
              refine e_Pn.run (t' := (45, [(0, (1, 1))], [], w73)) kAlk 1 rfl ?_
              refine e_Pn.ret0 rfl ?_
              show e_Pn 20 elay kcode eI n d 145 (335, [(0, (1, 1))], [], w73) _
              refine e_Pn.run (t' := (356, [(0, (1, 1))], [], w73)) kAlk 1 rfl ?_
              obtain ⟨rfl, rfl⟩ := hM.re0 rfl
              refine e_Pn.ret0 rfl ?_
              exact ⟨rfl, rfl, Or.inl ⟨st.re s76 (by omega) (by omega) (by omega) (by omega) (by omega), by omega⟩⟩
          · replace h25 : (v 275 82 : Int) < 0 := by have q : ¬ ((v 275 82 : Int) ≥ 0) := h25; omega
            exfalso; omega
      · replace h16 : (w 1 13 : Int) < 0 := by have q : ¬ ((w 1 13 : Int) ≥ 0) := h16; omega
        refine e_Pn.run (t' := (11, [(0, (1, 1))], [(1, 1), (0, 6), (1, 1)], w5)) kAlk 3 rfl ?_
        refine e_Pn.getf (z := w 1 6) kAlk rfl rfl ((w5f 1 6 (by unfold kEm; omega)).trans rfl) (fun b78 => ?_)
        refine e_Pn.callA rfl (fun nq dq => l_133) (fun r79 w80 h81 => ?_)
        obtain ⟨rfl, w80c⟩ := h81
        have w80f := cplQ.fr w80c
        have w80k := kRw.rc w5k w80f
        have w80l : 0 ≤ w80 cd 0 ∧ w80 cd 0 ≤ 4000 := by rw [w80f cd 0 (by unfold kRc; omega)]; exact w5l
        have w80e : w80 1 5 = w5 1 5 ∧ w80 1 6 = w5 1 6 ∧ w80 1 8 = w5 1 8 := ⟨w80f 1 5 (by unfold kRc; omega), w80f 1 6 (by unfold kRc; omega), w80f 1 8 (by unfold kRc; omega)⟩
        show e_Pn 20 elay kcode eI nq13 dq14 153 (17, [(0, (1, 1))], [], w80) _
        refine e_Pn.run (t' := (18, [(0, (1, 1))], [(1, 1)], w80)) kAlk 1 rfl ?_
        replace hM := hM.st (t' := (4, [(0, (1, 275)), (1, (0, 17))], [(0, 0), (0, 30), (1, 275)], v)) (fun _ _ q => e_Pn.run eAlk 3 rfl q)
        obtain ⟨dc82, r83, v84, hc85, hM⟩ := hM.ca rfl
        obtain ⟨⟨z86, rfl⟩, v84f⟩ := hc85.pn (fun nq => x_336 h0.1.2.2.2.2.1)
        have v84m := mfr.rf v84f h0.1.2.2.2.2.1
        replace hM : e_Rn 20 elay ecode eI d' 349 (7, [(0, (1, 275)), (1, (0, 17))], [(0, z86)], v84) r' v' := hM
        replace hM := hM.st (t' := (9, [(0, (1, 275)), (1, (0, 17))], [(1, 275)], v84)) (fun _ _ q => e_Pn.run eAlk 2 rfl q)
        obtain ⟨b87, hM⟩ := hM.of (fun _ _ q => e_Pn.getf (z := v84 275 78) eAlk rfl rfl rfl q)
        replace hM := hM.st (t' := (16, [(2, (0, v84 275 78)), (0, (1, 275)), (1, (0, 17))], [(0, 17), (0, 17)], v84)) (fun _ _ q => e_Pn.run eAlk 3 rfl q)
        rcases hM.or (fun _ _ q1 q2 => e_Pn.if2 eAlk rfl q1 q2) with ⟨h88, hM⟩ | ⟨h88, hM⟩
        · replace h88 : (17 : Int) ≠ 17 := h88
          exfalso; omega
        · replace h88 : (17 : Int) = 17 := by have q : ¬ ((17 : Int) ≠ 17) := h88; omega
          replace hM := hM.st (t' := (20, [(2, (0, v84 275 78)), (0, (1, 275)), (1, (0, 17))], [(1, 275)], v84)) (fun _ _ q => e_Pn.run eAlk 1 rfl q)
          obtain ⟨b89, hM⟩ := hM.of (fun _ _ q => e_Pn.getf (z := v 275 82) eAlk rfl rfl ((v84f 275 82 (by unfold mEm; omega)).trans rfl) q)
          rcases hM.or (fun _ _ q1 q2 => e_Pn.if1 eAlk rfl q1 q2) with ⟨h90, hM⟩ | ⟨h90, hM⟩
          · replace h90 : (v 275 82 : Int) ≥ 0 := h90
            exfalso; omega
          · replace h90 : (v 275 82 : Int) < 0 := by have q : ¬ ((v 275 82 : Int) ≥ 0) := h90; omega
            replace hM := hM.st (t' := (27, [(2, (0, v84 275 78)), (0, (1, 275)), (1, (0, 17))], [(1, 275)], v84)) (fun _ _ q => e_Pn.run eAlk 1 rfl q)
            replace hM := hM.st (fun _ _ q => e_Pn.getr (z := 341) eAlk rfl rfl ((v84f 275 90 (by unfold mEm; omega)).trans (h0.1.2.2.2.2.1 (90, 341) (by decide))) (by omega) q)
            replace hM := hM.st (t' := (31, [(2, (0, v84 275 78)), (0, (1, 275)), (1, (0, 17))], [(1, 275), (1, 341)], v84)) (fun _ _ q => e_Pn.run eAlk 1 rfl q)
            obtain ⟨b91, hM⟩ := hM.of (fun _ _ q => e_Pn.getf (z := v 275 94) eAlk rfl rfl ((v84f 275 94 (by unfold mEm; omega)).trans rfl) q)
            replace hM := hM.st (t' := (35, [(2, (0, v84 275 78)), (0, (1, 275)), (1, (0, 17))], [(0, 4), (0, v 275 94), (1, 341)], v84)) (fun _ _ q => e_Pn.run eAlk 1 rfl q)
            obtain ⟨b92, b93, hM⟩ := hM.of2 (fun _ _ q => e_Pn.ast eAlk rfl rfl rfl q)
            generalize hv94 : e_up v84 341 (v 275 94) 4 = v94 at hM
            have v94m := mRw.upd hv94 (fun _ => by omega) v84m
            replace hM := hM.st (t' := (37, [(2, (0, v84 275 78)), (0, (1, 275)), (1, (0, 17))], [(1, 275)], v94)) (fun _ _ q => e_Pn.run eAlk 1 rfl q)
            replace hM := hM.st (fun _ _ q => e_Pn.getr (z := 342) eAlk rfl rfl (by rw [← hv94]; exact (e_up_ne _ _ (Or.inl (by omega))).trans ((v84f 275 91 (by unfold mEm; omega)).trans (h0.1.2.2.2.2.1 (91, 342) (by decide)))) (by omega) q)
            replace hM := hM.st (t' := (41, [(2, (0, v84 275 78)), (0, (1, 275)), (1, (0, 17))], [(1, 275), (1, 342)], v94)) (fun _ _ q => e_Pn.run eAlk 1 rfl q)
            obtain ⟨b95, hM⟩ := hM.of (fun _ _ q => e_Pn.getf (z := v 275 94) eAlk rfl rfl (by rw [← hv94]; exact (e_up_ne _ _ (Or.inl (by omega))).trans ((v84f 275 94 (by unfold mEm; omega)).trans rfl)) q)
            replace hM := hM.st (t' := (45, [(2, (0, v84 275 78)), (0, (1, 275)), (1, (0, 17))], [(1, 275), (0, v 275 94), (1, 342)], v94)) (fun _ _ q => e_Pn.run eAlk 1 rfl q)
            obtain ⟨b96, hM⟩ := hM.of (fun _ _ q => e_Pn.getf (z := v 275 86) eAlk rfl rfl (by rw [← hv94]; exact (e_up_ne _ _ (Or.inl (by omega))).trans ((v84f 275 86 (by unfold mEm; omega)).trans rfl)) q)
            obtain ⟨b97, b98, hM⟩ := hM.of2 (fun _ _ q => e_Pn.ast eAlk rfl rfl rfl q)
            generalize hv99 : e_up v94 342 (v 275 94) (v 275 86) = v99 at hM
            have v99m := mRw.upd hv99 (fun _ => by omega) v94m
            replace hM := hM.st (t' := (50, [(2, (0, v84 275 78)), (0, (1, 275)), (1, (0, 17))], [(1, 275)], v99)) (fun _ _ q => e_Pn.run eAlk 1 rfl q)
            replace hM := hM.st (fun _ _ q => e_Pn.getr (z := 343) eAlk rfl rfl (by rw [← hv99]; exact (e_up_ne _ _ (Or.inl (by omega))).trans (by rw [← hv94]; exact (e_up_ne _ _ (Or.inl (by omega))).trans ((v84f 275 92 (by unfold mEm; omega)).trans (h0.1.2.2.2.2.1 (92, 343) (by decide))))) (by omega) q)
            replace hM := hM.st (t' := (54, [(2, (0, v84 275 78)), (0, (1, 275)), (1, (0, 17))], [(1, 275), (1, 343)], v99)) (fun _ _ q => e_Pn.run eAlk 1 rfl q)
            obtain ⟨b100, hM⟩ := hM.of (fun _ _ q => e_Pn.getf (z := v 275 94) eAlk rfl rfl (by rw [← hv99]; exact (e_up_ne _ _ (Or.inl (by omega))).trans (by rw [← hv94]; exact (e_up_ne _ _ (Or.inl (by omega))).trans ((v84f 275 94 (by unfold mEm; omega)).trans rfl))) q)
            replace hM := hM.st (t' := (58, [(2, (0, v84 275 78)), (0, (1, 275)), (1, (0, 17))], [(0, 5), (0, v 275 94), (1, 343)], v99)) (fun _ _ q => e_Pn.run eAlk 1 rfl q)
            obtain ⟨b101, b102, hM⟩ := hM.of2 (fun _ _ q => e_Pn.ast eAlk rfl rfl rfl q)
            generalize hv103 : e_up v99 343 (v 275 94) 5 = v103 at hM
            have v103m := mRw.upd hv103 (fun _ => by omega) v99m
            replace hM := hM.st (t' := (61, [(2, (0, v84 275 78)), (0, (1, 275)), (1, (0, 17))], [(1, 275), (1, 275)], v103)) (fun _ _ q => e_Pn.run eAlk 2 rfl q)
            obtain ⟨b104, hM⟩ := hM.of (fun _ _ q => e_Pn.getf (z := v 275 94) eAlk rfl rfl (by rw [← hv103]; exact (e_up_ne _ _ (Or.inl (by omega))).trans (by rw [← hv99]; exact (e_up_ne _ _ (Or.inl (by omega))).trans (by rw [← hv94]; exact (e_up_ne _ _ (Or.inl (by omega))).trans ((v84f 275 94 (by unfold mEm; omega)).trans rfl)))) q)
            replace hM := hM.st (t' := (65, [(2, (0, v84 275 78)), (0, (1, 275)), (1, (0, 17))], [(0, 1), (0, v 275 94), (1, 275)], v103)) (fun _ _ q => e_Pn.run eAlk 1 rfl q)
            replace hM := hM.st (fun _ _ q => e_Pn.add (z := v 275 94 + 1) eAlk rfl (by omega) (by omega) q)
            replace hM := hM.st (fun _ _ q => e_Pn.putf eAlk rfl rfl q)
            generalize hv105 : e_up v103 275 94 (v 275 94 + 1) = v105 at hM
            have v105m := mRw.upd hv105 (fun _ => by omega) v103m
            replace hM := hM.st (t' := (70, [(2, (0, v84 275 78)), (0, (1, 275)), (1, (0, 17))], [(1, 275)], v105)) (fun _ _ q => e_Pn.run eAlk 1 rfl q)
            have e107a : w5 1 11 = w5 1 11 := rfl
            have e107b : v84 275 83 = v 275 83 := (v84f 275 83 (by unfold mEm; omega))
            have e107c : w5 1 13 = w5 1 13 := rfl
            have e107d : v84 275 82 = v 275 82 := (v84f 275 82 (by unfold mEm; omega))
            have e107f : w5 1 12 = w5 1 12 := rfl
            have e107e : v84 275 80 = v 275 80 := (v84f 275 80 (by unfold mEm; omega))
            have s106 := st.gen (o' := 0) (l' := w 1 13) (m' := v 275 82) (t' := w 1 12) (b' := 0) s8 (e_fr.refl w5) (e_fr.trans (e_fr.refl v) (e_fr.mono v84f (fun c k q => by unfold mEm at q; unfold mGs; omega))) (by omega) (by omega) (by omega) (by omega)
            have q108 := st.nums s106
            clear q9 e107a e107b e107c e107d e107e e107f
            have q108c := q108.2.2.2.1
            have as10994 : v84 275 94 = v 275 94 := ((v84f 275 94 (by unfold mEm; omega)).trans rfl)
            have as10986 : v84 275 86 = v 275 86 := ((v84f 275 86 (by unfold mEm; omega)).trans rfl)
            have as10987 : v84 275 87 = v 275 87 := ((v84f 275 87 (by unfold mEm; omega)).trans rfl)
            obtain ⟨as109, as109g⟩ := nmA.mk4 hv94 hv99 hv103 hv105 (by omega) (by omega)
            have s109 := st.brk (by decide) s106 (cplQ.ce (y := w5 1 6) w80c (by omega)) as109 (by omega) as109g
            have q110 := st.nums s109
            clear q108
            have q110c := q110.2.2.2.1
            obtain ⟨dc111, r112, v113, hc114, hM⟩ := hM.ca rfl
            refine e_Pn.callA rfl (fun nq dq => t_123b s109.1.1 s109.1.2.1.1 s109.1.2.1.2.1.2.1 (st.nx s109) (d' := dc111) hc114) (fun r115 w116 h117 => ?_)
            obtain ⟨rfl, rfl, h117⟩ := h117
            have s118 := st.ad (k := 2) s109 h117 (st.len2 s109 (by omega)) (by omega)
            have s118n := h117.2.2.2.1
            have s118m := st.len2 s109 (by omega)
            have s118g : w 1 6 + 1 ≤ w116 1 6 := by omega
            have q119 := st.nums s118
            clear q110
            have q119c := q119.2.2.2.1
            show e_Pn 20 elay kcode eI nq13 dq14 153 (21, [(0, (1, 1))], [], w116) _
            replace hM : e_Rn 20 elay ecode eI d' 349 (73, [(2, (0, v84 275 78)), (0, (1, 275)), (1, (0, 17))], [], v113) r' v' := hM
            refine e_Pn.run (t' := (24, [(0, (1, 1))], [(0, 19), (1, 1)], w116)) kAlk 2 rfl ?_
            replace hM := hM.st (t' := (74, [(2, (0, v84 275 78)), (0, (1, 275)), (1, (0, 17))], [(0, 17)], v113)) (fun _ _ q => e_Pn.run eAlk 1 rfl q)
            have hs121 : ∀ x : Int, 17 ≤ x ∧ x ≤ 17 → (x = 17) := fun x h => by omega
            obtain h120 := hs121 (17) (by omega)
            · replace hM := hM.st (fun _ _ q => e_Pn.sw (tg := 316) eAlk rfl (by rw [h120]; rfl) q)
              replace hM := hM.st (t' := (320, [(2, (0, v84 275 78)), (0, (1, 275)), (1, (0, 17))], [(1, 275), (0, 46), (1, 275)], v113)) (fun _ _ q => e_Pn.run eAlk 3 rfl q)
              obtain ⟨b122, hM⟩ := hM.of (fun _ _ q => e_Pn.getf (z := v113 275 82) eAlk rfl rfl rfl q)
              obtain ⟨dc123, r124, v125, hc126, hM⟩ := hM.ca rfl
              obtain ⟨⟨z127, rfl⟩, v125f⟩ := hc126.pn (fun nq => x_336 s118.1.2.2.2.2.1)
              have v125m := mfr.rf v125f s118.1.2.2.2.2.1
              replace hM : e_Rn 20 elay ecode eI d' 349 (326, [(2, (0, v84 275 78)), (0, (1, 275)), (1, (0, 17))], [(0, z127)], v125) r' v' := hM
              replace hM := hM.st (t' := (399, [(2, (0, v84 275 78)), (0, (1, 275)), (1, (0, 17))], [(0, 59), (1, 275), (1, 275)], v125)) (fun _ _ q => e_Pn.run eAlk 5 rfl q)
              obtain ⟨dc128, r129, v130, hc131, hM⟩ := hM.ca rfl
              obtain ⟨z132, rfl, rfl, z132q⟩ := hc131.pn (fun nq => l_331)
              replace z132q := isS (kM_s59 s118.1.2.1.2.2.1) ((v125f 275 84 (by unfold mEm; omega)).trans rfl) ((v125f 275 85 (by unfold mEm; omega)).trans rfl) z132q
              replace hM : e_Rn 20 elay ecode eI d' 349 (402, [(2, (0, v84 275 78)), (0, (1, 275)), (1, (0, 17))], [(0, z132), (1, 275)], v125) r' v' := hM
              have e134a : w116 1 11 = w116 1 11 := rfl
              have e134b : v125 275 83 = v113 275 83 := (v125f 275 83 (by unfold mEm; omega))
              have e134c : w116 1 13 = w116 1 13 := rfl
              have e134d : v125 275 82 = v113 275 82 := (v125f 275 82 (by unfold mEm; omega))
              have e134f : w116 1 12 = w116 1 12 := rfl
              have e134e : v125 275 80 = v113 275 80 := (v125f 275 80 (by unfold mEm; omega))
              have s133 := st.gen (o' := 0) (l' := w 1 13) (m' := v 275 82) (t' := w 1 12) (b' := 0) s118 (e_fr.refl w116) (e_fr.trans (e_fr.refl v113) (e_fr.mono v125f (fun c k q => by unfold mEm at q; unfold mGs; omega))) (by omega) (by omega) (by omega) (by omega)
              have q135 := st.nums s133
              clear q119 e134a e134b e134c e134d e134e e134f
              have q135c := q135.2.2.2.1
              obtain ⟨dc136, r137, v138, hc139, hM⟩ := hM.ca rfl
              have uhc139 := hc139.pn (fun nq => u_334 s133.1.2.2.2.2.1)
              refine e_Pn.callA rfl (fun nq dq => e_Pn.and (t_129b s133.1.1 s133.1.2.1 z132q (d' := dc136) hc139) (u_129 s133.1.2.2.2.1)) (fun r140 w141 h142 => ?_)
              obtain ⟨⟨rfl, rfl, h142⟩, -, h142k⟩ := h142
              rcases h142.symm with h142 | ⟨h142c, h142⟩
              · skip
                replace hM : e_Rn 20 elay ecode eI d' 349 (405, [(2, (0, v84 275 78)), (0, (1, 275)), (1, (0, 17))], [], v138) r' v' := hM
                obtain ⟨rfl, m143⟩ := (e_Rn.le eAlk [0, 1, 2] rfl rfl hM).pn (fun nq => v_349_405 (uhc139.2.rf s133.1.2.2.2.2.1) _ 17 (v84 275 78) v138 mq.r)
                show e_Pn 20 elay kcode eI nq13 dq14 153 (27, [(0, (1, 1))], [], w141) _
                refine e_Pn.ord kAlk [0] rfl rfl ((v_153_27 (h142k.rf s133.1.2.2.2.1) _  w141 kq.r).imp (fun r145 w146 k144 => ?_))
                obtain ⟨rfl, k144⟩ := k144
                show e_Pn 20 elay kcode eI n d 145 (335, [(0, (1, 1))], [], w146) _
                refine e_Pn.ord kAlk [0] rfl rfl ((v_145_335 (k144.rf (h142k.rf s133.1.2.2.2.1)) _  w146 kq.r).imp (fun r148 w149 k147 => ?_))
                obtain ⟨rfl, k147⟩ := k147
                exact ⟨rfl, rfl, Or.inr (rpF.tail h142 (k144.tr k147) m143)⟩
              clear z132q
              have s150 := st.ad (k := 1) s133 h142 (st.len1 s133 (by omega)) (by omega)
              have s150n := h142.2.2.2.1
              have s150m := st.len1 s133 (by omega)
              have s150g : w 1 6 + 1 ≤ w141 1 6 := by omega
              have q151 := st.nums s150
              clear q135
              have q151c := q151.2.2.2.1
              show e_Pn 20 elay kcode eI nq13 dq14 153 (27, [(0, (1, 1))], [], w141) _
              replace hM : e_Rn 20 elay ecode eI d' 349 (405, [(2, (0, v84 275 78)), (0, (1, 275)), (1, (0, 17))], [], v138) r' v' := hM
              refine e_Pn.run (t' := (28, [(0, (1, 1))], [(1, 1)], w141)) kAlk 1 rfl ?_
              refine e_Pn.getr (z := cd) kAlk rfl rfl s150.1.2.2.2.1.2.1 (by omega) ?_
              refine e_Pn.run (t' := (34, [(0, (1, 1))], [(1, 1), (0, 44), (1, cd)], w141)) kAlk 2 rfl ?_
              refine e_Pn.getf (z := w141 1 13) kAlk rfl rfl rfl (fun b152 => ?_)
              refine e_Pn.run (t' := (38, [(0, (1, 1))], [(0, 0), (0, w141 1 13), (0, 44), (1, cd)], w141)) kAlk 1 rfl ?_
              refine e_Pn.mmax kAlk rfl (fun z153 hz153 => ?_)
              replace hz153 : ((w141 1 13) < 0 ∧ z153 = 0) ∨ (0 ≤ w141 1 13 ∧ z153 = w141 1 13) := hz153
              refine e_Pn.callA rfl (fun nq dq => l_21 s150.1.2.2.2.1 (op := 44) (od := z153) (by omega) (by omega) s150.1.2.2.2.2.2.1) (fun r154 w155 h156 => ?_)
              obtain ⟨z157, rfl, w155f, w155q⟩ := h156
              have w155k := kRw.em s150.1.2.2.2.1 w155f
              have w155l := (emQ.len w155q s150.1.2.2.2.2.2.1).1
              have w155e : w155 1 5 = w141 1 5 ∧ w155 1 6 = w141 1 6 ∧ w155 1 8 = w141 1 8 := ⟨w155f 1 5 (by unfold kEm; omega), w155f 1 6 (by unfold kEm; omega), w155f 1 8 (by unfold kEm; omega)⟩
              have s158 := st.em s150 w155f w155q (by omega) (by unfold isCl3; omega)
              have q159 := st.nums s158
              clear q151
              have q159c := q159.2.2.2.1
              have z157r : 0 ≤ z157 ∧ z157 ≤ 4000 := emQ.z w155q s150.1.2.2.2.2.2.1
              show e_Pn 20 elay kcode eI nq13 dq14 153 (44, [(0, (1, 1))], [(0, z157)], w155) _
              refine e_Pn.run (t' := (45, [(0, (1, 1))], [], w155)) kAlk 1 rfl ?_
              refine e_Pn.ret0 rfl ?_
              show e_Pn 20 elay kcode eI n d 145 (335, [(0, (1, 1))], [], w155) _
              refine e_Pn.run (t' := (356, [(0, (1, 1))], [], w155)) kAlk 1 rfl ?_
              obtain ⟨rfl, rfl⟩ := hM.re0 rfl
              refine e_Pn.ret0 rfl ?_
              exact ⟨rfl, rfl, Or.inl ⟨st.re s158 (by omega) (by omega) (by omega) (by omega) (by omega), by omega⟩⟩
end
