noncomputable section
/-! the readers in lockstep: statements -/
theorem e_Pn.callJ {d n M M' na p : Nat} {f : eS → Option eS} {l : eL} {st : List eV} {v : eW} {Q : List eV → eW → Prop} (hc : kcode M p = (2, f, M', na)) (h : ∀ nq, nq < n → ∀ dq, e_Pn 20 elay kcode eI nq dq M' (0, e_ent 0 (st.take na).reverse, [], v) (fun r w' => e_Pn 20 elay kcode eI n d M (p + 3, l, r ++ st.drop na, w') Q)) : e_Pn 20 elay kcode eI n d M (p, l, st, v) Q := e_Pn.callB hc h (fun _ _ q => q)
theorem st.loo {N cd s o b pz t ka : Int} {w v w1 v1 : eW} (h : st N cd w v w1 v1 s o b pz (w 1 13) (v 275 82) t ka) (hl : w 1 13 < 0 ↔ v 275 82 < 0) : w1 1 13 < 0 ↔ v1 275 82 < 0 := by
  rw [h.2.2.2.2.1.1, h.2.2.2.2.1.2.1]; exact hl
def sE (k : Nat) : Prop := ∀ (N cd : Int) (d d' : Nat) (w v : eW) {r' : List eV} {v' : eW}, st0 N cd w v → 1 ≤ w 1 6 → e_Rn 20 elay ecode eI d' 348 (0, [(0, (1, 275))], [], v) r' v' → e_Pn 20 elay kcode eI k d 144 (0, [(0, (1, 1))], [], w) (fun r w' => r = [] ∧ r' = [] ∧ (st N cd w v w' v' 0 0 0 (-1) (w 1 13) (v 275 82) (w 1 12) 2 ∨ rpF w' v'))
theorem nf_kEm_1_5 {cd : Int} (h : isCd cd) : ¬ kEm cd 1 5 := by
  have h1 := h.n
  have h2 := h.m
  unfold kEm
  omega
theorem nf_kEm_1_6 {cd : Int} (h : isCd cd) : ¬ kEm cd 1 6 := by
  have h1 := h.n
  have h2 := h.m
  unfold kEm
  omega
theorem nf_kEm_1_8 {cd : Int} (h : isCd cd) : ¬ kEm cd 1 8 := by
  have h1 := h.n
  have h2 := h.m
  unfold kEm
  omega
theorem nf_mEm_275_68 : ¬ mEm 275 68 := by
  unfold mEm
  omega
theorem nf_mEm_275_69 : ¬ mEm 275 69 := by
  unfold mEm
  omega
theorem nf_mEm_275_70 : ¬ mEm 275 70 := by
  unfold mEm
  omega
theorem nf_mEm_275_84 : ¬ mEm 275 84 := by
  unfold mEm
  omega
theorem nf_mEm_275_85 : ¬ mEm 275 85 := by
  unfold mEm
  omega
theorem nf_mEm_275_88 : ¬ mEm 275 88 := by
  unfold mEm
  omega
theorem nf_mEm_275_83 : ¬ mEm 275 83 := by
  unfold mEm
  omega
theorem nf_mEm_275_82 : ¬ mEm 275 82 := by
  unfold mEm
  omega
theorem nf_mEm_275_80 : ¬ mEm 275 80 := by
  unfold mEm
  omega
theorem pf_mGs_275_79 : mGs 275 79 := by unfold mGs; omega
theorem pf_mGs_331_x {x : Int} : mGs 331 x := by unfold mGs; omega
theorem pf_mGs_332_x {x : Int} : mGs 332 x := by unfold mGs; omega
theorem pf_mGs_333_x {x : Int} : mGs 333 x := by unfold mGs; omega
theorem nf_kEm_1_3 {cd : Int} (h : isCd cd) : ¬ kEm cd 1 3 := by
  have h1 := h.n
  have h2 := h.m
  unfold kEm
  omega
theorem nf_kEm_1_12 {cd : Int} (h : isCd cd) : ¬ kEm cd 1 12 := by
  have h1 := h.n
  have h2 := h.m
  unfold kEm
  omega
theorem pf_kGs_1_12 {cd : Int} : kGs cd 1 12 := by unfold kGs; omega
theorem nf_kGs_cd_0 {cd : Int} (h : isCd cd) : ¬ kGs cd cd 0 := by
  have h1 := h.n
  have h2 := h.m
  unfold kGs
  omega
theorem nf_kGs_1_5 {cd : Int} (h : isCd cd) : ¬ kGs cd 1 5 := by
  have h1 := h.n
  have h2 := h.m
  unfold kGs
  omega
theorem nf_kGs_1_6 {cd : Int} (h : isCd cd) : ¬ kGs cd 1 6 := by
  have h1 := h.n
  have h2 := h.m
  unfold kGs
  omega
theorem nf_kGs_1_8 {cd : Int} (h : isCd cd) : ¬ kGs cd 1 8 := by
  have h1 := h.n
  have h2 := h.m
  unfold kGs
  omega
theorem pf_mGs_275_81 : mGs 275 81 := by unfold mGs; omega
theorem nf_kPa_cd_0 {cd : Int} (h : isCd cd) : ¬ kPa cd cd 0 := by
  have h1 := h.n
  have h2 := h.m
  unfold kPa
  omega
theorem nf_kPa_1_5 {cd : Int} (h : isCd cd) : ¬ kPa cd 1 5 := by
  have h1 := h.n
  have h2 := h.m
  unfold kPa
  omega
theorem nf_kPa_1_6 {cd : Int} (h : isCd cd) : ¬ kPa cd 1 6 := by
  have h1 := h.n
  have h2 := h.m
  unfold kPa
  omega
theorem nf_kPa_1_8 {cd : Int} (h : isCd cd) : ¬ kPa cd 1 8 := by
  have h1 := h.n
  have h2 := h.m
  unfold kPa
  omega
theorem nf_mEm_275_71 : ¬ mEm 275 71 := by
  unfold mEm
  omega
theorem pf_mGs_334_x {x : Int} : mGs 334 x := by unfold mGs; omega
theorem nf_kGs_cd2_x {cd x : Int} (h : isCd cd) : ¬ kGs cd (cd + 2) x := by
  have h1 := h.n
  have h2 := h.m
  unfold kGs
  omega
theorem pf_kGs_1_11 {cd : Int} : kGs cd 1 11 := by unfold kGs; omega
theorem pf_mGs_275_83 : mGs 275 83 := by unfold mGs; omega
theorem nf_kRa_cd_0 {cd : Int} (h : isCd cd) : ¬ kRa cd 0 := by
  have h1 := h.n
  have h2 := h.m
  unfold kRa
  omega
theorem nf_kRa_cd2_x {cd x : Int} (h : isCd cd) : ¬ kRa (cd + 2) x := by
  have h1 := h.n
  have h2 := h.m
  unfold kRa
  omega
theorem nf_mEm_275_94 : ¬ mEm 275 94 := by
  unfold mEm
  omega
theorem nf_mEm_275_90 : ¬ mEm 275 90 := by
  unfold mEm
  omega
theorem nf_mEm_275_91 : ¬ mEm 275 91 := by
  unfold mEm
  omega
theorem nf_mEm_275_86 : ¬ mEm 275 86 := by
  unfold mEm
  omega
theorem nf_mEm_275_92 : ¬ mEm 275 92 := by
  unfold mEm
  omega
theorem nf_mEm_275_87 : ¬ mEm 275 87 := by
  unfold mEm
  omega
theorem nf_mEm_275_93 : ¬ mEm 275 93 := by
  unfold mEm
  omega
theorem pf_mGs_344_x {x : Int} : mGs 344 x := by unfold mGs; omega
set_option maxHeartbeats 4000000 in
theorem e_145_24 {n : Nat} {N cd : Int} {w v : eW} (hz : st0 N cd w v) (hp : 1 ≤ w 1 6) (hkd : w 1 5 = 24) (ihS : ∀ k, k < n → sE k) {d d' : Nat} {r' : List eV} {v' : eW} (hM : e_Rn 20 elay ecode eI d' 349 (0, [(0, (1, 275)), (1, (0, 3))], [], v) r' v') : e_Pn 20 elay kcode eI n d 145 (0, [(0, (1, 1))], [], w) (fun r w' => r = [] ∧ r' = [] ∧ ((st N cd w v w' v' 0 0 0 (-1) (w 1 13) (v 275 82) (w 1 12) 2 ∧ w 1 6 < w' 1 6) ∨ rpF w' v')) := by
  have h0 := hz.st (ka := 2)
  have hm := hz.1.2.2.2.1.1.m
  have hn := hz.1.2.2.2.1.1.n
  have hzo := hz.2.2.2
  have q1 := st.nums h0
  have q1c := q1.2.2.2.1
  refine e_Pn.run (t' := (1, [(0, (1, 1))], [(1, 1)], w)) kAlk 1 rfl ?_
  refine e_Pn.getf (z := w 1 5) kAlk rfl rfl rfl (fun b2 => ?_)
  refine e_Pn.run (t' := (6, [(0, (1, 1))], [(0, 41), (0, w 1 5)], w)) kAlk 1 rfl ?_
  refine e_Pn.if2 kAlk rfl (fun h3 => ?_) (fun h3 => ?_)
  · replace h3 : (w 1 5 : Int) = 41 := h3
    exact (kM_no h0.1.2.1.2.2.1 (fun a b => decide ((a : Int) = 24) && decide ((a : Int) = 41)) (fun a b c => true) (by decide) (by decide) (by simp only [Bool.and_eq_true, decide_eq_true_eq]; exact ⟨hkd, h3⟩) rfl).elim
  · replace h3 : (w 1 5 : Int) ≠ 41 := by have q : ¬ ((w 1 5 : Int) = 41) := h3; omega
    refine e_Pn.run (t' := (10, [(0, (1, 1))], [(1, 1)], w)) kAlk 1 rfl ?_
    refine e_Pn.getr (z := cd) kAlk rfl rfl h0.1.2.2.2.1.2.1 (by omega) ?_
    refine e_Pn.run (t' := (16, [(0, (1, 1))], [(0, 0), (0, 50), (1, cd)], w)) kAlk 2 rfl ?_
    refine e_Pn.callA rfl (fun nq dq => l_21 h0.1.2.2.2.1 (op := 50) (od := 0) (by omega) (by omega) h0.1.2.2.2.2.2.1) (fun r4 w5 h6 => ?_)
    obtain ⟨z7, rfl, w5f, w5q⟩ := h6
    have w5k := kRw.em h0.1.2.2.2.1 w5f
    have w5l := (emQ.len w5q h0.1.2.2.2.2.2.1).1
    have w5e : w5 1 5 = w 1 5 ∧ w5 1 6 = w 1 6 ∧ w5 1 8 = w 1 8 := ⟨w5f 1 5 (by unfold kEm; omega), w5f 1 6 (by unfold kEm; omega), w5f 1 8 (by unfold kEm; omega)⟩
    have s8 := st.em h0 w5f w5q (by omega) (by unfold isCl3; omega)
    have q9 := st.nums s8
    have q9c := q9.2.2.2.1
    have z7r : 0 ≤ z7 ∧ z7 ≤ 4000 := emQ.z w5q h0.1.2.2.2.2.2.1
    show e_Pn 20 elay kcode eI n d 145 (19, [(0, (1, 1))], [(0, z7)], w5) _
    refine e_Pn.run (t' := (21, [(0, (1, 1))], [(1, 1)], w5)) kAlk 2 rfl ?_
    refine e_Pn.getf (z := w 1 5) kAlk rfl rfl ((w5f 1 5 (by unfold kEm; omega)).trans rfl) (fun b10 => ?_)
    have hs12 : ∀ x : Int, 24 ≤ x ∧ x ≤ 24 → (x = 24) := fun x h => by omega
    obtain h11 := hs12 (w 1 5) (by omega)
    · refine e_Pn.sw (tg := 211) kAlk rfl (by rw [h11]; rfl) ?_
      replace h11 : (w 1 5 : Int) = 24 := h11
      refine e_Pn.run (t' := (212, [(0, (1, 1))], [(1, 1)], w5)) kAlk 1 rfl ?_
      refine e_Pn.callJ rfl (fun nq13 hnq13 dq14 => ?_)
      show e_Pn 20 elay kcode eI nq13 dq14 150 (0, [(0, (1, 1))], [], w5) _
      refine e_Pn.run (t' := (1, [(0, (1, 1))], [(1, 1)], w5)) kAlk 1 rfl ?_
      replace hM := hM.st (t' := (4, [(0, (1, 275)), (1, (0, 3))], [(0, 0), (0, 30), (1, 275)], v)) (fun _ _ q => e_Pn.run eAlk 3 rfl q)
      obtain ⟨dc15, r16, v17, hc18, hM⟩ := hM.ca rfl
      obtain ⟨⟨z19, rfl⟩, v17f⟩ := hc18.pn (fun nq => x_336 h0.1.2.2.2.2.1)
      have v17m := mfr.rf v17f h0.1.2.2.2.2.1
      replace hM : e_Rn 20 elay ecode eI d' 349 (7, [(0, (1, 275)), (1, (0, 3))], [(0, z19)], v17) r' v' := hM
      replace hM := hM.st (t' := (9, [(0, (1, 275)), (1, (0, 3))], [(1, 275)], v17)) (fun _ _ q => e_Pn.run eAlk 2 rfl q)
      obtain ⟨b20, hM⟩ := hM.of (fun _ _ q => e_Pn.getf (z := v17 275 78) eAlk rfl rfl rfl q)
      replace hM := hM.st (t' := (16, [(2, (0, v17 275 78)), (0, (1, 275)), (1, (0, 3))], [(0, 17), (0, 3)], v17)) (fun _ _ q => e_Pn.run eAlk 3 rfl q)
      rcases hM.or (fun _ _ q1 q2 => e_Pn.if2 eAlk rfl q1 q2) with ⟨h21, hM⟩ | ⟨h21, hM⟩
      · replace h21 : (3 : Int) ≠ 17 := h21
        replace hM := hM.st (t' := (70, [(2, (0, v17 275 78)), (0, (1, 275)), (1, (0, 3))], [(1, 275)], v17)) (fun _ _ q => e_Pn.run eAlk 1 rfl q)
        have e23a : w5 1 11 = w5 1 11 := rfl
        have e23b : v17 275 83 = v 275 83 := (v17f 275 83 (by unfold mEm; omega))
        have e23c : w5 1 13 = w5 1 13 := rfl
        have e23d : v17 275 82 = v 275 82 := (v17f 275 82 (by unfold mEm; omega))
        have e23f : w5 1 12 = w5 1 12 := rfl
        have e23e : v17 275 80 = v 275 80 := (v17f 275 80 (by unfold mEm; omega))
        have s22 := st.gen (o' := 0) (l' := w 1 13) (m' := v 275 82) (t' := w 1 12) (b' := 0) s8 (e_fr.refl w5) (e_fr.trans (e_fr.refl v) (e_fr.mono v17f (fun c k q => by unfold mEm at q; unfold mGs; omega))) (by omega) (by omega) (by omega) (by omega)
        have q24 := st.nums s22
        clear q9 e23a e23b e23c e23d e23e e23f
        have q24c := q24.2.2.2.1
        obtain ⟨dc25, r26, v27, hc28, hM⟩ := hM.ca rfl
        refine e_Pn.callA rfl (fun nq dq => t_123b s22.1.1 s22.1.2.1.1 s22.1.2.1.2.1.2.1 (st.nx s22) (d' := dc25) hc28) (fun r29 w30 h31 => ?_)
        obtain ⟨rfl, rfl, h31⟩ := h31
        have s32 := st.ad (k := 2) s22 h31 (st.len2 s22 (by omega)) (by omega)
        have s32n := h31.2.2.2.1
        have s32m := st.len2 s22 (by omega)
        have s32g : w 1 6 + 1 ≤ w30 1 6 := by omega
        have q33 := st.nums s32
        clear q24
        have q33c := q33.2.2.2.1
        show e_Pn 20 elay kcode eI nq13 dq14 150 (4, [(0, (1, 1))], [], w30) _
        replace hM : e_Rn 20 elay ecode eI d' 349 (73, [(2, (0, v17 275 78)), (0, (1, 275)), (1, (0, 3))], [], v27) r' v' := hM
        refine e_Pn.run (t' := (5, [(0, (1, 1))], [(1, 1)], w30)) kAlk 1 rfl ?_
        replace hM := hM.st (t' := (74, [(2, (0, v17 275 78)), (0, (1, 275)), (1, (0, 3))], [(0, 3)], v27)) (fun _ _ q => e_Pn.run eAlk 1 rfl q)
        have hs35 : ∀ x : Int, 3 ≤ x ∧ x ≤ 3 → (x = 3) := fun x h => by omega
        obtain h34 := hs35 (3) (by omega)
        · replace hM := hM.st (fun _ _ q => e_Pn.sw (tg := 148) eAlk rfl (by rw [h34]; rfl) q)
          replace hM := hM.st (t' := (149, [(2, (0, v17 275 78)), (0, (1, 275)), (1, (0, 3))], [(1, 275)], v27)) (fun _ _ q => e_Pn.run eAlk 1 rfl q)
          obtain ⟨dc36, r37, v38, hc39, hM⟩ := hM.ca rfl
          have uhc39 := hc39.pn (fun nq => uE_all nq 339 (by decide) _ _ s32.1.2.2.2.2.1)
          have z43 : stE N cd w30 v27 := st.zE s32 (by omega) (by omega)
          refine e_Pn.callA rfl (fun nq dq => e_Pn.and (eEg_all nq 158 339 (by decide) _ _ dq _ _ _ z43 hc39) (kE_all nq 158 (by decide) dq _ _ s32.1.2.2.2.1)) (fun r40 w41 h42 => ?_)
          obtain ⟨⟨rfl, rfl, h42⟩, -, h42k⟩ := h42
          rcases h42.symm with h42 | ⟨h42, h42p⟩
          · skip
            replace hM : e_Rn 20 elay ecode eI d' 349 (152, [(2, (0, v17 275 78)), (0, (1, 275)), (1, (0, 3))], [], v38) r' v' := hM
            obtain ⟨rfl, m44⟩ := (e_Rn.le eAlk [0, 1, 2] rfl rfl hM).pn (fun nq => v_349_152 (uhc39.2.rf s32.1.2.2.2.2.1) _ 3 (v17 275 78) v38 mq.r)
            show e_Pn 20 elay kcode eI nq13 dq14 150 (8, [(0, (1, 1))], [], w41) _
            refine e_Pn.ord kAlk [0] rfl rfl ((v_150_8 (h42k.rf s32.1.2.2.2.1) _  w41 kq.r).imp (fun r46 w47 k45 => ?_))
            obtain ⟨rfl, k45⟩ := k45
            show e_Pn 20 elay kcode eI n d 145 (215, [(0, (1, 1))], [], w47) _
            refine e_Pn.ord kAlk [0] rfl rfl ((v_145_215 (k45.rf (h42k.rf s32.1.2.2.2.1)) _  w47 kq.r).imp (fun r49 w50 k48 => ?_))
            obtain ⟨rfl, k48⟩ := k48
            exact ⟨rfl, rfl, Or.inr (rpF.tail h42 (k45.tr k48) m44)⟩
          have s51 := st.re (l' := w 1 13) (m' := v 275 82) (t' := w 1 12) (st.tr s32 h42) (Int.le_refl _) rfl (by omega) (by omega) (by omega)
          have q52 := st.nums s51
          clear q33
          have q52c := q52.2.2.2.1
          show e_Pn 20 elay kcode eI nq13 dq14 150 (8, [(0, (1, 1))], [], w41) _
          replace hM : e_Rn 20 elay ecode eI d' 349 (152, [(2, (0, v17 275 78)), (0, (1, 275)), (1, (0, 3))], [], v38) r' v' := hM
          refine e_Pn.run (t' := (9, [(0, (1, 1))], [(1, 1)], w41)) kAlk 1 rfl ?_
          refine e_Pn.getr (z := cd) kAlk rfl rfl s51.1.2.2.2.1.2.1 (by omega) ?_
          refine e_Pn.run (t' := (15, [(0, (1, 1))], [(0, 0), (0, 26), (1, cd)], w41)) kAlk 2 rfl ?_
          refine e_Pn.callA rfl (fun nq dq => l_21 s51.1.2.2.2.1 (op := 26) (od := 0) (by omega) (by omega) s51.1.2.2.2.2.2.1) (fun r53 w54 h55 => ?_)
          obtain ⟨z56, rfl, w54f, w54q⟩ := h55
          have w54k := kRw.em s51.1.2.2.2.1 w54f
          have w54l := (emQ.len w54q s51.1.2.2.2.2.2.1).1
          have w54e : w54 1 5 = w41 1 5 ∧ w54 1 6 = w41 1 6 ∧ w54 1 8 = w41 1 8 := ⟨w54f 1 5 (by unfold kEm; omega), w54f 1 6 (by unfold kEm; omega), w54f 1 8 (by unfold kEm; omega)⟩
          have s57 := st.em s51 w54f w54q (by omega) (by unfold isCl3; omega)
          have q58 := st.nums s57
          clear q52
          have q58c := q58.2.2.2.1
          have z56r : 0 ≤ z56 ∧ z56 ≤ 4000 := emQ.z w54q s51.1.2.2.2.2.2.1
          show e_Pn 20 elay kcode eI nq13 dq14 150 (18, [(0, (1, 1))], [(0, z56)], w54) _
          refine e_Pn.run (t' := (21, [(1, (0, 1)), (0, (1, 1))], [], w54)) kAlk 3 rfl ?_
          replace hM := hM.st (t' := (154, [(3, (0, 1)), (2, (0, v17 275 78)), (0, (1, 275)), (1, (0, 3))], [], v38)) (fun _ _ q => e_Pn.run eAlk 2 rfl q)
          have hL59 : ∀ nn61 : Nat, nn61 ≤ nq13 → ∀ (tl62 tl63 : eL) (y1 : Int) (y3 : Int) (wl65 vl66 : eW), st N cd w v wl65 vl66 0 0 0 (-1) (w 1 13) (v 275 82) (w 1 12) 2 ∧ (1 ≤ y1 ∧ y1 + 1 ≤ wl65 1 6) ∧ (w 1 6 < wl65 1 6) ∧ (y3 = y1) → e_Rn 20 elay ecode eI d' 349 (154, (0, (1, 275)) :: (1, (0, 3)) :: (2, (0, v17 275 78)) :: (3, (0, y3)) :: tl63, [], vl66) r' v' → e_Pn 20 elay kcode eI nn61 dq14 150 (21, (0, (1, 1)) :: (1, (0, y1)) :: tl62, [], wl65) (fun r w' => e_Pn 20 elay kcode eI n d 145 (215, [(0, (1, 1))], r ++ [], w') (fun r w' => r = [] ∧ r' = [] ∧ ((st N cd w v w' v' 0 0 0 (-1) (w 1 13) (v 275 82) (w 1 12) 2 ∧ w 1 6 < w' 1 6) ∨ rpF w' v'))) := by
            intro nn61
            induction nn61 with
            | zero => intro _ tl62 tl63 y1 y3 wl65 vl66 _ _; exact e_Pn.zero
            | succ nn61 ih60 =>
              intro hn tl62 tl63 y1 y3 wl65 vl66 hj64 hM
              obtain ⟨hj64, j67, j68, j69⟩ := hj64
              have q70 := st.nums hj64
              clear q58
              have q70c := q70.2.2.2.1
              refine e_Pn.runS (t' := (25, (0, (1, 1)) :: (1, (0, y1)) :: tl62, [(0, 4000), (0, y1)], wl65)) kAlk 1 rfl ?_
              refine e_Pn.if2 kAlk rfl (fun h71 => ?_) (fun h71 => ?_)
              · replace h71 : (y1 : Int) ≥ 4000 := h71
                exfalso; omega
              · replace h71 : (y1 : Int) < 4000 := by have q : ¬ ((y1 : Int) ≥ 4000) := h71; omega
                refine e_Pn.run (t' := (29, (0, (1, 1)) :: (1, (0, y1)) :: tl62, [(1, 1)], wl65)) kAlk 1 rfl ?_
                refine e_Pn.getf (z := wl65 1 5) kAlk rfl rfl rfl (fun b72 => ?_)
                refine e_Pn.run (t' := (34, (0, (1, 1)) :: (1, (0, y1)) :: tl62, [(0, 18), (0, wl65 1 5)], wl65)) kAlk 1 rfl ?_
                refine e_Pn.if2 kAlk rfl (fun h73 => ?_) (fun h73 => ?_)
                · replace h73 : (wl65 1 5 : Int) ≠ 18 := h73
                  refine e_Pn.run (t' := (65, (0, (1, 1)) :: (1, (0, y1)) :: tl62, [(0, 19), (1, 1)], wl65)) kAlk 2 rfl ?_
                  replace hM := hM.st (t' := (155, (0, (1, 275)) :: (1, (0, 3)) :: (2, (0, v17 275 78)) :: (3, (0, y3)) :: tl63, [(1, 275)], vl66)) (fun _ _ q => e_Pn.run eAlk 1 rfl q)
                  obtain ⟨b74, hM⟩ := hM.of (fun _ _ q => e_Pn.getf (z := 0) eAlk rfl rfl hj64.1.2.1.1.2 q)
                  rcases hM.or (fun _ _ q1 q2 => e_Pn.if1 eAlk rfl q1 q2) with ⟨h75, hM⟩ | ⟨h75, hM⟩
                  · replace h75 : (0 : Int) ≠ 0 := h75
                    exfalso; omega
                  · replace h75 : (0 : Int) = 0 := by have q : ¬ ((0 : Int) ≠ 0) := h75; omega
                    replace hM := hM.st (t' := (164, (0, (1, 275)) :: (1, (0, 3)) :: (2, (0, v17 275 78)) :: (3, (0, y3)) :: tl63, [(0, 44), (1, 275)], vl66)) (fun _ _ q => e_Pn.run eAlk 2 rfl q)
                    obtain ⟨dc76, r77, v78, hc79, hM⟩ := hM.ca rfl
                    obtain ⟨z80, rfl, rfl, z80q⟩ := hc79.pn (fun nq => l_331)
                    replace z80q := isS (kM_s44 hj64.1.2.1.2.2.1) rfl rfl z80q
                    obtain rfl : z80 = 0 := by omega
                    clear z80q
                    replace hM : e_Rn 20 elay ecode eI d' 349 (167, (0, (1, 275)) :: (1, (0, 3)) :: (2, (0, v17 275 78)) :: (3, (0, y3)) :: tl63, [(0, 0)], vl66) r' v' := hM
                    rcases hM.or (fun _ _ q1 q2 => e_Pn.if1 eAlk rfl q1 q2) with ⟨h81, hM⟩ | ⟨h81, hM⟩
                    · replace h81 : (0 : Int) = 0 := h81
                      replace hM := hM.st (t' := (188, (0, (1, 275)) :: (1, (0, 3)) :: (2, (0, v17 275 78)) :: (3, (0, y3)) :: tl63, [(0, y3), (0, 32), (1, 275)], vl66)) (fun _ _ q => e_Pn.run eAlk 3 rfl q)
                      obtain ⟨dc82, r83, v84, hc85, hM⟩ := hM.ca rfl
                      obtain ⟨⟨z86, rfl⟩, v84f⟩ := hc85.pn (fun nq => x_336 hj64.1.2.2.2.2.1)
                      have v84m := mfr.rf v84f hj64.1.2.2.2.2.1
                      replace hM : e_Rn 20 elay ecode eI d' 349 (191, (0, (1, 275)) :: (1, (0, 3)) :: (2, (0, v17 275 78)) :: (3, (0, y3)) :: tl63, [(0, z86)], v84) r' v' := hM
                      replace hM := hM.st (t' := (399, (0, (1, 275)) :: (1, (0, 3)) :: (2, (0, v17 275 78)) :: (3, (0, y3)) :: tl63, [(0, 59), (1, 275), (1, 275)], v84)) (fun _ _ q => e_Pn.run eAlk 5 rfl q)
                      obtain ⟨dc87, r88, v89, hc90, hM⟩ := hM.ca rfl
                      obtain ⟨z91, rfl, rfl, z91q⟩ := hc90.pn (fun nq => l_331)
                      replace z91q := isS (kM_s59 hj64.1.2.1.2.2.1) ((v84f 275 84 (by unfold mEm; omega)).trans rfl) ((v84f 275 85 (by unfold mEm; omega)).trans rfl) z91q
                      replace hM : e_Rn 20 elay ecode eI d' 349 (402, (0, (1, 275)) :: (1, (0, 3)) :: (2, (0, v17 275 78)) :: (3, (0, y3)) :: tl63, [(0, z91), (1, 275)], v84) r' v' := hM
                      have e93a : wl65 1 11 = wl65 1 11 := rfl
                      have e93b : v84 275 83 = vl66 275 83 := (v84f 275 83 (by unfold mEm; omega))
                      have e93c : wl65 1 13 = wl65 1 13 := rfl
                      have e93d : v84 275 82 = vl66 275 82 := (v84f 275 82 (by unfold mEm; omega))
                      have e93f : wl65 1 12 = wl65 1 12 := rfl
                      have e93e : v84 275 80 = vl66 275 80 := (v84f 275 80 (by unfold mEm; omega))
                      have s92 := st.gen (o' := 0) (l' := w 1 13) (m' := v 275 82) (t' := w 1 12) (b' := 0) hj64 (e_fr.refl wl65) (e_fr.trans (e_fr.refl vl66) (e_fr.mono v84f (fun c k q => by unfold mEm at q; unfold mGs; omega))) (by omega) (by omega) (by omega) (by omega)
                      have q94 := st.nums s92
                      clear q70 e93a e93b e93c e93d e93e e93f
                      have q94c := q94.2.2.2.1
                      obtain ⟨dc95, r96, v97, hc98, hM⟩ := hM.ca rfl
                      have uhc98 := hc98.pn (fun nq => u_334 s92.1.2.2.2.2.1)
                      refine e_Pn.callA rfl (fun nq dq => e_Pn.and (t_129b s92.1.1 s92.1.2.1 z91q (d' := dc95) hc98) (u_129 s92.1.2.2.2.1)) (fun r99 w100 h101 => ?_)
                      obtain ⟨⟨rfl, rfl, h101⟩, -, h101k⟩ := h101
                      rcases h101.symm with h101 | ⟨h101c, h101⟩
                      · skip
                        replace hM : e_Rn 20 elay ecode eI d' 349 (405, (0, (1, 275)) :: (1, (0, 3)) :: (2, (0, v17 275 78)) :: (3, (0, y3)) :: tl63, [], v97) r' v' := hM
                        obtain ⟨rfl, m102⟩ := (e_Rn.le eAlk [0, 1, 2] rfl rfl hM).pn (fun nq => v_349_405 (uhc98.2.rf s92.1.2.2.2.2.1) _ 3 (v17 275 78) v97 mq.r)
                        show e_Pn 20 elay kcode eI nn61 dq14 150 (68, (0, (1, 1)) :: (1, (0, y1)) :: tl62, [], w100) _
                        refine e_Pn.ord kAlk [0, 1] rfl rfl ((v_150_68 (h101k.rf s92.1.2.2.2.1) _ y1 w100 kq.r).imp (fun r104 w105 k103 => ?_))
                        obtain ⟨rfl, k103⟩ := k103
                        show e_Pn 20 elay kcode eI n d 145 (215, [(0, (1, 1))], [], w105) _
                        refine e_Pn.ord kAlk [0] rfl rfl ((v_145_215 (k103.rf (h101k.rf s92.1.2.2.2.1)) _  w105 kq.r).imp (fun r107 w108 k106 => ?_))
                        obtain ⟨rfl, k106⟩ := k106
                        exact ⟨rfl, rfl, Or.inr (rpF.tail h101 (k103.tr k106) m102)⟩
                      clear z91q
                      have s109 := st.ad (k := 1) s92 h101 (st.len1 s92 (by omega)) (by omega)
                      have s109n := h101.2.2.2.1
                      have s109m := st.len1 s92 (by omega)
                      have s109g : w 1 6 + 1 ≤ w100 1 6 := by omega
                      have q110 := st.nums s109
                      clear q94
                      have q110c := q110.2.2.2.1
                      show e_Pn 20 elay kcode eI nn61 dq14 150 (68, (0, (1, 1)) :: (1, (0, y1)) :: tl62, [], w100) _
                      replace hM : e_Rn 20 elay ecode eI d' 349 (405, (0, (1, 275)) :: (1, (0, 3)) :: (2, (0, v17 275 78)) :: (3, (0, y3)) :: tl63, [], v97) r' v' := hM
                      refine e_Pn.run (t' := (69, (0, (1, 1)) :: (1, (0, y1)) :: tl62, [(1, 1)], w100)) kAlk 1 rfl ?_
                      refine e_Pn.getr (z := cd) kAlk rfl rfl s109.1.2.2.2.1.2.1 (by omega) ?_
                      refine e_Pn.run (t' := (75, (0, (1, 1)) :: (1, (0, y1)) :: tl62, [(0, y1), (0, 27), (1, cd)], w100)) kAlk 2 rfl ?_
                      refine e_Pn.callA rfl (fun nq dq => l_21 s109.1.2.2.2.1 (op := 27) (od := y1) (by omega) (by omega) s109.1.2.2.2.2.2.1) (fun r111 w112 h113 => ?_)
                      obtain ⟨z114, rfl, w112f, w112q⟩ := h113
                      have w112k := kRw.em s109.1.2.2.2.1 w112f
                      have w112l := (emQ.len w112q s109.1.2.2.2.2.2.1).1
                      have w112e : w112 1 5 = w100 1 5 ∧ w112 1 6 = w100 1 6 ∧ w112 1 8 = w100 1 8 := ⟨w112f 1 5 (by unfold kEm; omega), w112f 1 6 (by unfold kEm; omega), w112f 1 8 (by unfold kEm; omega)⟩
                      have s115 := st.em s109 w112f w112q (by omega) (by unfold isCl3; omega)
                      have q116 := st.nums s115
                      clear q110
                      have q116c := q116.2.2.2.1
                      have z114r : 0 ≤ z114 ∧ z114 ≤ 4000 := emQ.z w112q s109.1.2.2.2.2.2.1
                      show e_Pn 20 elay kcode eI nn61 dq14 150 (78, (0, (1, 1)) :: (1, (0, y1)) :: tl62, [(0, z114)], w112) _
                      refine e_Pn.run (t' := (79, (0, (1, 1)) :: (1, (0, y1)) :: tl62, [], w112)) kAlk 1 rfl ?_
                      refine e_Pn.ret0 rfl ?_
                      show e_Pn 20 elay kcode eI n d 145 (215, [(0, (1, 1))], [], w112) _
                      refine e_Pn.run (t' := (356, [(0, (1, 1))], [], w112)) kAlk 1 rfl ?_
                      obtain ⟨rfl, rfl⟩ := hM.re0 rfl
                      refine e_Pn.ret0 rfl ?_
                      exact ⟨rfl, rfl, Or.inl ⟨st.re s115 (by omega) (by omega) (by omega) (by omega) (by omega), by omega⟩⟩
                    · replace h81 : (0 : Int) ≠ 0 := by have q : ¬ ((0 : Int) = 0) := h81; omega
                      exfalso; omega
                · replace h73 : (wl65 1 5 : Int) = 18 := by have q : ¬ ((wl65 1 5 : Int) ≠ 18) := h73; omega
                  refine e_Pn.run (t' := (38, (0, (1, 1)) :: (1, (0, y1)) :: tl62, [(1, 1)], wl65)) kAlk 1 rfl ?_
                  replace hM := hM.st (t' := (155, (0, (1, 275)) :: (1, (0, 3)) :: (2, (0, v17 275 78)) :: (3, (0, y3)) :: tl63, [(1, 275)], vl66)) (fun _ _ q => e_Pn.run eAlk 1 rfl q)
                  obtain ⟨b117, hM⟩ := hM.of (fun _ _ q => e_Pn.getf (z := 0) eAlk rfl rfl hj64.1.2.1.1.2 q)
                  rcases hM.or (fun _ _ q1 q2 => e_Pn.if1 eAlk rfl q1 q2) with ⟨h118, hM⟩ | ⟨h118, hM⟩
                  · replace h118 : (0 : Int) ≠ 0 := h118
                    exfalso; omega
                  · replace h118 : (0 : Int) = 0 := by have q : ¬ ((0 : Int) ≠ 0) := h118; omega
                    replace hM := hM.st (t' := (164, (0, (1, 275)) :: (1, (0, 3)) :: (2, (0, v17 275 78)) :: (3, (0, y3)) :: tl63, [(0, 44), (1, 275)], vl66)) (fun _ _ q => e_Pn.run eAlk 2 rfl q)
                    obtain ⟨dc119, r120, v121, hc122, hM⟩ := hM.ca rfl
                    obtain ⟨z123, rfl, rfl, z123q⟩ := hc122.pn (fun nq => l_331)
                    replace z123q := isS (kM_s44 hj64.1.2.1.2.2.1) rfl rfl z123q
                    obtain rfl : z123 = 1 := by omega
                    clear z123q
                    replace hM : e_Rn 20 elay ecode eI d' 349 (167, (0, (1, 275)) :: (1, (0, 3)) :: (2, (0, v17 275 78)) :: (3, (0, y3)) :: tl63, [(0, 1)], vl66) r' v' := hM
                    rcases hM.or (fun _ _ q1 q2 => e_Pn.if1 eAlk rfl q1 q2) with ⟨h124, hM⟩ | ⟨h124, hM⟩
                    · replace h124 : (1 : Int) = 0 := h124
                      exfalso; omega
                    · replace h124 : (1 : Int) ≠ 0 := by have q : ¬ ((1 : Int) = 0) := h124; omega
                      replace hM := hM.st (t' := (171, (0, (1, 275)) :: (1, (0, 3)) :: (2, (0, v17 275 78)) :: (3, (0, y3)) :: tl63, [(1, 275)], vl66)) (fun _ _ q => e_Pn.run eAlk 1 rfl q)
                      obtain ⟨dc125, r126, v127, hc128, hM⟩ := hM.ca rfl
                      refine e_Pn.callA rfl (fun nq dq => t_123b hj64.1.1 hj64.1.2.1.1 hj64.1.2.1.2.1.2.1 (st.nx hj64) (d' := dc125) hc128) (fun r129 w130 h131 => ?_)
                      obtain ⟨rfl, rfl, h131⟩ := h131
                      have s132 := st.ad (k := 1) hj64 h131 (st.len1 hj64 (by omega)) (by omega)
                      have s132n := h131.2.2.2.1
                      have s132m := st.len1 hj64 (by omega)
                      have s132g : w 1 6 + 1 ≤ w130 1 6 := by omega
                      have q133 := st.nums s132
                      clear q70
                      have q133c := q133.2.2.2.1
                      show e_Pn 20 elay kcode eI nn61 dq14 150 (41, (0, (1, 1)) :: (1, (0, y1)) :: tl62, [], w130) _
                      replace hM : e_Rn 20 elay ecode eI d' 349 (174, (0, (1, 275)) :: (1, (0, 3)) :: (2, (0, v17 275 78)) :: (3, (0, y3)) :: tl63, [], v127) r' v' := hM
                      refine e_Pn.run (t' := (42, (0, (1, 1)) :: (1, (0, y1)) :: tl62, [(1, 1)], w130)) kAlk 1 rfl ?_
                      replace hM := hM.st (t' := (175, (0, (1, 275)) :: (1, (0, 3)) :: (2, (0, v17 275 78)) :: (3, (0, y3)) :: tl63, [(1, 275)], v127)) (fun _ _ q => e_Pn.run eAlk 1 rfl q)
                      obtain ⟨dc134, r135, v136, hc137, hM⟩ := hM.ca rfl
                      have uhc137 := hc137.pn (fun nq => uE_all nq 339 (by decide) _ _ s132.1.2.2.2.2.1)
                      have z141 : stE N cd w130 v127 := st.zE s132 (by omega) (by omega)
                      refine e_Pn.callA rfl (fun nq dq => e_Pn.and (eEg_all nq 158 339 (by decide) _ _ dq _ _ _ z141 hc137) (kE_all nq 158 (by decide) dq _ _ s132.1.2.2.2.1)) (fun r138 w139 h140 => ?_)
                      obtain ⟨⟨rfl, rfl, h140⟩, -, h140k⟩ := h140
                      rcases h140.symm with h140 | ⟨h140, h140p⟩
                      · skip
                        replace hM : e_Rn 20 elay ecode eI d' 349 (178, (0, (1, 275)) :: (1, (0, 3)) :: (2, (0, v17 275 78)) :: (3, (0, y3)) :: tl63, [], v136) r' v' := hM
                        obtain ⟨rfl, m142⟩ := (e_Rn.le eAlk [0, 1, 2, 3] rfl rfl hM).pn (fun nq => v_349_178 (uhc137.2.rf s132.1.2.2.2.2.1) _ 3 (v17 275 78) y3 v136 mq.r)
                        show e_Pn 20 elay kcode eI nn61 dq14 150 (45, (0, (1, 1)) :: (1, (0, y1)) :: tl62, [], w139) _
                        refine e_Pn.ord kAlk [0, 1] rfl rfl ((v_150_45 (h140k.rf s132.1.2.2.2.1) _ y1 w139 kq.r).imp (fun r144 w145 k143 => ?_))
                        obtain ⟨rfl, k143⟩ := k143
                        show e_Pn 20 elay kcode eI n d 145 (215, [(0, (1, 1))], [], w145) _
                        refine e_Pn.ord kAlk [0] rfl rfl ((v_145_215 (k143.rf (h140k.rf s132.1.2.2.2.1)) _  w145 kq.r).imp (fun r147 w148 k146 => ?_))
                        obtain ⟨rfl, k146⟩ := k146
                        exact ⟨rfl, rfl, Or.inr (rpF.tail h140 (k143.tr k146) m142)⟩
                      have s149 := st.re (l' := w 1 13) (m' := v 275 82) (t' := w 1 12) (st.tr s132 h140) (Int.le_refl _) rfl (by omega) (by omega) (by omega)
                      have q150 := st.nums s149
                      clear q133
                      have q150c := q150.2.2.2.1
                      show e_Pn 20 elay kcode eI nn61 dq14 150 (45, (0, (1, 1)) :: (1, (0, y1)) :: tl62, [], w139) _
                      replace hM : e_Rn 20 elay ecode eI d' 349 (178, (0, (1, 275)) :: (1, (0, 3)) :: (2, (0, v17 275 78)) :: (3, (0, y3)) :: tl63, [], v136) r' v' := hM
                      refine e_Pn.run (t' := (46, (0, (1, 1)) :: (1, (0, y1)) :: tl62, [(1, 1)], w139)) kAlk 1 rfl ?_
                      refine e_Pn.getr (z := cd) kAlk rfl rfl s149.1.2.2.2.1.2.1 (by omega) ?_
                      refine e_Pn.run (t' := (52, (0, (1, 1)) :: (1, (0, y1)) :: tl62, [(0, y1), (0, 26), (1, cd)], w139)) kAlk 2 rfl ?_
                      refine e_Pn.callA rfl (fun nq dq => l_21 s149.1.2.2.2.1 (op := 26) (od := y1) (by omega) (by omega) s149.1.2.2.2.2.2.1) (fun r151 w152 h153 => ?_)
                      obtain ⟨z154, rfl, w152f, w152q⟩ := h153
                      have w152k := kRw.em s149.1.2.2.2.1 w152f
                      have w152l := (emQ.len w152q s149.1.2.2.2.2.2.1).1
                      have w152e : w152 1 5 = w139 1 5 ∧ w152 1 6 = w139 1 6 ∧ w152 1 8 = w139 1 8 := ⟨w152f 1 5 (by unfold kEm; omega), w152f 1 6 (by unfold kEm; omega), w152f 1 8 (by unfold kEm; omega)⟩
                      have s155 := st.em s149 w152f w152q (by omega) (by unfold isCl3; omega)
                      have q156 := st.nums s155
                      clear q150
                      have q156c := q156.2.2.2.1
                      have z154r : 0 ≤ z154 ∧ z154 ≤ 4000 := emQ.z w152q s149.1.2.2.2.2.2.1
                      show e_Pn 20 elay kcode eI nn61 dq14 150 (55, (0, (1, 1)) :: (1, (0, y1)) :: tl62, [(0, z154)], w152) _
                      refine e_Pn.run (t' := (56, (0, (1, 1)) :: (1, (0, y1)) :: tl62, [], w152)) kAlk 1 rfl ?_
                      refine e_Pn.inc (z := y1 + 1) kAlk rfl rfl (by omega) (by omega) ?_
                      show e_Pn 20 elay kcode eI nn61 dq14 150 (59, (1, (0, y1 + 1)) :: (0, (1, 1)) :: List.filter (e_flt 0 1) tl62, [], w152) _
                      refine e_Pn.run (t' := (21, (1, (0, y1 + 1)) :: (0, (1, 1)) :: List.filter (e_flt 0 1) tl62, [], w152)) kAlk 1 rfl ?_
                      replace hM := hM.st (fun _ _ q => e_Pn.inc (z := y3 + 1) eAlk rfl rfl (by omega) (by omega) q)
                      replace hM : e_Rn 20 elay ecode eI d' 349 (181, (3, (0, y3 + 1)) :: (0, (1, 275)) :: (1, (0, 3)) :: (2, (0, v17 275 78)) :: List.filter (e_flt 0 3) tl63, [], v136) r' v' := hM
                      replace hM := hM.st (t' := (154, (3, (0, y3 + 1)) :: (0, (1, 275)) :: (1, (0, 3)) :: (2, (0, v17 275 78)) :: List.filter (e_flt 0 3) tl63, [], v136)) (fun _ _ q => e_Pn.run eAlk 1 rfl q)
                      exact e_Pn.ord kAlk [0, 1] rfl rfl (ih60 (by omega) _ _ (y1 + 1) (y3 + 1) w152 v136 ⟨(st.re s155 (by omega) (by omega) (by omega) (by omega) (by omega)), (by omega), (by omega), (by omega)⟩ (e_Rn.le eAlk [0, 1, 2, 3] rfl rfl hM))
          exact e_Pn.ord kAlk [0, 1] rfl rfl (hL59 nq13 (Nat.le_refl _) _ _ 1 1 w54 v38 ⟨(st.re s57 (by omega) (by omega) (by omega) (by omega) (by omega)), (by omega), (by omega), (by omega)⟩ (e_Rn.le eAlk [0, 1, 2, 3] rfl rfl hM))
      · replace h21 : (3 : Int) = 17 := by have q : ¬ ((3 : Int) ≠ 17) := h21; omega
        exfalso; omega
set_option maxHeartbeats 4000000 in
theorem e_145_25 {n : Nat} {N cd : Int} {w v : eW} (hz : st0 N cd w v) (hp : 1 ≤ w 1 6) (hkd : w 1 5 = 25) (ihS : ∀ k, k < n → sE k) {d d' : Nat} {r' : List eV} {v' : eW} (hM : e_Rn 20 elay ecode eI d' 349 (0, [(0, (1, 275)), (1, (0, 4))], [], v) r' v') : e_Pn 20 elay kcode eI n d 145 (0, [(0, (1, 1))], [], w) (fun r w' => r = [] ∧ r' = [] ∧ ((st N cd w v w' v' 0 0 0 (-1) (w 1 13) (v 275 82) (w 1 12) 2 ∧ w 1 6 < w' 1 6) ∨ rpF w' v')) := by
  have h0 := hz.st (ka := 2)
  have hm := hz.1.2.2.2.1.1.m
  have hn := hz.1.2.2.2.1.1.n
  have hzo := hz.2.2.2
  have q1 := st.nums h0
  have q1c := q1.2.2.2.1
  refine e_Pn.run (t' := (1, [(0, (1, 1))], [(1, 1)], w)) kAlk 1 rfl ?_
  refine e_Pn.getf (z := w 1 5) kAlk rfl rfl rfl (fun b2 => ?_)
  refine e_Pn.run (t' := (6, [(0, (1, 1))], [(0, 41), (0, w 1 5)], w)) kAlk 1 rfl ?_
  refine e_Pn.if2 kAlk rfl (fun h3 => ?_) (fun h3 => ?_)
  · replace h3 : (w 1 5 : Int) = 41 := h3
    exact (kM_no h0.1.2.1.2.2.1 (fun a b => decide ((a : Int) = 25) && decide ((a : Int) = 41)) (fun a b c => true) (by decide) (by decide) (by simp only [Bool.and_eq_true, decide_eq_true_eq]; exact ⟨hkd, h3⟩) rfl).elim
  · replace h3 : (w 1 5 : Int) ≠ 41 := by have q : ¬ ((w 1 5 : Int) = 41) := h3; omega
    refine e_Pn.run (t' := (10, [(0, (1, 1))], [(1, 1)], w)) kAlk 1 rfl ?_
    refine e_Pn.getr (z := cd) kAlk rfl rfl h0.1.2.2.2.1.2.1 (by omega) ?_
    refine e_Pn.run (t' := (16, [(0, (1, 1))], [(0, 0), (0, 50), (1, cd)], w)) kAlk 2 rfl ?_
    refine e_Pn.callA rfl (fun nq dq => l_21 h0.1.2.2.2.1 (op := 50) (od := 0) (by omega) (by omega) h0.1.2.2.2.2.2.1) (fun r4 w5 h6 => ?_)
    obtain ⟨z7, rfl, w5f, w5q⟩ := h6
    have w5k := kRw.em h0.1.2.2.2.1 w5f
    have w5l := (emQ.len w5q h0.1.2.2.2.2.2.1).1
    have w5e : w5 1 5 = w 1 5 ∧ w5 1 6 = w 1 6 ∧ w5 1 8 = w 1 8 := ⟨w5f 1 5 (by unfold kEm; omega), w5f 1 6 (by unfold kEm; omega), w5f 1 8 (by unfold kEm; omega)⟩
    have s8 := st.em h0 w5f w5q (by omega) (by unfold isCl3; omega)
    have q9 := st.nums s8
    have q9c := q9.2.2.2.1
    have z7r : 0 ≤ z7 ∧ z7 ≤ 4000 := emQ.z w5q h0.1.2.2.2.2.2.1
    show e_Pn 20 elay kcode eI n d 145 (19, [(0, (1, 1))], [(0, z7)], w5) _
    refine e_Pn.run (t' := (21, [(0, (1, 1))], [(1, 1)], w5)) kAlk 2 rfl ?_
    refine e_Pn.getf (z := w 1 5) kAlk rfl rfl ((w5f 1 5 (by unfold kEm; omega)).trans rfl) (fun b10 => ?_)
    have hs12 : ∀ x : Int, 25 ≤ x ∧ x ≤ 25 → (x = 25) := fun x h => by omega
    obtain h11 := hs12 (w 1 5) (by omega)
    · refine e_Pn.sw (tg := 218) kAlk rfl (by rw [h11]; rfl) ?_
      replace h11 : (w 1 5 : Int) = 25 := h11
      refine e_Pn.run (t' := (221, [(0, (1, 1))], [(0, 28), (1, 1)], w5)) kAlk 2 rfl ?_
      refine e_Pn.callJ rfl (fun nq13 hnq13 dq14 => ?_)
      show e_Pn 20 elay kcode eI nq13 dq14 147 (0, [(0, (1, 1)), (1, (0, 28))], [], w5) _
      refine e_Pn.run (t' := (1, [(0, (1, 1)), (1, (0, 28))], [(1, 1)], w5)) kAlk 1 rfl ?_
      replace hM := hM.st (t' := (4, [(0, (1, 275)), (1, (0, 4))], [(0, 0), (0, 30), (1, 275)], v)) (fun _ _ q => e_Pn.run eAlk 3 rfl q)
      obtain ⟨dc15, r16, v17, hc18, hM⟩ := hM.ca rfl
      obtain ⟨⟨z19, rfl⟩, v17f⟩ := hc18.pn (fun nq => x_336 h0.1.2.2.2.2.1)
      have v17m := mfr.rf v17f h0.1.2.2.2.2.1
      replace hM : e_Rn 20 elay ecode eI d' 349 (7, [(0, (1, 275)), (1, (0, 4))], [(0, z19)], v17) r' v' := hM
      replace hM := hM.st (t' := (9, [(0, (1, 275)), (1, (0, 4))], [(1, 275)], v17)) (fun _ _ q => e_Pn.run eAlk 2 rfl q)
      obtain ⟨b20, hM⟩ := hM.of (fun _ _ q => e_Pn.getf (z := v17 275 78) eAlk rfl rfl rfl q)
      replace hM := hM.st (t' := (16, [(2, (0, v17 275 78)), (0, (1, 275)), (1, (0, 4))], [(0, 17), (0, 4)], v17)) (fun _ _ q => e_Pn.run eAlk 3 rfl q)
      rcases hM.or (fun _ _ q1 q2 => e_Pn.if2 eAlk rfl q1 q2) with ⟨h21, hM⟩ | ⟨h21, hM⟩
      · replace h21 : (4 : Int) ≠ 17 := h21
        replace hM := hM.st (t' := (70, [(2, (0, v17 275 78)), (0, (1, 275)), (1, (0, 4))], [(1, 275)], v17)) (fun _ _ q => e_Pn.run eAlk 1 rfl q)
        have e23a : w5 1 11 = w5 1 11 := rfl
        have e23b : v17 275 83 = v 275 83 := (v17f 275 83 (by unfold mEm; omega))
        have e23c : w5 1 13 = w5 1 13 := rfl
        have e23d : v17 275 82 = v 275 82 := (v17f 275 82 (by unfold mEm; omega))
        have e23f : w5 1 12 = w5 1 12 := rfl
        have e23e : v17 275 80 = v 275 80 := (v17f 275 80 (by unfold mEm; omega))
        have s22 := st.gen (o' := 0) (l' := w 1 13) (m' := v 275 82) (t' := w 1 12) (b' := 0) s8 (e_fr.refl w5) (e_fr.trans (e_fr.refl v) (e_fr.mono v17f (fun c k q => by unfold mEm at q; unfold mGs; omega))) (by omega) (by omega) (by omega) (by omega)
        have q24 := st.nums s22
        clear q9 e23a e23b e23c e23d e23e e23f
        have q24c := q24.2.2.2.1
        obtain ⟨dc25, r26, v27, hc28, hM⟩ := hM.ca rfl
        refine e_Pn.callA rfl (fun nq dq => t_123b s22.1.1 s22.1.2.1.1 s22.1.2.1.2.1.2.1 (st.nx s22) (d' := dc25) hc28) (fun r29 w30 h31 => ?_)
        obtain ⟨rfl, rfl, h31⟩ := h31
        have s32 := st.ad (k := 2) s22 h31 (st.len2 s22 (by omega)) (by omega)
        have s32n := h31.2.2.2.1
        have s32m := st.len2 s22 (by omega)
        have s32g : w 1 6 + 1 ≤ w30 1 6 := by omega
        have q33 := st.nums s32
        clear q24
        have q33c := q33.2.2.2.1
        show e_Pn 20 elay kcode eI nq13 dq14 147 (4, [(0, (1, 1)), (1, (0, 28))], [], w30) _
        replace hM : e_Rn 20 elay ecode eI d' 349 (73, [(2, (0, v17 275 78)), (0, (1, 275)), (1, (0, 4))], [], v27) r' v' := hM
        refine e_Pn.run (t' := (5, [(0, (1, 1)), (1, (0, 28))], [(1, 1)], w30)) kAlk 1 rfl ?_
        refine e_Pn.getr (z := cd) kAlk rfl rfl s32.1.2.2.2.1.2.1 (by omega) ?_
        refine e_Pn.getf (z := w30 cd 0) kAlk rfl rfl rfl (fun b34 => ?_)
        refine e_Pn.run (t' := (13, [(2, (0, w30 cd 0)), (0, (1, 1)), (1, (0, 28))], [(1, 1)], w30)) kAlk 2 rfl ?_
        replace hM := hM.st (t' := (74, [(2, (0, v17 275 78)), (0, (1, 275)), (1, (0, 4))], [(0, 4)], v27)) (fun _ _ q => e_Pn.run eAlk 1 rfl q)
        have hs36 : ∀ x : Int, 4 ≤ x ∧ x ≤ 4 → (x = 4) := fun x h => by omega
        obtain h35 := hs36 (4) (by omega)
        · replace hM := hM.st (fun _ _ q => e_Pn.sw (tg := 330) eAlk rfl (by rw [h35]; rfl) q)
          replace hM := hM.st (t' := (331, [(2, (0, v17 275 78)), (0, (1, 275)), (1, (0, 4))], [(1, 275)], v27)) (fun _ _ q => e_Pn.run eAlk 1 rfl q)
          obtain ⟨dc37, r38, v39, hc40, hM⟩ := hM.ca rfl
          have uhc40 := hc40.pn (fun nq => uE_all nq 339 (by decide) _ _ s32.1.2.2.2.2.1)
          have z44 : stE N cd w30 v27 := st.zE s32 (by omega) (by omega)
          refine e_Pn.callA rfl (fun nq dq => e_Pn.and (eEg_all nq 158 339 (by decide) _ _ dq _ _ _ z44 hc40) (kE_all nq 158 (by decide) dq _ _ s32.1.2.2.2.1)) (fun r41 w42 h43 => ?_)
          obtain ⟨⟨rfl, rfl, h43⟩, -, h43k⟩ := h43
          rcases h43.symm with h43 | ⟨h43, h43p⟩
          · skip
            replace hM : e_Rn 20 elay ecode eI d' 349 (334, [(2, (0, v17 275 78)), (0, (1, 275)), (1, (0, 4))], [], v39) r' v' := hM
            obtain ⟨rfl, m45⟩ := (e_Rn.le eAlk [0, 1, 2] rfl rfl hM).pn (fun nq => v_349_334 (uhc40.2.rf s32.1.2.2.2.2.1) _ 4 (v17 275 78) v39 mq.r)
            show e_Pn 20 elay kcode eI nq13 dq14 147 (16, [(2, (0, w30 cd 0)), (0, (1, 1)), (1, (0, 28))], [], w42) _
            refine e_Pn.ord kAlk [0, 1, 2] rfl rfl ((v_147_16 (h43k.rf s32.1.2.2.2.1) _ 28 (w30 cd 0) w42 kq.r).imp (fun r47 w48 k46 => ?_))
            obtain ⟨rfl, k46⟩ := k46
            show e_Pn 20 elay kcode eI n d 145 (224, [(0, (1, 1))], [], w48) _
            refine e_Pn.ord kAlk [0] rfl rfl ((v_145_224 (k46.rf (h43k.rf s32.1.2.2.2.1)) _  w48 kq.r).imp (fun r50 w51 k49 => ?_))
            obtain ⟨rfl, k49⟩ := k49
            exact ⟨rfl, rfl, Or.inr (rpF.tail h43 (k46.tr k49) m45)⟩
          have s52 := st.re (l' := w 1 13) (m' := v 275 82) (t' := w 1 12) (st.tr s32 h43) (Int.le_refl _) rfl (by omega) (by omega) (by omega)
          have q53 := st.nums s52
          clear q33
          have q53c := q53.2.2.2.1
          show e_Pn 20 elay kcode eI nq13 dq14 147 (16, [(2, (0, w30 cd 0)), (0, (1, 1)), (1, (0, 28))], [], w42) _
          replace hM : e_Rn 20 elay ecode eI d' 349 (334, [(2, (0, v17 275 78)), (0, (1, 275)), (1, (0, 4))], [], v39) r' v' := hM
          refine e_Pn.run (t' := (19, [(2, (0, w30 cd 0)), (0, (1, 1)), (1, (0, 28))], [(0, 19), (1, 1)], w42)) kAlk 2 rfl ?_
          replace hM := hM.st (t' := (337, [(2, (0, v17 275 78)), (0, (1, 275)), (1, (0, 4))], [(0, 4), (0, 4), (1, 275)], v39)) (fun _ _ q => e_Pn.run eAlk 3 rfl q)
          rcases hM.or (fun _ _ q1 q2 => e_Pn.if2 eAlk rfl q1 q2) with ⟨h54, hM⟩ | ⟨h54, hM⟩
          · replace h54 : (4 : Int) ≠ 4 := h54
            exfalso; omega
          · replace h54 : (4 : Int) = 4 := by have q : ¬ ((4 : Int) ≠ 4) := h54; omega
            replace hM := hM.st (t' := (391, [(2, (0, v17 275 78)), (0, (1, 275)), (1, (0, 4))], [(0, v17 275 78), (0, 33), (1, 275)], v39)) (fun _ _ q => e_Pn.run eAlk 3 rfl q)
            obtain ⟨dc55, r56, v57, hc58, hM⟩ := hM.ca rfl
            obtain ⟨⟨z59, rfl⟩, v57f⟩ := hc58.pn (fun nq => x_336 s52.1.2.2.2.2.1)
            have v57m := mfr.rf v57f s52.1.2.2.2.2.1
            replace hM : e_Rn 20 elay ecode eI d' 349 (394, [(2, (0, v17 275 78)), (0, (1, 275)), (1, (0, 4))], [(0, z59)], v57) r' v' := hM
            replace hM := hM.st (t' := (399, [(2, (0, v17 275 78)), (0, (1, 275)), (1, (0, 4))], [(0, 59), (1, 275), (1, 275)], v57)) (fun _ _ q => e_Pn.run eAlk 4 rfl q)
            obtain ⟨dc60, r61, v62, hc63, hM⟩ := hM.ca rfl
            obtain ⟨z64, rfl, rfl, z64q⟩ := hc63.pn (fun nq => l_331)
            replace z64q := isS (kM_s59 s52.1.2.1.2.2.1) ((v57f 275 84 (by unfold mEm; omega)).trans rfl) ((v57f 275 85 (by unfold mEm; omega)).trans rfl) z64q
            replace hM : e_Rn 20 elay ecode eI d' 349 (402, [(2, (0, v17 275 78)), (0, (1, 275)), (1, (0, 4))], [(0, z64), (1, 275)], v57) r' v' := hM
            have e66a : w42 1 11 = w42 1 11 := rfl
            have e66b : v57 275 83 = v39 275 83 := (v57f 275 83 (by unfold mEm; omega))
            have e66c : w42 1 13 = w42 1 13 := rfl
            have e66d : v57 275 82 = v39 275 82 := (v57f 275 82 (by unfold mEm; omega))
            have e66f : w42 1 12 = w42 1 12 := rfl
            have e66e : v57 275 80 = v39 275 80 := (v57f 275 80 (by unfold mEm; omega))
            have s65 := st.gen (o' := 0) (l' := w 1 13) (m' := v 275 82) (t' := w 1 12) (b' := 0) s52 (e_fr.refl w42) (e_fr.trans (e_fr.refl v39) (e_fr.mono v57f (fun c k q => by unfold mEm at q; unfold mGs; omega))) (by omega) (by omega) (by omega) (by omega)
            have q67 := st.nums s65
            clear q53 e66a e66b e66c e66d e66e e66f
            have q67c := q67.2.2.2.1
            obtain ⟨dc68, r69, v70, hc71, hM⟩ := hM.ca rfl
            have uhc71 := hc71.pn (fun nq => u_334 s65.1.2.2.2.2.1)
            refine e_Pn.callA rfl (fun nq dq => e_Pn.and (t_129b s65.1.1 s65.1.2.1 z64q (d' := dc68) hc71) (u_129 s65.1.2.2.2.1)) (fun r72 w73 h74 => ?_)
            obtain ⟨⟨rfl, rfl, h74⟩, -, h74k⟩ := h74
            rcases h74.symm with h74 | ⟨h74c, h74⟩
            · skip
              replace hM : e_Rn 20 elay ecode eI d' 349 (405, [(2, (0, v17 275 78)), (0, (1, 275)), (1, (0, 4))], [], v70) r' v' := hM
              obtain ⟨rfl, m75⟩ := (e_Rn.le eAlk [0, 1, 2] rfl rfl hM).pn (fun nq => v_349_405 (uhc71.2.rf s65.1.2.2.2.2.1) _ 4 (v17 275 78) v70 mq.r)
              show e_Pn 20 elay kcode eI nq13 dq14 147 (22, [(2, (0, w30 cd 0)), (0, (1, 1)), (1, (0, 28))], [], w73) _
              refine e_Pn.ord kAlk [0, 1, 2] rfl rfl ((v_147_22 (h74k.rf s65.1.2.2.2.1) _ 28 (w30 cd 0) w73 kq.r).imp (fun r77 w78 k76 => ?_))
              obtain ⟨rfl, k76⟩ := k76
              show e_Pn 20 elay kcode eI n d 145 (224, [(0, (1, 1))], [], w78) _
              refine e_Pn.ord kAlk [0] rfl rfl ((v_145_224 (k76.rf (h74k.rf s65.1.2.2.2.1)) _  w78 kq.r).imp (fun r80 w81 k79 => ?_))
              obtain ⟨rfl, k79⟩ := k79
              exact ⟨rfl, rfl, Or.inr (rpF.tail h74 (k76.tr k79) m75)⟩
            clear z64q
            have s82 := st.ad (k := 1) s65 h74 (st.len1 s65 (by omega)) (by omega)
            have s82n := h74.2.2.2.1
            have s82m := st.len1 s65 (by omega)
            have s82g : w 1 6 + 1 ≤ w73 1 6 := by omega
            have q83 := st.nums s82
            clear q67
            have q83c := q83.2.2.2.1
            show e_Pn 20 elay kcode eI nq13 dq14 147 (22, [(2, (0, w30 cd 0)), (0, (1, 1)), (1, (0, 28))], [], w73) _
            replace hM : e_Rn 20 elay ecode eI d' 349 (405, [(2, (0, v17 275 78)), (0, (1, 275)), (1, (0, 4))], [], v70) r' v' := hM
            refine e_Pn.run (t' := (23, [(2, (0, w30 cd 0)), (0, (1, 1)), (1, (0, 28))], [(1, 1)], w73)) kAlk 1 rfl ?_
            refine e_Pn.getr (z := cd) kAlk rfl rfl s82.1.2.2.2.1.2.1 (by omega) ?_
            refine e_Pn.run (t' := (28, [(2, (0, w30 cd 0)), (0, (1, 1)), (1, (0, 28))], [(0, w30 cd 0), (0, 28), (1, cd)], w73)) kAlk 2 rfl ?_
            refine e_Pn.callA rfl (fun nq dq => l_21 s82.1.2.2.2.1 (op := 28) (od := w30 cd 0) (by omega) (by omega) s82.1.2.2.2.2.2.1) (fun r84 w85 h86 => ?_)
            obtain ⟨z87, rfl, w85f, w85q⟩ := h86
            have w85k := kRw.em s82.1.2.2.2.1 w85f
            have w85l := (emQ.len w85q s82.1.2.2.2.2.2.1).1
            have w85e : w85 1 5 = w73 1 5 ∧ w85 1 6 = w73 1 6 ∧ w85 1 8 = w73 1 8 := ⟨w85f 1 5 (by unfold kEm; omega), w85f 1 6 (by unfold kEm; omega), w85f 1 8 (by unfold kEm; omega)⟩
            have s88 := st.em s82 w85f w85q (by omega) (by unfold isCl3; omega)
            have q89 := st.nums s88
            clear q83
            have q89c := q89.2.2.2.1
            have z87r : 0 ≤ z87 ∧ z87 ≤ 4000 := emQ.z w85q s82.1.2.2.2.2.2.1
            show e_Pn 20 elay kcode eI nq13 dq14 147 (31, [(2, (0, w30 cd 0)), (0, (1, 1)), (1, (0, 28))], [(0, z87)], w85) _
            refine e_Pn.run (t' := (32, [(2, (0, w30 cd 0)), (0, (1, 1)), (1, (0, 28))], [], w85)) kAlk 1 rfl ?_
            refine e_Pn.ret0 rfl ?_
            show e_Pn 20 elay kcode eI n d 145 (224, [(0, (1, 1))], [], w85) _
            refine e_Pn.run (t' := (356, [(0, (1, 1))], [], w85)) kAlk 1 rfl ?_
            obtain ⟨rfl, rfl⟩ := hM.re0 rfl
            refine e_Pn.ret0 rfl ?_
            exact ⟨rfl, rfl, Or.inl ⟨st.re s88 (by omega) (by omega) (by omega) (by omega) (by omega), by omega⟩⟩
      · replace h21 : (4 : Int) = 17 := by have q : ¬ ((4 : Int) ≠ 17) := h21; omega
        exfalso; omega
set_option maxHeartbeats 4000000 in
theorem e_145_26 {n : Nat} {N cd : Int} {w v : eW} (hz : st0 N cd w v) (hp : 1 ≤ w 1 6) (hkd : w 1 5 = 26) (ihS : ∀ k, k < n → sE k) {d d' : Nat} {r' : List eV} {v' : eW} (hM : e_Rn 20 elay ecode eI d' 349 (0, [(0, (1, 275)), (1, (0, 5))], [], v) r' v') : e_Pn 20 elay kcode eI n d 145 (0, [(0, (1, 1))], [], w) (fun r w' => r = [] ∧ r' = [] ∧ ((st N cd w v w' v' 0 0 0 (-1) (w 1 13) (v 275 82) (w 1 12) 2 ∧ w 1 6 < w' 1 6) ∨ rpF w' v')) := by
  have h0 := hz.st (ka := 2)
  have hm := hz.1.2.2.2.1.1.m
  have hn := hz.1.2.2.2.1.1.n
  have hzo := hz.2.2.2
  have q1 := st.nums h0
  have q1c := q1.2.2.2.1
  refine e_Pn.run (t' := (1, [(0, (1, 1))], [(1, 1)], w)) kAlk 1 rfl ?_
  refine e_Pn.getf (z := w 1 5) kAlk rfl rfl rfl (fun b2 => ?_)
  refine e_Pn.run (t' := (6, [(0, (1, 1))], [(0, 41), (0, w 1 5)], w)) kAlk 1 rfl ?_
  refine e_Pn.if2 kAlk rfl (fun h3 => ?_) (fun h3 => ?_)
  · replace h3 : (w 1 5 : Int) = 41 := h3
    exact (kM_no h0.1.2.1.2.2.1 (fun a b => decide ((a : Int) = 26) && decide ((a : Int) = 41)) (fun a b c => true) (by decide) (by decide) (by simp only [Bool.and_eq_true, decide_eq_true_eq]; exact ⟨hkd, h3⟩) rfl).elim
  · replace h3 : (w 1 5 : Int) ≠ 41 := by have q : ¬ ((w 1 5 : Int) = 41) := h3; omega
    refine e_Pn.run (t' := (10, [(0, (1, 1))], [(1, 1)], w)) kAlk 1 rfl ?_
    refine e_Pn.getr (z := cd) kAlk rfl rfl h0.1.2.2.2.1.2.1 (by omega) ?_
    refine e_Pn.run (t' := (16, [(0, (1, 1))], [(0, 0), (0, 50), (1, cd)], w)) kAlk 2 rfl ?_
    refine e_Pn.callA rfl (fun nq dq => l_21 h0.1.2.2.2.1 (op := 50) (od := 0) (by omega) (by omega) h0.1.2.2.2.2.2.1) (fun r4 w5 h6 => ?_)
    obtain ⟨z7, rfl, w5f, w5q⟩ := h6
    have w5k := kRw.em h0.1.2.2.2.1 w5f
    have w5l := (emQ.len w5q h0.1.2.2.2.2.2.1).1
    have w5e : w5 1 5 = w 1 5 ∧ w5 1 6 = w 1 6 ∧ w5 1 8 = w 1 8 := ⟨w5f 1 5 (by unfold kEm; omega), w5f 1 6 (by unfold kEm; omega), w5f 1 8 (by unfold kEm; omega)⟩
    have s8 := st.em h0 w5f w5q (by omega) (by unfold isCl3; omega)
    have q9 := st.nums s8
    have q9c := q9.2.2.2.1
    have z7r : 0 ≤ z7 ∧ z7 ≤ 4000 := emQ.z w5q h0.1.2.2.2.2.2.1
    show e_Pn 20 elay kcode eI n d 145 (19, [(0, (1, 1))], [(0, z7)], w5) _
    refine e_Pn.run (t' := (21, [(0, (1, 1))], [(1, 1)], w5)) kAlk 2 rfl ?_
    refine e_Pn.getf (z := w 1 5) kAlk rfl rfl ((w5f 1 5 (by unfold kEm; omega)).trans rfl) (fun b10 => ?_)
    have hs12 : ∀ x : Int, 26 ≤ x ∧ x ≤ 26 → (x = 26) := fun x h => by omega
    obtain h11 := hs12 (w 1 5) (by omega)
    · refine e_Pn.sw (tg := 227) kAlk rfl (by rw [h11]; rfl) ?_
      replace h11 : (w 1 5 : Int) = 26 := h11
      refine e_Pn.run (t' := (230, [(0, (1, 1))], [(0, 29), (1, 1)], w5)) kAlk 2 rfl ?_
      refine e_Pn.callJ rfl (fun nq13 hnq13 dq14 => ?_)
      show e_Pn 20 elay kcode eI nq13 dq14 147 (0, [(0, (1, 1)), (1, (0, 29))], [], w5) _
      refine e_Pn.run (t' := (1, [(0, (1, 1)), (1, (0, 29))], [(1, 1)], w5)) kAlk 1 rfl ?_
      replace hM := hM.st (t' := (4, [(0, (1, 275)), (1, (0, 5))], [(0, 0), (0, 30), (1, 275)], v)) (fun _ _ q => e_Pn.run eAlk 3 rfl q)
      obtain ⟨dc15, r16, v17, hc18, hM⟩ := hM.ca rfl
      obtain ⟨⟨z19, rfl⟩, v17f⟩ := hc18.pn (fun nq => x_336 h0.1.2.2.2.2.1)
      have v17m := mfr.rf v17f h0.1.2.2.2.2.1
      replace hM : e_Rn 20 elay ecode eI d' 349 (7, [(0, (1, 275)), (1, (0, 5))], [(0, z19)], v17) r' v' := hM
      replace hM := hM.st (t' := (9, [(0, (1, 275)), (1, (0, 5))], [(1, 275)], v17)) (fun _ _ q => e_Pn.run eAlk 2 rfl q)
      obtain ⟨b20, hM⟩ := hM.of (fun _ _ q => e_Pn.getf (z := v17 275 78) eAlk rfl rfl rfl q)
      replace hM := hM.st (t' := (16, [(2, (0, v17 275 78)), (0, (1, 275)), (1, (0, 5))], [(0, 17), (0, 5)], v17)) (fun _ _ q => e_Pn.run eAlk 3 rfl q)
      rcases hM.or (fun _ _ q1 q2 => e_Pn.if2 eAlk rfl q1 q2) with ⟨h21, hM⟩ | ⟨h21, hM⟩
      · replace h21 : (5 : Int) ≠ 17 := h21
        replace hM := hM.st (t' := (70, [(2, (0, v17 275 78)), (0, (1, 275)), (1, (0, 5))], [(1, 275)], v17)) (fun _ _ q => e_Pn.run eAlk 1 rfl q)
        have e23a : w5 1 11 = w5 1 11 := rfl
        have e23b : v17 275 83 = v 275 83 := (v17f 275 83 (by unfold mEm; omega))
        have e23c : w5 1 13 = w5 1 13 := rfl
        have e23d : v17 275 82 = v 275 82 := (v17f 275 82 (by unfold mEm; omega))
        have e23f : w5 1 12 = w5 1 12 := rfl
        have e23e : v17 275 80 = v 275 80 := (v17f 275 80 (by unfold mEm; omega))
        have s22 := st.gen (o' := 0) (l' := w 1 13) (m' := v 275 82) (t' := w 1 12) (b' := 0) s8 (e_fr.refl w5) (e_fr.trans (e_fr.refl v) (e_fr.mono v17f (fun c k q => by unfold mEm at q; unfold mGs; omega))) (by omega) (by omega) (by omega) (by omega)
        have q24 := st.nums s22
        clear q9 e23a e23b e23c e23d e23e e23f
        have q24c := q24.2.2.2.1
        obtain ⟨dc25, r26, v27, hc28, hM⟩ := hM.ca rfl
        refine e_Pn.callA rfl (fun nq dq => t_123b s22.1.1 s22.1.2.1.1 s22.1.2.1.2.1.2.1 (st.nx s22) (d' := dc25) hc28) (fun r29 w30 h31 => ?_)
        obtain ⟨rfl, rfl, h31⟩ := h31
        have s32 := st.ad (k := 2) s22 h31 (st.len2 s22 (by omega)) (by omega)
        have s32n := h31.2.2.2.1
        have s32m := st.len2 s22 (by omega)
        have s32g : w 1 6 + 1 ≤ w30 1 6 := by omega
        have q33 := st.nums s32
        clear q24
        have q33c := q33.2.2.2.1
        show e_Pn 20 elay kcode eI nq13 dq14 147 (4, [(0, (1, 1)), (1, (0, 29))], [], w30) _
        replace hM : e_Rn 20 elay ecode eI d' 349 (73, [(2, (0, v17 275 78)), (0, (1, 275)), (1, (0, 5))], [], v27) r' v' := hM
        refine e_Pn.run (t' := (5, [(0, (1, 1)), (1, (0, 29))], [(1, 1)], w30)) kAlk 1 rfl ?_
        refine e_Pn.getr (z := cd) kAlk rfl rfl s32.1.2.2.2.1.2.1 (by omega) ?_
        refine e_Pn.getf (z := w30 cd 0) kAlk rfl rfl rfl (fun b34 => ?_)
        refine e_Pn.run (t' := (13, [(2, (0, w30 cd 0)), (0, (1, 1)), (1, (0, 29))], [(1, 1)], w30)) kAlk 2 rfl ?_
        replace hM := hM.st (t' := (74, [(2, (0, v17 275 78)), (0, (1, 275)), (1, (0, 5))], [(0, 5)], v27)) (fun _ _ q => e_Pn.run eAlk 1 rfl q)
        have hs36 : ∀ x : Int, 5 ≤ x ∧ x ≤ 5 → (x = 5) := fun x h => by omega
        obtain h35 := hs36 (5) (by omega)
        · replace hM := hM.st (fun _ _ q => e_Pn.sw (tg := 330) eAlk rfl (by rw [h35]; rfl) q)
          replace hM := hM.st (t' := (331, [(2, (0, v17 275 78)), (0, (1, 275)), (1, (0, 5))], [(1, 275)], v27)) (fun _ _ q => e_Pn.run eAlk 1 rfl q)
          obtain ⟨dc37, r38, v39, hc40, hM⟩ := hM.ca rfl
          have uhc40 := hc40.pn (fun nq => uE_all nq 339 (by decide) _ _ s32.1.2.2.2.2.1)
          have z44 : stE N cd w30 v27 := st.zE s32 (by omega) (by omega)
          refine e_Pn.callA rfl (fun nq dq => e_Pn.and (eEg_all nq 158 339 (by decide) _ _ dq _ _ _ z44 hc40) (kE_all nq 158 (by decide) dq _ _ s32.1.2.2.2.1)) (fun r41 w42 h43 => ?_)
          obtain ⟨⟨rfl, rfl, h43⟩, -, h43k⟩ := h43
          rcases h43.symm with h43 | ⟨h43, h43p⟩
          · skip
            replace hM : e_Rn 20 elay ecode eI d' 349 (334, [(2, (0, v17 275 78)), (0, (1, 275)), (1, (0, 5))], [], v39) r' v' := hM
            obtain ⟨rfl, m45⟩ := (e_Rn.le eAlk [0, 1, 2] rfl rfl hM).pn (fun nq => v_349_334 (uhc40.2.rf s32.1.2.2.2.2.1) _ 5 (v17 275 78) v39 mq.r)
            show e_Pn 20 elay kcode eI nq13 dq14 147 (16, [(2, (0, w30 cd 0)), (0, (1, 1)), (1, (0, 29))], [], w42) _
            refine e_Pn.ord kAlk [0, 1, 2] rfl rfl ((v_147_16 (h43k.rf s32.1.2.2.2.1) _ 29 (w30 cd 0) w42 kq.r).imp (fun r47 w48 k46 => ?_))
            obtain ⟨rfl, k46⟩ := k46
            show e_Pn 20 elay kcode eI n d 145 (233, [(0, (1, 1))], [], w48) _
            refine e_Pn.ord kAlk [0] rfl rfl ((v_145_233 (k46.rf (h43k.rf s32.1.2.2.2.1)) _  w48 kq.r).imp (fun r50 w51 k49 => ?_))
            obtain ⟨rfl, k49⟩ := k49
            exact ⟨rfl, rfl, Or.inr (rpF.tail h43 (k46.tr k49) m45)⟩
          have s52 := st.re (l' := w 1 13) (m' := v 275 82) (t' := w 1 12) (st.tr s32 h43) (Int.le_refl _) rfl (by omega) (by omega) (by omega)
          have q53 := st.nums s52
          clear q33
          have q53c := q53.2.2.2.1
          show e_Pn 20 elay kcode eI nq13 dq14 147 (16, [(2, (0, w30 cd 0)), (0, (1, 1)), (1, (0, 29))], [], w42) _
          replace hM : e_Rn 20 elay ecode eI d' 349 (334, [(2, (0, v17 275 78)), (0, (1, 275)), (1, (0, 5))], [], v39) r' v' := hM
          refine e_Pn.run (t' := (19, [(2, (0, w30 cd 0)), (0, (1, 1)), (1, (0, 29))], [(0, 19), (1, 1)], w42)) kAlk 2 rfl ?_
          replace hM := hM.st (t' := (337, [(2, (0, v17 275 78)), (0, (1, 275)), (1, (0, 5))], [(0, 4), (0, 5), (1, 275)], v39)) (fun _ _ q => e_Pn.run eAlk 3 rfl q)
          rcases hM.or (fun _ _ q1 q2 => e_Pn.if2 eAlk rfl q1 q2) with ⟨h54, hM⟩ | ⟨h54, hM⟩
          · replace h54 : (5 : Int) ≠ 4 := h54
            replace hM := hM.st (t' := (347, [(2, (0, v17 275 78)), (0, (1, 275)), (1, (0, 5))], [(0, 5), (0, 5), (1, 275)], v39)) (fun _ _ q => e_Pn.run eAlk 2 rfl q)
            rcases hM.or (fun _ _ q1 q2 => e_Pn.if2 eAlk rfl q1 q2) with ⟨h55, hM⟩ | ⟨h55, hM⟩
            · replace h55 : (5 : Int) ≠ 5 := h55
              exfalso; omega
            · replace h55 : (5 : Int) = 5 := by have q : ¬ ((5 : Int) ≠ 5) := h55; omega
              replace hM := hM.st (t' := (391, [(2, (0, v17 275 78)), (0, (1, 275)), (1, (0, 5))], [(0, v17 275 78), (0, 34), (1, 275)], v39)) (fun _ _ q => e_Pn.run eAlk 3 rfl q)
              obtain ⟨dc56, r57, v58, hc59, hM⟩ := hM.ca rfl
              obtain ⟨⟨z60, rfl⟩, v58f⟩ := hc59.pn (fun nq => x_336 s52.1.2.2.2.2.1)
              have v58m := mfr.rf v58f s52.1.2.2.2.2.1
              replace hM : e_Rn 20 elay ecode eI d' 349 (394, [(2, (0, v17 275 78)), (0, (1, 275)), (1, (0, 5))], [(0, z60)], v58) r' v' := hM
              replace hM := hM.st (t' := (399, [(2, (0, v17 275 78)), (0, (1, 275)), (1, (0, 5))], [(0, 59), (1, 275), (1, 275)], v58)) (fun _ _ q => e_Pn.run eAlk 4 rfl q)
              obtain ⟨dc61, r62, v63, hc64, hM⟩ := hM.ca rfl
              obtain ⟨z65, rfl, rfl, z65q⟩ := hc64.pn (fun nq => l_331)
              replace z65q := isS (kM_s59 s52.1.2.1.2.2.1) ((v58f 275 84 (by unfold mEm; omega)).trans rfl) ((v58f 275 85 (by unfold mEm; omega)).trans rfl) z65q
              replace hM : e_Rn 20 elay ecode eI d' 349 (402, [(2, (0, v17 275 78)), (0, (1, 275)), (1, (0, 5))], [(0, z65), (1, 275)], v58) r' v' := hM
              have e67a : w42 1 11 = w42 1 11 := rfl
              have e67b : v58 275 83 = v39 275 83 := (v58f 275 83 (by unfold mEm; omega))
              have e67c : w42 1 13 = w42 1 13 := rfl
              have e67d : v58 275 82 = v39 275 82 := (v58f 275 82 (by unfold mEm; omega))
              have e67f : w42 1 12 = w42 1 12 := rfl
              have e67e : v58 275 80 = v39 275 80 := (v58f 275 80 (by unfold mEm; omega))
              have s66 := st.gen (o' := 0) (l' := w 1 13) (m' := v 275 82) (t' := w 1 12) (b' := 0) s52 (e_fr.refl w42) (e_fr.trans (e_fr.refl v39) (e_fr.mono v58f (fun c k q => by unfold mEm at q; unfold mGs; omega))) (by omega) (by omega) (by omega) (by omega)
              have q68 := st.nums s66
              clear q53 e67a e67b e67c e67d e67e e67f
              have q68c := q68.2.2.2.1
              obtain ⟨dc69, r70, v71, hc72, hM⟩ := hM.ca rfl
              have uhc72 := hc72.pn (fun nq => u_334 s66.1.2.2.2.2.1)
              refine e_Pn.callA rfl (fun nq dq => e_Pn.and (t_129b s66.1.1 s66.1.2.1 z65q (d' := dc69) hc72) (u_129 s66.1.2.2.2.1)) (fun r73 w74 h75 => ?_)
              obtain ⟨⟨rfl, rfl, h75⟩, -, h75k⟩ := h75
              rcases h75.symm with h75 | ⟨h75c, h75⟩
              · skip
                replace hM : e_Rn 20 elay ecode eI d' 349 (405, [(2, (0, v17 275 78)), (0, (1, 275)), (1, (0, 5))], [], v71) r' v' := hM
                obtain ⟨rfl, m76⟩ := (e_Rn.le eAlk [0, 1, 2] rfl rfl hM).pn (fun nq => v_349_405 (uhc72.2.rf s66.1.2.2.2.2.1) _ 5 (v17 275 78) v71 mq.r)
                show e_Pn 20 elay kcode eI nq13 dq14 147 (22, [(2, (0, w30 cd 0)), (0, (1, 1)), (1, (0, 29))], [], w74) _
                refine e_Pn.ord kAlk [0, 1, 2] rfl rfl ((v_147_22 (h75k.rf s66.1.2.2.2.1) _ 29 (w30 cd 0) w74 kq.r).imp (fun r78 w79 k77 => ?_))
                obtain ⟨rfl, k77⟩ := k77
                show e_Pn 20 elay kcode eI n d 145 (233, [(0, (1, 1))], [], w79) _
                refine e_Pn.ord kAlk [0] rfl rfl ((v_145_233 (k77.rf (h75k.rf s66.1.2.2.2.1)) _  w79 kq.r).imp (fun r81 w82 k80 => ?_))
                obtain ⟨rfl, k80⟩ := k80
                exact ⟨rfl, rfl, Or.inr (rpF.tail h75 (k77.tr k80) m76)⟩
              clear z65q
              have s83 := st.ad (k := 1) s66 h75 (st.len1 s66 (by omega)) (by omega)
              have s83n := h75.2.2.2.1
              have s83m := st.len1 s66 (by omega)
              have s83g : w 1 6 + 1 ≤ w74 1 6 := by omega
              have q84 := st.nums s83
              clear q68
              have q84c := q84.2.2.2.1
              show e_Pn 20 elay kcode eI nq13 dq14 147 (22, [(2, (0, w30 cd 0)), (0, (1, 1)), (1, (0, 29))], [], w74) _
              replace hM : e_Rn 20 elay ecode eI d' 349 (405, [(2, (0, v17 275 78)), (0, (1, 275)), (1, (0, 5))], [], v71) r' v' := hM
              refine e_Pn.run (t' := (23, [(2, (0, w30 cd 0)), (0, (1, 1)), (1, (0, 29))], [(1, 1)], w74)) kAlk 1 rfl ?_
              refine e_Pn.getr (z := cd) kAlk rfl rfl s83.1.2.2.2.1.2.1 (by omega) ?_
              refine e_Pn.run (t' := (28, [(2, (0, w30 cd 0)), (0, (1, 1)), (1, (0, 29))], [(0, w30 cd 0), (0, 29), (1, cd)], w74)) kAlk 2 rfl ?_
              refine e_Pn.callA rfl (fun nq dq => l_21 s83.1.2.2.2.1 (op := 29) (od := w30 cd 0) (by omega) (by omega) s83.1.2.2.2.2.2.1) (fun r85 w86 h87 => ?_)
              obtain ⟨z88, rfl, w86f, w86q⟩ := h87
              have w86k := kRw.em s83.1.2.2.2.1 w86f
              have w86l := (emQ.len w86q s83.1.2.2.2.2.2.1).1
              have w86e : w86 1 5 = w74 1 5 ∧ w86 1 6 = w74 1 6 ∧ w86 1 8 = w74 1 8 := ⟨w86f 1 5 (by unfold kEm; omega), w86f 1 6 (by unfold kEm; omega), w86f 1 8 (by unfold kEm; omega)⟩
              have s89 := st.em s83 w86f w86q (by omega) (by unfold isCl3; omega)
              have q90 := st.nums s89
              clear q84
              have q90c := q90.2.2.2.1
              have z88r : 0 ≤ z88 ∧ z88 ≤ 4000 := emQ.z w86q s83.1.2.2.2.2.2.1
              show e_Pn 20 elay kcode eI nq13 dq14 147 (31, [(2, (0, w30 cd 0)), (0, (1, 1)), (1, (0, 29))], [(0, z88)], w86) _
              refine e_Pn.run (t' := (32, [(2, (0, w30 cd 0)), (0, (1, 1)), (1, (0, 29))], [], w86)) kAlk 1 rfl ?_
              refine e_Pn.ret0 rfl ?_
              show e_Pn 20 elay kcode eI n d 145 (233, [(0, (1, 1))], [], w86) _
              refine e_Pn.run (t' := (356, [(0, (1, 1))], [], w86)) kAlk 1 rfl ?_
              obtain ⟨rfl, rfl⟩ := hM.re0 rfl
              refine e_Pn.ret0 rfl ?_
              exact ⟨rfl, rfl, Or.inl ⟨st.re s89 (by omega) (by omega) (by omega) (by omega) (by omega), by omega⟩⟩
          · replace h54 : (5 : Int) = 4 := by have q : ¬ ((5 : Int) ≠ 4) := h54; omega
            exfalso; omega
      · replace h21 : (5 : Int) = 17 := by have q : ¬ ((5 : Int) ≠ 17) := h21; omega
        exfalso; omega
set_option maxHeartbeats 4000000 in
theorem e_145_27 {n : Nat} {N cd : Int} {w v : eW} (hz : st0 N cd w v) (hp : 1 ≤ w 1 6) (hkd : w 1 5 = 27) (ihS : ∀ k, k < n → sE k) {d d' : Nat} {r' : List eV} {v' : eW} (hM : e_Rn 20 elay ecode eI d' 349 (0, [(0, (1, 275)), (1, (0, 6))], [], v) r' v') : e_Pn 20 elay kcode eI n d 145 (0, [(0, (1, 1))], [], w) (fun r w' => r = [] ∧ r' = [] ∧ ((st N cd w v w' v' 0 0 0 (-1) (w 1 13) (v 275 82) (w 1 12) 2 ∧ w 1 6 < w' 1 6) ∨ rpF w' v')) := by
  have h0 := hz.st (ka := 2)
  have hm := hz.1.2.2.2.1.1.m
  have hn := hz.1.2.2.2.1.1.n
  have hzo := hz.2.2.2
  have q1 := st.nums h0
  have q1c := q1.2.2.2.1
  refine e_Pn.run (t' := (1, [(0, (1, 1))], [(1, 1)], w)) kAlk 1 rfl ?_
  refine e_Pn.getf (z := w 1 5) kAlk rfl rfl rfl (fun b2 => ?_)
  refine e_Pn.run (t' := (6, [(0, (1, 1))], [(0, 41), (0, w 1 5)], w)) kAlk 1 rfl ?_
  refine e_Pn.if2 kAlk rfl (fun h3 => ?_) (fun h3 => ?_)
  · replace h3 : (w 1 5 : Int) = 41 := h3
    exact (kM_no h0.1.2.1.2.2.1 (fun a b => decide ((a : Int) = 27) && decide ((a : Int) = 41)) (fun a b c => true) (by decide) (by decide) (by simp only [Bool.and_eq_true, decide_eq_true_eq]; exact ⟨hkd, h3⟩) rfl).elim
  · replace h3 : (w 1 5 : Int) ≠ 41 := by have q : ¬ ((w 1 5 : Int) = 41) := h3; omega
    refine e_Pn.run (t' := (10, [(0, (1, 1))], [(1, 1)], w)) kAlk 1 rfl ?_
    refine e_Pn.getr (z := cd) kAlk rfl rfl h0.1.2.2.2.1.2.1 (by omega) ?_
    refine e_Pn.run (t' := (16, [(0, (1, 1))], [(0, 0), (0, 50), (1, cd)], w)) kAlk 2 rfl ?_
    refine e_Pn.callA rfl (fun nq dq => l_21 h0.1.2.2.2.1 (op := 50) (od := 0) (by omega) (by omega) h0.1.2.2.2.2.2.1) (fun r4 w5 h6 => ?_)
    obtain ⟨z7, rfl, w5f, w5q⟩ := h6
    have w5k := kRw.em h0.1.2.2.2.1 w5f
    have w5l := (emQ.len w5q h0.1.2.2.2.2.2.1).1
    have w5e : w5 1 5 = w 1 5 ∧ w5 1 6 = w 1 6 ∧ w5 1 8 = w 1 8 := ⟨w5f 1 5 (by unfold kEm; omega), w5f 1 6 (by unfold kEm; omega), w5f 1 8 (by unfold kEm; omega)⟩
    have s8 := st.em h0 w5f w5q (by omega) (by unfold isCl3; omega)
    have q9 := st.nums s8
    have q9c := q9.2.2.2.1
    have z7r : 0 ≤ z7 ∧ z7 ≤ 4000 := emQ.z w5q h0.1.2.2.2.2.2.1
    show e_Pn 20 elay kcode eI n d 145 (19, [(0, (1, 1))], [(0, z7)], w5) _
    refine e_Pn.run (t' := (21, [(0, (1, 1))], [(1, 1)], w5)) kAlk 2 rfl ?_
    refine e_Pn.getf (z := w 1 5) kAlk rfl rfl ((w5f 1 5 (by unfold kEm; omega)).trans rfl) (fun b10 => ?_)
    have hs12 : ∀ x : Int, 27 ≤ x ∧ x ≤ 27 → (x = 27) := fun x h => by omega
    obtain h11 := hs12 (w 1 5) (by omega)
    · refine e_Pn.sw (tg := 236) kAlk rfl (by rw [h11]; rfl) ?_
      replace h11 : (w 1 5 : Int) = 27 := h11
      refine e_Pn.run (t' := (237, [(0, (1, 1))], [(1, 1)], w5)) kAlk 1 rfl ?_
      refine e_Pn.callJ rfl (fun nq13 hnq13 dq14 => ?_)
      show e_Pn 20 elay kcode eI nq13 dq14 151 (0, [(0, (1, 1))], [], w5) _
      refine e_Pn.run (t' := (1, [(0, (1, 1))], [(1, 1)], w5)) kAlk 1 rfl ?_
      replace hM := hM.st (t' := (4, [(0, (1, 275)), (1, (0, 6))], [(0, 0), (0, 30), (1, 275)], v)) (fun _ _ q => e_Pn.run eAlk 3 rfl q)
      obtain ⟨dc15, r16, v17, hc18, hM⟩ := hM.ca rfl
      obtain ⟨⟨z19, rfl⟩, v17f⟩ := hc18.pn (fun nq => x_336 h0.1.2.2.2.2.1)
      have v17m := mfr.rf v17f h0.1.2.2.2.2.1
      replace hM : e_Rn 20 elay ecode eI d' 349 (7, [(0, (1, 275)), (1, (0, 6))], [(0, z19)], v17) r' v' := hM
      replace hM := hM.st (t' := (9, [(0, (1, 275)), (1, (0, 6))], [(1, 275)], v17)) (fun _ _ q => e_Pn.run eAlk 2 rfl q)
      obtain ⟨b20, hM⟩ := hM.of (fun _ _ q => e_Pn.getf (z := v17 275 78) eAlk rfl rfl rfl q)
      replace hM := hM.st (t' := (16, [(2, (0, v17 275 78)), (0, (1, 275)), (1, (0, 6))], [(0, 17), (0, 6)], v17)) (fun _ _ q => e_Pn.run eAlk 3 rfl q)
      rcases hM.or (fun _ _ q1 q2 => e_Pn.if2 eAlk rfl q1 q2) with ⟨h21, hM⟩ | ⟨h21, hM⟩
      · replace h21 : (6 : Int) ≠ 17 := h21
        replace hM := hM.st (t' := (70, [(2, (0, v17 275 78)), (0, (1, 275)), (1, (0, 6))], [(1, 275)], v17)) (fun _ _ q => e_Pn.run eAlk 1 rfl q)
        have e23a : w5 1 11 = w5 1 11 := rfl
        have e23b : v17 275 83 = v 275 83 := (v17f 275 83 (by unfold mEm; omega))
        have e23c : w5 1 13 = w5 1 13 := rfl
        have e23d : v17 275 82 = v 275 82 := (v17f 275 82 (by unfold mEm; omega))
        have e23f : w5 1 12 = w5 1 12 := rfl
        have e23e : v17 275 80 = v 275 80 := (v17f 275 80 (by unfold mEm; omega))
        have s22 := st.gen (o' := 0) (l' := w 1 13) (m' := v 275 82) (t' := w 1 12) (b' := 0) s8 (e_fr.refl w5) (e_fr.trans (e_fr.refl v) (e_fr.mono v17f (fun c k q => by unfold mEm at q; unfold mGs; omega))) (by omega) (by omega) (by omega) (by omega)
        have q24 := st.nums s22
        clear q9 e23a e23b e23c e23d e23e e23f
        have q24c := q24.2.2.2.1
        obtain ⟨dc25, r26, v27, hc28, hM⟩ := hM.ca rfl
        refine e_Pn.callA rfl (fun nq dq => t_123b s22.1.1 s22.1.2.1.1 s22.1.2.1.2.1.2.1 (st.nx s22) (d' := dc25) hc28) (fun r29 w30 h31 => ?_)
        obtain ⟨rfl, rfl, h31⟩ := h31
        have s32 := st.ad (k := 2) s22 h31 (st.len2 s22 (by omega)) (by omega)
        have s32n := h31.2.2.2.1
        have s32m := st.len2 s22 (by omega)
        have s32g : w 1 6 + 1 ≤ w30 1 6 := by omega
        have q33 := st.nums s32
        clear q24
        have q33c := q33.2.2.2.1
        show e_Pn 20 elay kcode eI nq13 dq14 151 (4, [(0, (1, 1))], [], w30) _
        replace hM : e_Rn 20 elay ecode eI d' 349 (73, [(2, (0, v17 275 78)), (0, (1, 275)), (1, (0, 6))], [], v27) r' v' := hM
        refine e_Pn.run (t' := (5, [(0, (1, 1))], [(1, 1)], w30)) kAlk 1 rfl ?_
        replace hM := hM.st (t' := (74, [(2, (0, v17 275 78)), (0, (1, 275)), (1, (0, 6))], [(0, 6)], v27)) (fun _ _ q => e_Pn.run eAlk 1 rfl q)
        have hs35 : ∀ x : Int, 6 ≤ x ∧ x ≤ 6 → (x = 6) := fun x h => by omega
        obtain h34 := hs35 (6) (by omega)
        · replace hM := hM.st (fun _ _ q => e_Pn.sw (tg := 195) eAlk rfl (by rw [h34]; rfl) q)
          replace hM := hM.st (t' := (196, [(2, (0, v17 275 78)), (0, (1, 275)), (1, (0, 6))], [(1, 275)], v27)) (fun _ _ q => e_Pn.run eAlk 1 rfl q)
          obtain ⟨dc36, r37, v38, hc39, hM⟩ := hM.ca rfl
          have uhc39 := hc39.pn (fun nq => uE_all nq 339 (by decide) _ _ s32.1.2.2.2.2.1)
          have z43 : stE N cd w30 v27 := st.zE s32 (by omega) (by omega)
          refine e_Pn.callA rfl (fun nq dq => e_Pn.and (eEg_all nq 158 339 (by decide) _ _ dq _ _ _ z43 hc39) (kE_all nq 158 (by decide) dq _ _ s32.1.2.2.2.1)) (fun r40 w41 h42 => ?_)
          obtain ⟨⟨rfl, rfl, h42⟩, -, h42k⟩ := h42
          rcases h42.symm with h42 | ⟨h42, h42p⟩
          · skip
            replace hM : e_Rn 20 elay ecode eI d' 349 (199, [(2, (0, v17 275 78)), (0, (1, 275)), (1, (0, 6))], [], v38) r' v' := hM
            obtain ⟨rfl, m44⟩ := (e_Rn.le eAlk [0, 1, 2] rfl rfl hM).pn (fun nq => v_349_199 (uhc39.2.rf s32.1.2.2.2.2.1) _ 6 (v17 275 78) v38 mq.r)
            show e_Pn 20 elay kcode eI nq13 dq14 151 (8, [(0, (1, 1))], [], w41) _
            refine e_Pn.ord kAlk [0] rfl rfl ((v_151_8 (h42k.rf s32.1.2.2.2.1) _  w41 kq.r).imp (fun r46 w47 k45 => ?_))
            obtain ⟨rfl, k45⟩ := k45
            show e_Pn 20 elay kcode eI n d 145 (240, [(0, (1, 1))], [], w47) _
            refine e_Pn.ord kAlk [0] rfl rfl ((v_145_240 (k45.rf (h42k.rf s32.1.2.2.2.1)) _  w47 kq.r).imp (fun r49 w50 k48 => ?_))
            obtain ⟨rfl, k48⟩ := k48
            exact ⟨rfl, rfl, Or.inr (rpF.tail h42 (k45.tr k48) m44)⟩
          have s51 := st.re (l' := w 1 13) (m' := v 275 82) (t' := w 1 12) (st.tr s32 h42) (Int.le_refl _) rfl (by omega) (by omega) (by omega)
          have q52 := st.nums s51
          clear q33
          have q52c := q52.2.2.2.1
          show e_Pn 20 elay kcode eI nq13 dq14 151 (8, [(0, (1, 1))], [], w41) _
          replace hM : e_Rn 20 elay ecode eI d' 349 (199, [(2, (0, v17 275 78)), (0, (1, 275)), (1, (0, 6))], [], v38) r' v' := hM
          refine e_Pn.run (t' := (11, [(0, (1, 1))], [(0, 18), (1, 1)], w41)) kAlk 2 rfl ?_
          replace hM := hM.st (t' := (203, [(2, (0, v17 275 78)), (0, (1, 275)), (1, (0, 6))], [(0, 44), (1, 275), (1, 275)], v38)) (fun _ _ q => e_Pn.run eAlk 3 rfl q)
          obtain ⟨dc53, r54, v55, hc56, hM⟩ := hM.ca rfl
          obtain ⟨z57, rfl, rfl, z57q⟩ := hc56.pn (fun nq => l_331)
          replace z57q := isS (kM_s44 s51.1.2.1.2.2.1) rfl rfl z57q
          replace hM : e_Rn 20 elay ecode eI d' 349 (206, [(2, (0, v17 275 78)), (0, (1, 275)), (1, (0, 6))], [(0, z57), (1, 275)], v38) r' v' := hM
          obtain ⟨dc58, r59, v60, hc61, hM⟩ := hM.ca rfl
          have uhc61 := hc61.pn (fun nq => u_334 s51.1.2.2.2.2.1)
          refine e_Pn.callA rfl (fun nq dq => e_Pn.and (t_129b s51.1.1 s51.1.2.1 z57q (d' := dc58) hc61) (u_129 s51.1.2.2.2.1)) (fun r62 w63 h64 => ?_)
          obtain ⟨⟨rfl, rfl, h64⟩, -, h64k⟩ := h64
          rcases h64.symm with h64 | ⟨h64c, h64⟩
          · skip
            replace hM : e_Rn 20 elay ecode eI d' 349 (209, [(2, (0, v17 275 78)), (0, (1, 275)), (1, (0, 6))], [], v60) r' v' := hM
            obtain ⟨rfl, m65⟩ := (e_Rn.le eAlk [0, 1, 2] rfl rfl hM).pn (fun nq => v_349_209 (uhc61.2.rf s51.1.2.2.2.2.1) _ 6 (v17 275 78) v60 mq.r)
            show e_Pn 20 elay kcode eI nq13 dq14 151 (14, [(0, (1, 1))], [], w63) _
            refine e_Pn.ord kAlk [0] rfl rfl ((v_151_14 (h64k.rf s51.1.2.2.2.1) _  w63 kq.r).imp (fun r67 w68 k66 => ?_))
            obtain ⟨rfl, k66⟩ := k66
            show e_Pn 20 elay kcode eI n d 145 (240, [(0, (1, 1))], [], w68) _
            refine e_Pn.ord kAlk [0] rfl rfl ((v_145_240 (k66.rf (h64k.rf s51.1.2.2.2.1)) _  w68 kq.r).imp (fun r70 w71 k69 => ?_))
            obtain ⟨rfl, k69⟩ := k69
            exact ⟨rfl, rfl, Or.inr (rpF.tail h64 (k66.tr k69) m65)⟩
          clear z57q
          have s72 := st.ad (k := 1) s51 h64 (st.len1 s51 (by omega)) (by omega)
          have s72n := h64.2.2.2.1
          have s72m := st.len1 s51 (by omega)
          have s72g : w 1 6 + 1 ≤ w63 1 6 := by omega
          have q73 := st.nums s72
          clear q52
          have q73c := q73.2.2.2.1
          show e_Pn 20 elay kcode eI nq13 dq14 151 (14, [(0, (1, 1))], [], w63) _
          replace hM : e_Rn 20 elay ecode eI d' 349 (209, [(2, (0, v17 275 78)), (0, (1, 275)), (1, (0, 6))], [], v60) r' v' := hM
          refine e_Pn.run (t' := (15, [(0, (1, 1))], [(1, 1)], w63)) kAlk 1 rfl ?_
          replace hM := hM.st (t' := (210, [(2, (0, v17 275 78)), (0, (1, 275)), (1, (0, 6))], [(1, 275)], v60)) (fun _ _ q => e_Pn.run eAlk 1 rfl q)
          obtain ⟨dc74, r75, v76, hc77, hM⟩ := hM.ca rfl
          have uhc77 := hc77.pn (fun nq => uE_all nq 339 (by decide) _ _ s72.1.2.2.2.2.1)
          have z81 : stE N cd w63 v60 := st.zE s72 (by omega) (by omega)
          refine e_Pn.callA rfl (fun nq dq => e_Pn.and (eEg_all nq 158 339 (by decide) _ _ dq _ _ _ z81 hc77) (kE_all nq 158 (by decide) dq _ _ s72.1.2.2.2.1)) (fun r78 w79 h80 => ?_)
          obtain ⟨⟨rfl, rfl, h80⟩, -, h80k⟩ := h80
          rcases h80.symm with h80 | ⟨h80, h80p⟩
          · skip
            replace hM : e_Rn 20 elay ecode eI d' 349 (213, [(2, (0, v17 275 78)), (0, (1, 275)), (1, (0, 6))], [], v76) r' v' := hM
            obtain ⟨rfl, m82⟩ := (e_Rn.le eAlk [0, 1, 2] rfl rfl hM).pn (fun nq => v_349_213 (uhc77.2.rf s72.1.2.2.2.2.1) _ 6 (v17 275 78) v76 mq.r)
            show e_Pn 20 elay kcode eI nq13 dq14 151 (18, [(0, (1, 1))], [], w79) _
            refine e_Pn.ord kAlk [0] rfl rfl ((v_151_18 (h80k.rf s72.1.2.2.2.1) _  w79 kq.r).imp (fun r84 w85 k83 => ?_))
            obtain ⟨rfl, k83⟩ := k83
            show e_Pn 20 elay kcode eI n d 145 (240, [(0, (1, 1))], [], w85) _
            refine e_Pn.ord kAlk [0] rfl rfl ((v_145_240 (k83.rf (h80k.rf s72.1.2.2.2.1)) _  w85 kq.r).imp (fun r87 w88 k86 => ?_))
            obtain ⟨rfl, k86⟩ := k86
            exact ⟨rfl, rfl, Or.inr (rpF.tail h80 (k83.tr k86) m82)⟩
          have s89 := st.re (l' := w 1 13) (m' := v 275 82) (t' := w 1 12) (st.tr s72 h80) (Int.le_refl _) rfl (by omega) (by omega) (by omega)
          have q90 := st.nums s89
          clear q73
          have q90c := q90.2.2.2.1
          show e_Pn 20 elay kcode eI nq13 dq14 151 (18, [(0, (1, 1))], [], w79) _
          replace hM : e_Rn 20 elay ecode eI d' 349 (213, [(2, (0, v17 275 78)), (0, (1, 275)), (1, (0, 6))], [], v76) r' v' := hM
          refine e_Pn.run (t' := (21, [(0, (1, 1))], [(0, 19), (1, 1)], w79)) kAlk 2 rfl ?_
          replace hM := hM.st (t' := (217, [(2, (0, v17 275 78)), (0, (1, 275)), (1, (0, 6))], [(0, 0), (0, 35), (1, 275)], v76)) (fun _ _ q => e_Pn.run eAlk 3 rfl q)
          obtain ⟨dc91, r92, v93, hc94, hM⟩ := hM.ca rfl
          obtain ⟨⟨z95, rfl⟩, v93f⟩ := hc94.pn (fun nq => x_336 s89.1.2.2.2.2.1)
          have v93m := mfr.rf v93f s89.1.2.2.2.2.1
          replace hM : e_Rn 20 elay ecode eI d' 349 (220, [(2, (0, v17 275 78)), (0, (1, 275)), (1, (0, 6))], [(0, z95)], v93) r' v' := hM
          replace hM := hM.st (t' := (399, [(2, (0, v17 275 78)), (0, (1, 275)), (1, (0, 6))], [(0, 59), (1, 275), (1, 275)], v93)) (fun _ _ q => e_Pn.run eAlk 5 rfl q)
          obtain ⟨dc96, r97, v98, hc99, hM⟩ := hM.ca rfl
          obtain ⟨z100, rfl, rfl, z100q⟩ := hc99.pn (fun nq => l_331)
          replace z100q := isS (kM_s59 s89.1.2.1.2.2.1) ((v93f 275 84 (by unfold mEm; omega)).trans rfl) ((v93f 275 85 (by unfold mEm; omega)).trans rfl) z100q
          replace hM : e_Rn 20 elay ecode eI d' 349 (402, [(2, (0, v17 275 78)), (0, (1, 275)), (1, (0, 6))], [(0, z100), (1, 275)], v93) r' v' := hM
          have e102a : w79 1 11 = w79 1 11 := rfl
          have e102b : v93 275 83 = v76 275 83 := (v93f 275 83 (by unfold mEm; omega))
          have e102c : w79 1 13 = w79 1 13 := rfl
          have e102d : v93 275 82 = v76 275 82 := (v93f 275 82 (by unfold mEm; omega))
          have e102f : w79 1 12 = w79 1 12 := rfl
          have e102e : v93 275 80 = v76 275 80 := (v93f 275 80 (by unfold mEm; omega))
          have s101 := st.gen (o' := 0) (l' := w 1 13) (m' := v 275 82) (t' := w 1 12) (b' := 0) s89 (e_fr.refl w79) (e_fr.trans (e_fr.refl v76) (e_fr.mono v93f (fun c k q => by unfold mEm at q; unfold mGs; omega))) (by omega) (by omega) (by omega) (by omega)
          have q103 := st.nums s101
          clear q90 e102a e102b e102c e102d e102e e102f
          have q103c := q103.2.2.2.1
          obtain ⟨dc104, r105, v106, hc107, hM⟩ := hM.ca rfl
          have uhc107 := hc107.pn (fun nq => u_334 s101.1.2.2.2.2.1)
          refine e_Pn.callA rfl (fun nq dq => e_Pn.and (t_129b s101.1.1 s101.1.2.1 z100q (d' := dc104) hc107) (u_129 s101.1.2.2.2.1)) (fun r108 w109 h110 => ?_)
          obtain ⟨⟨rfl, rfl, h110⟩, -, h110k⟩ := h110
          rcases h110.symm with h110 | ⟨h110c, h110⟩
          · skip
            replace hM : e_Rn 20 elay ecode eI d' 349 (405, [(2, (0, v17 275 78)), (0, (1, 275)), (1, (0, 6))], [], v106) r' v' := hM
            obtain ⟨rfl, m111⟩ := (e_Rn.le eAlk [0, 1, 2] rfl rfl hM).pn (fun nq => v_349_405 (uhc107.2.rf s101.1.2.2.2.2.1) _ 6 (v17 275 78) v106 mq.r)
            show e_Pn 20 elay kcode eI nq13 dq14 151 (24, [(0, (1, 1))], [], w109) _
            refine e_Pn.ord kAlk [0] rfl rfl ((v_151_24 (h110k.rf s101.1.2.2.2.1) _  w109 kq.r).imp (fun r113 w114 k112 => ?_))
            obtain ⟨rfl, k112⟩ := k112
            show e_Pn 20 elay kcode eI n d 145 (240, [(0, (1, 1))], [], w114) _
            refine e_Pn.ord kAlk [0] rfl rfl ((v_145_240 (k112.rf (h110k.rf s101.1.2.2.2.1)) _  w114 kq.r).imp (fun r116 w117 k115 => ?_))
            obtain ⟨rfl, k115⟩ := k115
            exact ⟨rfl, rfl, Or.inr (rpF.tail h110 (k112.tr k115) m111)⟩
          clear z100q
          have s118 := st.ad (k := 1) s101 h110 (st.len1 s101 (by omega)) (by omega)
          have s118n := h110.2.2.2.1
          have s118m := st.len1 s101 (by omega)
          have s118g : w 1 6 + 1 ≤ w109 1 6 := by omega
          have q119 := st.nums s118
          clear q103
          have q119c := q119.2.2.2.1
          show e_Pn 20 elay kcode eI nq13 dq14 151 (24, [(0, (1, 1))], [], w109) _
          replace hM : e_Rn 20 elay ecode eI d' 349 (405, [(2, (0, v17 275 78)), (0, (1, 275)), (1, (0, 6))], [], v106) r' v' := hM
          refine e_Pn.run (t' := (25, [(0, (1, 1))], [(1, 1)], w109)) kAlk 1 rfl ?_
          refine e_Pn.getr (z := cd) kAlk rfl rfl s118.1.2.2.2.1.2.1 (by omega) ?_
          refine e_Pn.run (t' := (31, [(0, (1, 1))], [(0, 0), (0, 30), (1, cd)], w109)) kAlk 2 rfl ?_
          refine e_Pn.callA rfl (fun nq dq => l_21 s118.1.2.2.2.1 (op := 30) (od := 0) (by omega) (by omega) s118.1.2.2.2.2.2.1) (fun r120 w121 h122 => ?_)
          obtain ⟨z123, rfl, w121f, w121q⟩ := h122
          have w121k := kRw.em s118.1.2.2.2.1 w121f
          have w121l := (emQ.len w121q s118.1.2.2.2.2.2.1).1
          have w121e : w121 1 5 = w109 1 5 ∧ w121 1 6 = w109 1 6 ∧ w121 1 8 = w109 1 8 := ⟨w121f 1 5 (by unfold kEm; omega), w121f 1 6 (by unfold kEm; omega), w121f 1 8 (by unfold kEm; omega)⟩
          have s124 := st.em s118 w121f w121q (by omega) (by unfold isCl3; omega)
          have q125 := st.nums s124
          clear q119
          have q125c := q125.2.2.2.1
          have z123r : 0 ≤ z123 ∧ z123 ≤ 4000 := emQ.z w121q s118.1.2.2.2.2.2.1
          show e_Pn 20 elay kcode eI nq13 dq14 151 (34, [(0, (1, 1))], [(0, z123)], w121) _
          refine e_Pn.run (t' := (35, [(0, (1, 1))], [], w121)) kAlk 1 rfl ?_
          refine e_Pn.ret0 rfl ?_
          show e_Pn 20 elay kcode eI n d 145 (240, [(0, (1, 1))], [], w121) _
          refine e_Pn.run (t' := (356, [(0, (1, 1))], [], w121)) kAlk 1 rfl ?_
          obtain ⟨rfl, rfl⟩ := hM.re0 rfl
          refine e_Pn.ret0 rfl ?_
          exact ⟨rfl, rfl, Or.inl ⟨st.re s124 (by omega) (by omega) (by omega) (by omega) (by omega), by omega⟩⟩
      · replace h21 : (6 : Int) = 17 := by have q : ¬ ((6 : Int) ≠ 17) := h21; omega
        exfalso; omega
end
