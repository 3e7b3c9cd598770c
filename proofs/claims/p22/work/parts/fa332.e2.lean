noncomputable section
/-! the readers in lockstep: statements -/
set_option maxHeartbeats 4000000 in
theorem e_144 {n : Nat} {N cd : Int} {w v : eW} (hz : st0 N cd w v) (hp : 1 ≤ w 1 6) (ihS : ∀ k, k < n → sE k) {d d' : Nat} {r' : List eV} {v' : eW} (hM : e_Rn 20 elay ecode eI d' 348 (0, [(0, (1, 275))], [], v) r' v') : e_Pn 20 elay kcode eI n d 144 (0, [(0, (1, 1))], [], w) (fun r w' => r = [] ∧ r' = [] ∧ (st N cd w v w' v' 0 0 0 (-1) (w 1 13) (v 275 82) (w 1 12) 2 ∨ rpF w' v')) := by
  have h0 := hz.st (ka := 2)
  have hm := hz.1.2.2.2.1.1.m
  have hn := hz.1.2.2.2.1.1.n
  have hzo := hz.2.2.2
  have q1 := st.nums h0
  have q1c := q1.2.2.2.1
  refine e_Pn.run (t' := (2, [(1, (0, 0)), (0, (1, 1))], [], w)) kAlk 2 rfl ?_
  have hL2 : ∀ nn4 : Nat, nn4 ≤ n → ∀ (tl5 tl6 : eL) (y1 : Int) (wl8 vl9 : eW), st N cd w v wl8 vl9 0 0 0 (-1) (w 1 13) (v 275 82) (w 1 12) 2 ∧ (0 ≤ y1 ∧ y1 + 1 ≤ wl8 1 6) → e_Rn 20 elay ecode eI d' 348 (0, (0, (1, 275)) :: tl6, [], vl9) r' v' → e_Pn 20 elay kcode eI nn4 d 144 (2, (0, (1, 1)) :: (1, (0, y1)) :: tl5, [], wl8) (fun r w' => r = [] ∧ r' = [] ∧ (st N cd w v w' v' 0 0 0 (-1) (w 1 13) (v 275 82) (w 1 12) 2 ∨ rpF w' v')) := by
    intro nn4
    induction nn4 with
    | zero => intro _ tl5 tl6 y1 wl8 vl9 _ _; exact e_Pn.zero
    | succ nn4 ih3 =>
      intro hn tl5 tl6 y1 wl8 vl9 hj7 hM
      obtain ⟨hj7, j10⟩ := hj7
      have q11 := st.nums hj7
      have q11c := q11.2.2.2.1
      refine e_Pn.runS (t' := (6, (0, (1, 1)) :: (1, (0, y1)) :: tl5, [(0, 4000), (0, y1)], wl8)) kAlk 1 rfl ?_
      refine e_Pn.if2 kAlk rfl (fun h12 => ?_) (fun h12 => ?_)
      · replace h12 : (y1 : Int) ≥ 4000 := h12
        exfalso; omega
      · replace h12 : (y1 : Int) < 4000 := by have q : ¬ ((y1 : Int) ≥ 4000) := h12; omega
        refine e_Pn.run (t' := (10, (0, (1, 1)) :: (1, (0, y1)) :: tl5, [(1, 1)], wl8)) kAlk 1 rfl ?_
        refine e_Pn.callI rfl (fun nq13 dq14 => ?_)
        show e_Pn 20 elay kcode eI nq13 dq14 143 (0, [(0, (1, 1))], [], wl8) _
        refine e_Pn.run (t' := (1, [(0, (1, 1))], [(1, 1)], wl8)) kAlk 1 rfl ?_
        refine e_Pn.getf (z := wl8 1 5) kAlk rfl rfl rfl (fun b15 => ?_)
        refine e_Pn.run (t' := (5, [(0, (1, 1))], [(0, 1), (0, wl8 1 5)], wl8)) kAlk 1 rfl ?_
        refine e_Pn.if2 kAlk rfl (fun h16 => ?_) (fun h16 => ?_)
        · replace h16 : (wl8 1 5 : Int) = 1 := h16
          refine e_Pn.run (t' := (45, [(0, (1, 1))], [(0, 1)], wl8)) kAlk 2 rfl ?_
          refine e_Pn.ret4 rfl ?_
          show e_Pn 20 elay kcode eI nn4 d 144 (13, (0, (1, 1)) :: (1, (0, y1)) :: tl5, [(0, 1)], wl8) _
          refine e_Pn.if1 kAlk rfl (fun h17 => ?_) (fun h17 => ?_)
          · replace h17 : (1 : Int) = 0 := h17
            exfalso; omega
          · replace h17 : (1 : Int) ≠ 0 := by have q : ¬ ((1 : Int) = 0) := h17; omega
            refine e_Pn.run (t' := (17, (0, (1, 1)) :: (1, (0, y1)) :: tl5, [(1, 1)], wl8)) kAlk 1 rfl ?_
            replace hM := hM.st (t' := (1, (0, (1, 275)) :: tl6, [(1, 275)], vl9)) (fun _ _ q => e_Pn.run eAlk 1 rfl q)
            obtain ⟨dhc18, r19, v20, hc18, hM⟩ := hM.ca rfl
            replace hc18 : e_Rn 20 elay ecode eI dhc18 347 (0, [(0, (1, 275))], [], vl9) r19 v20 := hc18
            replace hc18 := hc18.st (t' := (1, [(0, (1, 275))], [(1, 275)], vl9)) (fun _ _ q => e_Pn.run eAlk 1 rfl q)
            obtain ⟨b21, hc18⟩ := hc18.of (fun _ _ q => e_Pn.getf (z := 0) eAlk rfl rfl hj7.1.2.1.1.2 q)
            rcases hc18.or (fun _ _ q1 q2 => e_Pn.if1 eAlk rfl q1 q2) with ⟨h22, hc18⟩ | ⟨h22, hc18⟩
            · replace h22 : (0 : Int) ≠ 0 := h22
              exfalso; omega
            · replace h22 : (0 : Int) = 0 := by have q : ¬ ((0 : Int) ≠ 0) := h22; omega
              replace hc18 := hc18.st (t' := (8, [(0, (1, 275))], [(1, 275)], vl9)) (fun _ _ q => e_Pn.run eAlk 1 rfl q)
              obtain ⟨b23, hc18⟩ := hc18.of (fun _ _ q => e_Pn.getf (z := 1) eAlk rfl rfl (kM_k1 hj7.1.2.1.2.2.1 (by first | decide | omega)) q)
              replace hc18 := hc18.st (t' := (12, [(0, (1, 275))], [(0, 1), (0, 1)], vl9)) (fun _ _ q => e_Pn.run eAlk 1 rfl q)
              rcases hc18.or (fun _ _ q1 q2 => e_Pn.if2 eAlk rfl q1 q2) with ⟨h24, hc18⟩ | ⟨h24, hc18⟩
              · replace h24 : (1 : Int) = 1 := h24
                replace hc18 := hc18.st (t' := (63, [(0, (1, 275))], [(0, 1)], vl9)) (fun _ _ q => e_Pn.run eAlk 2 rfl q)
                obtain ⟨rfl, rfl⟩ := hc18.re4 rfl
                replace hM : e_Rn 20 elay ecode eI d' 348 (4, (0, (1, 275)) :: tl6, [(0, 1)], vl9) r' v' := hM
                rcases hM.or (fun _ _ q1 q2 => e_Pn.if1 eAlk rfl q1 q2) with ⟨h25, hM⟩ | ⟨h25, hM⟩
                · replace h25 : (1 : Int) = 0 := h25
                  exfalso; omega
                · replace h25 : (1 : Int) ≠ 0 := by have q : ¬ ((1 : Int) = 0) := h25; omega
                  replace hM := hM.st (t' := (8, (0, (1, 275)) :: tl6, [(1, 275)], vl9)) (fun _ _ q => e_Pn.run eAlk 1 rfl q)
                  obtain ⟨b26, hM⟩ := hM.of (fun _ _ q => e_Pn.getf (z := 1) eAlk rfl rfl (kM_k1 hj7.1.2.1.2.2.1 (by first | decide | omega)) q)
                  replace hM := hM.st (t' := (12, (0, (1, 275)) :: tl6, [(0, 1), (0, 1)], vl9)) (fun _ _ q => e_Pn.run eAlk 1 rfl q)
                  rcases hM.or (fun _ _ q1 q2 => e_Pn.if2 eAlk rfl q1 q2) with ⟨h27, hM⟩ | ⟨h27, hM⟩
                  · replace h27 : (1 : Int) ≠ 1 := h27
                    exfalso; omega
                  · replace h27 : (1 : Int) = 1 := by have q : ¬ ((1 : Int) ≠ 1) := h27; omega
                    replace hM := hM.st (t' := (19, (0, (1, 275)) :: tl6, [(0, 0), (0, 30), (1, 275)], vl9)) (fun _ _ q => e_Pn.run eAlk 3 rfl q)
                    obtain ⟨dc28, r29, v30, hc31, hM⟩ := hM.ca rfl
                    obtain ⟨⟨z32, rfl⟩, v30f⟩ := hc31.pn (fun nq => x_336 hj7.1.2.2.2.2.1)
                    have v30m := mfr.rf v30f hj7.1.2.2.2.2.1
                    replace hM : e_Rn 20 elay ecode eI d' 348 (22, (0, (1, 275)) :: tl6, [(0, z32)], v30) r' v' := hM
                    replace hM := hM.st (t' := (24, (0, (1, 275)) :: tl6, [(1, 275)], v30)) (fun _ _ q => e_Pn.run eAlk 2 rfl q)
                    obtain ⟨b33, hM⟩ := hM.of (fun _ _ q => e_Pn.getf (z := vl9 275 94) eAlk rfl rfl ((v30f 275 94 nf_mEm_275_94).trans rfl) q)
                    replace hM := hM.st (t' := (31, (1, (0, vl9 275 94)) :: (0, (1, 275)) :: List.filter (e_flt 0 1) tl6, [(0, 0), (0, 2), (1, 275)], v30)) (fun _ _ q => e_Pn.run eAlk 4 rfl q)
                    obtain ⟨dhc34, r35, v36, hc34, hM⟩ := hM.ca rfl
                    replace hc34 : e_Rn 20 elay ecode eI dhc34 338 (0, [(0, (1, 275)), (1, (0, 2)), (2, (0, 0))], [], v30) r35 v36 := hc34
                    replace hc34 := hc34.st (t' := (1, [(0, (1, 275)), (1, (0, 2)), (2, (0, 0))], [(1, 275)], v30)) (fun _ _ q => e_Pn.run eAlk 1 rfl q)
                    obtain ⟨b37, hc34⟩ := hc34.of (fun _ _ q => e_Pn.getf (z := 0) eAlk rfl rfl ((v30f 275 88 nf_mEm_275_88).trans hj7.1.2.1.1.2) q)
                    rcases hc34.or (fun _ _ q1 q2 => e_Pn.if1 eAlk rfl q1 q2) with ⟨h38, hc34⟩ | ⟨h38, hc34⟩
                    · replace h38 : (0 : Int) ≠ 0 := h38
                      exfalso; omega
                    · replace h38 : (0 : Int) = 0 := by have q : ¬ ((0 : Int) ≠ 0) := h38; omega
                      replace hc34 := hc34.st (t' := (8, [(0, (1, 275)), (1, (0, 2)), (2, (0, 0))], [(1, 275)], v30)) (fun _ _ q => e_Pn.run eAlk 1 rfl q)
                      obtain ⟨b39, hc34⟩ := hc34.of (fun _ _ q => e_Pn.getf (z := 1) eAlk rfl rfl ((v30f 275 84 nf_mEm_275_84).trans (kM_k1 hj7.1.2.1.2.2.1 (by first | decide | omega))) q)
                      replace hc34 := hc34.st (t' := (12, [(0, (1, 275)), (1, (0, 2)), (2, (0, 0))], [(0, 1), (0, 1)], v30)) (fun _ _ q => e_Pn.run eAlk 1 rfl q)
                      rcases hc34.or (fun _ _ q1 q2 => e_Pn.if2 eAlk rfl q1 q2) with ⟨h40, hc34⟩ | ⟨h40, hc34⟩
                      · replace h40 : (1 : Int) ≠ 1 := h40
                        exfalso; omega
                      · replace h40 : (1 : Int) = 1 := by have q : ¬ ((1 : Int) ≠ 1) := h40; omega
                        replace hc34 := hc34.st (t' := (16, [(0, (1, 275)), (1, (0, 2)), (2, (0, 0))], [(1, 275)], v30)) (fun _ _ q => e_Pn.run eAlk 1 rfl q)
                        replace hc34 := hc34.st (fun _ _ q => e_Pn.getr (z := 341) eAlk rfl rfl ((v30f 275 90 nf_mEm_275_90).trans (hj7.1.2.2.2.2.1 (90, 341) (by decide))) (by first | decide | omega) q)
                        replace hc34 := hc34.st (t' := (20, [(0, (1, 275)), (1, (0, 2)), (2, (0, 0))], [(1, 275), (1, 341)], v30)) (fun _ _ q => e_Pn.run eAlk 1 rfl q)
                        obtain ⟨b41, hc34⟩ := hc34.of (fun _ _ q => e_Pn.getf (z := vl9 275 94) eAlk rfl rfl ((v30f 275 94 nf_mEm_275_94).trans rfl) q)
                        replace hc34 := hc34.st (t' := (24, [(0, (1, 275)), (1, (0, 2)), (2, (0, 0))], [(0, 2), (0, vl9 275 94), (1, 341)], v30)) (fun _ _ q => e_Pn.run eAlk 1 rfl q)
                        obtain ⟨b42, b43, hc34⟩ := hc34.of2 (fun _ _ q => e_Pn.ast eAlk rfl rfl rfl q)
                        generalize hv44 : e_up v30 341 (vl9 275 94) 2 = v44 at hc34
                        have v44m := mRw.upd hv44 (fun _ => by first | decide | omega) v30m
                        replace hc34 := hc34.st (t' := (26, [(0, (1, 275)), (1, (0, 2)), (2, (0, 0))], [(1, 275)], v44)) (fun _ _ q => e_Pn.run eAlk 1 rfl q)
                        replace hc34 := hc34.st (fun _ _ q => e_Pn.getr (z := 342) eAlk rfl rfl (by rw [← hv44]; exact (e_up_ne _ _ (Or.inl (by first | decide | omega))).trans ((v30f 275 91 nf_mEm_275_91).trans (hj7.1.2.2.2.2.1 (91, 342) (by decide)))) (by first | decide | omega) q)
                        replace hc34 := hc34.st (t' := (30, [(0, (1, 275)), (1, (0, 2)), (2, (0, 0))], [(1, 275), (1, 342)], v44)) (fun _ _ q => e_Pn.run eAlk 1 rfl q)
                        obtain ⟨b45, hc34⟩ := hc34.of (fun _ _ q => e_Pn.getf (z := vl9 275 94) eAlk rfl rfl (by rw [← hv44]; exact (e_up_ne _ _ (Or.inl (by first | decide | omega))).trans ((v30f 275 94 nf_mEm_275_94).trans rfl)) q)
                        replace hc34 := hc34.st (t' := (34, [(0, (1, 275)), (1, (0, 2)), (2, (0, 0))], [(1, 275), (0, vl9 275 94), (1, 342)], v44)) (fun _ _ q => e_Pn.run eAlk 1 rfl q)
                        obtain ⟨b46, hc34⟩ := hc34.of (fun _ _ q => e_Pn.getf (z := vl9 275 86) eAlk rfl rfl (by rw [← hv44]; exact (e_up_ne _ _ (Or.inl (by first | decide | omega))).trans ((v30f 275 86 nf_mEm_275_86).trans rfl)) q)
                        obtain ⟨b47, b48, hc34⟩ := hc34.of2 (fun _ _ q => e_Pn.ast eAlk rfl rfl rfl q)
                        generalize hv49 : e_up v44 342 (vl9 275 94) (vl9 275 86) = v49 at hc34
                        have v49m := mRw.upd hv49 (fun _ => by first | decide | omega) v44m
                        replace hc34 := hc34.st (t' := (39, [(0, (1, 275)), (1, (0, 2)), (2, (0, 0))], [(1, 275)], v49)) (fun _ _ q => e_Pn.run eAlk 1 rfl q)
                        replace hc34 := hc34.st (fun _ _ q => e_Pn.getr (z := 343) eAlk rfl rfl (by rw [← hv49]; exact (e_up_ne _ _ (Or.inl (by first | decide | omega))).trans (by rw [← hv44]; exact (e_up_ne _ _ (Or.inl (by first | decide | omega))).trans ((v30f 275 92 nf_mEm_275_92).trans (hj7.1.2.2.2.2.1 (92, 343) (by decide))))) (by first | decide | omega) q)
                        replace hc34 := hc34.st (t' := (43, [(0, (1, 275)), (1, (0, 2)), (2, (0, 0))], [(1, 275), (1, 343)], v49)) (fun _ _ q => e_Pn.run eAlk 1 rfl q)
                        obtain ⟨b50, hc34⟩ := hc34.of (fun _ _ q => e_Pn.getf (z := vl9 275 94) eAlk rfl rfl (by rw [← hv49]; exact (e_up_ne _ _ (Or.inl (by first | decide | omega))).trans (by rw [← hv44]; exact (e_up_ne _ _ (Or.inl (by first | decide | omega))).trans ((v30f 275 94 nf_mEm_275_94).trans rfl))) q)
                        replace hc34 := hc34.st (t' := (47, [(0, (1, 275)), (1, (0, 2)), (2, (0, 0))], [(1, 275), (0, vl9 275 94), (1, 343)], v49)) (fun _ _ q => e_Pn.run eAlk 1 rfl q)
                        obtain ⟨b51, hc34⟩ := hc34.of (fun _ _ q => e_Pn.getf (z := vl9 275 87) eAlk rfl rfl (by rw [← hv49]; exact (e_up_ne _ _ (Or.inl (by first | decide | omega))).trans (by rw [← hv44]; exact (e_up_ne _ _ (Or.inl (by first | decide | omega))).trans ((v30f 275 87 nf_mEm_275_87).trans rfl))) q)
                        replace hc34 := hc34.st (t' := (51, [(0, (1, 275)), (1, (0, 2)), (2, (0, 0))], [(1, 275), (0, vl9 275 87), (0, vl9 275 94), (1, 343)], v49)) (fun _ _ q => e_Pn.run eAlk 1 rfl q)
                        obtain ⟨b52, hc34⟩ := hc34.of (fun _ _ q => e_Pn.getf (z := vl9 275 86) eAlk rfl rfl (by rw [← hv49]; exact (e_up_ne _ _ (Or.inl (by first | decide | omega))).trans (by rw [← hv44]; exact (e_up_ne _ _ (Or.inl (by first | decide | omega))).trans ((v30f 275 86 nf_mEm_275_86).trans rfl))) q)
                        replace hc34 := hc34.st (fun _ _ q => e_Pn.sub' (z := vl9 275 87 - vl9 275 86) eAlk rfl (by first | decide | omega) (by first | decide | omega) q)
                        obtain ⟨b53, b54, hc34⟩ := hc34.of2 (fun _ _ q => e_Pn.ast eAlk rfl rfl rfl q)
                        generalize hv55 : e_up v49 343 (vl9 275 94) (vl9 275 87 - vl9 275 86) = v55 at hc34
                        have v55m := mRw.upd hv55 (fun _ => by first | decide | omega) v49m
                        replace hc34 := hc34.st (t' := (57, [(0, (1, 275)), (1, (0, 2)), (2, (0, 0))], [(1, 275)], v55)) (fun _ _ q => e_Pn.run eAlk 1 rfl q)
                        replace hc34 := hc34.st (fun _ _ q => e_Pn.getr (z := 344) eAlk rfl rfl (by rw [← hv55]; exact (e_up_ne _ _ (Or.inl (by first | decide | omega))).trans (by rw [← hv49]; exact (e_up_ne _ _ (Or.inl (by first | decide | omega))).trans (by rw [← hv44]; exact (e_up_ne _ _ (Or.inl (by first | decide | omega))).trans ((v30f 275 93 nf_mEm_275_93).trans (hj7.1.2.2.2.2.1 (93, 344) (by decide)))))) (by first | decide | omega) q)
                        replace hc34 := hc34.st (t' := (61, [(0, (1, 275)), (1, (0, 2)), (2, (0, 0))], [(1, 275), (1, 344)], v55)) (fun _ _ q => e_Pn.run eAlk 1 rfl q)
                        obtain ⟨b56, hc34⟩ := hc34.of (fun _ _ q => e_Pn.getf (z := vl9 275 94) eAlk rfl rfl (by rw [← hv55]; exact (e_up_ne _ _ (Or.inl (by first | decide | omega))).trans (by rw [← hv49]; exact (e_up_ne _ _ (Or.inl (by first | decide | omega))).trans (by rw [← hv44]; exact (e_up_ne _ _ (Or.inl (by first | decide | omega))).trans ((v30f 275 94 nf_mEm_275_94).trans rfl)))) q)
                        replace hc34 := hc34.st (t' := (65, [(0, (1, 275)), (1, (0, 2)), (2, (0, 0))], [(0, 0), (0, vl9 275 94), (1, 344)], v55)) (fun _ _ q => e_Pn.run eAlk 1 rfl q)
                        obtain ⟨b57, b58, hc34⟩ := hc34.of2 (fun _ _ q => e_Pn.ast eAlk rfl rfl rfl q)
                        generalize hv59 : e_up v55 344 (vl9 275 94) 0 = v59 at hc34
                        have v59m := mRw.upd hv59 (fun _ => by first | decide | omega) v55m
                        replace hc34 := hc34.st (t' := (68, [(0, (1, 275)), (1, (0, 2)), (2, (0, 0))], [(1, 275), (1, 275)], v59)) (fun _ _ q => e_Pn.run eAlk 2 rfl q)
                        obtain ⟨b60, hc34⟩ := hc34.of (fun _ _ q => e_Pn.getf (z := vl9 275 94) eAlk rfl rfl (by rw [← hv59]; exact (e_up_ne _ _ (Or.inl (by first | decide | omega))).trans (by rw [← hv55]; exact (e_up_ne _ _ (Or.inl (by first | decide | omega))).trans (by rw [← hv49]; exact (e_up_ne _ _ (Or.inl (by first | decide | omega))).trans (by rw [← hv44]; exact (e_up_ne _ _ (Or.inl (by first | decide | omega))).trans ((v30f 275 94 nf_mEm_275_94).trans rfl))))) q)
                        replace hc34 := hc34.st (t' := (72, [(0, (1, 275)), (1, (0, 2)), (2, (0, 0))], [(0, 1), (0, vl9 275 94), (1, 275)], v59)) (fun _ _ q => e_Pn.run eAlk 1 rfl q)
                        replace hc34 := hc34.st (fun _ _ q => e_Pn.add (z := vl9 275 94 + 1) eAlk rfl (by first | decide | omega) (by first | decide | omega) q)
                        replace hc34 := hc34.st (fun _ _ q => e_Pn.putf eAlk rfl rfl q)
                        generalize hv61 : e_up v59 275 94 (vl9 275 94 + 1) = v61 at hc34
                        have v61m := mRw.upd hv61 (fun _ => by first | decide | omega) v59m
                        replace hc34 := hc34.st (t' := (78, [(0, (1, 275)), (1, (0, 2)), (2, (0, 0))], [(1, 275), (1, 275)], v61)) (fun _ _ q => e_Pn.run eAlk 2 rfl q)
                        obtain ⟨b62, hc34⟩ := hc34.of (fun _ _ q => e_Pn.getf (z := 1) eAlk rfl rfl (by rw [← hv61]; exact (e_up_ne _ _ (Or.inr (by first | decide | omega))).trans (by rw [← hv59]; exact (e_up_ne _ _ (Or.inl (by first | decide | omega))).trans (by rw [← hv55]; exact (e_up_ne _ _ (Or.inl (by first | decide | omega))).trans (by rw [← hv49]; exact (e_up_ne _ _ (Or.inl (by first | decide | omega))).trans (by rw [← hv44]; exact (e_up_ne _ _ (Or.inl (by first | decide | omega))).trans ((v30f 275 84 nf_mEm_275_84).trans (kM_k1 hj7.1.2.1.2.2.1 (by first | decide | omega)))))))) q)
                        replace hc34 := hc34.st (t' := (82, [(0, (1, 275)), (1, (0, 2)), (2, (0, 0))], [(0, 1), (0, 1), (1, 275)], v61)) (fun _ _ q => e_Pn.run eAlk 1 rfl q)
                        rcases hc34.or (fun _ _ q1 q2 => e_Pn.if2 eAlk rfl q1 q2) with ⟨h63, hc34⟩ | ⟨h63, hc34⟩
                        · replace h63 : (1 : Int) ≠ 1 := h63
                          exfalso; omega
                        · replace h63 : (1 : Int) = 1 := by have q : ¬ ((1 : Int) ≠ 1) := h63; omega
                          replace hc34 := hc34.st (t' := (90, [(0, (1, 275)), (1, (0, 2)), (2, (0, 0))], [(0, 1), (1, 275)], v61)) (fun _ _ q => e_Pn.run eAlk 2 rfl q)
                          refine e_Pn.callI rfl (fun nq64 dq65 => ?_)
                          show e_Pn 20 elay kcode eI nq64 dq65 145 (0, [(0, (1, 1))], [], wl8) _
                          refine e_Pn.run (t' := (1, [(0, (1, 1))], [(1, 1)], wl8)) kAlk 1 rfl ?_
                          refine e_Pn.getf (z := wl8 1 5) kAlk rfl rfl rfl (fun b66 => ?_)
                          refine e_Pn.run (t' := (6, [(0, (1, 1))], [(0, 41), (0, wl8 1 5)], wl8)) kAlk 1 rfl ?_
                          refine e_Pn.if2 kAlk rfl (fun h67 => ?_) (fun h67 => ?_)
                          · replace h67 : (wl8 1 5 : Int) = 41 := h67
                            exact (kM_no hj7.1.2.1.2.2.1 (fun a b => decide ((a : Int) = 1) && decide ((a : Int) = 41)) (fun a b c => true) (by decide) (by decide) (by simp only [Bool.and_eq_true, decide_eq_true_eq]; exact ⟨h16, h67⟩) rfl).elim
                          · replace h67 : (wl8 1 5 : Int) ≠ 41 := by have q : ¬ ((wl8 1 5 : Int) = 41) := h67; omega
                            refine e_Pn.run (t' := (10, [(0, (1, 1))], [(1, 1)], wl8)) kAlk 1 rfl ?_
                            refine e_Pn.getr (z := cd) kAlk rfl rfl hj7.1.2.2.2.1.2.1 (by first | decide | omega) ?_
                            refine e_Pn.run (t' := (16, [(0, (1, 1))], [(0, 0), (0, 50), (1, cd)], wl8)) kAlk 2 rfl ?_
                            refine e_Pn.callA rfl (fun nq dq => l_21 hj7.1.2.2.2.1 (op := 50) (od := 0) (by first | decide | omega) (by first | decide | omega) hj7.1.2.2.2.2.2.1) (fun r68 w69 h70 => ?_)
                            obtain ⟨z71, rfl, w69f, w69q⟩ := h70
                            have w69k := kRw.em hj7.1.2.2.2.1 w69f
                            have w69l := (emQ.len w69q hj7.1.2.2.2.2.2.1).1
                            have w69e : w69 1 5 = wl8 1 5 ∧ w69 1 6 = wl8 1 6 ∧ w69 1 8 = wl8 1 8 := ⟨w69f 1 5 (nf_kEm_1_5 hz.1.2.2.2.1.1), w69f 1 6 (nf_kEm_1_6 hz.1.2.2.2.1.1), w69f 1 8 (nf_kEm_1_8 hz.1.2.2.2.1.1)⟩
                            have s72 := st.em hj7 w69f w69q (by first | decide | omega) (by unfold isCl3; omega)
                            have q73 := st.nums s72
                            clear q11
                            have q73c := q73.2.2.2.1
                            have z71r : 0 ≤ z71 ∧ z71 ≤ 4000 := emQ.z w69q hj7.1.2.2.2.2.2.1
                            show e_Pn 20 elay kcode eI nq64 dq65 145 (19, [(0, (1, 1))], [(0, z71)], w69) _
                            refine e_Pn.run (t' := (21, [(0, (1, 1))], [(1, 1)], w69)) kAlk 2 rfl ?_
                            refine e_Pn.getf (z := wl8 1 5) kAlk rfl rfl ((w69f 1 5 (nf_kEm_1_5 hz.1.2.2.2.1.1)).trans rfl) (fun b74 => ?_)
                            have hs76 : ∀ x : Int, 1 ≤ x ∧ x ≤ 1 → (x = 1) := fun x h => by omega
                            obtain h75 := hs76 (wl8 1 5) (by first | decide | omega)
                            · refine e_Pn.sw (tg := 204) kAlk rfl (by rw [h75]; rfl) ?_
                              replace h75 : (wl8 1 5 : Int) = 1 := h75
                              refine e_Pn.run (t' := (205, [(0, (1, 1))], [(1, 1)], w69)) kAlk 1 rfl ?_
                              refine e_Pn.callI rfl (fun nq77 dq78 => ?_)
                              show e_Pn 20 elay kcode eI nq77 dq78 149 (0, [(0, (1, 1))], [], w69) _
                              refine e_Pn.run (t' := (1, [(0, (1, 1))], [(1, 1)], w69)) kAlk 1 rfl ?_
                              have hOw80 := NR.names s72.2.1 (by first | decide | omega)
                              refine e_Pn.callA rfl (fun nq dq => l_137 w69k s72.1.1.2.2.1 s72.1.1.2.2.2.1 s72.1.1.1.1 (by first | decide | omega) hOw80.1 (NR.v32 s72.2.1)) (fun r79 w80 h81 => ?_)
                              obtain ⟨z82, z82', rfl, w80q, w80c⟩ := h81
                              have w80f := usQ.fr w80c
                              have z82r := usQ.r w80q w80c (NR.v32 s72.2.1)
                              have w80k := kRw.rc w69k w80f
                              have w80l : 0 ≤ w80 cd 0 ∧ w80 cd 0 ≤ 4000 := by rw [w80f cd 0 (by unfold kRc; omega)]; exact w69l
                              have w80e : w80 1 5 = w69 1 5 ∧ w80 1 6 = w69 1 6 ∧ w80 1 8 = w69 1 8 := ⟨w80f 1 5 (by unfold kRc; omega), w80f 1 6 (by unfold kRc; omega), w80f 1 8 (by unfold kRc; omega)⟩
                              show e_Pn 20 elay kcode eI nq77 dq78 149 (4, [(0, (1, 1))], [(0, z82)], w80) _
                              refine e_Pn.run (t' := (6, [(1, (0, z82)), (0, (1, 1))], [(1, 1)], w80)) kAlk 2 rfl ?_
                              obtain ⟨dhc83, r84, v85, hc83, hc34⟩ := hc34.ca rfl
                              replace hc83 : e_Rn 20 elay ecode eI dhc83 334 (0, [(0, (1, 275)), (1, (0, 1))], [], v61) r84 v85 := hc83
                              replace hc83 := hc83.st (t' := (1, [(0, (1, 275)), (1, (0, 1))], [(1, 275)], v61)) (fun _ _ q => e_Pn.run eAlk 1 rfl q)
                              obtain ⟨b86, hc83⟩ := hc83.of (fun _ _ q => e_Pn.getf (z := 0) eAlk rfl rfl (by rw [← hv61]; exact (e_up_ne _ _ (Or.inr (by first | decide | omega))).trans (by rw [← hv59]; exact (e_up_ne _ _ (Or.inl (by first | decide | omega))).trans (by rw [← hv55]; exact (e_up_ne _ _ (Or.inl (by first | decide | omega))).trans (by rw [← hv49]; exact (e_up_ne _ _ (Or.inl (by first | decide | omega))).trans (by rw [← hv44]; exact (e_up_ne _ _ (Or.inl (by first | decide | omega))).trans ((v30f 275 88 nf_mEm_275_88).trans hj7.1.2.1.1.2)))))) q)
                              rcases hc83.or (fun _ _ q1 q2 => e_Pn.if1 eAlk rfl q1 q2) with ⟨h87, hc83⟩ | ⟨h87, hc83⟩
                              · replace h87 : (0 : Int) = 0 := h87
                                replace hc83 := hc83.st (t' := (9, [(0, (1, 275)), (1, (0, 1))], [(0, 1)], v61)) (fun _ _ q => e_Pn.run eAlk 1 rfl q)
                                rcases hc83.or (fun _ _ q1 q2 => e_Pn.if1 eAlk rfl q1 q2) with ⟨h88, hc83⟩ | ⟨h88, hc83⟩
                                · replace h88 : (1 : Int) = 0 := h88
                                  exfalso; omega
                                · replace h88 : (1 : Int) ≠ 0 := by have q : ¬ ((1 : Int) = 0) := h88; omega
                                  replace hc83 := hc83.st (t' := (13, [(0, (1, 275)), (1, (0, 1))], [(1, 275)], v61)) (fun _ _ q => e_Pn.run eAlk 1 rfl q)
                                  have e90a : w69 1 11 = w69 1 11 := rfl
                                  have e90b : v30 275 83 = vl9 275 83 := (v30f 275 83 nf_mEm_275_83)
                                  have e90c : w69 1 13 = w69 1 13 := rfl
                                  have e90d : v30 275 82 = vl9 275 82 := (v30f 275 82 nf_mEm_275_82)
                                  have e90f : w69 1 12 = w69 1 12 := rfl
                                  have e90e : v30 275 80 = vl9 275 80 := (v30f 275 80 nf_mEm_275_80)
                                  have s89 := st.gen (o' := 0) (l' := w 1 13) (m' := v 275 82) (t' := w 1 12) (b' := 0) s72 (e_fr.refl w69) (e_fr.trans (e_fr.refl vl9) (e_fr.mono v30f (fun c k q => by unfold mEm at q; unfold mGs; omega))) (by first | decide | omega) (by first | decide | omega) (by first | decide | omega) (by first | decide | omega)
                                  have q91 := st.nums s89
                                  clear q73 e90a e90b e90c e90d e90e e90f
                                  have q91c := q91.2.2.2.1
                                  have as9294 : v30 275 94 = vl9 275 94 := ((v30f 275 94 nf_mEm_275_94).trans rfl)
                                  have as9286 : v30 275 86 = vl9 275 86 := ((v30f 275 86 nf_mEm_275_86).trans rfl)
                                  have as9287 : v30 275 87 = vl9 275 87 := ((v30f 275 87 nf_mEm_275_87).trans rfl)
                                  obtain ⟨as92, as92g⟩ := nmA.mk hv44 hv49 hv55 hv59 hv61 (by first | decide | omega) (by first | decide | omega)
                                  have s92 := st.use (by decide) s89 (by first | decide | omega) w80q (usQ.c w80c) as92 (by first | decide | omega) (by first | decide | omega) as92g
                                  have q93 := st.nums s92
                                  clear q91
                                  have q93c := q93.2.2.2.1
                                  obtain ⟨dc94, r95, v96, hc97, hc83⟩ := hc83.ca rfl
                                  refine e_Pn.callA rfl (fun nq dq => t_123b s92.1.1 s92.1.2.1.1 s92.1.2.1.2.1.2.1 (st.nx s92) (d' := dc94) hc97) (fun r98 w99 h100 => ?_)
                                  obtain ⟨rfl, rfl, h100⟩ := h100
                                  have s101 := st.ad (k := 1) s92 h100 (st.len1 s92 (by first | decide | omega)) (by first | decide | omega)
                                  have s101n := h100.2.2.2.1
                                  have s101m := st.len1 s92 (by first | decide | omega)
                                  have s101g : w 1 6 + 1 ≤ w99 1 6 := by omega
                                  have q102 := st.nums s101
                                  clear q93
                                  have q102c := q102.2.2.2.1
                                  show e_Pn 20 elay kcode eI nq77 dq78 149 (9, [(1, (0, z82)), (0, (1, 1))], [], w99) _
                                  replace hc83 : e_Rn 20 elay ecode eI dhc83 334 (16, [(0, (1, 275)), (1, (0, 1))], [], v96) r84 v85 := hc83
                                  refine e_Pn.run (t' := (12, [(1, (0, z82)), (0, (1, 1))], [(0, 13), (1, 1)], w99)) kAlk 2 rfl ?_
                                  replace hc83 := hc83.st (t' := (24, [(0, (1, 275)), (1, (0, 1))], [], v96)) (fun _ _ q => e_Pn.run eAlk 1 rfl q)
                                  obtain ⟨rfl, rfl⟩ := hc83.re0 rfl
                                  replace hc34 : e_Rn 20 elay ecode eI dhc34 338 (93, [(0, (1, 275)), (1, (0, 2)), (2, (0, 0))], [], v96) r35 v36 := hc34
                                  obtain ⟨rfl, rfl⟩ := hc34.re0 rfl
                                  replace hM : e_Rn 20 elay ecode eI d' 348 (34, (1, (0, vl9 275 94)) :: (0, (1, 275)) :: List.filter (e_flt 0 1) tl6, [], v96) r' v' := hM
                                  replace hM := hM.st (t' := (38, (1, (0, vl9 275 94)) :: (0, (1, 275)) :: List.filter (e_flt 0 1) tl6, [(0, 61), (1, 275), (1, 275)], v96)) (fun _ _ q => e_Pn.run eAlk 3 rfl q)
                                  obtain ⟨dc103, r104, v105, hc106, hM⟩ := hM.ca rfl
                                  obtain ⟨z107, rfl, rfl, z107q⟩ := hc106.pn (fun nq => l_331)
                                  replace z107q := isS (kM_s61 s101.1.2.1.2.2.1) rfl rfl z107q
                                  replace hM : e_Rn 20 elay ecode eI d' 348 (41, (1, (0, vl9 275 94)) :: (0, (1, 275)) :: List.filter (e_flt 0 1) tl6, [(0, z107), (1, 275)], v96) r' v' := hM
                                  obtain ⟨dc108, r109, v110, hc111, hM⟩ := hM.ca rfl
                                  have uhc111 := hc111.pn (fun nq => u_334 s101.1.2.2.2.2.1)
                                  refine e_Pn.callA rfl (fun nq dq => e_Pn.and (t_129b s101.1.1 s101.1.2.1 z107q (d' := dc108) hc111) (u_129 s101.1.2.2.2.1)) (fun r112 w113 h114 => ?_)
                                  obtain ⟨⟨rfl, rfl, h114⟩, -, h114k⟩ := h114
                                  rcases h114.symm with h114 | ⟨h114c, h114⟩
                                  · skip
                                    replace hM : e_Rn 20 elay ecode eI d' 348 (44, (1, (0, vl9 275 94)) :: (0, (1, 275)) :: List.filter (e_flt 0 1) tl6, [], v110) r' v' := hM
                                    obtain ⟨rfl, m115⟩ := (e_Rn.le eAlk [0, 1] rfl rfl hM).pn (fun nq => v_348_44 (uhc111.2.rf s101.1.2.2.2.2.1) _ (vl9 275 94) v110 mq.r)
                                    show e_Pn 20 elay kcode eI nq77 dq78 149 (15, [(1, (0, z82)), (0, (1, 1))], [], w113) _
                                    refine e_Pn.ord kAlk [0, 1] rfl rfl ((v_149_15 (h114k.rf s101.1.2.2.2.1) _ z82 w113 kq.r).imp (fun r117 w118 k116 => ?_))
                                    obtain ⟨rfl, k116⟩ := k116
                                    show e_Pn 20 elay kcode eI nq64 dq65 145 (208, [(0, (1, 1))], [], w118) _
                                    refine e_Pn.ord kAlk [0] rfl rfl ((v_145_208 (k116.rf (h114k.rf s101.1.2.2.2.1)) _  w118 kq.r).imp (fun r120 w121 k119 => ?_))
                                    obtain ⟨rfl, k119⟩ := k119
                                    show e_Pn 20 elay kcode eI nn4 d 144 (20, (0, (1, 1)) :: (1, (0, y1)) :: tl5, [], w121) _
                                    refine e_Pn.ord kAlk [0, 1] rfl rfl ((v_144_20 (k119.rf (k116.rf (h114k.rf s101.1.2.2.2.1))) _ y1 w121 kq.r).imp (fun r123 w124 k122 => ?_))
                                    obtain ⟨rfl, k122⟩ := k122
                                    exact ⟨rfl, rfl, Or.inr (rpF.tail h114 ((k116.tr k119).tr k122) m115)⟩
                                  clear z107q
                                  have s125 := st.ad (k := 1) s101 h114 (st.len1 s101 (by first | decide | omega)) (by first | decide | omega)
                                  have s125n := h114.2.2.2.1
                                  have s125m := st.len1 s101 (by first | decide | omega)
                                  have s125g : w 1 6 + 1 ≤ w113 1 6 := by omega
                                  have q126 := st.nums s125
                                  clear q102
                                  have q126c := q126.2.2.2.1
                                  show e_Pn 20 elay kcode eI nq77 dq78 149 (15, [(1, (0, z82)), (0, (1, 1))], [], w113) _
                                  replace hM : e_Rn 20 elay ecode eI d' 348 (44, (1, (0, vl9 275 94)) :: (0, (1, 275)) :: List.filter (e_flt 0 1) tl6, [], v110) r' v' := hM
                                  refine e_Pn.run (t' := (16, [(1, (0, z82)), (0, (1, 1))], [(1, 1)], w113)) kAlk 1 rfl ?_
                                  replace hM := hM.st (t' := (45, (1, (0, vl9 275 94)) :: (0, (1, 275)) :: List.filter (e_flt 0 1) tl6, [(1, 275)], v110)) (fun _ _ q => e_Pn.run eAlk 1 rfl q)
                                  obtain ⟨dc127, r128, v129, hc130, hM⟩ := hM.ca rfl
                                  have uhc130 := hc130.pn (fun nq => uE_all nq 339 (by decide) _ _ s125.1.2.2.2.2.1)
                                  have z134 : stE N cd w113 v110 := st.zE s125 (by first | decide | omega) (by first | decide | omega)
                                  refine e_Pn.callA rfl (fun nq dq => e_Pn.and (eEg_all nq 158 339 (by decide) _ _ dq _ _ _ z134 hc130) (kE_all nq 158 (by decide) dq _ _ s125.1.2.2.2.1)) (fun r131 w132 h133 => ?_)
                                  obtain ⟨⟨rfl, rfl, h133⟩, -, h133k⟩ := h133
                                  rcases h133.symm with h133 | ⟨h133, h133p⟩
                                  · skip
                                    replace hM : e_Rn 20 elay ecode eI d' 348 (48, (1, (0, vl9 275 94)) :: (0, (1, 275)) :: List.filter (e_flt 0 1) tl6, [], v129) r' v' := hM
                                    obtain ⟨rfl, m135⟩ := (e_Rn.le eAlk [0, 1] rfl rfl hM).pn (fun nq => v_348_48 (uhc130.2.rf s125.1.2.2.2.2.1) _ (vl9 275 94) v129 mq.r)
                                    show e_Pn 20 elay kcode eI nq77 dq78 149 (19, [(1, (0, z82)), (0, (1, 1))], [], w132) _
                                    refine e_Pn.ord kAlk [0, 1] rfl rfl ((v_149_19 (h133k.rf s125.1.2.2.2.1) _ z82 w132 kq.r).imp (fun r137 w138 k136 => ?_))
                                    obtain ⟨rfl, k136⟩ := k136
                                    show e_Pn 20 elay kcode eI nq64 dq65 145 (208, [(0, (1, 1))], [], w138) _
                                    refine e_Pn.ord kAlk [0] rfl rfl ((v_145_208 (k136.rf (h133k.rf s125.1.2.2.2.1)) _  w138 kq.r).imp (fun r140 w141 k139 => ?_))
                                    obtain ⟨rfl, k139⟩ := k139
                                    show e_Pn 20 elay kcode eI nn4 d 144 (20, (0, (1, 1)) :: (1, (0, y1)) :: tl5, [], w141) _
                                    refine e_Pn.ord kAlk [0, 1] rfl rfl ((v_144_20 (k139.rf (k136.rf (h133k.rf s125.1.2.2.2.1))) _ y1 w141 kq.r).imp (fun r143 w144 k142 => ?_))
                                    obtain ⟨rfl, k142⟩ := k142
                                    exact ⟨rfl, rfl, Or.inr (rpF.tail h133 ((k136.tr k139).tr k142) m135)⟩
                                  have s145 := st.re (l' := w 1 13) (m' := v 275 82) (t' := w 1 12) (st.tr s125 h133) (Int.le_refl _) rfl (by first | decide | omega) (by first | decide | omega) (by first | decide | omega)
                                  have q146 := st.nums s145
                                  clear q126
                                  have q146c := q146.2.2.2.1
                                  show e_Pn 20 elay kcode eI nq77 dq78 149 (19, [(1, (0, z82)), (0, (1, 1))], [], w132) _
                                  replace hM : e_Rn 20 elay ecode eI d' 348 (48, (1, (0, vl9 275 94)) :: (0, (1, 275)) :: List.filter (e_flt 0 1) tl6, [], v129) r' v' := hM
                                  refine e_Pn.run (t' := (22, [(1, (0, z82)), (0, (1, 1))], [(0, 19), (1, 1)], w132)) kAlk 2 rfl ?_
                                  replace hM := hM.st (t' := (52, (1, (0, vl9 275 94)) :: (0, (1, 275)) :: List.filter (e_flt 0 1) tl6, [(0, 59), (1, 275), (1, 275)], v129)) (fun _ _ q => e_Pn.run eAlk 3 rfl q)
                                  obtain ⟨dc147, r148, v149, hc150, hM⟩ := hM.ca rfl
                                  obtain ⟨z151, rfl, rfl, z151q⟩ := hc150.pn (fun nq => l_331)
                                  replace z151q := isS (kM_s59 s145.1.2.1.2.2.1) rfl rfl z151q
                                  replace hM : e_Rn 20 elay ecode eI d' 348 (55, (1, (0, vl9 275 94)) :: (0, (1, 275)) :: List.filter (e_flt 0 1) tl6, [(0, z151), (1, 275)], v129) r' v' := hM
                                  obtain ⟨dc152, r153, v154, hc155, hM⟩ := hM.ca rfl
                                  have uhc155 := hc155.pn (fun nq => u_334 s145.1.2.2.2.2.1)
                                  refine e_Pn.callA rfl (fun nq dq => e_Pn.and (t_129b s145.1.1 s145.1.2.1 z151q (d' := dc152) hc155) (u_129 s145.1.2.2.2.1)) (fun r156 w157 h158 => ?_)
                                  obtain ⟨⟨rfl, rfl, h158⟩, -, h158k⟩ := h158
                                  rcases h158.symm with h158 | ⟨h158c, h158⟩
                                  · skip
                                    replace hM : e_Rn 20 elay ecode eI d' 348 (58, (1, (0, vl9 275 94)) :: (0, (1, 275)) :: List.filter (e_flt 0 1) tl6, [], v154) r' v' := hM
                                    obtain ⟨rfl, m159⟩ := (e_Rn.le eAlk [0, 1] rfl rfl hM).pn (fun nq => v_348_58 (uhc155.2.rf s145.1.2.2.2.2.1) _ (vl9 275 94) v154 mq.r)
                                    show e_Pn 20 elay kcode eI nq77 dq78 149 (25, [(1, (0, z82)), (0, (1, 1))], [], w157) _
                                    refine e_Pn.ord kAlk [0, 1] rfl rfl ((v_149_25 (h158k.rf s145.1.2.2.2.1) _ z82 w157 kq.r).imp (fun r161 w162 k160 => ?_))
                                    obtain ⟨rfl, k160⟩ := k160
                                    show e_Pn 20 elay kcode eI nq64 dq65 145 (208, [(0, (1, 1))], [], w162) _
                                    refine e_Pn.ord kAlk [0] rfl rfl ((v_145_208 (k160.rf (h158k.rf s145.1.2.2.2.1)) _  w162 kq.r).imp (fun r164 w165 k163 => ?_))
                                    obtain ⟨rfl, k163⟩ := k163
                                    show e_Pn 20 elay kcode eI nn4 d 144 (20, (0, (1, 1)) :: (1, (0, y1)) :: tl5, [], w165) _
                                    refine e_Pn.ord kAlk [0, 1] rfl rfl ((v_144_20 (k163.rf (k160.rf (h158k.rf s145.1.2.2.2.1))) _ y1 w165 kq.r).imp (fun r167 w168 k166 => ?_))
                                    obtain ⟨rfl, k166⟩ := k166
                                    exact ⟨rfl, rfl, Or.inr (rpF.tail h158 ((k160.tr k163).tr k166) m159)⟩
                                  clear z151q
                                  have s169 := st.ad (k := 1) s145 h158 (st.len1 s145 (by first | decide | omega)) (by first | decide | omega)
                                  have s169n := h158.2.2.2.1
                                  have s169m := st.len1 s145 (by first | decide | omega)
                                  have s169g : w 1 6 + 1 ≤ w157 1 6 := by omega
                                  have q170 := st.nums s169
                                  clear q146
                                  have q170c := q170.2.2.2.1
                                  show e_Pn 20 elay kcode eI nq77 dq78 149 (25, [(1, (0, z82)), (0, (1, 1))], [], w157) _
                                  replace hM : e_Rn 20 elay ecode eI d' 348 (58, (1, (0, vl9 275 94)) :: (0, (1, 275)) :: List.filter (e_flt 0 1) tl6, [], v154) r' v' := hM
                                  refine e_Pn.run (t' := (26, [(1, (0, z82)), (0, (1, 1))], [(1, 1)], w157)) kAlk 1 rfl ?_
                                  refine e_Pn.getr (z := cd) kAlk rfl rfl s169.1.2.2.2.1.2.1 (by first | decide | omega) ?_
                                  refine e_Pn.run (t' := (32, [(1, (0, z82)), (0, (1, 1))], [(0, z82), (0, 25), (1, cd)], w157)) kAlk 2 rfl ?_
                                  refine e_Pn.callA rfl (fun nq dq => l_21 s169.1.2.2.2.1 (op := 25) (od := z82) (by first | decide | omega) (by first | decide | omega) s169.1.2.2.2.2.2.1) (fun r171 w172 h173 => ?_)
                                  obtain ⟨z174, rfl, w172f, w172q⟩ := h173
                                  have w172k := kRw.em s169.1.2.2.2.1 w172f
                                  have w172l := (emQ.len w172q s169.1.2.2.2.2.2.1).1
                                  have w172e : w172 1 5 = w157 1 5 ∧ w172 1 6 = w157 1 6 ∧ w172 1 8 = w157 1 8 := ⟨w172f 1 5 (nf_kEm_1_5 hz.1.2.2.2.1.1), w172f 1 6 (nf_kEm_1_6 hz.1.2.2.2.1.1), w172f 1 8 (nf_kEm_1_8 hz.1.2.2.2.1.1)⟩
                                  have s175 := st.em s169 w172f w172q (by first | decide | omega) (by unfold isCl3; omega)
                                  have q176 := st.nums s175
                                  clear q170
                                  have q176c := q176.2.2.2.1
                                  have z174r : 0 ≤ z174 ∧ z174 ≤ 4000 := emQ.z w172q s169.1.2.2.2.2.2.1
                                  show e_Pn 20 elay kcode eI nq77 dq78 149 (35, [(1, (0, z82)), (0, (1, 1))], [(0, z174)], w172) _
                                  refine e_Pn.run (t' := (36, [(1, (0, z82)), (0, (1, 1))], [], w172)) kAlk 1 rfl ?_
                                  refine e_Pn.ret0 rfl ?_
                                  show e_Pn 20 elay kcode eI nq64 dq65 145 (208, [(0, (1, 1))], [], w172) _
                                  refine e_Pn.run (t' := (356, [(0, (1, 1))], [], w172)) kAlk 1 rfl ?_
                                  refine e_Pn.ret0 rfl ?_
                                  show e_Pn 20 elay kcode eI nn4 d 144 (20, (0, (1, 1)) :: (1, (0, y1)) :: tl5, [], w172) _
                                  refine e_Pn.inc (z := y1 + 1) kAlk rfl rfl (by first | decide | omega) (by first | decide | omega) ?_
                                  show e_Pn 20 elay kcode eI nn4 d 144 (23, (1, (0, y1 + 1)) :: (0, (1, 1)) :: List.filter (e_flt 0 1) tl5, [], w172) _
                                  refine e_Pn.run (t' := (2, (1, (0, y1 + 1)) :: (0, (1, 1)) :: List.filter (e_flt 0 1) tl5, [], w172)) kAlk 1 rfl ?_
                                  replace hM := hM.st (t' := (59, (1, (0, vl9 275 94)) :: (0, (1, 275)) :: List.filter (e_flt 0 1) tl6, [(1, 275)], v154)) (fun _ _ q => e_Pn.run eAlk 1 rfl q)
                                  replace hM := hM.st (fun _ _ q => e_Pn.getr (z := 344) eAlk rfl rfl (s169.1.2.2.2.2.1 (93, 344) (by decide)) (by first | decide | omega) q)
                                  replace hM := hM.st (t' := (67, (1, (0, vl9 275 94)) :: (0, (1, 275)) :: List.filter (e_flt 0 1) tl6, [(0, 0), (0, 31), (1, 275), (0, vl9 275 94), (1, 344)], v154)) (fun _ _ q => e_Pn.run eAlk 4 rfl q)
                                  obtain ⟨dc177, r178, v179, hc180, hM⟩ := hM.ca rfl
                                  obtain ⟨⟨z181, rfl⟩, v179f⟩ := hc180.pn (fun nq => x_336 s169.1.2.2.2.2.1)
                                  have v179m := mfr.rf v179f s169.1.2.2.2.2.1
                                  replace hM : e_Rn 20 elay ecode eI d' 348 (70, (1, (0, vl9 275 94)) :: (0, (1, 275)) :: List.filter (e_flt 0 1) tl6, [(0, z181), (0, vl9 275 94), (1, 344)], v179) r' v' := hM
                                  obtain ⟨b182, b183, hM⟩ := hM.of2 (fun _ _ q => e_Pn.ast eAlk rfl rfl rfl q)
                                  generalize hv184 : e_up v179 344 (vl9 275 94) z181 = v184 at hM
                                  have v184m := mRw.upd hv184 (fun _ => by first | decide | omega) v179m
                                  replace hM := hM.st (t' := (0, (1, (0, vl9 275 94)) :: (0, (1, 275)) :: List.filter (e_flt 0 1) tl6, [], v184)) (fun _ _ q => e_Pn.run eAlk 1 rfl q)
                                  have e186a : w172 1 11 = w172 1 11 := rfl
                                  have e186b : v184 275 83 = v154 275 83 := (Eq.trans (show v184 275 83 = v179 275 83 by rw [← hv184]; exact e_up_ne _ _ (Or.inl (by first | decide | omega))) (v179f 275 83 nf_mEm_275_83))
                                  have e186c : w172 1 13 = w172 1 13 := rfl
                                  have e186d : v184 275 82 = v154 275 82 := (Eq.trans (show v184 275 82 = v179 275 82 by rw [← hv184]; exact e_up_ne _ _ (Or.inl (by first | decide | omega))) (v179f 275 82 nf_mEm_275_82))
                                  have e186f : w172 1 12 = w172 1 12 := rfl
                                  have e186e : v184 275 80 = v154 275 80 := (Eq.trans (show v184 275 80 = v179 275 80 by rw [← hv184]; exact e_up_ne _ _ (Or.inl (by first | decide | omega))) (v179f 275 80 nf_mEm_275_80))
                                  have s185 := st.gen (o' := 0) (l' := w 1 13) (m' := v 275 82) (t' := w 1 12) (b' := 0) s175 (e_fr.refl w172) (e_fr.up (e_fr.trans (e_fr.refl v154) (e_fr.mono v179f (fun c k q => by unfold mEm at q; unfold mGs; omega))) hv184 pf_mGs_344_x) (by first | decide | omega) (by first | decide | omega) (by first | decide | omega) (by first | decide | omega)
                                  have q187 := st.nums s185
                                  clear q176 e186a e186b e186c e186d e186e e186f
                                  have q187c := q187.2.2.2.1
                                  exact e_Pn.ord kAlk [0, 1] rfl rfl (ih3 (by first | decide | omega) _ _ (y1 + 1) w172 v184 ⟨(st.re s185 (by first | decide | omega) (by first | decide | omega) (by first | decide | omega) (by first | decide | omega) (by first | decide | omega)), (by first | decide | omega)⟩ (e_Rn.le eAlk [0] rfl rfl hM))
                              · replace h87 : (0 : Int) ≠ 0 := by have q : ¬ ((0 : Int) = 0) := h87; omega
                                exact (kM_no hj7.1.2.1.2.2.1 (fun a b => decide ((a : Int) = 1) && decide ((a : Int) ≠ 41) && decide ((a : Int) = 1) && decide ((0 : Int) ≠ 0)) (fun a b c => true) (by decide) (by decide) (by simp only [Bool.and_eq_true, decide_eq_true_eq]; exact ⟨⟨⟨h16, h67⟩, h75⟩, h87⟩) rfl).elim
              · replace h24 : (1 : Int) ≠ 1 := by have q : ¬ ((1 : Int) = 1) := h24; omega
                exact (kM_no hj7.1.2.1.2.2.1 (fun a b => decide ((a : Int) = 1) && decide ((1 : Int) ≠ 1)) (fun a b c => true) (by decide) (by decide) (by simp only [Bool.and_eq_true, decide_eq_true_eq]; exact ⟨h16, h24⟩) rfl).elim
        · replace h16 : (wl8 1 5 : Int) ≠ 1 := by have q : ¬ ((wl8 1 5 : Int) = 1) := h16; omega
          refine e_Pn.run (t' := (9, [(0, (1, 1))], [(1, 1)], wl8)) kAlk 1 rfl ?_
          refine e_Pn.getf (z := wl8 1 5) kAlk rfl rfl rfl (fun b188 => ?_)
          refine e_Pn.run (t' := (16, [(0, (1, 1))], [(0, 39), (0, 24), (0, wl8 1 5)], wl8)) kAlk 2 rfl ?_
          refine e_Pn.callI rfl (fun nq189 dq190 => ?_)
          show e_Pn 20 elay kcode eI nq189 dq190 242 (0, [(0, (0, wl8 1 5)), (1, (0, 24)), (2, (0, 39))], [], wl8) _
          refine e_Pn.run (t' := (2, [(0, (0, wl8 1 5)), (1, (0, 24)), (2, (0, 39))], [(0, wl8 1 5), (0, 24)], wl8)) kAlk 2 rfl ?_
          refine e_Pn.if2 kAlk rfl (fun h191 => ?_) (fun h191 => ?_)
          · replace h191 : (24 : Int) > wl8 1 5 := h191
            refine e_Pn.run (t' := (15, [(0, (0, wl8 1 5)), (1, (0, 24)), (2, (0, 39))], [(0, 0)], wl8)) kAlk 1 rfl ?_
            refine e_Pn.ret4 rfl ?_
            show e_Pn 20 elay kcode eI nq13 dq14 143 (19, [(0, (1, 1))], [(0, 0)], wl8) _
            refine e_Pn.if1 kAlk rfl (fun h192 => ?_) (fun h192 => ?_)
            · replace h192 : (0 : Int) ≠ 0 := h192
              exfalso; omega
            · replace h192 : (0 : Int) = 0 := by have q : ¬ ((0 : Int) ≠ 0) := h192; omega
              refine e_Pn.run (t' := (23, [(0, (1, 1))], [(1, 1)], wl8)) kAlk 1 rfl ?_
              refine e_Pn.getf (z := wl8 1 5) kAlk rfl rfl rfl (fun b193 => ?_)
              refine e_Pn.run (t' := (28, [(0, (1, 1))], [(0, 41), (0, wl8 1 5)], wl8)) kAlk 1 rfl ?_
              refine e_Pn.if2 kAlk rfl (fun h194 => ?_) (fun h194 => ?_)
              · replace h194 : (wl8 1 5 : Int) = 41 := h194
                exact (kM_no hj7.1.2.1.2.2.1 (fun a b => decide ((a : Int) ≠ 1) && decide ((24 : Int) > a) && decide ((a : Int) = 41)) (fun a b c => true) (by decide) (by decide) (by simp only [Bool.and_eq_true, decide_eq_true_eq]; exact ⟨⟨h16, h191⟩, h194⟩) rfl).elim
              · replace h194 : (wl8 1 5 : Int) ≠ 41 := by have q : ¬ ((wl8 1 5 : Int) = 41) := h194; omega
                refine e_Pn.run (t' := (32, [(0, (1, 1))], [(1, 1)], wl8)) kAlk 1 rfl ?_
                refine e_Pn.getf (z := wl8 1 5) kAlk rfl rfl rfl (fun b195 => ?_)
                refine e_Pn.run (t' := (37, [(0, (1, 1))], [(0, 42), (0, wl8 1 5)], wl8)) kAlk 1 rfl ?_
                refine e_Pn.if2 kAlk rfl (fun h196 => ?_) (fun h196 => ?_)
                · replace h196 : (wl8 1 5 : Int) ≠ 42 := h196
                  refine e_Pn.run (t' := (45, [(0, (1, 1))], [(0, 0)], wl8)) kAlk 1 rfl ?_
                  refine e_Pn.ret4 rfl ?_
                  show e_Pn 20 elay kcode eI nn4 d 144 (13, (0, (1, 1)) :: (1, (0, y1)) :: tl5, [(0, 0)], wl8) _
                  refine e_Pn.if1 kAlk rfl (fun h197 => ?_) (fun h197 => ?_)
                  · replace h197 : (0 : Int) = 0 := h197
                    replace hM := hM.st (t' := (1, (0, (1, 275)) :: tl6, [(1, 275)], vl9)) (fun _ _ q => e_Pn.run eAlk 1 rfl q)
                    obtain ⟨dhc198, r199, v200, hc198, hM⟩ := hM.ca rfl
                    replace hc198 : e_Rn 20 elay ecode eI dhc198 347 (0, [(0, (1, 275))], [], vl9) r199 v200 := hc198
                    replace hc198 := hc198.st (t' := (1, [(0, (1, 275))], [(1, 275)], vl9)) (fun _ _ q => e_Pn.run eAlk 1 rfl q)
                    obtain ⟨b201, hc198⟩ := hc198.of (fun _ _ q => e_Pn.getf (z := 0) eAlk rfl rfl hj7.1.2.1.1.2 q)
                    rcases hc198.or (fun _ _ q1 q2 => e_Pn.if1 eAlk rfl q1 q2) with ⟨h202, hc198⟩ | ⟨h202, hc198⟩
                    · replace h202 : (0 : Int) ≠ 0 := h202
                      exfalso; omega
                    · replace h202 : (0 : Int) = 0 := by have q : ¬ ((0 : Int) ≠ 0) := h202; omega
                      have kw203 : (wl8 1 5 : Int) ≠ 1 := fun e9 => absurd (kM_k1 hj7.1.2.1.2.2.1 e9) (by first | decide | omega)
                      replace hc198 := hc198.st (t' := (8, [(0, (1, 275))], [(1, 275)], vl9)) (fun _ _ q => e_Pn.run eAlk 1 rfl q)
                      obtain ⟨b204, hc198⟩ := hc198.of (fun _ _ q => e_Pn.getf (z := vl9 275 84) eAlk rfl rfl rfl q)
                      replace hc198 := hc198.st (t' := (12, [(0, (1, 275))], [(0, 1), (0, vl9 275 84)], vl9)) (fun _ _ q => e_Pn.run eAlk 1 rfl q)
                      rcases hc198.or (fun _ _ q1 q2 => e_Pn.if2 eAlk rfl q1 q2) with ⟨h205, hc198⟩ | ⟨h205, hc198⟩
                      · replace h205 : (vl9 275 84 : Int) = 1 := h205
                        exact (kM_no hj7.1.2.1.2.2.1 (fun a b => decide ((a : Int) ≠ 1) && decide ((24 : Int) > a) && decide ((a : Int) ≠ 41) && decide ((a : Int) ≠ 42) && decide ((b : Int) = 1)) (fun a b c => true) (by decide) (by decide) (by simp only [Bool.and_eq_true, decide_eq_true_eq]; exact ⟨⟨⟨⟨h16, h191⟩, h194⟩, h196⟩, h205⟩) rfl).elim
                      · replace h205 : (vl9 275 84 : Int) ≠ 1 := by have q : ¬ ((vl9 275 84 : Int) = 1) := h205; omega
                        replace hc198 := hc198.st (t' := (16, [(0, (1, 275))], [(1, 275)], vl9)) (fun _ _ q => e_Pn.run eAlk 1 rfl q)
                        obtain ⟨b206, hc198⟩ := hc198.of (fun _ _ q => e_Pn.getf (z := vl9 275 84) eAlk rfl rfl rfl q)
                        replace hc198 := hc198.st (t' := (20, [(0, (1, 275))], [(0, 4), (0, vl9 275 84)], vl9)) (fun _ _ q => e_Pn.run eAlk 1 rfl q)
                        rcases hc198.or (fun _ _ q1 q2 => e_Pn.if2 eAlk rfl q1 q2) with ⟨h207, hc198⟩ | ⟨h207, hc198⟩
                        · replace h207 : (vl9 275 84 : Int) ≠ 4 := h207
                          replace hc198 := hc198.st (t' := (63, [(0, (1, 275))], [(0, 0)], vl9)) (fun _ _ q => e_Pn.run eAlk 1 rfl q)
                          obtain ⟨rfl, rfl⟩ := hc198.re4 rfl
                          replace hM : e_Rn 20 elay ecode eI d' 348 (4, (0, (1, 275)) :: tl6, [(0, 0)], vl9) r' v' := hM
                          rcases hM.or (fun _ _ q1 q2 => e_Pn.if1 eAlk rfl q1 q2) with ⟨h208, hM⟩ | ⟨h208, hM⟩
                          · replace h208 : (0 : Int) = 0 := h208
                            obtain ⟨rfl, rfl⟩ := hM.re0 rfl
                            refine e_Pn.ret0 rfl ?_
                            exact ⟨rfl, rfl, Or.inl (st.re hj7 (by first | decide | omega) (by first | decide | omega) (by first | decide | omega) (by first | decide | omega) (by first | decide | omega))⟩
                          · replace h208 : (0 : Int) ≠ 0 := by have q : ¬ ((0 : Int) = 0) := h208; omega
                            exfalso; omega
                        · replace h207 : (vl9 275 84 : Int) = 4 := by have q : ¬ ((vl9 275 84 : Int) ≠ 4) := h207; omega
                          have kw209 : (wl8 1 5 : Int) ≠ 1 := fun e9 => absurd (kM_k1 hj7.1.2.1.2.2.1 e9) (by first | decide | omega)
                          replace hc198 := hc198.st (t' := (24, [(0, (1, 275))], [(1, 275)], vl9)) (fun _ _ q => e_Pn.run eAlk 1 rfl q)
                          obtain ⟨b210, hc198⟩ := hc198.of (fun _ _ q => e_Pn.getf (z := vl9 275 85) eAlk rfl rfl rfl q)
                          replace hc198 := hc198.st (t' := (34, [(0, (1, 275))], [(4, 18), (4, 3), (4, vl9 275 85)], vl9)) (fun _ _ q => e_Pn.run eAlk 3 rfl q)
                          obtain ⟨dc211, r212, v213, hc214, hc198⟩ := hc198.ca rfl
                          obtain ⟨z215, rfl, rfl, z215q⟩ := hc214.pn (fun nq => e_Ok.pnA (D0 := 600) (fun D hD => c_266) nq dc211)
                          have z215w := kM_w4 hj7.1.2.1.2.2.1 h207
                          obtain rfl : z215 = 0 := by omega
                          replace hc198 : e_Rn 20 elay ecode eI dhc198 347 (37, [(0, (1, 275))], [(0, 0)], vl9) r199 v200 := hc198
                          rcases hc198.or (fun _ _ q1 q2 => e_Pn.if1 eAlk rfl q1 q2) with ⟨h216, hc198⟩ | ⟨h216, hc198⟩
                          · replace h216 : (0 : Int) ≠ 0 := h216
                            exfalso; omega
                          · replace h216 : (0 : Int) = 0 := by have q : ¬ ((0 : Int) ≠ 0) := h216; omega
                            replace hc198 := hc198.st (t' := (41, [(0, (1, 275))], [(1, 275)], vl9)) (fun _ _ q => e_Pn.run eAlk 1 rfl q)
                            obtain ⟨b217, hc198⟩ := hc198.of (fun _ _ q => e_Pn.getf (z := vl9 275 85) eAlk rfl rfl rfl q)
                            replace hc198 := hc198.st (t' := (46, [(0, (1, 275))], [(0, 20), (0, vl9 275 85)], vl9)) (fun _ _ q => e_Pn.run eAlk 1 rfl q)
                            rcases hc198.or (fun _ _ q1 q2 => e_Pn.if2 eAlk rfl q1 q2) with ⟨h218, hc198⟩ | ⟨h218, hc198⟩
                            · replace h218 : (vl9 275 85 : Int) = 20 := h218
                              exact (kM_no hj7.1.2.1.2.2.1 (fun a b => decide ((a : Int) ≠ 1) && decide ((24 : Int) > a) && decide ((a : Int) ≠ 41) && decide ((a : Int) ≠ 42) && decide ((b : Int) ≠ 1) && decide ((b : Int) = 4)) (fun a b c => decide ((c : Int) = 20)) (by decide) (by decide) (by simp only [Bool.and_eq_true, decide_eq_true_eq]; exact ⟨⟨⟨⟨⟨h16, h191⟩, h194⟩, h196⟩, h205⟩, h207⟩) (decide_eq_true h218)).elim
                            · replace h218 : (vl9 275 85 : Int) ≠ 20 := by have q : ¬ ((vl9 275 85 : Int) = 20) := h218; omega
                              replace hc198 := hc198.st (t' := (50, [(0, (1, 275))], [(1, 275)], vl9)) (fun _ _ q => e_Pn.run eAlk 1 rfl q)
                              obtain ⟨b219, hc198⟩ := hc198.of (fun _ _ q => e_Pn.getf (z := vl9 275 85) eAlk rfl rfl rfl q)
                              replace hc198 := hc198.st (t' := (55, [(0, (1, 275))], [(0, 21), (0, vl9 275 85)], vl9)) (fun _ _ q => e_Pn.run eAlk 1 rfl q)
                              rcases hc198.or (fun _ _ q1 q2 => e_Pn.if2 eAlk rfl q1 q2) with ⟨h220, hc198⟩ | ⟨h220, hc198⟩
                              · replace h220 : (vl9 275 85 : Int) ≠ 21 := h220
                                replace hc198 := hc198.st (t' := (63, [(0, (1, 275))], [(0, 0)], vl9)) (fun _ _ q => e_Pn.run eAlk 1 rfl q)
                                obtain ⟨rfl, rfl⟩ := hc198.re4 rfl
                                replace hM : e_Rn 20 elay ecode eI d' 348 (4, (0, (1, 275)) :: tl6, [(0, 0)], vl9) r' v' := hM
                                rcases hM.or (fun _ _ q1 q2 => e_Pn.if1 eAlk rfl q1 q2) with ⟨h221, hM⟩ | ⟨h221, hM⟩
                                · replace h221 : (0 : Int) = 0 := h221
                                  obtain ⟨rfl, rfl⟩ := hM.re0 rfl
                                  refine e_Pn.ret0 rfl ?_
                                  exact ⟨rfl, rfl, Or.inl (st.re hj7 (by first | decide | omega) (by first | decide | omega) (by first | decide | omega) (by first | decide | omega) (by first | decide | omega))⟩
                                · replace h221 : (0 : Int) ≠ 0 := by have q : ¬ ((0 : Int) = 0) := h221; omega
                                  exfalso; omega
                              · replace h220 : (vl9 275 85 : Int) = 21 := by have q : ¬ ((vl9 275 85 : Int) ≠ 21) := h220; omega
                                exact (kM_no hj7.1.2.1.2.2.1 (fun a b => decide ((a : Int) ≠ 1) && decide ((24 : Int) > a) && decide ((a : Int) ≠ 41) && decide ((a : Int) ≠ 42) && decide ((b : Int) ≠ 1) && decide ((b : Int) = 4)) (fun a b c => decide ((c : Int) ≠ 20) && decide ((c : Int) = 21)) (by decide) (by decide) (by simp only [Bool.and_eq_true, decide_eq_true_eq]; exact ⟨⟨⟨⟨⟨h16, h191⟩, h194⟩, h196⟩, h205⟩, h207⟩) (by simp only [Bool.and_eq_true, decide_eq_true_eq]; exact ⟨h218, h220⟩)).elim
                  · replace h197 : (0 : Int) ≠ 0 := by have q : ¬ ((0 : Int) = 0) := h197; omega
                    exfalso; omega
                · replace h196 : (wl8 1 5 : Int) = 42 := by have q : ¬ ((wl8 1 5 : Int) ≠ 42) := h196; omega
                  exact (kM_no hj7.1.2.1.2.2.1 (fun a b => decide ((a : Int) ≠ 1) && decide ((24 : Int) > a) && decide ((a : Int) ≠ 41) && decide ((a : Int) = 42)) (fun a b c => true) (by decide) (by decide) (by simp only [Bool.and_eq_true, decide_eq_true_eq]; exact ⟨⟨⟨h16, h191⟩, h194⟩, h196⟩) rfl).elim
          · replace h191 : (24 : Int) ≤ wl8 1 5 := by have q : ¬ ((24 : Int) > wl8 1 5) := h191; omega
            refine e_Pn.run (t' := (7, [(0, (0, wl8 1 5)), (1, (0, 24)), (2, (0, 39))], [(0, 39), (0, wl8 1 5)], wl8)) kAlk 2 rfl ?_
            refine e_Pn.if2 kAlk rfl (fun h222 => ?_) (fun h222 => ?_)
            · replace h222 : (wl8 1 5 : Int) > 39 := h222
              refine e_Pn.run (t' := (15, [(0, (0, wl8 1 5)), (1, (0, 24)), (2, (0, 39))], [(0, 0)], wl8)) kAlk 1 rfl ?_
              refine e_Pn.ret4 rfl ?_
              show e_Pn 20 elay kcode eI nq13 dq14 143 (19, [(0, (1, 1))], [(0, 0)], wl8) _
              refine e_Pn.if1 kAlk rfl (fun h223 => ?_) (fun h223 => ?_)
              · replace h223 : (0 : Int) ≠ 0 := h223
                exfalso; omega
              · replace h223 : (0 : Int) = 0 := by have q : ¬ ((0 : Int) ≠ 0) := h223; omega
                refine e_Pn.run (t' := (23, [(0, (1, 1))], [(1, 1)], wl8)) kAlk 1 rfl ?_
                refine e_Pn.getf (z := wl8 1 5) kAlk rfl rfl rfl (fun b224 => ?_)
                refine e_Pn.run (t' := (28, [(0, (1, 1))], [(0, 41), (0, wl8 1 5)], wl8)) kAlk 1 rfl ?_
                refine e_Pn.if2 kAlk rfl (fun h225 => ?_) (fun h225 => ?_)
                · replace h225 : (wl8 1 5 : Int) = 41 := h225
                  refine e_Pn.run (t' := (45, [(0, (1, 1))], [(0, 1)], wl8)) kAlk 2 rfl ?_
                  refine e_Pn.ret4 rfl ?_
                  show e_Pn 20 elay kcode eI nn4 d 144 (13, (0, (1, 1)) :: (1, (0, y1)) :: tl5, [(0, 1)], wl8) _
                  refine e_Pn.if1 kAlk rfl (fun h226 => ?_) (fun h226 => ?_)
                  · replace h226 : (1 : Int) = 0 := h226
                    exfalso; omega
                  · replace h226 : (1 : Int) ≠ 0 := by have q : ¬ ((1 : Int) = 0) := h226; omega
                    refine e_Pn.run (t' := (17, (0, (1, 1)) :: (1, (0, y1)) :: tl5, [(1, 1)], wl8)) kAlk 1 rfl ?_
                    replace hM := hM.st (t' := (1, (0, (1, 275)) :: tl6, [(1, 275)], vl9)) (fun _ _ q => e_Pn.run eAlk 1 rfl q)
                    obtain ⟨dhc227, r228, v229, hc227, hM⟩ := hM.ca rfl
                    replace hc227 : e_Rn 20 elay ecode eI dhc227 347 (0, [(0, (1, 275))], [], vl9) r228 v229 := hc227
                    replace hc227 := hc227.st (t' := (1, [(0, (1, 275))], [(1, 275)], vl9)) (fun _ _ q => e_Pn.run eAlk 1 rfl q)
                    obtain ⟨b230, hc227⟩ := hc227.of (fun _ _ q => e_Pn.getf (z := 0) eAlk rfl rfl hj7.1.2.1.1.2 q)
                    rcases hc227.or (fun _ _ q1 q2 => e_Pn.if1 eAlk rfl q1 q2) with ⟨h231, hc227⟩ | ⟨h231, hc227⟩
                    · replace h231 : (0 : Int) ≠ 0 := h231
                      exfalso; omega
                    · replace h231 : (0 : Int) = 0 := by have q : ¬ ((0 : Int) ≠ 0) := h231; omega
                      have kw232 : (wl8 1 5 : Int) ≠ 1 := fun e9 => absurd (kM_k1 hj7.1.2.1.2.2.1 e9) (by first | decide | omega)
                      replace hc227 := hc227.st (t' := (8, [(0, (1, 275))], [(1, 275)], vl9)) (fun _ _ q => e_Pn.run eAlk 1 rfl q)
                      obtain ⟨b233, hc227⟩ := hc227.of (fun _ _ q => e_Pn.getf (z := 4) eAlk rfl rfl (kM_w5 hj7.1.2.1.2.2.1 (by first | decide | omega)).1 q)
                      replace hc227 := hc227.st (t' := (12, [(0, (1, 275))], [(0, 1), (0, 4)], vl9)) (fun _ _ q => e_Pn.run eAlk 1 rfl q)
                      rcases hc227.or (fun _ _ q1 q2 => e_Pn.if2 eAlk rfl q1 q2) with ⟨h234, hc227⟩ | ⟨h234, hc227⟩
                      · replace h234 : (4 : Int) = 1 := h234
                        exfalso; omega
                      · replace h234 : (4 : Int) ≠ 1 := by have q : ¬ ((4 : Int) = 1) := h234; omega
                        replace hc227 := hc227.st (t' := (16, [(0, (1, 275))], [(1, 275)], vl9)) (fun _ _ q => e_Pn.run eAlk 1 rfl q)
                        obtain ⟨b235, hc227⟩ := hc227.of (fun _ _ q => e_Pn.getf (z := 4) eAlk rfl rfl (kM_w5 hj7.1.2.1.2.2.1 (by first | decide | omega)).1 q)
                        replace hc227 := hc227.st (t' := (20, [(0, (1, 275))], [(0, 4), (0, 4)], vl9)) (fun _ _ q => e_Pn.run eAlk 1 rfl q)
                        rcases hc227.or (fun _ _ q1 q2 => e_Pn.if2 eAlk rfl q1 q2) with ⟨h236, hc227⟩ | ⟨h236, hc227⟩
                        · replace h236 : (4 : Int) ≠ 4 := h236
                          exfalso; omega
                        · replace h236 : (4 : Int) = 4 := by have q : ¬ ((4 : Int) ≠ 4) := h236; omega
                          replace hc227 := hc227.st (t' := (24, [(0, (1, 275))], [(1, 275)], vl9)) (fun _ _ q => e_Pn.run eAlk 1 rfl q)
                          obtain ⟨b237, hc227⟩ := hc227.of (fun _ _ q => e_Pn.getf (z := 20) eAlk rfl rfl (Eq.trans (kM_w5 hj7.1.2.1.2.2.1 (by first | decide | omega)).2 (by first | decide | omega)) q)
                          replace hc227 := hc227.st (t' := (34, [(0, (1, 275))], [(4, 18), (4, 3), (4, 20)], vl9)) (fun _ _ q => e_Pn.run eAlk 3 rfl q)
                          obtain ⟨dc238, r239, v240, hc241, hc227⟩ := hc227.ca rfl
                          obtain ⟨z242, rfl, rfl, z242q⟩ := hc241.pn (fun nq => e_Ok.pnA (D0 := 600) (fun D hD => c_266) nq dc238)
                          obtain rfl : z242 = 0 := by omega
                          replace hc227 : e_Rn 20 elay ecode eI dhc227 347 (37, [(0, (1, 275))], [(0, 0)], vl9) r228 v229 := hc227
                          rcases hc227.or (fun _ _ q1 q2 => e_Pn.if1 eAlk rfl q1 q2) with ⟨h243, hc227⟩ | ⟨h243, hc227⟩
                          · replace h243 : (0 : Int) ≠ 0 := h243
                            exfalso; omega
                          · replace h243 : (0 : Int) = 0 := by have q : ¬ ((0 : Int) ≠ 0) := h243; omega
                            replace hc227 := hc227.st (t' := (41, [(0, (1, 275))], [(1, 275)], vl9)) (fun _ _ q => e_Pn.run eAlk 1 rfl q)
                            obtain ⟨b244, hc227⟩ := hc227.of (fun _ _ q => e_Pn.getf (z := 20) eAlk rfl rfl (Eq.trans (kM_w5 hj7.1.2.1.2.2.1 (by first | decide | omega)).2 (by first | decide | omega)) q)
                            replace hc227 := hc227.st (t' := (46, [(0, (1, 275))], [(0, 20), (0, 20)], vl9)) (fun _ _ q => e_Pn.run eAlk 1 rfl q)
                            rcases hc227.or (fun _ _ q1 q2 => e_Pn.if2 eAlk rfl q1 q2) with ⟨h245, hc227⟩ | ⟨h245, hc227⟩
                            · replace h245 : (20 : Int) = 20 := h245
                              replace hc227 := hc227.st (t' := (63, [(0, (1, 275))], [(0, 1)], vl9)) (fun _ _ q => e_Pn.run eAlk 2 rfl q)
                              obtain ⟨rfl, rfl⟩ := hc227.re4 rfl
                              replace hM : e_Rn 20 elay ecode eI d' 348 (4, (0, (1, 275)) :: tl6, [(0, 1)], vl9) r' v' := hM
                              rcases hM.or (fun _ _ q1 q2 => e_Pn.if1 eAlk rfl q1 q2) with ⟨h246, hM⟩ | ⟨h246, hM⟩
                              · replace h246 : (1 : Int) = 0 := h246
                                exfalso; omega
                              · replace h246 : (1 : Int) ≠ 0 := by have q : ¬ ((1 : Int) = 0) := h246; omega
                                replace hM := hM.st (t' := (8, (0, (1, 275)) :: tl6, [(1, 275)], vl9)) (fun _ _ q => e_Pn.run eAlk 1 rfl q)
                                obtain ⟨b247, hM⟩ := hM.of (fun _ _ q => e_Pn.getf (z := 4) eAlk rfl rfl (kM_w5 hj7.1.2.1.2.2.1 (by first | decide | omega)).1 q)
                                replace hM := hM.st (t' := (12, (0, (1, 275)) :: tl6, [(0, 1), (0, 4)], vl9)) (fun _ _ q => e_Pn.run eAlk 1 rfl q)
                                rcases hM.or (fun _ _ q1 q2 => e_Pn.if2 eAlk rfl q1 q2) with ⟨h248, hM⟩ | ⟨h248, hM⟩
                                · replace h248 : (4 : Int) ≠ 1 := h248
                                  replace hM := hM.st (t' := (75, (0, (1, 275)) :: tl6, [(1, 275)], vl9)) (fun _ _ q => e_Pn.run eAlk 1 rfl q)
                                  obtain ⟨b249, hM⟩ := hM.of (fun _ _ q => e_Pn.getf (z := 20) eAlk rfl rfl (Eq.trans (kM_w5 hj7.1.2.1.2.2.1 (by first | decide | omega)).2 (by first | decide | omega)) q)
                                  replace hM := hM.st (t' := (80, (0, (1, 275)) :: tl6, [(0, 18), (0, 20)], vl9)) (fun _ _ q => e_Pn.run eAlk 1 rfl q)
                                  rcases hM.or (fun _ _ q1 q2 => e_Pn.if2 eAlk rfl q1 q2) with ⟨h250, hM⟩ | ⟨h250, hM⟩
                                  · replace h250 : (20 : Int) ≠ 18 := h250
                                    replace hM := hM.st (t' := (91, (0, (1, 275)) :: tl6, [(1, 275)], vl9)) (fun _ _ q => e_Pn.run eAlk 1 rfl q)
                                    obtain ⟨b251, hM⟩ := hM.of (fun _ _ q => e_Pn.getf (z := 20) eAlk rfl rfl (Eq.trans (kM_w5 hj7.1.2.1.2.2.1 (by first | decide | omega)).2 (by first | decide | omega)) q)
                                    replace hM := hM.st (t' := (96, (0, (1, 275)) :: tl6, [(0, 20), (0, 20)], vl9)) (fun _ _ q => e_Pn.run eAlk 1 rfl q)
                                    rcases hM.or (fun _ _ q1 q2 => e_Pn.if2 eAlk rfl q1 q2) with ⟨h252, hM⟩ | ⟨h252, hM⟩
                                    · replace h252 : (20 : Int) ≠ 20 := h252
                                      exfalso; omega
                                    · replace h252 : (20 : Int) = 20 := by have q : ¬ ((20 : Int) ≠ 20) := h252; omega
                                      replace hM := hM.st (t' := (100, (0, (1, 275)) :: tl6, [(1, 275)], vl9)) (fun _ _ q => e_Pn.run eAlk 1 rfl q)
                                      obtain ⟨dc253, r254, v255, hc256, hM⟩ := hM.ca rfl
                                      have uhc256 := hc256.pn (fun nq => uS_all nq 351 (by decide) _ _ hj7.1.2.2.2.2.1)
                                      have z260 : st0 N cd wl8 vl9 := st.z hj7 (by first | decide | omega) (st.loo hj7 hzo.2.1) (by first | decide | omega)
                                      refine e_Pn.callB rfl (fun k9 hk9 d9 => e_Pn.and (e_145_41 z260 (by first | decide | omega) (by have q9 := kM_w5 hj7.1.2.1.2.2.1 (by first | decide | omega); omega) (fun k hk => ihS k (by first | decide | omega)) (d' := dc253) hc256) (kS_all k9 145 (by decide) d9 _ _ hj7.1.2.2.2.1)) (fun r257 w258 h259 => ?_)
                                      obtain ⟨⟨rfl, rfl, h259⟩, -, h259k⟩ := h259
                                      rcases h259.symm with h259 | ⟨h259, h259p⟩
                                      · skip
                                        replace hM : e_Rn 20 elay ecode eI d' 348 (103, (0, (1, 275)) :: tl6, [], v255) r' v' := hM
                                        obtain ⟨rfl, m261⟩ := (e_Rn.le eAlk [0] rfl rfl hM).pn (fun nq => v_348_103 (uhc256.2.rf hj7.1.2.2.2.2.1) _  v255 mq.r)
                                        show e_Pn 20 elay kcode eI nn4 d 144 (20, (0, (1, 1)) :: (1, (0, y1)) :: tl5, [], w258) _
                                        refine e_Pn.ord kAlk [0, 1] rfl rfl ((v_144_20 (h259k.rf hj7.1.2.2.2.1) _ y1 w258 kq.r).imp (fun r263 w264 k262 => ?_))
                                        obtain ⟨rfl, k262⟩ := k262
                                        exact ⟨rfl, rfl, Or.inr (rpF.tail h259 k262 m261)⟩
                                      have s265 := st.re (l' := w 1 13) (m' := v 275 82) (t' := w 1 12) (st.tr hj7 h259) (Int.le_refl _) rfl (by first | decide | omega) (by first | decide | omega) (by first | decide | omega)
                                      have q266 := st.nums s265
                                      clear q11
                                      have q266c := q266.2.2.2.1
                                      show e_Pn 20 elay kcode eI nn4 d 144 (20, (0, (1, 1)) :: (1, (0, y1)) :: tl5, [], w258) _
                                      replace hM : e_Rn 20 elay ecode eI d' 348 (103, (0, (1, 275)) :: tl6, [], v255) r' v' := hM
                                      refine e_Pn.inc (z := y1 + 1) kAlk rfl rfl (by first | decide | omega) (by first | decide | omega) ?_
                                      show e_Pn 20 elay kcode eI nn4 d 144 (23, (1, (0, y1 + 1)) :: (0, (1, 1)) :: List.filter (e_flt 0 1) tl5, [], w258) _
                                      refine e_Pn.run (t' := (2, (1, (0, y1 + 1)) :: (0, (1, 1)) :: List.filter (e_flt 0 1) tl5, [], w258)) kAlk 1 rfl ?_
                                      replace hM := hM.st (t' := (0, (0, (1, 275)) :: tl6, [], v255)) (fun _ _ q => e_Pn.run eAlk 1 rfl q)
                                      exact e_Pn.ord kAlk [0, 1] rfl rfl (ih3 (by first | decide | omega) _ _ (y1 + 1) w258 v255 ⟨(st.re s265 (by first | decide | omega) (by first | decide | omega) (by first | decide | omega) (by first | decide | omega) (by first | decide | omega)), (by first | decide | omega)⟩ (e_Rn.le eAlk [0] rfl rfl hM))
                                  · replace h250 : (20 : Int) = 18 := by have q : ¬ ((20 : Int) ≠ 18) := h250; omega
                                    exfalso; omega
                                · replace h248 : (4 : Int) = 1 := by have q : ¬ ((4 : Int) ≠ 1) := h248; omega
                                  exfalso; omega
                            · replace h245 : (20 : Int) ≠ 20 := by have q : ¬ ((20 : Int) = 20) := h245; omega
                              exact (kM_no hj7.1.2.1.2.2.1 (fun a b => decide ((a : Int) ≠ 1) && decide ((24 : Int) ≤ a) && decide ((a : Int) > 39) && decide ((a : Int) = 41) && decide ((20 : Int) ≠ 20)) (fun a b c => true) (by decide) (by decide) (by simp only [Bool.and_eq_true, decide_eq_true_eq]; exact ⟨⟨⟨⟨h16, h191⟩, h222⟩, h225⟩, h245⟩) rfl).elim
                · replace h225 : (wl8 1 5 : Int) ≠ 41 := by have q : ¬ ((wl8 1 5 : Int) = 41) := h225; omega
                  refine e_Pn.run (t' := (32, [(0, (1, 1))], [(1, 1)], wl8)) kAlk 1 rfl ?_
                  refine e_Pn.getf (z := wl8 1 5) kAlk rfl rfl rfl (fun b267 => ?_)
                  refine e_Pn.run (t' := (37, [(0, (1, 1))], [(0, 42), (0, wl8 1 5)], wl8)) kAlk 1 rfl ?_
                  refine e_Pn.if2 kAlk rfl (fun h268 => ?_) (fun h268 => ?_)
                  · replace h268 : (wl8 1 5 : Int) ≠ 42 := h268
                    refine e_Pn.run (t' := (45, [(0, (1, 1))], [(0, 0)], wl8)) kAlk 1 rfl ?_
                    refine e_Pn.ret4 rfl ?_
                    show e_Pn 20 elay kcode eI nn4 d 144 (13, (0, (1, 1)) :: (1, (0, y1)) :: tl5, [(0, 0)], wl8) _
                    refine e_Pn.if1 kAlk rfl (fun h269 => ?_) (fun h269 => ?_)
                    · replace h269 : (0 : Int) = 0 := h269
                      replace hM := hM.st (t' := (1, (0, (1, 275)) :: tl6, [(1, 275)], vl9)) (fun _ _ q => e_Pn.run eAlk 1 rfl q)
                      obtain ⟨dhc270, r271, v272, hc270, hM⟩ := hM.ca rfl
                      replace hc270 : e_Rn 20 elay ecode eI dhc270 347 (0, [(0, (1, 275))], [], vl9) r271 v272 := hc270
                      replace hc270 := hc270.st (t' := (1, [(0, (1, 275))], [(1, 275)], vl9)) (fun _ _ q => e_Pn.run eAlk 1 rfl q)
                      obtain ⟨b273, hc270⟩ := hc270.of (fun _ _ q => e_Pn.getf (z := 0) eAlk rfl rfl hj7.1.2.1.1.2 q)
                      rcases hc270.or (fun _ _ q1 q2 => e_Pn.if1 eAlk rfl q1 q2) with ⟨h274, hc270⟩ | ⟨h274, hc270⟩
                      · replace h274 : (0 : Int) ≠ 0 := h274
                        exfalso; omega
                      · replace h274 : (0 : Int) = 0 := by have q : ¬ ((0 : Int) ≠ 0) := h274; omega
                        have kw275 : (wl8 1 5 : Int) ≠ 1 := fun e9 => absurd (kM_k1 hj7.1.2.1.2.2.1 e9) (by first | decide | omega)
                        replace hc270 := hc270.st (t' := (8, [(0, (1, 275))], [(1, 275)], vl9)) (fun _ _ q => e_Pn.run eAlk 1 rfl q)
                        obtain ⟨b276, hc270⟩ := hc270.of (fun _ _ q => e_Pn.getf (z := vl9 275 84) eAlk rfl rfl rfl q)
                        replace hc270 := hc270.st (t' := (12, [(0, (1, 275))], [(0, 1), (0, vl9 275 84)], vl9)) (fun _ _ q => e_Pn.run eAlk 1 rfl q)
                        rcases hc270.or (fun _ _ q1 q2 => e_Pn.if2 eAlk rfl q1 q2) with ⟨h277, hc270⟩ | ⟨h277, hc270⟩
                        · replace h277 : (vl9 275 84 : Int) = 1 := h277
                          exact (kM_no hj7.1.2.1.2.2.1 (fun a b => decide ((a : Int) ≠ 1) && decide ((24 : Int) ≤ a) && decide ((a : Int) > 39) && decide ((a : Int) ≠ 41) && decide ((a : Int) ≠ 42) && decide ((b : Int) = 1)) (fun a b c => true) (by decide) (by decide) (by simp only [Bool.and_eq_true, decide_eq_true_eq]; exact ⟨⟨⟨⟨⟨h16, h191⟩, h222⟩, h225⟩, h268⟩, h277⟩) rfl).elim
                        · replace h277 : (vl9 275 84 : Int) ≠ 1 := by have q : ¬ ((vl9 275 84 : Int) = 1) := h277; omega
                          replace hc270 := hc270.st (t' := (16, [(0, (1, 275))], [(1, 275)], vl9)) (fun _ _ q => e_Pn.run eAlk 1 rfl q)
                          obtain ⟨b278, hc270⟩ := hc270.of (fun _ _ q => e_Pn.getf (z := vl9 275 84) eAlk rfl rfl rfl q)
                          replace hc270 := hc270.st (t' := (20, [(0, (1, 275))], [(0, 4), (0, vl9 275 84)], vl9)) (fun _ _ q => e_Pn.run eAlk 1 rfl q)
                          rcases hc270.or (fun _ _ q1 q2 => e_Pn.if2 eAlk rfl q1 q2) with ⟨h279, hc270⟩ | ⟨h279, hc270⟩
                          · replace h279 : (vl9 275 84 : Int) ≠ 4 := h279
                            exact (kM_no hj7.1.2.1.2.2.1 (fun a b => decide ((a : Int) ≠ 1) && decide ((24 : Int) ≤ a) && decide ((a : Int) > 39) && decide ((a : Int) ≠ 41) && decide ((a : Int) ≠ 42) && decide ((b : Int) ≠ 1) && decide ((b : Int) ≠ 4)) (fun a b c => true) (by decide) (by decide) (by simp only [Bool.and_eq_true, decide_eq_true_eq]; exact ⟨⟨⟨⟨⟨⟨h16, h191⟩, h222⟩, h225⟩, h268⟩, h277⟩, h279⟩) rfl).elim
                          · replace h279 : (vl9 275 84 : Int) = 4 := by have q : ¬ ((vl9 275 84 : Int) ≠ 4) := h279; omega
                            replace hc270 := hc270.st (t' := (24, [(0, (1, 275))], [(1, 275)], vl9)) (fun _ _ q => e_Pn.run eAlk 1 rfl q)
                            obtain ⟨b280, hc270⟩ := hc270.of (fun _ _ q => e_Pn.getf (z := vl9 275 85) eAlk rfl rfl rfl q)
                            replace hc270 := hc270.st (t' := (34, [(0, (1, 275))], [(4, 18), (4, 3), (4, vl9 275 85)], vl9)) (fun _ _ q => e_Pn.run eAlk 3 rfl q)
                            obtain ⟨dc281, r282, v283, hc284, hc270⟩ := hc270.ca rfl
                            obtain ⟨z285, rfl, rfl, z285q⟩ := hc284.pn (fun nq => e_Ok.pnA (D0 := 600) (fun D hD => c_266) nq dc281)
                            have z285w := kM_w4 hj7.1.2.1.2.2.1 h279
                            obtain rfl : z285 = 0 := by omega
                            replace hc270 : e_Rn 20 elay ecode eI dhc270 347 (37, [(0, (1, 275))], [(0, 0)], vl9) r271 v272 := hc270
                            rcases hc270.or (fun _ _ q1 q2 => e_Pn.if1 eAlk rfl q1 q2) with ⟨h286, hc270⟩ | ⟨h286, hc270⟩
                            · replace h286 : (0 : Int) ≠ 0 := h286
                              exfalso; omega
                            · replace h286 : (0 : Int) = 0 := by have q : ¬ ((0 : Int) ≠ 0) := h286; omega
                              replace hc270 := hc270.st (t' := (41, [(0, (1, 275))], [(1, 275)], vl9)) (fun _ _ q => e_Pn.run eAlk 1 rfl q)
                              obtain ⟨b287, hc270⟩ := hc270.of (fun _ _ q => e_Pn.getf (z := vl9 275 85) eAlk rfl rfl rfl q)
                              replace hc270 := hc270.st (t' := (46, [(0, (1, 275))], [(0, 20), (0, vl9 275 85)], vl9)) (fun _ _ q => e_Pn.run eAlk 1 rfl q)
                              rcases hc270.or (fun _ _ q1 q2 => e_Pn.if2 eAlk rfl q1 q2) with ⟨h288, hc270⟩ | ⟨h288, hc270⟩
                              · replace h288 : (vl9 275 85 : Int) = 20 := h288
                                exact (kM_no hj7.1.2.1.2.2.1 (fun a b => decide ((a : Int) ≠ 1) && decide ((24 : Int) ≤ a) && decide ((a : Int) > 39) && decide ((a : Int) ≠ 41) && decide ((a : Int) ≠ 42) && decide ((b : Int) ≠ 1) && decide ((b : Int) = 4)) (fun a b c => decide ((c : Int) = 20)) (by decide) (by decide) (by simp only [Bool.and_eq_true, decide_eq_true_eq]; exact ⟨⟨⟨⟨⟨⟨h16, h191⟩, h222⟩, h225⟩, h268⟩, h277⟩, h279⟩) (decide_eq_true h288)).elim
                              · replace h288 : (vl9 275 85 : Int) ≠ 20 := by have q : ¬ ((vl9 275 85 : Int) = 20) := h288; omega
                                replace hc270 := hc270.st (t' := (50, [(0, (1, 275))], [(1, 275)], vl9)) (fun _ _ q => e_Pn.run eAlk 1 rfl q)
                                obtain ⟨b289, hc270⟩ := hc270.of (fun _ _ q => e_Pn.getf (z := vl9 275 85) eAlk rfl rfl rfl q)
                                replace hc270 := hc270.st (t' := (55, [(0, (1, 275))], [(0, 21), (0, vl9 275 85)], vl9)) (fun _ _ q => e_Pn.run eAlk 1 rfl q)
                                rcases hc270.or (fun _ _ q1 q2 => e_Pn.if2 eAlk rfl q1 q2) with ⟨h290, hc270⟩ | ⟨h290, hc270⟩
                                · replace h290 : (vl9 275 85 : Int) ≠ 21 := h290
                                  replace hc270 := hc270.st (t' := (63, [(0, (1, 275))], [(0, 0)], vl9)) (fun _ _ q => e_Pn.run eAlk 1 rfl q)
                                  obtain ⟨rfl, rfl⟩ := hc270.re4 rfl
                                  replace hM : e_Rn 20 elay ecode eI d' 348 (4, (0, (1, 275)) :: tl6, [(0, 0)], vl9) r' v' := hM
                                  rcases hM.or (fun _ _ q1 q2 => e_Pn.if1 eAlk rfl q1 q2) with ⟨h291, hM⟩ | ⟨h291, hM⟩
                                  · replace h291 : (0 : Int) = 0 := h291
                                    obtain ⟨rfl, rfl⟩ := hM.re0 rfl
                                    refine e_Pn.ret0 rfl ?_
                                    exact ⟨rfl, rfl, Or.inl (st.re hj7 (by first | decide | omega) (by first | decide | omega) (by first | decide | omega) (by first | decide | omega) (by first | decide | omega))⟩
                                  · replace h291 : (0 : Int) ≠ 0 := by have q : ¬ ((0 : Int) = 0) := h291; omega
                                    exfalso; omega
                                · replace h290 : (vl9 275 85 : Int) = 21 := by have q : ¬ ((vl9 275 85 : Int) ≠ 21) := h290; omega
                                  exact (kM_no hj7.1.2.1.2.2.1 (fun a b => decide ((a : Int) ≠ 1) && decide ((24 : Int) ≤ a) && decide ((a : Int) > 39) && decide ((a : Int) ≠ 41) && decide ((a : Int) ≠ 42) && decide ((b : Int) ≠ 1) && decide ((b : Int) = 4)) (fun a b c => decide ((c : Int) ≠ 20) && decide ((c : Int) = 21)) (by decide) (by decide) (by simp only [Bool.and_eq_true, decide_eq_true_eq]; exact ⟨⟨⟨⟨⟨⟨h16, h191⟩, h222⟩, h225⟩, h268⟩, h277⟩, h279⟩) (by simp only [Bool.and_eq_true, decide_eq_true_eq]; exact ⟨h288, h290⟩)).elim
                    · replace h269 : (0 : Int) ≠ 0 := by have q : ¬ ((0 : Int) = 0) := h269; omega
                      exfalso; omega
                  · replace h268 : (wl8 1 5 : Int) = 42 := by have q : ¬ ((wl8 1 5 : Int) ≠ 42) := h268; omega
                    refine e_Pn.run (t' := (45, [(0, (1, 1))], [(0, 1)], wl8)) kAlk 2 rfl ?_
                    refine e_Pn.ret4 rfl ?_
                    show e_Pn 20 elay kcode eI nn4 d 144 (13, (0, (1, 1)) :: (1, (0, y1)) :: tl5, [(0, 1)], wl8) _
                    refine e_Pn.if1 kAlk rfl (fun h292 => ?_) (fun h292 => ?_)
                    · replace h292 : (1 : Int) = 0 := h292
                      exfalso; omega
                    · replace h292 : (1 : Int) ≠ 0 := by have q : ¬ ((1 : Int) = 0) := h292; omega
                      refine e_Pn.run (t' := (17, (0, (1, 1)) :: (1, (0, y1)) :: tl5, [(1, 1)], wl8)) kAlk 1 rfl ?_
                      replace hM := hM.st (t' := (1, (0, (1, 275)) :: tl6, [(1, 275)], vl9)) (fun _ _ q => e_Pn.run eAlk 1 rfl q)
                      obtain ⟨dhc293, r294, v295, hc293, hM⟩ := hM.ca rfl
                      replace hc293 : e_Rn 20 elay ecode eI dhc293 347 (0, [(0, (1, 275))], [], vl9) r294 v295 := hc293
                      replace hc293 := hc293.st (t' := (1, [(0, (1, 275))], [(1, 275)], vl9)) (fun _ _ q => e_Pn.run eAlk 1 rfl q)
                      obtain ⟨b296, hc293⟩ := hc293.of (fun _ _ q => e_Pn.getf (z := 0) eAlk rfl rfl hj7.1.2.1.1.2 q)
                      rcases hc293.or (fun _ _ q1 q2 => e_Pn.if1 eAlk rfl q1 q2) with ⟨h297, hc293⟩ | ⟨h297, hc293⟩
                      · replace h297 : (0 : Int) ≠ 0 := h297
                        exfalso; omega
                      · replace h297 : (0 : Int) = 0 := by have q : ¬ ((0 : Int) ≠ 0) := h297; omega
                        have kw298 : (wl8 1 5 : Int) ≠ 1 := fun e9 => absurd (kM_k1 hj7.1.2.1.2.2.1 e9) (by first | decide | omega)
                        replace hc293 := hc293.st (t' := (8, [(0, (1, 275))], [(1, 275)], vl9)) (fun _ _ q => e_Pn.run eAlk 1 rfl q)
                        obtain ⟨b299, hc293⟩ := hc293.of (fun _ _ q => e_Pn.getf (z := 4) eAlk rfl rfl (kM_w5 hj7.1.2.1.2.2.1 (by first | decide | omega)).1 q)
                        replace hc293 := hc293.st (t' := (12, [(0, (1, 275))], [(0, 1), (0, 4)], vl9)) (fun _ _ q => e_Pn.run eAlk 1 rfl q)
                        rcases hc293.or (fun _ _ q1 q2 => e_Pn.if2 eAlk rfl q1 q2) with ⟨h300, hc293⟩ | ⟨h300, hc293⟩
                        · replace h300 : (4 : Int) = 1 := h300
                          exfalso; omega
                        · replace h300 : (4 : Int) ≠ 1 := by have q : ¬ ((4 : Int) = 1) := h300; omega
                          replace hc293 := hc293.st (t' := (16, [(0, (1, 275))], [(1, 275)], vl9)) (fun _ _ q => e_Pn.run eAlk 1 rfl q)
                          obtain ⟨b301, hc293⟩ := hc293.of (fun _ _ q => e_Pn.getf (z := 4) eAlk rfl rfl (kM_w5 hj7.1.2.1.2.2.1 (by first | decide | omega)).1 q)
                          replace hc293 := hc293.st (t' := (20, [(0, (1, 275))], [(0, 4), (0, 4)], vl9)) (fun _ _ q => e_Pn.run eAlk 1 rfl q)
                          rcases hc293.or (fun _ _ q1 q2 => e_Pn.if2 eAlk rfl q1 q2) with ⟨h302, hc293⟩ | ⟨h302, hc293⟩
                          · replace h302 : (4 : Int) ≠ 4 := h302
                            exfalso; omega
                          · replace h302 : (4 : Int) = 4 := by have q : ¬ ((4 : Int) ≠ 4) := h302; omega
                            replace hc293 := hc293.st (t' := (24, [(0, (1, 275))], [(1, 275)], vl9)) (fun _ _ q => e_Pn.run eAlk 1 rfl q)
                            obtain ⟨b303, hc293⟩ := hc293.of (fun _ _ q => e_Pn.getf (z := 21) eAlk rfl rfl (Eq.trans (kM_w5 hj7.1.2.1.2.2.1 (by first | decide | omega)).2 (by first | decide | omega)) q)
                            replace hc293 := hc293.st (t' := (34, [(0, (1, 275))], [(4, 18), (4, 3), (4, 21)], vl9)) (fun _ _ q => e_Pn.run eAlk 3 rfl q)
                            obtain ⟨dc304, r305, v306, hc307, hc293⟩ := hc293.ca rfl
                            obtain ⟨z308, rfl, rfl, z308q⟩ := hc307.pn (fun nq => e_Ok.pnA (D0 := 600) (fun D hD => c_266) nq dc304)
                            obtain rfl : z308 = 0 := by omega
                            replace hc293 : e_Rn 20 elay ecode eI dhc293 347 (37, [(0, (1, 275))], [(0, 0)], vl9) r294 v295 := hc293
                            rcases hc293.or (fun _ _ q1 q2 => e_Pn.if1 eAlk rfl q1 q2) with ⟨h309, hc293⟩ | ⟨h309, hc293⟩
                            · replace h309 : (0 : Int) ≠ 0 := h309
                              exfalso; omega
                            · replace h309 : (0 : Int) = 0 := by have q : ¬ ((0 : Int) ≠ 0) := h309; omega
                              replace hc293 := hc293.st (t' := (41, [(0, (1, 275))], [(1, 275)], vl9)) (fun _ _ q => e_Pn.run eAlk 1 rfl q)
                              obtain ⟨b310, hc293⟩ := hc293.of (fun _ _ q => e_Pn.getf (z := 21) eAlk rfl rfl (Eq.trans (kM_w5 hj7.1.2.1.2.2.1 (by first | decide | omega)).2 (by first | decide | omega)) q)
                              replace hc293 := hc293.st (t' := (46, [(0, (1, 275))], [(0, 20), (0, 21)], vl9)) (fun _ _ q => e_Pn.run eAlk 1 rfl q)
                              rcases hc293.or (fun _ _ q1 q2 => e_Pn.if2 eAlk rfl q1 q2) with ⟨h311, hc293⟩ | ⟨h311, hc293⟩
                              · replace h311 : (21 : Int) = 20 := h311
                                exfalso; omega
                              · replace h311 : (21 : Int) ≠ 20 := by have q : ¬ ((21 : Int) = 20) := h311; omega
                                replace hc293 := hc293.st (t' := (50, [(0, (1, 275))], [(1, 275)], vl9)) (fun _ _ q => e_Pn.run eAlk 1 rfl q)
                                obtain ⟨b312, hc293⟩ := hc293.of (fun _ _ q => e_Pn.getf (z := 21) eAlk rfl rfl (Eq.trans (kM_w5 hj7.1.2.1.2.2.1 (by first | decide | omega)).2 (by first | decide | omega)) q)
                                replace hc293 := hc293.st (t' := (55, [(0, (1, 275))], [(0, 21), (0, 21)], vl9)) (fun _ _ q => e_Pn.run eAlk 1 rfl q)
                                rcases hc293.or (fun _ _ q1 q2 => e_Pn.if2 eAlk rfl q1 q2) with ⟨h313, hc293⟩ | ⟨h313, hc293⟩
                                · replace h313 : (21 : Int) ≠ 21 := h313
                                  exfalso; omega
                                · replace h313 : (21 : Int) = 21 := by have q : ¬ ((21 : Int) ≠ 21) := h313; omega
                                  replace hc293 := hc293.st (t' := (63, [(0, (1, 275))], [(0, 1)], vl9)) (fun _ _ q => e_Pn.run eAlk 2 rfl q)
                                  obtain ⟨rfl, rfl⟩ := hc293.re4 rfl
                                  replace hM : e_Rn 20 elay ecode eI d' 348 (4, (0, (1, 275)) :: tl6, [(0, 1)], vl9) r' v' := hM
                                  rcases hM.or (fun _ _ q1 q2 => e_Pn.if1 eAlk rfl q1 q2) with ⟨h314, hM⟩ | ⟨h314, hM⟩
                                  · replace h314 : (1 : Int) = 0 := h314
                                    exfalso; omega
                                  · replace h314 : (1 : Int) ≠ 0 := by have q : ¬ ((1 : Int) = 0) := h314; omega
                                    replace hM := hM.st (t' := (8, (0, (1, 275)) :: tl6, [(1, 275)], vl9)) (fun _ _ q => e_Pn.run eAlk 1 rfl q)
                                    obtain ⟨b315, hM⟩ := hM.of (fun _ _ q => e_Pn.getf (z := 4) eAlk rfl rfl (kM_w5 hj7.1.2.1.2.2.1 (by first | decide | omega)).1 q)
                                    replace hM := hM.st (t' := (12, (0, (1, 275)) :: tl6, [(0, 1), (0, 4)], vl9)) (fun _ _ q => e_Pn.run eAlk 1 rfl q)
                                    rcases hM.or (fun _ _ q1 q2 => e_Pn.if2 eAlk rfl q1 q2) with ⟨h316, hM⟩ | ⟨h316, hM⟩
                                    · replace h316 : (4 : Int) ≠ 1 := h316
                                      replace hM := hM.st (t' := (75, (0, (1, 275)) :: tl6, [(1, 275)], vl9)) (fun _ _ q => e_Pn.run eAlk 1 rfl q)
                                      obtain ⟨b317, hM⟩ := hM.of (fun _ _ q => e_Pn.getf (z := 21) eAlk rfl rfl (Eq.trans (kM_w5 hj7.1.2.1.2.2.1 (by first | decide | omega)).2 (by first | decide | omega)) q)
                                      replace hM := hM.st (t' := (80, (0, (1, 275)) :: tl6, [(0, 18), (0, 21)], vl9)) (fun _ _ q => e_Pn.run eAlk 1 rfl q)
                                      rcases hM.or (fun _ _ q1 q2 => e_Pn.if2 eAlk rfl q1 q2) with ⟨h318, hM⟩ | ⟨h318, hM⟩
                                      · replace h318 : (21 : Int) ≠ 18 := h318
                                        replace hM := hM.st (t' := (91, (0, (1, 275)) :: tl6, [(1, 275)], vl9)) (fun _ _ q => e_Pn.run eAlk 1 rfl q)
                                        obtain ⟨b319, hM⟩ := hM.of (fun _ _ q => e_Pn.getf (z := 21) eAlk rfl rfl (Eq.trans (kM_w5 hj7.1.2.1.2.2.1 (by first | decide | omega)).2 (by first | decide | omega)) q)
                                        replace hM := hM.st (t' := (96, (0, (1, 275)) :: tl6, [(0, 20), (0, 21)], vl9)) (fun _ _ q => e_Pn.run eAlk 1 rfl q)
                                        rcases hM.or (fun _ _ q1 q2 => e_Pn.if2 eAlk rfl q1 q2) with ⟨h320, hM⟩ | ⟨h320, hM⟩
                                        · replace h320 : (21 : Int) ≠ 20 := h320
                                          replace hM := hM.st (t' := (107, (0, (1, 275)) :: tl6, [(1, 275)], vl9)) (fun _ _ q => e_Pn.run eAlk 1 rfl q)
                                          obtain ⟨b321, hM⟩ := hM.of (fun _ _ q => e_Pn.getf (z := 21) eAlk rfl rfl (Eq.trans (kM_w5 hj7.1.2.1.2.2.1 (by first | decide | omega)).2 (by first | decide | omega)) q)
                                          replace hM := hM.st (t' := (112, (0, (1, 275)) :: tl6, [(0, 21), (0, 21)], vl9)) (fun _ _ q => e_Pn.run eAlk 1 rfl q)
                                          rcases hM.or (fun _ _ q1 q2 => e_Pn.if2 eAlk rfl q1 q2) with ⟨h322, hM⟩ | ⟨h322, hM⟩
                                          · replace h322 : (21 : Int) ≠ 21 := h322
                                            exfalso; omega
                                          · replace h322 : (21 : Int) = 21 := by have q : ¬ ((21 : Int) ≠ 21) := h322; omega
                                            replace hM := hM.st (t' := (116, (0, (1, 275)) :: tl6, [(1, 275)], vl9)) (fun _ _ q => e_Pn.run eAlk 1 rfl q)
                                            obtain ⟨dc323, r324, v325, hc326, hM⟩ := hM.ca rfl
                                            have uhc326 := hc326.pn (fun nq => uS_all nq 352 (by decide) _ _ hj7.1.2.2.2.2.1)
                                            have z330 : st0 N cd wl8 vl9 := st.z hj7 (by first | decide | omega) (st.loo hj7 hzo.2.1) (by first | decide | omega)
                                            refine e_Pn.callB rfl (fun k9 hk9 d9 => e_Pn.and (e_145_42 z330 (by first | decide | omega) (by have q9 := kM_w5 hj7.1.2.1.2.2.1 (by first | decide | omega); omega) (fun k hk => ihS k (by first | decide | omega)) (d' := dc323) hc326) (kS_all k9 145 (by decide) d9 _ _ hj7.1.2.2.2.1)) (fun r327 w328 h329 => ?_)
                                            obtain ⟨⟨rfl, rfl, h329⟩, -, h329k⟩ := h329
                                            rcases h329.symm with h329 | ⟨h329, h329p⟩
                                            · skip
                                              replace hM : e_Rn 20 elay ecode eI d' 348 (119, (0, (1, 275)) :: tl6, [], v325) r' v' := hM
                                              obtain ⟨rfl, m331⟩ := (e_Rn.le eAlk [0] rfl rfl hM).pn (fun nq => v_348_119 (uhc326.2.rf hj7.1.2.2.2.2.1) _  v325 mq.r)
                                              show e_Pn 20 elay kcode eI nn4 d 144 (20, (0, (1, 1)) :: (1, (0, y1)) :: tl5, [], w328) _
                                              refine e_Pn.ord kAlk [0, 1] rfl rfl ((v_144_20 (h329k.rf hj7.1.2.2.2.1) _ y1 w328 kq.r).imp (fun r333 w334 k332 => ?_))
                                              obtain ⟨rfl, k332⟩ := k332
                                              exact ⟨rfl, rfl, Or.inr (rpF.tail h329 k332 m331)⟩
                                            have s335 := st.re (l' := w 1 13) (m' := v 275 82) (t' := w 1 12) (st.tr hj7 h329) (Int.le_refl _) rfl (by first | decide | omega) (by first | decide | omega) (by first | decide | omega)
                                            have q336 := st.nums s335
                                            clear q11
                                            have q336c := q336.2.2.2.1
                                            show e_Pn 20 elay kcode eI nn4 d 144 (20, (0, (1, 1)) :: (1, (0, y1)) :: tl5, [], w328) _
                                            replace hM : e_Rn 20 elay ecode eI d' 348 (119, (0, (1, 275)) :: tl6, [], v325) r' v' := hM
                                            refine e_Pn.inc (z := y1 + 1) kAlk rfl rfl (by first | decide | omega) (by first | decide | omega) ?_
                                            show e_Pn 20 elay kcode eI nn4 d 144 (23, (1, (0, y1 + 1)) :: (0, (1, 1)) :: List.filter (e_flt 0 1) tl5, [], w328) _
                                            refine e_Pn.run (t' := (2, (1, (0, y1 + 1)) :: (0, (1, 1)) :: List.filter (e_flt 0 1) tl5, [], w328)) kAlk 1 rfl ?_
                                            replace hM := hM.st (t' := (0, (0, (1, 275)) :: tl6, [], v325)) (fun _ _ q => e_Pn.run eAlk 1 rfl q)
                                            exact e_Pn.ord kAlk [0, 1] rfl rfl (ih3 (by first | decide | omega) _ _ (y1 + 1) w328 v325 ⟨(st.re s335 (by first | decide | omega) (by first | decide | omega) (by first | decide | omega) (by first | decide | omega) (by first | decide | omega)), (by first | decide | omega)⟩ (e_Rn.le eAlk [0] rfl rfl hM))
                                        · replace h320 : (21 : Int) = 20 := by have q : ¬ ((21 : Int) ≠ 20) := h320; omega
                                          exfalso; omega
                                      · replace h318 : (21 : Int) = 18 := by have q : ¬ ((21 : Int) ≠ 18) := h318; omega
                                        exfalso; omega
                                    · replace h316 : (4 : Int) = 1 := by have q : ¬ ((4 : Int) ≠ 1) := h316; omega
                                      exfalso; omega
            · replace h222 : (wl8 1 5 : Int) ≤ 39 := by have q : ¬ ((wl8 1 5 : Int) > 39) := h222; omega
              refine e_Pn.run (t' := (15, [(0, (0, wl8 1 5)), (1, (0, 24)), (2, (0, 39))], [(0, 1)], wl8)) kAlk 2 rfl ?_
              refine e_Pn.ret4 rfl ?_
              show e_Pn 20 elay kcode eI nq13 dq14 143 (19, [(0, (1, 1))], [(0, 1)], wl8) _
              refine e_Pn.if1 kAlk rfl (fun h337 => ?_) (fun h337 => ?_)
              · replace h337 : (1 : Int) ≠ 0 := h337
                refine e_Pn.run (t' := (45, [(0, (1, 1))], [(0, 1)], wl8)) kAlk 2 rfl ?_
                refine e_Pn.ret4 rfl ?_
                show e_Pn 20 elay kcode eI nn4 d 144 (13, (0, (1, 1)) :: (1, (0, y1)) :: tl5, [(0, 1)], wl8) _
                refine e_Pn.if1 kAlk rfl (fun h338 => ?_) (fun h338 => ?_)
                · replace h338 : (1 : Int) = 0 := h338
                  exfalso; omega
                · replace h338 : (1 : Int) ≠ 0 := by have q : ¬ ((1 : Int) = 0) := h338; omega
                  refine e_Pn.run (t' := (17, (0, (1, 1)) :: (1, (0, y1)) :: tl5, [(1, 1)], wl8)) kAlk 1 rfl ?_
                  replace hM := hM.st (t' := (1, (0, (1, 275)) :: tl6, [(1, 275)], vl9)) (fun _ _ q => e_Pn.run eAlk 1 rfl q)
                  obtain ⟨dhc339, r340, v341, hc339, hM⟩ := hM.ca rfl
                  replace hc339 : e_Rn 20 elay ecode eI dhc339 347 (0, [(0, (1, 275))], [], vl9) r340 v341 := hc339
                  replace hc339 := hc339.st (t' := (1, [(0, (1, 275))], [(1, 275)], vl9)) (fun _ _ q => e_Pn.run eAlk 1 rfl q)
                  obtain ⟨b342, hc339⟩ := hc339.of (fun _ _ q => e_Pn.getf (z := 0) eAlk rfl rfl hj7.1.2.1.1.2 q)
                  rcases hc339.or (fun _ _ q1 q2 => e_Pn.if1 eAlk rfl q1 q2) with ⟨h343, hc339⟩ | ⟨h343, hc339⟩
                  · replace h343 : (0 : Int) ≠ 0 := h343
                    exfalso; omega
                  · replace h343 : (0 : Int) = 0 := by have q : ¬ ((0 : Int) ≠ 0) := h343; omega
                    have kw344 : (wl8 1 5 : Int) ≠ 1 := fun e9 => absurd (kM_k1 hj7.1.2.1.2.2.1 e9) (by first | decide | omega)
                    replace hc339 := hc339.st (t' := (8, [(0, (1, 275))], [(1, 275)], vl9)) (fun _ _ q => e_Pn.run eAlk 1 rfl q)
                    obtain ⟨b345, hc339⟩ := hc339.of (fun _ _ q => e_Pn.getf (z := vl9 275 84) eAlk rfl rfl rfl q)
                    replace hc339 := hc339.st (t' := (12, [(0, (1, 275))], [(0, 1), (0, vl9 275 84)], vl9)) (fun _ _ q => e_Pn.run eAlk 1 rfl q)
                    rcases hc339.or (fun _ _ q1 q2 => e_Pn.if2 eAlk rfl q1 q2) with ⟨h346, hc339⟩ | ⟨h346, hc339⟩
                    · replace h346 : (vl9 275 84 : Int) = 1 := h346
                      exact (kM_no hj7.1.2.1.2.2.1 (fun a b => decide ((a : Int) ≠ 1) && decide ((24 : Int) ≤ a) && decide ((a : Int) ≤ 39) && decide ((b : Int) = 1)) (fun a b c => true) (by decide) (by decide) (by simp only [Bool.and_eq_true, decide_eq_true_eq]; exact ⟨⟨⟨h16, h191⟩, h222⟩, h346⟩) rfl).elim
                    · replace h346 : (vl9 275 84 : Int) ≠ 1 := by have q : ¬ ((vl9 275 84 : Int) = 1) := h346; omega
                      replace hc339 := hc339.st (t' := (16, [(0, (1, 275))], [(1, 275)], vl9)) (fun _ _ q => e_Pn.run eAlk 1 rfl q)
                      obtain ⟨b347, hc339⟩ := hc339.of (fun _ _ q => e_Pn.getf (z := vl9 275 84) eAlk rfl rfl rfl q)
                      replace hc339 := hc339.st (t' := (20, [(0, (1, 275))], [(0, 4), (0, vl9 275 84)], vl9)) (fun _ _ q => e_Pn.run eAlk 1 rfl q)
                      rcases hc339.or (fun _ _ q1 q2 => e_Pn.if2 eAlk rfl q1 q2) with ⟨h348, hc339⟩ | ⟨h348, hc339⟩
                      · replace h348 : (vl9 275 84 : Int) ≠ 4 := h348
                        exact (kM_no hj7.1.2.1.2.2.1 (fun a b => decide ((a : Int) ≠ 1) && decide ((24 : Int) ≤ a) && decide ((a : Int) ≤ 39) && decide ((b : Int) ≠ 1) && decide ((b : Int) ≠ 4)) (fun a b c => true) (by decide) (by decide) (by simp only [Bool.and_eq_true, decide_eq_true_eq]; exact ⟨⟨⟨⟨h16, h191⟩, h222⟩, h346⟩, h348⟩) rfl).elim
                      · replace h348 : (vl9 275 84 : Int) = 4 := by have q : ¬ ((vl9 275 84 : Int) ≠ 4) := h348; omega
                        replace hc339 := hc339.st (t' := (24, [(0, (1, 275))], [(1, 275)], vl9)) (fun _ _ q => e_Pn.run eAlk 1 rfl q)
                        obtain ⟨b349, hc339⟩ := hc339.of (fun _ _ q => e_Pn.getf (z := vl9 275 85) eAlk rfl rfl rfl q)
                        replace hc339 := hc339.st (t' := (34, [(0, (1, 275))], [(4, 18), (4, 3), (4, vl9 275 85)], vl9)) (fun _ _ q => e_Pn.run eAlk 3 rfl q)
                        obtain ⟨dc350, r351, v352, hc353, hc339⟩ := hc339.ca rfl
                        obtain ⟨z354, rfl, rfl, z354q⟩ := hc353.pn (fun nq => e_Ok.pnA (D0 := 600) (fun D hD => c_266) nq dc350)
                        have z354w := kM_w4 hj7.1.2.1.2.2.1 h348
                        obtain rfl : z354 = 1 := by omega
                        replace hc339 : e_Rn 20 elay ecode eI dhc339 347 (37, [(0, (1, 275))], [(0, 1)], vl9) r340 v341 := hc339
                        rcases hc339.or (fun _ _ q1 q2 => e_Pn.if1 eAlk rfl q1 q2) with ⟨h355, hc339⟩ | ⟨h355, hc339⟩
                        · replace h355 : (1 : Int) ≠ 0 := h355
                          replace hc339 := hc339.st (t' := (63, [(0, (1, 275))], [(0, 1)], vl9)) (fun _ _ q => e_Pn.run eAlk 2 rfl q)
                          obtain ⟨rfl, rfl⟩ := hc339.re4 rfl
                          replace hM : e_Rn 20 elay ecode eI d' 348 (4, (0, (1, 275)) :: tl6, [(0, 1)], vl9) r' v' := hM
                          rcases hM.or (fun _ _ q1 q2 => e_Pn.if1 eAlk rfl q1 q2) with ⟨h356, hM⟩ | ⟨h356, hM⟩
                          · replace h356 : (1 : Int) = 0 := h356
                            exfalso; omega
                          · replace h356 : (1 : Int) ≠ 0 := by have q : ¬ ((1 : Int) = 0) := h356; omega
                            replace hM := hM.st (t' := (8, (0, (1, 275)) :: tl6, [(1, 275)], vl9)) (fun _ _ q => e_Pn.run eAlk 1 rfl q)
                            obtain ⟨b357, hM⟩ := hM.of (fun _ _ q => e_Pn.getf (z := vl9 275 84) eAlk rfl rfl rfl q)
                            replace hM := hM.st (t' := (12, (0, (1, 275)) :: tl6, [(0, 1), (0, vl9 275 84)], vl9)) (fun _ _ q => e_Pn.run eAlk 1 rfl q)
                            rcases hM.or (fun _ _ q1 q2 => e_Pn.if2 eAlk rfl q1 q2) with ⟨h358, hM⟩ | ⟨h358, hM⟩
                            · replace h358 : (vl9 275 84 : Int) ≠ 1 := h358
                              replace hM := hM.st (t' := (75, (0, (1, 275)) :: tl6, [(1, 275)], vl9)) (fun _ _ q => e_Pn.run eAlk 1 rfl q)
                              obtain ⟨b359, hM⟩ := hM.of (fun _ _ q => e_Pn.getf (z := vl9 275 85) eAlk rfl rfl rfl q)
                              replace hM := hM.st (t' := (80, (0, (1, 275)) :: tl6, [(0, 18), (0, vl9 275 85)], vl9)) (fun _ _ q => e_Pn.run eAlk 1 rfl q)
                              rcases hM.or (fun _ _ q1 q2 => e_Pn.if2 eAlk rfl q1 q2) with ⟨h360, hM⟩ | ⟨h360, hM⟩
                              · replace h360 : (vl9 275 85 : Int) ≠ 18 := h360
                                replace hM := hM.st (t' := (91, (0, (1, 275)) :: tl6, [(1, 275)], vl9)) (fun _ _ q => e_Pn.run eAlk 1 rfl q)
                                obtain ⟨b361, hM⟩ := hM.of (fun _ _ q => e_Pn.getf (z := vl9 275 85) eAlk rfl rfl rfl q)
                                replace hM := hM.st (t' := (96, (0, (1, 275)) :: tl6, [(0, 20), (0, vl9 275 85)], vl9)) (fun _ _ q => e_Pn.run eAlk 1 rfl q)
                                rcases hM.or (fun _ _ q1 q2 => e_Pn.if2 eAlk rfl q1 q2) with ⟨h362, hM⟩ | ⟨h362, hM⟩
                                · replace h362 : (vl9 275 85 : Int) ≠ 20 := h362
                                  replace hM := hM.st (t' := (107, (0, (1, 275)) :: tl6, [(1, 275)], vl9)) (fun _ _ q => e_Pn.run eAlk 1 rfl q)
                                  obtain ⟨b363, hM⟩ := hM.of (fun _ _ q => e_Pn.getf (z := vl9 275 85) eAlk rfl rfl rfl q)
                                  replace hM := hM.st (t' := (112, (0, (1, 275)) :: tl6, [(0, 21), (0, vl9 275 85)], vl9)) (fun _ _ q => e_Pn.run eAlk 1 rfl q)
                                  rcases hM.or (fun _ _ q1 q2 => e_Pn.if2 eAlk rfl q1 q2) with ⟨h364, hM⟩ | ⟨h364, hM⟩
                                  · replace h364 : (vl9 275 85 : Int) ≠ 21 := h364
                                    replace hM := hM.st (t' := (124, (0, (1, 275)) :: tl6, [(1, 275), (1, 275)], vl9)) (fun _ _ q => e_Pn.run eAlk 2 rfl q)
                                    obtain ⟨b365, hM⟩ := hM.of (fun _ _ q => e_Pn.getf (z := vl9 275 85) eAlk rfl rfl rfl q)
                                    obtain ⟨dc366, r367, v368, hc369, hM⟩ := hM.ca rfl
                                    have uhc369 := hc369.pn (fun nq => u_349 hj7.1.2.2.2.2.1)
                                    have z373 : st0 N cd wl8 vl9 := st.z hj7 (by first | decide | omega) (st.loo hj7 hzo.2.1) (by first | decide | omega)
                                    refine e_Pn.callB rfl (fun k9 hk9 d9 => e_Pn.and (e_145_p z373 (by first | decide | omega) (by first | decide | omega) (kM_w5 hj7.1.2.1.2.2.1 (by first | decide | omega)).2 (fun k hk => ihS k (by first | decide | omega)) (d' := dc366) hc369) (kS_all k9 145 (by decide) d9 _ _ hj7.1.2.2.2.1)) (fun r370 w371 h372 => ?_)
                                    obtain ⟨⟨rfl, rfl, h372⟩, -, h372k⟩ := h372
                                    rcases h372.symm with h372 | ⟨h372, h372p⟩
                                    · skip
                                      replace hM : e_Rn 20 elay ecode eI d' 348 (130, (0, (1, 275)) :: tl6, [], v368) r' v' := hM
                                      obtain ⟨rfl, m374⟩ := (e_Rn.le eAlk [0] rfl rfl hM).pn (fun nq => v_348_130 (uhc369.2.rf hj7.1.2.2.2.2.1) _  v368 mq.r)
                                      show e_Pn 20 elay kcode eI nn4 d 144 (20, (0, (1, 1)) :: (1, (0, y1)) :: tl5, [], w371) _
                                      refine e_Pn.ord kAlk [0, 1] rfl rfl ((v_144_20 (h372k.rf hj7.1.2.2.2.1) _ y1 w371 kq.r).imp (fun r376 w377 k375 => ?_))
                                      obtain ⟨rfl, k375⟩ := k375
                                      exact ⟨rfl, rfl, Or.inr (rpF.tail h372 k375 m374)⟩
                                    have s378 := st.re (l' := w 1 13) (m' := v 275 82) (t' := w 1 12) (st.tr hj7 h372) (Int.le_refl _) rfl (by first | decide | omega) (by first | decide | omega) (by first | decide | omega)
                                    have q379 := st.nums s378
                                    clear q11
                                    have q379c := q379.2.2.2.1
                                    show e_Pn 20 elay kcode eI nn4 d 144 (20, (0, (1, 1)) :: (1, (0, y1)) :: tl5, [], w371) _
                                    replace hM : e_Rn 20 elay ecode eI d' 348 (130, (0, (1, 275)) :: tl6, [], v368) r' v' := hM
                                    refine e_Pn.inc (z := y1 + 1) kAlk rfl rfl (by first | decide | omega) (by first | decide | omega) ?_
                                    show e_Pn 20 elay kcode eI nn4 d 144 (23, (1, (0, y1 + 1)) :: (0, (1, 1)) :: List.filter (e_flt 0 1) tl5, [], w371) _
                                    refine e_Pn.run (t' := (2, (1, (0, y1 + 1)) :: (0, (1, 1)) :: List.filter (e_flt 0 1) tl5, [], w371)) kAlk 1 rfl ?_
                                    replace hM := hM.st (t' := (0, (0, (1, 275)) :: tl6, [], v368)) (fun _ _ q => e_Pn.run eAlk 1 rfl q)
                                    exact e_Pn.ord kAlk [0, 1] rfl rfl (ih3 (by first | decide | omega) _ _ (y1 + 1) w371 v368 ⟨(st.re s378 (by first | decide | omega) (by first | decide | omega) (by first | decide | omega) (by first | decide | omega) (by first | decide | omega)), (by first | decide | omega)⟩ (e_Rn.le eAlk [0] rfl rfl hM))
                                  · replace h364 : (vl9 275 85 : Int) = 21 := by have q : ¬ ((vl9 275 85 : Int) ≠ 21) := h364; omega
                                    exact (kM_no hj7.1.2.1.2.2.1 (fun a b => decide ((a : Int) ≠ 1) && decide ((24 : Int) ≤ a) && decide ((a : Int) ≤ 39) && decide ((b : Int) ≠ 1) && decide ((b : Int) = 4) && decide ((b : Int) ≠ 1)) (fun a b c => decide ((c : Int) ≠ 18) && decide ((c : Int) ≠ 20) && decide ((c : Int) = 21)) (by decide) (by decide) (by simp only [Bool.and_eq_true, decide_eq_true_eq]; exact ⟨⟨⟨⟨⟨h16, h191⟩, h222⟩, h346⟩, h348⟩, h358⟩) (by simp only [Bool.and_eq_true, decide_eq_true_eq]; exact ⟨⟨h360, h362⟩, h364⟩)).elim
                                · replace h362 : (vl9 275 85 : Int) = 20 := by have q : ¬ ((vl9 275 85 : Int) ≠ 20) := h362; omega
                                  exact (kM_no hj7.1.2.1.2.2.1 (fun a b => decide ((a : Int) ≠ 1) && decide ((24 : Int) ≤ a) && decide ((a : Int) ≤ 39) && decide ((b : Int) ≠ 1) && decide ((b : Int) = 4) && decide ((b : Int) ≠ 1)) (fun a b c => decide ((c : Int) ≠ 18) && decide ((c : Int) = 20)) (by decide) (by decide) (by simp only [Bool.and_eq_true, decide_eq_true_eq]; exact ⟨⟨⟨⟨⟨h16, h191⟩, h222⟩, h346⟩, h348⟩, h358⟩) (by simp only [Bool.and_eq_true, decide_eq_true_eq]; exact ⟨h360, h362⟩)).elim
                              · replace h360 : (vl9 275 85 : Int) = 18 := by have q : ¬ ((vl9 275 85 : Int) ≠ 18) := h360; omega
                                replace hM := hM.st (t' := (84, (0, (1, 275)) :: tl6, [(1, 275)], vl9)) (fun _ _ q => e_Pn.run eAlk 1 rfl q)
                                obtain ⟨dc380, r381, v382, hc383, hM⟩ := hM.ca rfl
                                have uhc383 := hc383.pn (fun nq => uS_all nq 350 (by decide) _ _ hj7.1.2.2.2.2.1)
                                have z387 : st0 N cd wl8 vl9 := st.z hj7 (by first | decide | omega) (st.loo hj7 hzo.2.1) (by first | decide | omega)
                                refine e_Pn.callB rfl (fun k9 hk9 d9 => e_Pn.and (e_145_39 z387 (by first | decide | omega) (by have q9 := kM_w5 hj7.1.2.1.2.2.1 (by first | decide | omega); omega) (fun k hk => ihS k (by first | decide | omega)) (d' := dc380) hc383) (kS_all k9 145 (by decide) d9 _ _ hj7.1.2.2.2.1)) (fun r384 w385 h386 => ?_)
                                obtain ⟨⟨rfl, rfl, h386⟩, -, h386k⟩ := h386
                                rcases h386.symm with h386 | ⟨h386, h386p⟩
                                · skip
                                  replace hM : e_Rn 20 elay ecode eI d' 348 (87, (0, (1, 275)) :: tl6, [], v382) r' v' := hM
                                  obtain ⟨rfl, m388⟩ := (e_Rn.le eAlk [0] rfl rfl hM).pn (fun nq => v_348_87 (uhc383.2.rf hj7.1.2.2.2.2.1) _  v382 mq.r)
                                  show e_Pn 20 elay kcode eI nn4 d 144 (20, (0, (1, 1)) :: (1, (0, y1)) :: tl5, [], w385) _
                                  refine e_Pn.ord kAlk [0, 1] rfl rfl ((v_144_20 (h386k.rf hj7.1.2.2.2.1) _ y1 w385 kq.r).imp (fun r390 w391 k389 => ?_))
                                  obtain ⟨rfl, k389⟩ := k389
                                  exact ⟨rfl, rfl, Or.inr (rpF.tail h386 k389 m388)⟩
                                have s392 := st.re (l' := w 1 13) (m' := v 275 82) (t' := w 1 12) (st.tr hj7 h386) (Int.le_refl _) rfl (by first | decide | omega) (by first | decide | omega) (by first | decide | omega)
                                have q393 := st.nums s392
                                clear q11
                                have q393c := q393.2.2.2.1
                                show e_Pn 20 elay kcode eI nn4 d 144 (20, (0, (1, 1)) :: (1, (0, y1)) :: tl5, [], w385) _
                                replace hM : e_Rn 20 elay ecode eI d' 348 (87, (0, (1, 275)) :: tl6, [], v382) r' v' := hM
                                refine e_Pn.inc (z := y1 + 1) kAlk rfl rfl (by first | decide | omega) (by first | decide | omega) ?_
                                show e_Pn 20 elay kcode eI nn4 d 144 (23, (1, (0, y1 + 1)) :: (0, (1, 1)) :: List.filter (e_flt 0 1) tl5, [], w385) _
                                refine e_Pn.run (t' := (2, (1, (0, y1 + 1)) :: (0, (1, 1)) :: List.filter (e_flt 0 1) tl5, [], w385)) kAlk 1 rfl ?_
                                replace hM := hM.st (t' := (0, (0, (1, 275)) :: tl6, [], v382)) (fun _ _ q => e_Pn.run eAlk 1 rfl q)
                                exact e_Pn.ord kAlk [0, 1] rfl rfl (ih3 (by first | decide | omega) _ _ (y1 + 1) w385 v382 ⟨(st.re s392 (by first | decide | omega) (by first | decide | omega) (by first | decide | omega) (by first | decide | omega) (by first | decide | omega)), (by first | decide | omega)⟩ (e_Rn.le eAlk [0] rfl rfl hM))
                            · replace h358 : (vl9 275 84 : Int) = 1 := by have q : ¬ ((vl9 275 84 : Int) ≠ 1) := h358; omega
                              exact (kM_no hj7.1.2.1.2.2.1 (fun a b => decide ((a : Int) ≠ 1) && decide ((24 : Int) ≤ a) && decide ((a : Int) ≤ 39) && decide ((b : Int) ≠ 1) && decide ((b : Int) = 4) && decide ((b : Int) = 1)) (fun a b c => true) (by decide) (by decide) (by simp only [Bool.and_eq_true, decide_eq_true_eq]; exact ⟨⟨⟨⟨⟨h16, h191⟩, h222⟩, h346⟩, h348⟩, h358⟩) rfl).elim
                        · replace h355 : (1 : Int) = 0 := by have q : ¬ ((1 : Int) ≠ 0) := h355; omega
                          exact (kM_no hj7.1.2.1.2.2.1 (fun a b => decide ((a : Int) ≠ 1) && decide ((24 : Int) ≤ a) && decide ((a : Int) ≤ 39) && decide ((b : Int) ≠ 1) && decide ((b : Int) = 4) && decide ((1 : Int) = 0)) (fun a b c => true) (by decide) (by decide) (by simp only [Bool.and_eq_true, decide_eq_true_eq]; exact ⟨⟨⟨⟨⟨h16, h191⟩, h222⟩, h346⟩, h348⟩, h355⟩) rfl).elim
              · replace h337 : (1 : Int) = 0 := by have q : ¬ ((1 : Int) ≠ 0) := h337; omega
                exfalso; omega
  exact e_Pn.ord kAlk [0, 1] rfl rfl (hL2 n (Nat.le_refl _) _ _ 0 w v ⟨(st.re h0 (by first | decide | omega) (by first | decide | omega) (by first | decide | omega) (by first | decide | omega) (by first | decide | omega)), (by first | decide | omega)⟩ (e_Rn.le eAlk [0] rfl rfl hM))
end
