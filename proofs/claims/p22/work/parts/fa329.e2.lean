noncomputable section
/-! the readers in lockstep: statements -/
set_option maxHeartbeats 4000000 in
theorem e_145_41 {n : Nat} {N cd : Int} {w v : eW} (hz : st0 N cd w v) (hp : 1 ≤ w 1 6) (hkd : w 1 5 = 41) (ihS : ∀ k, k < n → sE k) {d d' : Nat} {r' : List eV} {v' : eW} (hM : e_Rn 20 elay ecode eI d' 351 (0, [(0, (1, 275))], [], v) r' v') : e_Pn 20 elay kcode eI n d 145 (0, [(0, (1, 1))], [], w) (fun r w' => r = [] ∧ r' = [] ∧ ((st N cd w v w' v' 0 0 0 (-1) (w 1 13) (v 275 82) (w 1 12) 2 ∧ w 1 6 < w' 1 6) ∨ rpF w' v')) := by
  have h0 := hz.st (ka := 2)
  have hm := hz.1.2.2.2.1.1.m
  have hn := hz.1.2.2.2.1.1.n
  have hzo := hz.2.2.2
  have q1 := st.nums h0
  have q1c := q1.2.2.2.1
  have q1d := q1.2.1
  have q1e := q1.2.2.1
  have q1f := q1.2.2.2.2.1.1
  refine e_Pn.run (t' := (1, [(0, (1, 1))], [(1, 1)], w)) kAlk 1 rfl ?_
  refine e_Pn.getf (z := w 1 5) kAlk rfl rfl rfl (fun b2 => ?_)
  refine e_Pn.run (t' := (6, [(0, (1, 1))], [(0, 41), (0, w 1 5)], w)) kAlk 1 rfl ?_
  refine e_Pn.if2 kAlk rfl (fun h3 => ?_) (fun h3 => ?_)
  · replace h3 : (w 1 5 : Int) = 41 := h3
    refine e_Pn.run (t' := (21, [(0, (1, 1))], [(1, 1)], w)) kAlk 1 rfl ?_
    refine e_Pn.getf (z := w 1 5) kAlk rfl rfl rfl (fun b4 => ?_)
    have hs6 : ∀ x : Int, 41 ≤ x ∧ x ≤ 41 → (x = 41) := fun x h => by omega
    obtain h5 := hs6 (w 1 5) (by omega)
    · refine e_Pn.sw (tg := 345) kAlk rfl (by rw [h5]; rfl) ?_
      replace h5 : (w 1 5 : Int) = 41 := h5
      refine e_Pn.run (t' := (346, [(0, (1, 1))], [(1, 1)], w)) kAlk 1 rfl ?_
      refine e_Pn.callJ rfl (fun nq7 hnq7 dq8 => ?_)
      show e_Pn 20 elay kcode eI nq7 dq8 155 (0, [(0, (1, 1))], [], w) _
      refine e_Pn.run (t' := (1, [(0, (1, 1))], [(1, 1)], w)) kAlk 1 rfl ?_
      replace hM := hM.st (t' := (1, [(0, (1, 275))], [(1, 275)], v)) (fun _ _ q => e_Pn.run eAlk 1 rfl q)
      obtain ⟨dc9, r10, v11, hc12, hM⟩ := hM.ca rfl
      have uhc12 := hc12.pn (fun nq => u_335 h0.1.2.2.2.2.1)
      refine e_Pn.callA rfl (fun nq dq => e_Pn.and (t_132 h0.1.2.1 (by omega) (d' := dc9) hc12) (u_132 h0.1.2.2.2.1)) (fun r13 w14 h15 => ?_)
      obtain ⟨h15, -, h15k⟩ := h15
      rcases h15.symm with ⟨rfl, rfl, h15F⟩ | ⟨rfl, rfl, h15b, h15w, h15v⟩
      · skip
        replace hM : e_Rn 20 elay ecode eI d' 351 (4, [(0, (1, 275))], [], v11) r' v' := hM
        obtain ⟨rfl, m16⟩ := (e_Rn.le eAlk [0] rfl rfl hM).pn (fun nq => v_351_4 (uhc12.2.rf h0.1.2.2.2.2.1) _  v11 mq.r)
        show e_Pn 20 elay kcode eI nq7 dq8 155 (4, [(0, (1, 1))], [(0, 0)], w14) _
        refine e_Pn.ord kAlk [0] rfl rfl ((v_155_4 (h15k.rf h0.1.2.2.2.1) _ 0 w14 kq.r).imp (fun r18 w19 k17 => ?_))
        obtain ⟨rfl, k17⟩ := k17
        show e_Pn 20 elay kcode eI n d 145 (349, [(0, (1, 1))], [], w19) _
        refine e_Pn.ord kAlk [0] rfl rfl ((v_145_349 (k17.rf (h15k.rf h0.1.2.2.2.1)) _  w19 kq.r).imp (fun r21 w22 k20 => ?_))
        obtain ⟨rfl, k20⟩ := k20
        exact ⟨rfl, rfl, Or.inr (rpF.tail h15F (k17.tr k20) m16)⟩
      have s23 := st.opn h0 h15w.symm h15v.symm (by omega)
      have w14g : e_fr (kGs cd) w w14 := e_fr.up (e_fr.refl w) h15w.symm (by unfold kGs; omega)
      have q24 := st.nums s23
      have q24c := q24.2.2.2.1
      have q24d := q24.2.1
      have q24e := q24.2.2.1
      have q24f := q24.2.2.2.2.1.1
      have s23t : w14 1 5 = w 1 5 := by rw [h15w]; exact e_up_ne _ _ (Or.inr (by decide))
      have t25 : (w14 1 5 : Int) = 41 := by rw [s23t]; exact hkd
      have t26 : (w14 1 5 : Int) = 41 := by rw [s23t]; exact h3
      have t27 : (w14 1 5 : Int) = 41 := by rw [s23t]; exact h5
      show e_Pn 20 elay kcode eI nq7 dq8 155 (4, [(0, (1, 1))], [(0, 1)], w14) _
      replace hM : e_Rn 20 elay ecode eI d' 351 (4, [(0, (1, 275))], [], v11) r' v' := hM
      refine e_Pn.if1 kAlk rfl (fun h28 => ?_) (fun h28 => ?_)
      · replace h28 : (1 : Int) ≠ 0 := h28
        refine e_Pn.run (t' := (9, [(0, (1, 1))], [(1, 1)], w14)) kAlk 1 rfl ?_
        refine e_Pn.getf (z := w14 1 13) kAlk rfl rfl rfl (fun b29 => ?_)
        refine e_Pn.run (t' := (15, [(1, (0, w14 1 13)), (0, (1, 1))], [(1, 1), (1, 1)], w14)) kAlk 3 rfl ?_
        refine e_Pn.getr (z := cd) kAlk rfl rfl s23.1.2.2.2.1.2.1 (by omega) ?_
        refine e_Pn.run (t' := (21, [(1, (0, w14 1 13)), (0, (1, 1))], [(1, 1), (0, 45), (1, cd), (1, 1)], w14)) kAlk 2 rfl ?_
        refine e_Pn.getf (z := w14 1 12) kAlk rfl rfl rfl (fun b30 => ?_)
        refine e_Pn.callA rfl (fun nq dq => l_21 s23.1.2.2.2.1 (op := 45) (od := w14 1 12) (by omega) (by omega) s23.1.2.2.2.2.2.1) (fun r31 w32 h33 => ?_)
        obtain ⟨z34, rfl, w32f, w32q⟩ := h33
        have w32k := kRw.em s23.1.2.2.2.1 w32f
        have w32l := (emQ.len w32q s23.1.2.2.2.2.2.1).1
        have w32e : w32 1 5 = w14 1 5 ∧ w32 1 6 = w14 1 6 ∧ w32 1 8 = w14 1 8 := ⟨w32f 1 5 (by unfold kEm; omega), w32f 1 6 (by unfold kEm; omega), w32f 1 8 (by unfold kEm; omega)⟩
        have s35 := st.em s23 w32f w32q (by omega) (by unfold isCl3; omega)
        have hd36 := hd1 w32q
        have q37 := st.nums s35
        clear q24
        have q37c := q37.2.2.2.1
        have q37d := q37.2.1
        have q37e := q37.2.2.1
        have q37f := q37.2.2.2.2.1.1
        have z34r : 0 ≤ z34 ∧ z34 ≤ 4000 := emQ.z w32q s23.1.2.2.2.2.2.1
        show e_Pn 20 elay kcode eI nq7 dq8 155 (27, [(1, (0, w14 1 13)), (0, (1, 1))], [(0, z34), (1, 1)], w32) _
        refine e_Pn.putf kAlk rfl rfl ?_
        generalize hw38 : e_up w32 1 13 z34 = w38
        have w38g : e_fr (kGs cd) w32 w38 := (e_fr.up (e_fr.refl w32) hw38 (by unfold kGs; omega))
        have w38k := kRw.gs w32k w38g
        have w38l : 0 ≤ w38 cd 0 ∧ w38 cd 0 ≤ 4000 := by rw [w38g cd 0 (by unfold kGs; omega)]; exact w32l
        have w38e : w38 1 5 = w32 1 5 ∧ w38 1 6 = w32 1 6 ∧ w38 1 8 = w32 1 8 := ⟨w38g 1 5 (by unfold kGs; omega), w38g 1 6 (by unfold kGs; omega), w38g 1 8 (by unfold kGs; omega)⟩
        refine e_Pn.run (t' := (31, [(1, (0, w14 1 13)), (0, (1, 1))], [(1, 1)], w38)) kAlk 1 rfl ?_
        refine e_Pn.getf (z := z34) kAlk rfl rfl (by rw [← hw38]; exact e_up_eq _ _ _ _) (fun b39 => ?_)
        refine e_Pn.run (t' := (36, [(2, (0, z34)), (1, (0, w14 1 13)), (0, (1, 1))], [(1, 1)], w38)) kAlk 2 rfl ?_
        refine e_Pn.getr (z := cd) kAlk rfl rfl (by rw [← hw38]; exact (e_up_ne _ _ (Or.inr (by omega))).trans ((w32f 1 3 (by unfold kEm; omega)).trans s23.1.2.2.2.1.2.1)) (by omega) ?_
        refine e_Pn.run (t' := (42, [(2, (0, z34)), (1, (0, w14 1 13)), (0, (1, 1))], [(0, 0), (0, 49), (1, cd)], w38)) kAlk 2 rfl ?_
        refine e_Pn.callA rfl (fun nq dq => l_21 w38k (op := 49) (od := 0) (by omega) (by omega) w38l) (fun r40 w41 h42 => ?_)
        obtain ⟨z43, rfl, w41f, w41q⟩ := h42
        have w41k := kRw.em w38k w41f
        have w41l := (emQ.len w41q w38l).1
        have w41e : w41 1 5 = w38 1 5 ∧ w41 1 6 = w38 1 6 ∧ w41 1 8 = w38 1 8 := ⟨w41f 1 5 (by unfold kEm; omega), w41f 1 6 (by unfold kEm; omega), w41f 1 8 (by unfold kEm; omega)⟩
        have z43r : 0 ≤ z43 ∧ z43 ≤ 4000 := emQ.z w41q w38l
        show e_Pn 20 elay kcode eI nq7 dq8 155 (45, [(2, (0, z34)), (1, (0, w14 1 13)), (0, (1, 1))], [(0, z43)], w41) _
        refine e_Pn.run (t' := (47, [(2, (0, z34)), (1, (0, w14 1 13)), (0, (1, 1))], [(1, 1)], w41)) kAlk 2 rfl ?_
        refine e_Pn.getr (z := cd) kAlk rfl rfl ((w41f 1 3 (by unfold kEm; omega)).trans (by rw [← hw38]; exact (e_up_ne _ _ (Or.inr (by omega))).trans ((w32f 1 3 (by unfold kEm; omega)).trans s23.1.2.2.2.1.2.1))) (by omega) ?_
        refine e_Pn.run (t' := (53, [(2, (0, z34)), (1, (0, w14 1 13)), (0, (1, 1))], [(0, 0), (0, 50), (1, cd)], w41)) kAlk 2 rfl ?_
        refine e_Pn.callA rfl (fun nq dq => l_21 w41k (op := 50) (od := 0) (by omega) (by omega) w41l) (fun r44 w45 h46 => ?_)
        obtain ⟨z47, rfl, w45f, w45q⟩ := h46
        have w45k := kRw.em w41k w45f
        have w45l := (emQ.len w45q w41l).1
        have w45e : w45 1 5 = w41 1 5 ∧ w45 1 6 = w41 1 6 ∧ w45 1 8 = w41 1 8 := ⟨w45f 1 5 (by unfold kEm; omega), w45f 1 6 (by unfold kEm; omega), w45f 1 8 (by unfold kEm; omega)⟩
        have z47r : 0 ≤ z47 ∧ z47 ≤ 4000 := emQ.z w45q w41l
        show e_Pn 20 elay kcode eI nq7 dq8 155 (56, [(2, (0, z34)), (1, (0, w14 1 13)), (0, (1, 1))], [(0, z47)], w45) _
        refine e_Pn.run (t' := (58, [(3, (0, z47)), (2, (0, z34)), (1, (0, w14 1 13)), (0, (1, 1))], [(1, 1)], w45)) kAlk 2 rfl ?_
        replace hM := hM.st (t' := (5, [(0, (1, 275))], [(1, 275)], v11)) (fun _ _ q => e_Pn.run eAlk 1 rfl q)
        obtain ⟨b48, hM⟩ := hM.of (fun _ _ q => e_Pn.getf (z := v11 275 80) eAlk rfl rfl rfl q)
        replace hM := hM.st (t' := (11, [(1, (0, v11 275 80)), (0, (1, 275))], [(1, 275), (1, 275)], v11)) (fun _ _ q => e_Pn.run eAlk 3 rfl q)
        obtain ⟨b49, hM⟩ := hM.of (fun _ _ q => e_Pn.getf (z := v11 275 80) eAlk rfl rfl rfl q)
        replace hM := hM.st (t' := (15, [(1, (0, v11 275 80)), (0, (1, 275))], [(0, 1), (0, v11 275 80), (1, 275)], v11)) (fun _ _ q => e_Pn.run eAlk 1 rfl q)
        replace hM := hM.st (fun _ _ q => e_Pn.add (z := v11 275 80 + 1) eAlk rfl (by omega) (by omega) q)
        replace hM := hM.st (fun _ _ q => e_Pn.putf eAlk rfl rfl q)
        generalize hv50 : e_up v11 275 80 (v11 275 80 + 1) = v50 at hM
        have v50m := mRw.upd hv50 (fun _ => by omega) s23.1.2.2.2.2.1
        replace hM := hM.st (t' := (20, [(1, (0, v11 275 80)), (0, (1, 275))], [(1, 275)], v50)) (fun _ _ q => e_Pn.run eAlk 1 rfl q)
        obtain ⟨b51, hM⟩ := hM.of (fun _ _ q => e_Pn.getf (z := v11 275 82) eAlk rfl rfl (by rw [← hv50]; exact (e_up_ne _ _ (Or.inr (by omega))).trans rfl) q)
        replace hM := hM.st (t' := (25, [(2, (0, v11 275 82)), (1, (0, v11 275 80)), (0, (1, 275))], [(1, 275)], v50)) (fun _ _ q => e_Pn.run eAlk 2 rfl q)
        replace hM := hM.st (fun _ _ q => e_Pn.getr (z := 335) eAlk rfl rfl (by rw [← hv50]; exact (e_up_ne _ _ (Or.inr (by omega))).trans (s23.1.2.2.2.2.1 (72, 335) (by decide))) (by omega) q)
        replace hM := hM.st (t' := (32, [(2, (0, v11 275 82)), (1, (0, v11 275 80)), (0, (1, 275))], [(0, v11 275 80), (0, 3600), (1, 335)], v50)) (fun _ _ q => e_Pn.run eAlk 2 rfl q)
        replace hM := hM.st (fun _ _ q => e_Pn.add (z := v11 275 80 + 3600) eAlk rfl (by omega) (by omega) q)
        replace hM := hM.st (t' := (34, [(2, (0, v11 275 82)), (1, (0, v11 275 80)), (0, (1, 275))], [(1, 275), (0, v11 275 80 + 3600), (1, 335)], v50)) (fun _ _ q => e_Pn.run eAlk 1 rfl q)
        obtain ⟨b52, hM⟩ := hM.of (fun _ _ q => e_Pn.getf (z := v11 275 81) eAlk rfl rfl (by rw [← hv50]; exact (e_up_ne _ _ (Or.inr (by omega))).trans rfl) q)
        obtain ⟨b53, b54, hM⟩ := hM.of2 (fun _ _ q => e_Pn.ast eAlk rfl rfl rfl q)
        generalize hv55 : e_up v50 335 (v11 275 80 + 3600) (v11 275 81) = v55 at hM
        have v55m := mRw.upd hv55 (fun _ => by omega) v50m
        replace hM := hM.st (t' := (42, [(2, (0, v11 275 82)), (1, (0, v11 275 80)), (0, (1, 275))], [(0, 0), (0, 30), (1, 275)], v55)) (fun _ _ q => e_Pn.run eAlk 3 rfl q)
        obtain ⟨dc56, r57, v58, hc59, hM⟩ := hM.ca rfl
        obtain ⟨⟨z60, rfl⟩, v58f⟩ := hc59.pn (fun nq => x_336 v55m)
        have v58m := mfr.rf v58f v55m
        replace hM : e_Rn 20 elay ecode eI d' 351 (45, [(2, (0, v11 275 82)), (1, (0, v11 275 80)), (0, (1, 275))], [(0, z60)], v58) r' v' := hM
        replace hM := hM.st (t' := (50, [(3, (0, z60)), (2, (0, v11 275 82)), (1, (0, v11 275 80)), (0, (1, 275))], [(0, 20), (1, 275), (1, 275)], v58)) (fun _ _ q => e_Pn.run eAlk 4 rfl q)
        obtain ⟨dc61, r62, v63, hc64, hM⟩ := hM.ca rfl
        obtain ⟨z65, rfl, rfl, z65q⟩ := hc64.pn (fun nq => l_332)
        replace z65q := isS (kM_key (k := 20) s23.1.2.1.2.2.1 (by decide)) ((v58f 275 84 (by unfold mEm; omega)).trans (by rw [← hv55]; exact (e_up_ne _ _ (Or.inl (by omega))).trans (by rw [← hv50]; exact (e_up_ne _ _ (Or.inr (by omega))).trans rfl))) ((v58f 275 85 (by unfold mEm; omega)).trans (by rw [← hv55]; exact (e_up_ne _ _ (Or.inl (by omega))).trans (by rw [← hv50]; exact (e_up_ne _ _ (Or.inr (by omega))).trans rfl))) z65q
        obtain rfl : z65 = 1 := by omega
        clear z65q
        replace hM : e_Rn 20 elay ecode eI d' 351 (53, [(3, (0, z60)), (2, (0, v11 275 82)), (1, (0, v11 275 80)), (0, (1, 275))], [(0, 1), (1, 275)], v58) r' v' := hM
        obtain ⟨dhc66, r67, v68, hc66, hM⟩ := hM.ca rfl
        replace hc66 : e_Rn 20 elay ecode eI dhc66 334 (0, [(0, (1, 275)), (1, (0, 1))], [], v58) r67 v68 := hc66
        replace hc66 := hc66.st (t' := (1, [(0, (1, 275)), (1, (0, 1))], [(1, 275)], v58)) (fun _ _ q => e_Pn.run eAlk 1 rfl q)
        obtain ⟨b69, hc66⟩ := hc66.of (fun _ _ q => e_Pn.getf (z := 0) eAlk rfl rfl ((v58f 275 88 (by unfold mEm; omega)).trans (by rw [← hv55]; exact (e_up_ne _ _ (Or.inl (by omega))).trans (by rw [← hv50]; exact (e_up_ne _ _ (Or.inr (by omega))).trans s23.1.2.1.1.2))) q)
        rcases hc66.or (fun _ _ q1 q2 => e_Pn.if1 eAlk rfl q1 q2) with ⟨h70, hc66⟩ | ⟨h70, hc66⟩
        · replace h70 : (0 : Int) = 0 := h70
          have kw71 : (w14 1 5 : Int) ≠ 1 := fun e9 => absurd (kM_k1 s23.1.2.1.2.2.1 e9) (by omega)
          replace hc66 := hc66.st (t' := (9, [(0, (1, 275)), (1, (0, 1))], [(0, 1)], v58)) (fun _ _ q => e_Pn.run eAlk 1 rfl q)
          rcases hc66.or (fun _ _ q1 q2 => e_Pn.if1 eAlk rfl q1 q2) with ⟨h72, hc66⟩ | ⟨h72, hc66⟩
          · replace h72 : (1 : Int) = 0 := h72
            exfalso; omega
          · replace h72 : (1 : Int) ≠ 0 := by have q : ¬ ((1 : Int) = 0) := h72; omega
            replace hc66 := hc66.st (t' := (13, [(0, (1, 275)), (1, (0, 1))], [(1, 275)], v58)) (fun _ _ q => e_Pn.run eAlk 1 rfl q)
            have e74a : w38 1 11 = w32 1 11 := (by rw [← hw38]; exact e_up_ne _ _ (Or.inr (by omega)))
            have e74b : v58 275 83 = v11 275 83 := (Eq.trans (v58f 275 83 (by unfold mEm; omega)) (Eq.trans (show v55 275 83 = v50 275 83 by rw [← hv55]; exact e_up_ne _ _ (Or.inl (by omega))) (show v50 275 83 = v11 275 83 by rw [← hv50]; exact e_up_ne _ _ (Or.inr (by omega)))))
            have e74c : w38 1 13 = z34 := (by rw [← hw38]; exact e_up_eq _ _ _ _)
            have e74d : v58 275 82 = v11 275 82 := (Eq.trans (v58f 275 82 (by unfold mEm; omega)) (Eq.trans (show v55 275 82 = v50 275 82 by rw [← hv55]; exact e_up_ne _ _ (Or.inl (by omega))) (show v50 275 82 = v11 275 82 by rw [← hv50]; exact e_up_ne _ _ (Or.inr (by omega)))))
            have e74f : w38 1 12 = w32 1 12 := (by rw [← hw38]; exact e_up_ne _ _ (Or.inr (by omega)))
            have e74e : v58 275 80 = v11 275 80 + 1 := (Eq.trans (v58f 275 80 (by unfold mEm; omega)) (Eq.trans (show v55 275 80 = v50 275 80 by rw [← hv55]; exact e_up_ne _ _ (Or.inl (by omega))) (by rw [← hv50]; exact e_up_eq _ _ _ _)))
            have s73 := st.gen (o' := 1) (l' := z34) (m' := v 275 82) (t' := w 1 12) (b' := 1) s35 (e_fr.up (e_fr.refl w32) hw38 (by unfold kGs; omega)) (e_fr.trans (e_fr.up (e_fr.up (e_fr.refl v11) hv50 (by unfold mGs; omega)) hv55 (by unfold mGs; omega)) (e_fr.mono v58f (fun c k q => by unfold mEm at q; unfold mGs; omega))) (by omega) (by omega) (by omega) (by omega)
            have q75 := st.nums s73
            clear q37 e74a e74b e74c e74d e74e e74f
            have q75c := q75.2.2.2.1
            have q75d := q75.2.1
            have q75e := q75.2.2.1
            have q75f := q75.2.2.2.2.1.1
            have s76 := st.em s73 w41f w41q (by omega) (by unfold isCl3; omega)
            have ps76 := plcQ.mk s73 w41q (by omega)
            have hd77 := hdf hd36 ((show e_fr (kGs cd) w32 w38 from (e_fr.up (e_fr.refl w32) hw38 (by unfold kGs; omega))) cd 0 (by unfold kGs; omega))
            have hd78 := hdn hd77 w41q
            have phd78 := plcQ.re ps76 (fun g => (hd78 g).2)
            have hd79 := fun g => (hd78 g).1
            clear q75d q75e q75f
            have q80 := st.nums s76
            clear q75
            have q80c := q80.2.2.2.1
            have q80d := q80.2.1
            have q80e := q80.2.2.1
            have q80f := q80.2.2.2.2.1.1
            have s81 := st.em s76 w45f w45q (by omega) (by unfold isCl3; omega)
            clear q80d q80e q80f
            have q82 := st.nums s81
            clear q80
            have q82c := q82.2.2.2.1
            have q82d := q82.2.1
            have q82e := q82.2.2.1
            have q82f := q82.2.2.2.2.1.1
            obtain ⟨dc83, r84, v85, hc86, hc66⟩ := hc66.ca rfl
            refine e_Pn.callA rfl (fun nq dq => t_123b s81.1.1 s81.1.2.1.1 s81.1.2.1.2.1.2.1 (st.nx s81) (d' := dc83) hc86) (fun r87 w88 h89 => ?_)
            obtain ⟨rfl, rfl, h89⟩ := h89
            have s90 := st.ad (k := 3) s81 h89 (st.len3 s81 (by omega)) (by omega)
            have s90n := h89.2.2.2.1
            have s90m := st.len3 s81 (by omega)
            have s90g : w 1 6 + 1 ≤ w88 1 6 := by omega
            clear q82d q82e q82f
            have q91 := st.nums s90
            clear q82
            have q91c := q91.2.2.2.1
            have q91d := q91.2.1
            have q91e := q91.2.2.1
            have q91f := q91.2.2.2.2.1.1
            show e_Pn 20 elay kcode eI nq7 dq8 155 (61, [(3, (0, z47)), (2, (0, z34)), (1, (0, w14 1 13)), (0, (1, 1))], [], w88) _
            replace hc66 : e_Rn 20 elay ecode eI dhc66 334 (16, [(0, (1, 275)), (1, (0, 1))], [], v85) r67 v68 := hc66
            refine e_Pn.run (t' := (62, [(3, (0, z47)), (2, (0, z34)), (1, (0, w14 1 13)), (0, (1, 1))], [(1, 1)], w88)) kAlk 1 rfl ?_
            replace hc66 := hc66.st (t' := (24, [(0, (1, 275)), (1, (0, 1))], [], v85)) (fun _ _ q => e_Pn.run eAlk 1 rfl q)
            obtain ⟨rfl, rfl⟩ := hc66.re0 rfl
            replace hM : e_Rn 20 elay ecode eI d' 351 (56, [(3, (0, z60)), (2, (0, v11 275 82)), (1, (0, v11 275 80)), (0, (1, 275))], [], v85) r' v' := hM
            replace hM := hM.st (t' := (57, [(3, (0, z60)), (2, (0, v11 275 82)), (1, (0, v11 275 80)), (0, (1, 275))], [(1, 275)], v85)) (fun _ _ q => e_Pn.run eAlk 1 rfl q)
            obtain ⟨dc92, r93, v94, hc95, hM⟩ := hM.ca rfl
            have uhc95 := hc95.pn (fun nq => uE_all nq 339 (by decide) _ _ s90.1.2.2.2.2.1)
            have z99 : stE N cd w88 v85 := st.zE s90 (by omega) (by omega)
            refine e_Pn.callA rfl (fun nq dq => e_Pn.and (eEg_all nq 158 339 (by decide) _ _ dq _ _ _ z99 hc95) (kE_all nq 158 (by decide) dq _ _ s90.1.2.2.2.1)) (fun r96 w97 h98 => ?_)
            obtain ⟨⟨rfl, rfl, h98⟩, -, h98k⟩ := h98
            rcases h98.symm with h98 | ⟨h98, h98p⟩
            · skip
              replace hM : e_Rn 20 elay ecode eI d' 351 (60, [(3, (0, z60)), (2, (0, v11 275 82)), (1, (0, v11 275 80)), (0, (1, 275))], [], v94) r' v' := hM
              obtain ⟨rfl, m100⟩ := (e_Rn.le eAlk [0, 1, 2, 3] rfl rfl hM).pn (fun nq => v_351_60 (uhc95.2.rf s90.1.2.2.2.2.1) _ (v11 275 80) (v11 275 82) z60 v94 mq.r)
              show e_Pn 20 elay kcode eI nq7 dq8 155 (65, [(3, (0, z47)), (2, (0, z34)), (1, (0, w14 1 13)), (0, (1, 1))], [], w97) _
              refine e_Pn.ord kAlk [0, 1, 2, 3] rfl rfl ((v_155_65 (h98k.rf s90.1.2.2.2.1) _ (w14 1 13) z34 z47 w97 kq.r).imp (fun r102 w103 k101 => ?_))
              obtain ⟨rfl, k101⟩ := k101
              show e_Pn 20 elay kcode eI n d 145 (349, [(0, (1, 1))], [], w103) _
              refine e_Pn.ord kAlk [0] rfl rfl ((v_145_349 (k101.rf (h98k.rf s90.1.2.2.2.1)) _  w103 kq.r).imp (fun r105 w106 k104 => ?_))
              obtain ⟨rfl, k104⟩ := k104
              exact ⟨rfl, rfl, Or.inr (rpF.tail h98 (k101.tr k104) m100)⟩
            have s107 := st.re (l' := z34) (m' := v 275 82) (t' := w 1 12) (st.tr s90 h98) (Int.le_refl _) rfl (by omega) (by omega) (by omega)
            clear q91d q91e q91f
            have q108 := st.nums s107
            clear q91
            have q108c := q108.2.2.2.1
            have q108d := q108.2.1
            have q108e := q108.2.2.1
            have q108f := q108.2.2.2.2.1.1
            show e_Pn 20 elay kcode eI nq7 dq8 155 (65, [(3, (0, z47)), (2, (0, z34)), (1, (0, w14 1 13)), (0, (1, 1))], [], w97) _
            replace hM : e_Rn 20 elay ecode eI d' 351 (60, [(3, (0, z60)), (2, (0, v11 275 82)), (1, (0, v11 275 80)), (0, (1, 275))], [], v94) r' v' := hM
            refine e_Pn.run (t' := (68, [(3, (0, z47)), (2, (0, z34)), (1, (0, w14 1 13)), (0, (1, 1))], [(0, 20), (1, 1)], w97)) kAlk 2 rfl ?_
            replace hM := hM.st (t' := (64, [(3, (0, z60)), (2, (0, v11 275 82)), (1, (0, v11 275 80)), (0, (1, 275))], [(0, 58), (1, 275), (1, 275)], v94)) (fun _ _ q => e_Pn.run eAlk 3 rfl q)
            obtain ⟨dc109, r110, v111, hc112, hM⟩ := hM.ca rfl
            obtain ⟨z113, rfl, rfl, z113q⟩ := hc112.pn (fun nq => l_331)
            replace z113q := isS (kM_s58 s107.1.2.1.2.2.1) rfl rfl z113q
            replace hM : e_Rn 20 elay ecode eI d' 351 (67, [(3, (0, z60)), (2, (0, v11 275 82)), (1, (0, v11 275 80)), (0, (1, 275))], [(0, z113), (1, 275)], v94) r' v' := hM
            obtain ⟨dc114, r115, v116, hc117, hM⟩ := hM.ca rfl
            have uhc117 := hc117.pn (fun nq => u_334 s107.1.2.2.2.2.1)
            refine e_Pn.callA rfl (fun nq dq => e_Pn.and (t_129b s107.1.1 s107.1.2.1 z113q (d' := dc114) hc117) (u_129 s107.1.2.2.2.1)) (fun r118 w119 h120 => ?_)
            obtain ⟨⟨rfl, rfl, h120⟩, -, h120k⟩ := h120
            rcases h120.symm with h120 | ⟨h120c, h120⟩
            · skip
              replace hM : e_Rn 20 elay ecode eI d' 351 (70, [(3, (0, z60)), (2, (0, v11 275 82)), (1, (0, v11 275 80)), (0, (1, 275))], [], v116) r' v' := hM
              obtain ⟨rfl, m121⟩ := (e_Rn.le eAlk [0, 1, 2, 3] rfl rfl hM).pn (fun nq => v_351_70 (uhc117.2.rf s107.1.2.2.2.2.1) _ (v11 275 80) (v11 275 82) z60 v116 mq.r)
              show e_Pn 20 elay kcode eI nq7 dq8 155 (71, [(3, (0, z47)), (2, (0, z34)), (1, (0, w14 1 13)), (0, (1, 1))], [], w119) _
              refine e_Pn.ord kAlk [0, 1, 2, 3] rfl rfl ((v_155_71 (h120k.rf s107.1.2.2.2.1) _ (w14 1 13) z34 z47 w119 kq.r).imp (fun r123 w124 k122 => ?_))
              obtain ⟨rfl, k122⟩ := k122
              show e_Pn 20 elay kcode eI n d 145 (349, [(0, (1, 1))], [], w124) _
              refine e_Pn.ord kAlk [0] rfl rfl ((v_145_349 (k122.rf (h120k.rf s107.1.2.2.2.1)) _  w124 kq.r).imp (fun r126 w127 k125 => ?_))
              obtain ⟨rfl, k125⟩ := k125
              exact ⟨rfl, rfl, Or.inr (rpF.tail h120 (k122.tr k125) m121)⟩
            clear z113q
            have s128 := st.ad (k := 1) s107 h120 (st.len1 s107 (by omega)) (by omega)
            have s128n := h120.2.2.2.1
            have s128m := st.len1 s107 (by omega)
            have s128g : w 1 6 + 1 ≤ w119 1 6 := by omega
            clear q108d q108e q108f
            have q129 := st.nums s128
            clear q108
            have q129c := q129.2.2.2.1
            have q129d := q129.2.1
            have q129e := q129.2.2.1
            have q129f := q129.2.2.2.2.1.1
            show e_Pn 20 elay kcode eI nq7 dq8 155 (71, [(3, (0, z47)), (2, (0, z34)), (1, (0, w14 1 13)), (0, (1, 1))], [], w119) _
            replace hM : e_Rn 20 elay ecode eI d' 351 (70, [(3, (0, z60)), (2, (0, v11 275 82)), (1, (0, v11 275 80)), (0, (1, 275))], [], v116) r' v' := hM
            refine e_Pn.run (t' := (72, [(3, (0, z47)), (2, (0, z34)), (1, (0, w14 1 13)), (0, (1, 1))], [(1, 1)], w119)) kAlk 1 rfl ?_
            refine e_Pn.getr (z := cd) kAlk rfl rfl s128.1.2.2.2.1.2.1 (by omega) ?_
            refine e_Pn.run (t' := (78, [(3, (0, z47)), (2, (0, z34)), (1, (0, w14 1 13)), (0, (1, 1))], [(0, 0), (0, 41), (1, cd)], w119)) kAlk 2 rfl ?_
            refine e_Pn.callA rfl (fun nq dq => l_21 s128.1.2.2.2.1 (op := 41) (od := 0) (by omega) (by omega) s128.1.2.2.2.2.2.1) (fun r130 w131 h132 => ?_)
            obtain ⟨z133, rfl, w131f, w131q⟩ := h132
            have w131k := kRw.em s128.1.2.2.2.1 w131f
            have w131l := (emQ.len w131q s128.1.2.2.2.2.2.1).1
            have w131e : w131 1 5 = w119 1 5 ∧ w131 1 6 = w119 1 6 ∧ w131 1 8 = w119 1 8 := ⟨w131f 1 5 (by unfold kEm; omega), w131f 1 6 (by unfold kEm; omega), w131f 1 8 (by unfold kEm; omega)⟩
            have s134 := st.em s128 w131f w131q (by omega) (by unfold isCl3; omega)
            have ps134 := plcQ.mk s128 w131q (by omega)
            have q135 := st.nums s134
            clear q129
            have q135c := q135.2.2.2.1
            have q135d := q135.2.1
            have q135e := q135.2.2.1
            have q135f := q135.2.2.2.2.1.1
            have z133r : 0 ≤ z133 ∧ z133 ≤ 4000 := emQ.z w131q s128.1.2.2.2.2.2.1
            show e_Pn 20 elay kcode eI nq7 dq8 155 (81, [(3, (0, z47)), (2, (0, z34)), (1, (0, w14 1 13)), (0, (1, 1))], [(0, z133)], w131) _
            refine e_Pn.run (t' := (84, [(4, (0, z133)), (3, (0, z47)), (2, (0, z34)), (1, (0, w14 1 13)), (0, (1, 1))], [(1, 1)], w131)) kAlk 2 rfl ?_
            replace hM := hM.st (t' := (74, [(3, (0, z60)), (2, (0, v11 275 82)), (1, (0, v11 275 80)), (0, (1, 275))], [(0, 0), (0, 47), (1, 275)], v116)) (fun _ _ q => e_Pn.run eAlk 3 rfl q)
            obtain ⟨dc136, r137, v138, hc139, hM⟩ := hM.ca rfl
            obtain ⟨⟨z140, rfl⟩, v138f⟩ := hc139.pn (fun nq => x_336 s128.1.2.2.2.2.1)
            have v138m := mfr.rf v138f s128.1.2.2.2.2.1
            replace hM : e_Rn 20 elay ecode eI d' 351 (77, [(3, (0, z60)), (2, (0, v11 275 82)), (1, (0, v11 275 80)), (0, (1, 275))], [(0, z140)], v138) r' v' := hM
            replace hM := hM.st (t' := (81, [(4, (0, z140)), (3, (0, z60)), (2, (0, v11 275 82)), (1, (0, v11 275 80)), (0, (1, 275))], [(0, v11 275 80), (1, 275)], v138)) (fun _ _ q => e_Pn.run eAlk 3 rfl q)
            replace hM := hM.st (fun _ _ q => e_Pn.putf eAlk rfl rfl q)
            generalize hv141 : e_up v138 275 82 (v11 275 80) = v141 at hM
            have v141m := mRw.upd hv141 (fun _ => by omega) v138m
            replace hM := hM.st (t' := (85, [(4, (0, z140)), (3, (0, z60)), (2, (0, v11 275 82)), (1, (0, v11 275 80)), (0, (1, 275))], [(1, 275)], v141)) (fun _ _ q => e_Pn.run eAlk 1 rfl q)
            have e143a : w131 1 11 = w131 1 11 := rfl
            have e143b : v141 275 83 = v116 275 83 := (Eq.trans (show v141 275 83 = v138 275 83 by rw [← hv141]; exact e_up_ne _ _ (Or.inr (by omega))) (v138f 275 83 (by unfold mEm; omega)))
            have e143c : w131 1 13 = w131 1 13 := rfl
            have e143d : v141 275 82 = v11 275 80 := (by rw [← hv141]; exact e_up_eq _ _ _ _)
            have e143f : w131 1 12 = w131 1 12 := rfl
            have e143e : v141 275 80 = v116 275 80 := (Eq.trans (show v141 275 80 = v138 275 80 by rw [← hv141]; exact e_up_ne _ _ (Or.inr (by omega))) (v138f 275 80 (by unfold mEm; omega)))
            have s142 := st.gen (o' := 1) (l' := z34) (m' := v11 275 80) (t' := w 1 12) (b' := 0) s134 (e_fr.refl w131) (e_fr.up (e_fr.trans (e_fr.refl v116) (e_fr.mono v138f (fun c k q => by unfold mEm at q; unfold mGs; omega))) hv141 (by unfold mGs; omega)) (by omega) (by omega) (by omega) (by omega)
            clear q129d q129e q129f q135d q135e q135f
            have q144 := st.nums s142
            clear q135 e143a e143b e143c e143d e143e e143f
            have q144c := q144.2.2.2.1
            have q144d := q144.2.1
            have q144e := q144.2.2.1
            have q144f := q144.2.2.2.2.1.1
            obtain ⟨dc145, r146, v147, hc148, hM⟩ := hM.ca rfl
            have uhc148 := hc148.pn (fun nq => uS_all nq 348 (by decide) _ _ s142.1.2.2.2.2.1)
            have z152 : st0 N cd w131 v141 := st.z s142 (by omega) (iff_of_false (by omega) (by omega)) (by omega)
            refine e_Pn.callB rfl (fun k9 hk9 d9 => e_Pn.and (ihS k9 (by omega) _ _ _ _ _ _ z152 (by omega) hc148) (kS_all k9 144 (by decide) d9 _ _ s142.1.2.2.2.1)) (fun r149 w150 h151 => ?_)
            obtain ⟨⟨rfl, rfl, h151⟩, -, h151k⟩ := h151
            rcases h151.symm with h151 | h151
            · skip
              replace hM : e_Rn 20 elay ecode eI d' 351 (88, [(4, (0, z140)), (3, (0, z60)), (2, (0, v11 275 82)), (1, (0, v11 275 80)), (0, (1, 275))], [], v147) r' v' := hM
              obtain ⟨rfl, m153⟩ := (e_Rn.le eAlk [0, 1, 2, 3, 4] rfl rfl hM).pn (fun nq => v_351_88 (uhc148.2.rf s142.1.2.2.2.2.1) _ (v11 275 80) (v11 275 82) z60 z140 v147 mq.r)
              show e_Pn 20 elay kcode eI nq7 dq8 155 (87, [(4, (0, z133)), (3, (0, z47)), (2, (0, z34)), (1, (0, w14 1 13)), (0, (1, 1))], [], w150) _
              refine e_Pn.ord kAlk [0, 1, 2, 3, 4] rfl rfl ((v_155_87 (h151k.rf s142.1.2.2.2.1) _ (w14 1 13) z34 z47 z133 w150 kq.r).imp (fun r155 w156 k154 => ?_))
              obtain ⟨rfl, k154⟩ := k154
              show e_Pn 20 elay kcode eI n d 145 (349, [(0, (1, 1))], [], w156) _
              refine e_Pn.ord kAlk [0] rfl rfl ((v_145_349 (k154.rf (h151k.rf s142.1.2.2.2.1)) _  w156 kq.r).imp (fun r158 w159 k157 => ?_))
              obtain ⟨rfl, k157⟩ := k157
              exact ⟨rfl, rfl, Or.inr (rpF.tail h151 (k154.tr k157) m153)⟩
            have s160 := st.re (l' := z34) (m' := v11 275 80) (t' := w 1 12) (st.tr s142 h151) (Int.le_refl _) rfl (by omega) (by omega) (by omega)
            clear q144d q144e q144f
            have q161 := st.nums s160
            clear q144
            have q161c := q161.2.2.2.1
            have q161d := q161.2.1
            have q161e := q161.2.2.1
            have q161f := q161.2.2.2.2.1.1
            show e_Pn 20 elay kcode eI nq7 dq8 155 (87, [(4, (0, z133)), (3, (0, z47)), (2, (0, z34)), (1, (0, w14 1 13)), (0, (1, 1))], [], w150) _
            replace hM : e_Rn 20 elay ecode eI d' 351 (88, [(4, (0, z140)), (3, (0, z60)), (2, (0, v11 275 82)), (1, (0, v11 275 80)), (0, (1, 275))], [], v147) r' v' := hM
            refine e_Pn.run (t' := (90, [(4, (0, z133)), (3, (0, z47)), (2, (0, z34)), (1, (0, w14 1 13)), (0, (1, 1))], [(0, 23), (1, 1)], w150)) kAlk 2 rfl ?_
            replace hM := hM.st (t' := (90, [(4, (0, z140)), (3, (0, z60)), (2, (0, v11 275 82)), (1, (0, v11 275 80)), (0, (1, 275))], [(0, v11 275 82), (1, 275)], v147)) (fun _ _ q => e_Pn.run eAlk 2 rfl q)
            replace hM := hM.st (fun _ _ q => e_Pn.putf eAlk rfl rfl q)
            generalize hv162 : e_up v147 275 82 (v11 275 82) = v162 at hM
            have v162m := mRw.upd hv162 (fun _ => by omega) s160.1.2.2.2.2.1
            replace hM := hM.st (t' := (97, [(4, (0, z140)), (3, (0, z60)), (2, (0, v11 275 82)), (1, (0, v11 275 80)), (0, (1, 275))], [(0, z60), (0, 48), (1, 275)], v162)) (fun _ _ q => e_Pn.run eAlk 3 rfl q)
            obtain ⟨dc163, r164, v165, hc166, hM⟩ := hM.ca rfl
            obtain ⟨⟨z167, rfl⟩, v165f⟩ := hc166.pn (fun nq => x_336 v162m)
            have v165m := mfr.rf v165f v162m
            replace hM : e_Rn 20 elay ecode eI d' 351 (100, [(4, (0, z140)), (3, (0, z60)), (2, (0, v11 275 82)), (1, (0, v11 275 80)), (0, (1, 275))], [(0, z167)], v165) r' v' := hM
            replace hM := hM.st (t' := (104, [(4, (0, z140)), (3, (0, z60)), (2, (0, v11 275 82)), (1, (0, v11 275 80)), (0, (1, 275))], [(0, z140), (1, 275)], v165)) (fun _ _ q => e_Pn.run eAlk 3 rfl q)
            obtain ⟨dc168, r169, v170, hc171, hM⟩ := hM.ca rfl
            obtain ⟨rfl, v170f⟩ := hc171.pn (fun nq => x_337 v165m)
            have v170m := mfr.rf v170f v165m
            replace hM : e_Rn 20 elay ecode eI d' 351 (107, [(4, (0, z140)), (3, (0, z60)), (2, (0, v11 275 82)), (1, (0, v11 275 80)), (0, (1, 275))], [], v170) r' v' := hM
            replace hM := hM.st (t' := (108, [(4, (0, z140)), (3, (0, z60)), (2, (0, v11 275 82)), (1, (0, v11 275 80)), (0, (1, 275))], [(1, 275)], v170)) (fun _ _ q => e_Pn.run eAlk 1 rfl q)
            replace hM := hM.st (fun _ _ q => e_Pn.getr (z := 336) eAlk rfl rfl ((v170f 275 73 (by unfold mEm; omega)).trans ((v165f 275 73 (by unfold mEm; omega)).trans (by rw [← hv162]; exact (e_up_ne _ _ (Or.inr (by omega))).trans (s160.1.2.2.2.2.1 (73, 336) (by decide))))) (by omega) q)
            replace hM := hM.st (t' := (115, [(4, (0, z140)), (3, (0, z60)), (2, (0, v11 275 82)), (1, (0, v11 275 80)), (0, (1, 275))], [(0, v11 275 80), (0, 3600), (1, 336)], v170)) (fun _ _ q => e_Pn.run eAlk 2 rfl q)
            replace hM := hM.st (fun _ _ q => e_Pn.add (z := v11 275 80 + 3600) eAlk rfl (by omega) (by omega) q)
            replace hM := hM.st (t' := (117, [(4, (0, z140)), (3, (0, z60)), (2, (0, v11 275 82)), (1, (0, v11 275 80)), (0, (1, 275))], [(1, 275), (0, v11 275 80 + 3600), (1, 336)], v170)) (fun _ _ q => e_Pn.run eAlk 1 rfl q)
            obtain ⟨b173, hM⟩ := hM.of (fun _ _ q => e_Pn.getf (z := v170 275 78) eAlk rfl rfl rfl q)
            obtain ⟨b174, b175, hM⟩ := hM.of2 (fun _ _ q => e_Pn.ast eAlk rfl rfl rfl q)
            generalize hv176 : e_up v170 336 (v11 275 80 + 3600) (v170 275 78) = v176 at hM
            have v176m := mRw.upd hv176 (fun _ => by omega) v170m
            replace hM := hM.st (t' := (124, [(4, (0, z140)), (3, (0, z60)), (2, (0, v11 275 82)), (1, (0, v11 275 80)), (0, (1, 275))], [(0, 2), (1, 275), (1, 275)], v176)) (fun _ _ q => e_Pn.run eAlk 3 rfl q)
            obtain ⟨dc177, r178, v179, hc180, hM⟩ := hM.ca rfl
            obtain ⟨z181, rfl, rfl, z181q⟩ := hc180.pn (fun nq => l_332)
            replace z181q := isS (kM_key (k := 2) s160.1.2.1.2.2.1 (by decide)) (by rw [← hv176]; exact (e_up_ne _ _ (Or.inl (by omega))).trans ((v170f 275 84 (by unfold mEm; omega)).trans ((v165f 275 84 (by unfold mEm; omega)).trans (by rw [← hv162]; exact (e_up_ne _ _ (Or.inr (by omega))).trans rfl)))) (by rw [← hv176]; exact (e_up_ne _ _ (Or.inl (by omega))).trans ((v170f 275 85 (by unfold mEm; omega)).trans ((v165f 275 85 (by unfold mEm; omega)).trans (by rw [← hv162]; exact (e_up_ne _ _ (Or.inr (by omega))).trans rfl)))) z181q
            replace hM : e_Rn 20 elay ecode eI d' 351 (127, [(4, (0, z140)), (3, (0, z60)), (2, (0, v11 275 82)), (1, (0, v11 275 80)), (0, (1, 275))], [(0, z181), (1, 275)], v176) r' v' := hM
            have e183a : w150 1 11 = w150 1 11 := rfl
            have e183b : v176 275 83 = v147 275 83 := (Eq.trans (show v176 275 83 = v170 275 83 by rw [← hv176]; exact e_up_ne _ _ (Or.inl (by omega))) (Eq.trans (v170f 275 83 (by unfold mEm; omega)) (Eq.trans (v165f 275 83 (by unfold mEm; omega)) (show v162 275 83 = v147 275 83 by rw [← hv162]; exact e_up_ne _ _ (Or.inr (by omega))))))
            have e183c : w150 1 13 = w150 1 13 := rfl
            have e183d : v176 275 82 = v11 275 82 := (Eq.trans (show v176 275 82 = v170 275 82 by rw [← hv176]; exact e_up_ne _ _ (Or.inl (by omega))) (Eq.trans (v170f 275 82 (by unfold mEm; omega)) (Eq.trans (v165f 275 82 (by unfold mEm; omega)) (by rw [← hv162]; exact e_up_eq _ _ _ _))))
            have e183f : w150 1 12 = w150 1 12 := rfl
            have e183e : v176 275 80 = v147 275 80 := (Eq.trans (show v176 275 80 = v170 275 80 by rw [← hv176]; exact e_up_ne _ _ (Or.inl (by omega))) (Eq.trans (v170f 275 80 (by unfold mEm; omega)) (Eq.trans (v165f 275 80 (by unfold mEm; omega)) (show v162 275 80 = v147 275 80 by rw [← hv162]; exact e_up_ne _ _ (Or.inr (by omega))))))
            have s182 := st.gen (o' := 1) (l' := z34) (m' := v11 275 82) (t' := w 1 12) (b' := 0) s160 (e_fr.refl w150) (e_fr.up (e_fr.trans (e_fr.trans (e_fr.up (e_fr.refl v147) hv162 (by unfold mGs; omega)) (e_fr.mono v165f (fun c k q => by unfold mEm at q; unfold mGs; omega))) (e_fr.mono v170f (fun c k q => by unfold mEm at q; unfold mGs; omega))) hv176 (by unfold mGs; omega)) (by omega) (by omega) (by omega) (by omega)
            clear q161d q161e q161f
            have q184 := st.nums s182
            clear q161 e183a e183b e183c e183d e183e e183f
            have q184c := q184.2.2.2.1
            have q184d := q184.2.1
            have q184e := q184.2.2.1
            have q184f := q184.2.2.2.2.1.1
            obtain ⟨dc185, r186, v187, hc188, hM⟩ := hM.ca rfl
            have uhc188 := hc188.pn (fun nq => u_334 s182.1.2.2.2.2.1)
            refine e_Pn.callA rfl (fun nq dq => e_Pn.and (t_129b s182.1.1 s182.1.2.1 z181q (d' := dc185) hc188) (u_129 s182.1.2.2.2.1)) (fun r189 w190 h191 => ?_)
            obtain ⟨⟨rfl, rfl, h191⟩, -, h191k⟩ := h191
            rcases h191.symm with h191 | ⟨h191c, h191⟩
            · skip
              replace hM : e_Rn 20 elay ecode eI d' 351 (130, [(4, (0, z140)), (3, (0, z60)), (2, (0, v11 275 82)), (1, (0, v11 275 80)), (0, (1, 275))], [], v187) r' v' := hM
              obtain ⟨rfl, m192⟩ := (e_Rn.le eAlk [0, 1, 2, 3, 4] rfl rfl hM).pn (fun nq => v_351_130 (uhc188.2.rf s182.1.2.2.2.2.1) _ (v11 275 80) (v11 275 82) z60 z140 v187 mq.r)
              show e_Pn 20 elay kcode eI nq7 dq8 155 (93, [(4, (0, z133)), (3, (0, z47)), (2, (0, z34)), (1, (0, w14 1 13)), (0, (1, 1))], [], w190) _
              refine e_Pn.ord kAlk [0, 1, 2, 3, 4] rfl rfl ((v_155_93 (h191k.rf s182.1.2.2.2.1) _ (w14 1 13) z34 z47 z133 w190 kq.r).imp (fun r194 w195 k193 => ?_))
              obtain ⟨rfl, k193⟩ := k193
              show e_Pn 20 elay kcode eI n d 145 (349, [(0, (1, 1))], [], w195) _
              refine e_Pn.ord kAlk [0] rfl rfl ((v_145_349 (k193.rf (h191k.rf s182.1.2.2.2.1)) _  w195 kq.r).imp (fun r197 w198 k196 => ?_))
              obtain ⟨rfl, k196⟩ := k196
              exact ⟨rfl, rfl, Or.inr (rpF.tail h191 (k193.tr k196) m192)⟩
            clear z181q
            have s199 := st.ad (k := 3) s182 h191 (st.len3 s182 (Or.inl h191c)) (by omega)
            have s199n := h191.2.2.2.1
            have s199m := st.len3 s182 (Or.inl h191c)
            have s199g : w 1 6 + 1 ≤ w190 1 6 := by omega
            clear q184d q184e q184f
            have q200 := st.nums s199
            clear q184
            have q200c := q200.2.2.2.1
            have q200d := q200.2.1
            have q200e := q200.2.2.1
            have q200f := q200.2.2.2.2.1.1
            show e_Pn 20 elay kcode eI nq7 dq8 155 (93, [(4, (0, z133)), (3, (0, z47)), (2, (0, z34)), (1, (0, w14 1 13)), (0, (1, 1))], [], w190) _
            replace hM : e_Rn 20 elay ecode eI d' 351 (130, [(4, (0, z140)), (3, (0, z60)), (2, (0, v11 275 82)), (1, (0, v11 275 80)), (0, (1, 275))], [], v187) r' v' := hM
            refine e_Pn.run (t' := (94, [(4, (0, z133)), (3, (0, z47)), (2, (0, z34)), (1, (0, w14 1 13)), (0, (1, 1))], [(1, 1)], w190)) kAlk 1 rfl ?_
            refine e_Pn.getr (z := cd) kAlk rfl rfl s199.1.2.2.2.1.2.1 (by omega) ?_
            refine e_Pn.run (t' := (100, [(4, (0, z133)), (3, (0, z47)), (2, (0, z34)), (1, (0, w14 1 13)), (0, (1, 1))], [(0, z47), (0, 40), (1, cd)], w190)) kAlk 2 rfl ?_
            refine e_Pn.callA rfl (fun nq dq => l_21 s199.1.2.2.2.1 (op := 40) (od := z47) (by omega) (by omega) s199.1.2.2.2.2.2.1) (fun r201 w202 h203 => ?_)
            obtain ⟨z204, rfl, w202f, w202q⟩ := h203
            have w202k := kRw.em s199.1.2.2.2.1 w202f
            have w202l := (emQ.len w202q s199.1.2.2.2.2.2.1).1
            have w202e : w202 1 5 = w190 1 5 ∧ w202 1 6 = w190 1 6 ∧ w202 1 8 = w190 1 8 := ⟨w202f 1 5 (by unfold kEm; omega), w202f 1 6 (by unfold kEm; omega), w202f 1 8 (by unfold kEm; omega)⟩
            have s205 := st.em s199 w202f w202q (by omega) (by unfold isCl3; omega)
            have ps205 := plcQ.mk s199 w202q (by omega)
            have q206 := st.nums s205
            clear q200
            have q206c := q206.2.2.2.1
            have q206d := q206.2.1
            have q206e := q206.2.2.1
            have q206f := q206.2.2.2.2.1.1
            have z204r : 0 ≤ z204 ∧ z204 ≤ 4000 := emQ.z w202q s199.1.2.2.2.2.2.1
            show e_Pn 20 elay kcode eI nq7 dq8 155 (103, [(4, (0, z133)), (3, (0, z47)), (2, (0, z34)), (1, (0, w14 1 13)), (0, (1, 1))], [(0, z204)], w202) _
            refine e_Pn.run (t' := (105, [(4, (0, z133)), (3, (0, z47)), (2, (0, z34)), (1, (0, w14 1 13)), (0, (1, 1))], [(1, 1)], w202)) kAlk 2 rfl ?_
            refine e_Pn.getr (z := cd) kAlk rfl rfl ((w202f 1 3 (by unfold kEm; omega)).trans s199.1.2.2.2.1.2.1) (by omega) ?_
            refine e_Pn.run (t' := (111, [(4, (0, z133)), (3, (0, z47)), (2, (0, z34)), (1, (0, w14 1 13)), (0, (1, 1))], [(1, 1), (0, z133), (1, cd)], w202)) kAlk 2 rfl ?_
            refine e_Pn.getr (z := cd) kAlk rfl rfl ((w202f 1 3 (by unfold kEm; omega)).trans s199.1.2.2.2.1.2.1) (by omega) ?_
            refine e_Pn.getf (z := w202 cd 0) kAlk rfl rfl rfl (fun b207 => ?_)
            refine e_Pn.callA rfl (fun nq dq => l_22 w202k (x := z133) (od := w202 cd 0) (by omega)) (fun r208 w209 h210 => ?_)
            obtain ⟨rfl, w209f, w209q⟩ := h210
            have w209k := kRw.em w202k (w209f.mono (fun _ _ q => Or.inr q))
            have w209l : 0 ≤ w209 cd 0 ∧ w209 cd 0 ≤ 4000 := by rw [w209f cd 0 (by unfold kPa; omega)]; exact w202l
            have w209e : w209 1 5 = w202 1 5 ∧ w209 1 6 = w202 1 6 ∧ w209 1 8 = w202 1 8 := ⟨w209f 1 5 (by unfold kPa; omega), w209f 1 6 (by unfold kPa; omega), w209f 1 8 (by unfold kPa; omega)⟩
            have pl212 := plcQ.st ps134 h151
            have pl213 := plcQ.fr pl212 (h191.2.2.2.2.1 cd 0 (by unfold kRa; omega)) (fun i => h191.2.2.2.2.1 (cd + 2) i (by unfold kRa; omega))
            have pl214 := plcQ.em pl213 w202q
            have s211 := st.pa s205 w209f w209q pl214 (by unfold isCl3; omega)
            have q215 := st.nums s211
            clear q206
            have q215c := q215.2.2.2.1
            have q215d := q215.2.1
            have q215e := q215.2.2.1
            have q215f := q215.2.2.2.2.1.1
            show e_Pn 20 elay kcode eI nq7 dq8 155 (120, [(4, (0, z133)), (3, (0, z47)), (2, (0, z34)), (1, (0, w14 1 13)), (0, (1, 1))], [], w209) _
            refine e_Pn.run (t' := (121, [(4, (0, z133)), (3, (0, z47)), (2, (0, z34)), (1, (0, w14 1 13)), (0, (1, 1))], [(1, 1)], w209)) kAlk 1 rfl ?_
            refine e_Pn.getr (z := cd) kAlk rfl rfl ((w209f 1 3 (by unfold kPa; omega)).trans ((w202f 1 3 (by unfold kEm; omega)).trans s199.1.2.2.2.1.2.1)) (by omega) ?_
            refine e_Pn.run (t' := (126, [(4, (0, z133)), (3, (0, z47)), (2, (0, z34)), (1, (0, w14 1 13)), (0, (1, 1))], [(0, 1), (0, z34), (1, cd)], w209)) kAlk 2 rfl ?_
            refine e_Pn.add (z := z34 + 1) kAlk rfl (by omega) (by omega) ?_
            refine e_Pn.run (t' := (128, [(4, (0, z133)), (3, (0, z47)), (2, (0, z34)), (1, (0, w14 1 13)), (0, (1, 1))], [(1, 1), (0, z34 + 1), (1, cd)], w209)) kAlk 1 rfl ?_
            refine e_Pn.getr (z := cd) kAlk rfl rfl ((w209f 1 3 (by unfold kPa; omega)).trans ((w202f 1 3 (by unfold kEm; omega)).trans s199.1.2.2.2.1.2.1)) (by omega) ?_
            refine e_Pn.getf (z := w209 cd 0) kAlk rfl rfl rfl (fun b216 => ?_)
            refine e_Pn.callA rfl (fun nq dq => l_22 w209k (x := z34 + 1) (od := w209 cd 0) (by omega)) (fun r217 w218 h219 => ?_)
            obtain ⟨rfl, w218f, w218q⟩ := h219
            have w218k := kRw.em w209k (w218f.mono (fun _ _ q => Or.inr q))
            have w218l : 0 ≤ w218 cd 0 ∧ w218 cd 0 ≤ 4000 := by rw [w218f cd 0 (by unfold kPa; omega)]; exact w209l
            have w218e : w218 1 5 = w209 1 5 ∧ w218 1 6 = w209 1 6 ∧ w218 1 8 = w209 1 8 := ⟨w218f 1 5 (by unfold kPa; omega), w218f 1 6 (by unfold kPa; omega), w218f 1 8 (by unfold kPa; omega)⟩
            have pl221 := plcQ.em phd78 w45q
            have pl222 := plcQ.fr pl221 (h89.2.2.2.2.1 cd 0 (by unfold kRa; omega)) (fun i => h89.2.2.2.2.1 (cd + 2) i (by unfold kRa; omega))
            have pl223 := plcQ.st pl222 h98
            have pl224 := plcQ.fr pl223 (h120.2.2.2.2.1 cd 0 (by unfold kRa; omega)) (fun i => h120.2.2.2.2.1 (cd + 2) i (by unfold kRa; omega))
            have pl225 := plcQ.em pl224 w131q
            have pl226 := plcQ.st pl225 h151
            have pl227 := plcQ.fr pl226 (h191.2.2.2.2.1 cd 0 (by unfold kRa; omega)) (fun i => h191.2.2.2.2.1 (cd + 2) i (by unfold kRa; omega))
            have pl228 := plcQ.em pl227 w202q
            have pl229 := plcQ.pa pl228 w209q (w209f cd 0 (by unfold kPa; omega))
            have s220 := st.pa s211 w218f w218q pl229 (by unfold isCl3; omega)
            have q230 := st.nums s220
            clear q215
            have q230c := q230.2.2.2.1
            have q230d := q230.2.1
            have q230e := q230.2.2.1
            have q230f := q230.2.2.2.2.1.1
            show e_Pn 20 elay kcode eI nq7 dq8 155 (137, [(4, (0, z133)), (3, (0, z47)), (2, (0, z34)), (1, (0, w14 1 13)), (0, (1, 1))], [], w218) _
            refine e_Pn.run (t' := (139, [(4, (0, z133)), (3, (0, z47)), (2, (0, z34)), (1, (0, w14 1 13)), (0, (1, 1))], [(0, w14 1 13), (1, 1)], w218)) kAlk 2 rfl ?_
            refine e_Pn.putf kAlk rfl rfl ?_
            generalize hw231 : e_up w218 1 13 (w14 1 13) = w231
            have w231g : e_fr (kGs cd) w218 w231 := (e_fr.up (e_fr.refl w218) hw231 (by unfold kGs; omega))
            have w231k := kRw.gs w218k w231g
            have w231l : 0 ≤ w231 cd 0 ∧ w231 cd 0 ≤ 4000 := by rw [w231g cd 0 (by unfold kGs; omega)]; exact w218l
            have w231e : w231 1 5 = w218 1 5 ∧ w231 1 6 = w218 1 6 ∧ w231 1 8 = w218 1 8 := ⟨w231g 1 5 (by unfold kGs; omega), w231g 1 6 (by unfold kGs; omega), w231g 1 8 (by unfold kGs; omega)⟩
            refine e_Pn.run (t' := (144, [(4, (0, z133)), (3, (0, z47)), (2, (0, z34)), (1, (0, w14 1 13)), (0, (1, 1))], [(1, 1), (1, 1)], w231)) kAlk 2 rfl ?_
            refine e_Pn.getf (z := w190 1 11) kAlk rfl rfl (by rw [← hw231]; exact (e_up_ne _ _ (Or.inr (by omega))).trans ((w218f 1 11 (by unfold kPa; omega)).trans ((w209f 1 11 (by unfold kPa; omega)).trans ((w202f 1 11 (by unfold kEm; omega)).trans rfl)))) (fun b232 => ?_)
            refine e_Pn.run (t' := (148, [(4, (0, z133)), (3, (0, z47)), (2, (0, z34)), (1, (0, w14 1 13)), (0, (1, 1))], [(0, 1), (0, w190 1 11), (1, 1)], w231)) kAlk 1 rfl ?_
            refine e_Pn.sub' (z := w190 1 11 - 1) kAlk rfl (by omega) (by omega) ?_
            refine e_Pn.putf kAlk rfl rfl ?_
            generalize hw233 : e_up w231 1 11 (w190 1 11 - 1) = w233
            have w233g : e_fr (kGs cd) w231 w233 := (e_fr.up (e_fr.refl w231) hw233 (by unfold kGs; omega))
            have w233k := kRw.gs w231k w233g
            have w233l : 0 ≤ w233 cd 0 ∧ w233 cd 0 ≤ 4000 := by rw [w233g cd 0 (by unfold kGs; omega)]; exact w231l
            have w233e : w233 1 5 = w231 1 5 ∧ w233 1 6 = w231 1 6 ∧ w233 1 8 = w231 1 8 := ⟨w233g 1 5 (by unfold kGs; omega), w233g 1 6 (by unfold kGs; omega), w233g 1 8 (by unfold kGs; omega)⟩
            refine e_Pn.ret0 rfl ?_
            show e_Pn 20 elay kcode eI n d 145 (349, [(0, (1, 1))], [], w233) _
            refine e_Pn.run (t' := (356, [(0, (1, 1))], [], w233)) kAlk 1 rfl ?_
            replace hM := hM.st (t' := (132, [(4, (0, z140)), (3, (0, z60)), (2, (0, v11 275 82)), (1, (0, v11 275 80)), (0, (1, 275))], [(1, 275), (1, 275)], v187)) (fun _ _ q => e_Pn.run eAlk 2 rfl q)
            obtain ⟨b234, hM⟩ := hM.of (fun _ _ q => e_Pn.getf (z := v187 275 83) eAlk rfl rfl rfl q)
            replace hM := hM.st (t' := (136, [(4, (0, z140)), (3, (0, z60)), (2, (0, v11 275 82)), (1, (0, v11 275 80)), (0, (1, 275))], [(0, 1), (0, v187 275 83), (1, 275)], v187)) (fun _ _ q => e_Pn.run eAlk 1 rfl q)
            replace hM := hM.st (fun _ _ q => e_Pn.sub' (z := v187 275 83 - 1) eAlk rfl (by omega) (by omega) q)
            replace hM := hM.st (fun _ _ q => e_Pn.putf eAlk rfl rfl q)
            generalize hv235 : e_up v187 275 83 (v187 275 83 - 1) = v235 at hM
            have v235m := mRw.upd hv235 (fun _ => by omega) s199.1.2.2.2.2.1
            have e237a : w233 1 11 = w190 1 11 - 1 := (by rw [← hw233]; exact e_up_eq _ _ _ _)
            have e237b : v235 275 83 = v187 275 83 - 1 := (by rw [← hv235]; exact e_up_eq _ _ _ _)
            have e237c : w233 1 13 = w14 1 13 := (Eq.trans (show w233 1 13 = w231 1 13 by rw [← hw233]; exact e_up_ne _ _ (Or.inr (by omega))) (by rw [← hw231]; exact e_up_eq _ _ _ _))
            have e237d : v235 275 82 = v187 275 82 := (by rw [← hv235]; exact e_up_ne _ _ (Or.inr (by omega)))
            have e237f : w233 1 12 = w218 1 12 := (Eq.trans (show w233 1 12 = w231 1 12 by rw [← hw233]; exact e_up_ne _ _ (Or.inr (by omega))) (show w231 1 12 = w218 1 12 by rw [← hw231]; exact e_up_ne _ _ (Or.inr (by omega))))
            have e237e : v235 275 80 = v187 275 80 := (by rw [← hv235]; exact e_up_ne _ _ (Or.inr (by omega)))
            have s236 := st.gen (o' := 0) (l' := w14 1 13) (m' := v11 275 82) (t' := w 1 12) (b' := 0) s220 (e_fr.up (e_fr.up (e_fr.refl w218) hw231 (by unfold kGs; omega)) hw233 (by unfold kGs; omega)) (e_fr.up (e_fr.refl v187) hv235 (by unfold mGs; omega)) (by omega) (by omega) (by omega) (by omega)
            have q238 := st.nums s236
            clear q230 e237a e237b e237c e237d e237e e237f
            have q238c := q238.2.2.2.1
            have q238d := q238.2.1
            have q238e := q238.2.2.1
            have q238f := q238.2.2.2.2.1.1
            obtain ⟨rfl, rfl⟩ := hM.re0 rfl
            refine e_Pn.ret0 rfl ?_
            exact ⟨rfl, rfl, Or.inl ⟨st.re s236 (by omega) (by omega) (by omega) (by omega) (by omega), by omega⟩⟩
        · replace h70 : (0 : Int) ≠ 0 := by have q : ¬ ((0 : Int) = 0) := h70; omega
          exact (kM_no s23.1.2.1.2.2.1 (fun a b => decide ((a : Int) = 41) && decide ((a : Int) = 41) && decide ((a : Int) = 41) && decide ((0 : Int) ≠ 0)) (fun a b c => true) (by decide) (by decide) (by simp only [Bool.and_eq_true, decide_eq_true_eq]; exact ⟨⟨⟨t25, t26⟩, t27⟩, h70⟩) rfl).elim
      · replace h28 : (1 : Int) = 0 := by have q : ¬ ((1 : Int) ≠ 0) := h28; omega
        exfalso; omega
  · replace h3 : (w 1 5 : Int) ≠ 41 := by have q : ¬ ((w 1 5 : Int) = 41) := h3; omega
    exact (kM_no h0.1.2.1.2.2.1 (fun a b => decide ((a : Int) = 41) && decide ((a : Int) ≠ 41)) (fun a b c => true) (by decide) (by decide) (by simp only [Bool.and_eq_true, decide_eq_true_eq]; exact ⟨hkd, h3⟩) rfl).elim
end
