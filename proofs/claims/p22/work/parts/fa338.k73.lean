noncomputable section
/-! readText as a whole -/
theorem l_20 {n d : Nat} {w : eW} {cd : Int} : e_Pn 20 elay kcode eI n d 20 (0, [(0, (1, cd))], [], w) (fun r w' => r = [] ∧ e_up (e_up (e_up w cd 0 0) cd 1 0) cd 2 0 = w') := by
  refine e_Pn.run (t' := (2, [(0, (1, cd))], [(0, 0), (1, cd)], w)) kAlk 2 rfl ?_
  refine e_Pn.putf kAlk rfl rfl ?_
  generalize hw1 : e_up w cd 0 0 = w1
  refine e_Pn.run (t' := (7, [(0, (1, cd))], [(0, 0), (1, cd)], w1)) kAlk 2 rfl ?_
  refine e_Pn.putf kAlk rfl rfl ?_
  generalize hw2 : e_up w1 cd 1 0 = w2
  refine e_Pn.run (t' := (12, [(0, (1, cd))], [(0, 0), (1, cd)], w2)) kAlk 2 rfl ?_
  refine e_Pn.putf kAlk rfl rfl ?_
  generalize hw3 : e_up w2 cd 2 0 = w3
  refine e_Pn.ret0 rfl ?_
  exact ⟨rfl, by first | rfl | rw [hw1, hw2, hw3]⟩
theorem rpA.fr3 {N : Int} {w v w' : eW} (h : rpA N w v) (e0 : w' 1 0 = w 1 0) (e5 : ∀ i, w' 5 i = w 5 i) (e4 : w' 1 4 = w 1 4) (e1 : w' 1 5 = w 1 5) (e6 : w' 1 6 = w 1 6) (e8 : w' 1 8 = w 1 8) (e7 : w' 1 7 = 0) : rpA N w' v := by
  obtain ⟨⟨a1, a2, a3⟩, a4, a5, a6, a7, a8⟩ := h
  refine ⟨⟨e0.trans a1, a2, a3⟩, fun i i0 i1 => (e5 i).trans (a4 i i0 i1), fun c k q => ?_, fun c k q => ?_, a7, a8⟩
  · have b := a5 c k q
    unfold kLt at q b ⊢
    by_cases e : c = 1 ∧ k = 4
    · rw [if_pos e] at b ⊢
      rw [e.1, e.2] at b ⊢
      rw [e4]
      exact b
    · rw [if_neg e] at q
      exact absurd q (by decide)
  · have b := a6 c k q
    unfold kLr at q b ⊢
    by_cases e : c = 1
    · subst e
      rw [if_pos rfl] at q b ⊢
      by_cases k0 : k = 0
      · subst k0; rw [e0]; exact b
      · by_cases k5 : k = 5
        · subst k5; rw [e1]; exact b
        · by_cases k6 : k = 6
          · subst k6; rw [e6]; exact b
          · by_cases k7 : k = 7
            · subst k7; rw [e7]; decide
            · by_cases k8 : k = 8
              · subst k8; rw [e8]; exact b
              · rw [if_neg k0, if_neg k5, if_neg k6, if_neg k7, if_neg k8] at q
                exact absurd q (by decide)
    · by_cases e2 : c = 5
      · subst e2; rw [e5]; exact b
      · rw [if_neg e, if_neg e2] at q
        exact absurd q (by decide)
theorem tz0.mk {N cd : Int} {w v w' v' : eW} (t : TK N w v w' v') (hR : kRw cd w) (hM : mRw v) (h : w cd 0 = 0 ∧ w cd 2 = 0 ∧ w 1 14 = 0 ∧ w 1 9 = 0 ∧ w 1 11 = 0) (hv : v 275 83 = 0 ∧ v 275 82 = -1 ∧ v 275 94 = 0 ∧ v 275 80 = 0) : tz0 N cd w' v' := by
  obtain ⟨t1, t2, t3, t4, t5, t6⟩ := t
  have n := hR.1.m
  have F : ∀ c k, ¬ (c = 1 ∧ 5 ≤ k ∧ k ≤ 8) → w' c k = w c k := t5
  have G : ∀ c k, ¬ (c = 275 ∧ 84 ≤ k ∧ k ≤ 87) → v' c k = v c k := t6
  have f0 : w' cd 0 = w cd 0 := F _ _ (by omega)
  have f2 : w' cd 2 = w cd 2 := F _ _ (by omega)
  have f14 : w' 1 14 = w 1 14 := F _ _ (by omega)
  have f9 : w' 1 9 = w 1 9 := F _ _ (by omega)
  have f11 : w' 1 11 = w 1 11 := F _ _ (by omega)
  have g94 : v' 275 94 = v 275 94 := G _ _ (by omega)
  have g80 : v' 275 80 = v 275 80 := G _ _ (by omega)
  have g83 : v' 275 83 = v 275 83 := G _ _ (by omega)
  have g82 : v' 275 82 = v 275 82 := G _ _ (by omega)
  have k := t2.2.1
  have z0 : v' 275 94 = 0 := by omega
  have c0 : ∀ q, cntK v' q (v' 275 94) = 0 := fun q => by rw [z0]; rfl
  refine ⟨⟨t1, t2, t3, kRw.fr2 t5 (fun k q => by unfold kRa at q; omega) (fun k q => by unfold kRa at q; omega) hR, mRw.fr2 t6 (fun k q => by unfold mTq at q; omega) hM, by omega, by omega⟩, ⟨⟨⟨by omega, by omega⟩, fun i j _ _ _ => by omega, fun i _ _ => by omega, fun i j _ _ _ => by omega⟩, ⟨⟨?_, fun i _ _ => by omega⟩, ?_, fun i _ _ => by omega⟩, Or.inl ⟨by omega, fun i _ _ => by omega⟩⟩, fun _ z => ?_, ⟨by omega, by omega, by omega⟩, z0, by omega⟩
  · rw [c0]; exact Or.inl ⟨by decide, by omega⟩
  · rw [c0]; exact Or.inl ⟨by decide, by omega⟩
  · constructor
    · rintro (⟨i, i1, -⟩ | i) <;> omega
    · rintro ⟨i, i1, -⟩; omega
/-- the answers of readText -/
def rtQ (N cd : Int) (v2 w' : eW) : Prop := rpF w' v2 ∨ ∃ w3 s p, tzE N cd w3 v2 ∧ senJ w3 cd N (w3 cd 0) s p ∧ w' 1 1 = s ∧ (s ≠ 0 → w' 1 2 = p) ∧ minB 32 (w3 1 14) (w' cd 1)
theorem NR.names4 {N cd B : Int} {w v : eW} (h : NR N cd B w v) (hB : B ≤ 4001) : nmOk (w 5) N (w 6) (w cd 2) ∧ nmOk (w 5) N (w 7) (w 1 14) := by
  obtain ⟨⟨⟨n0, -⟩, -, n3, -⟩, ⟨⟨t1, t2⟩, t3, t4⟩, -⟩ := h
  have en : ((v 275 94).toNat : Int) = v 275 94 := by omega
  have pick : ∀ i, 0 ≤ i → i < v 275 94 → v 341 i ≠ 4 → 0 ≤ v 342 i ∧ v 342 i ≤ 4000 ∧ wl (w 5) N (v 342 i) ≤ 24 := fun i i0 i1 i2 => by
    obtain ⟨p1, p2, p3⟩ := n3 i i0 i1
    have := p3 i2
    omega
  constructor
  · intro j j0 j1
    obtain ⟨i, i1, i2, i3⟩ := cnt_ex (v := v) (k := 0) (c := j) j0 (v 275 94).toNat (by rw [en]; unfold minB at t1; omega)
    rw [en] at i1
    rw [show w 6 j = v 342 i by rw [← i3]; exact t2 i i1.1 i1.2 i2 (by unfold minB at t1; omega)]
    exact pick i i1.1 i1.2 (by omega)
  · intro j j0 j1
    obtain ⟨i, i1, i2, i3⟩ := cnt_ex (v := v) (k := 1) (c := j) j0 (v 275 94).toNat (by rw [en]; unfold minB at t3; omega)
    rw [en] at i1
    rw [show w 7 j = v 342 i by rw [← i3]; exact t4 i i1.1 i1.2 i2 (by unfold minB at t3; omega)]
    exact pick i i1.1 i1.2 (by omega)
theorem NR.r5 {N cd B : Int} {w v : eW} (h : NR N cd B w v) : 0 ≤ w 1 14 ∧ w 1 14 ≤ 500 := by
  have t := h.2.1.2.1
  have a := cntK_nn v 1 (v 275 94)
  unfold minB at t
  omega
theorem CN.w {N cd B : Int} {w v : eW} (hC : CN cd (-1) w v) (h : NR N cd B w v) (hB : B ≤ 4001) (hl : w cd 0 < 4000) : ∀ i, 0 ≤ i → i < w cd 0 → isCl3 (w (cd + 2) i % 64) → 0 ≤ w (cd + 2) i / 64 ∧ w (cd + 2) i / 64 ≤ 4000 := fun i i0 i1 i2 => by
  obtain ⟨n, n1, n2, n3⟩ := (hC hl _).mp (Or.inl ⟨i, ⟨i0, i1⟩, i2, rfl⟩)
  have := (h.1.2.2.1 n n1.1 n1.2).1
  omega
set_option maxHeartbeats 2000000 in
theorem t_119b {n d : Nat} {N cd y : Int} {w v2 : eW} {tl : eL} (hE : tzE N cd w v2) : e_Pn 20 elay kcode eI n d 119 (108, (0, (1, 1)) :: (1, (0, y)) :: tl, [], w) (fun r w' => r = [] ∧ rtQ N cd v2 w') := by
  have hm := hE.2.2.1.1.m
  obtain ⟨B, hB, hN⟩ := hE.2.2.2.2.1
  have hO := NR.names4 hN hB
  have hr : 0 ≤ w 1 14 ∧ w 1 14 ≤ 500 := NR.r5 hN
  have hl := hE.2.2.2.2.2.2.1
  have hW := CN.w hE.2.2.2.2.2.1 hN hB hl.2
  refine e_Pn.run (t' := (109, (0, (1, 1)) :: (1, (0, y)) :: tl, [(1, 1)], w)) kAlk 1 rfl ?_
  refine e_Pn.getf (z := 0) kAlk rfl rfl hE.2.1.1 (fun b1 => ?_)
  refine e_Pn.if1 kAlk rfl (fun h2 => ?_) (fun h2 => ?_)
  · replace h2 : (0 : Int) = 0 := h2
    show e_Pn 20 elay kcode eI n d 119 (116, (0, (1, 1)) :: (1, (0, y)) :: tl, [], w) _
    refine e_Pn.run (t' := (117, (0, (1, 1)) :: (1, (0, y)) :: tl, [(1, 1)], w)) kAlk 1 rfl ?_
    refine e_Pn.callA rfl (fun nq dq => l_138 hE.2.2.1 hE.1.2.2.1 hE.1.2.2.2.1 hE.1.1.1 (by omega) hO.2 hr hW) (fun r3 w4 h5 => ?_)
    obtain ⟨rfl, w4f, w4m, w4j⟩ := h5
    show e_Pn 20 elay kcode eI n d 119 (120, (0, (1, 1)) :: (1, (0, y)) :: tl, [], w4) _
    refine e_Pn.run (t' := (122, (0, (1, 1)) :: (1, (0, y)) :: tl, [(1, 1), (1, 1)], w4)) kAlk 2 rfl ?_
    refine e_Pn.getf (z := w4 1 9) kAlk rfl rfl rfl (fun b6 => ?_)
    refine e_Pn.putf kAlk rfl rfl ?_
    generalize hw7 : e_up w4 1 1 (w4 1 9) = w7
    refine e_Pn.run (t' := (129, (0, (1, 1)) :: (1, (0, y)) :: tl, [(1, 1)], w7)) kAlk 1 rfl ?_
    refine e_Pn.getf (z := w4 1 9) kAlk rfl rfl (by rw [← hw7]; exact (e_up_ne _ _ (Or.inr (by omega))).trans rfl) (fun b8 => ?_)
    refine e_Pn.if1 kAlk rfl (fun h9 => ?_) (fun h9 => ?_)
    · replace h9 : (w4 1 9 : Int) = 0 := h9
      show e_Pn 20 elay kcode eI n d 119 (143, (0, (1, 1)) :: (1, (0, y)) :: tl, [], w7) _
      refine e_Pn.ret0 rfl ?_
      have y1 : w7 1 1 = w4 1 9 := (by rw [← hw7]; exact e_up_eq _ _ _ _)
      exact ⟨rfl, Or.inr ⟨w, w4 1 9, w4 1 10, hE, w4j, y1, fun q => absurd (show w4 1 9 = 0 by omega) q, by rw [show w7 cd 1 = w4 cd 1 from (by rw [← hw7]; exact (e_up_ne _ _ (Or.inl (by omega))).trans rfl)]; exact w4m⟩⟩
    · replace h9 : (w4 1 9 : Int) ≠ 0 := by have q : ¬ ((w4 1 9 : Int) = 0) := h9; omega
      show e_Pn 20 elay kcode eI n d 119 (135, (0, (1, 1)) :: (1, (0, y)) :: tl, [], w7) _
      refine e_Pn.run (t' := (137, (0, (1, 1)) :: (1, (0, y)) :: tl, [(1, 1), (1, 1)], w7)) kAlk 2 rfl ?_
      refine e_Pn.getf (z := w4 1 10) kAlk rfl rfl (by rw [← hw7]; exact (e_up_ne _ _ (Or.inr (by omega))).trans rfl) (fun b10 => ?_)
      refine e_Pn.putf kAlk rfl rfl ?_
      generalize hw11 : e_up w7 1 2 (w4 1 10) = w11
      refine e_Pn.ret0 rfl ?_
      have y1 : w11 1 1 = w4 1 9 := (by rw [← hw11]; exact (e_up_ne _ _ (Or.inr (by omega))).trans (by rw [← hw7]; exact e_up_eq _ _ _ _))
      exact ⟨rfl, Or.inr ⟨w, w4 1 9, w4 1 10, hE, w4j, y1, fun _ => (by rw [← hw11]; exact e_up_eq _ _ _ _), by rw [show w11 cd 1 = w4 cd 1 from (by rw [← hw11]; exact (e_up_ne _ _ (Or.inl (by omega))).trans (by rw [← hw7]; exact (e_up_ne _ _ (Or.inl (by omega))).trans rfl))]; exact w4m⟩⟩
  · replace h2 : (0 : Int) ≠ 0 := by have q : ¬ ((0 : Int) = 0) := h2; omega
    exfalso; omega
set_option maxHeartbeats 4000000 in
theorem t_119 {n d : Nat} {N cd : Int} {w v : eW} (hA : rpA N w v) (hR : kRw cd w) (hMw : mRw v) (hv : v 275 88 = 0 ∧ v 275 87 = 0 ∧ v 275 83 = 0 ∧ v 275 82 = -1 ∧ v 275 94 = 0 ∧ v 275 80 = 0) {d1 d2 : Nat} {r1 r2 : List eV} {v1 v2 : eW} (h1 : e_Rn 20 elay ecode eI d1 327 (0, [(0, (1, 275))], [], v) r1 v1) (h2 : e_Rn 20 elay ecode eI d2 353 (0, [(0, (1, 275))], [], v1) r2 v2) : e_Pn 20 elay kcode eI n d 119 (0, [(0, (1, 1))], [], w) (fun r w' => r = [] ∧ rtQ N cd v2 w') := by
  have hm := hR.1.m
  have hn := hR.1.n
  refine e_Pn.run (t' := (2, [(0, (1, 1))], [(0, 0), (1, 1)], w)) kAlk 2 rfl ?_
  refine e_Pn.putf kAlk rfl rfl ?_
  generalize hw1 : e_up w 1 1 0 = w1
  refine e_Pn.run (t' := (7, [(0, (1, 1))], [(0, (-1)), (1, 1)], w1)) kAlk 2 rfl ?_
  refine e_Pn.putf kAlk rfl rfl ?_
  generalize hw2 : e_up w1 1 2 (-1) = w2
  refine e_Pn.run (t' := (12, [(0, (1, 1))], [(0, 0), (1, 1)], w2)) kAlk 2 rfl ?_
  refine e_Pn.putf kAlk rfl rfl ?_
  generalize hw3 : e_up w2 1 9 0 = w3
  refine e_Pn.run (t' := (17, [(0, (1, 1))], [(0, 0), (1, 1)], w3)) kAlk 2 rfl ?_
  refine e_Pn.putf kAlk rfl rfl ?_
  generalize hw4 : e_up w3 1 11 0 = w4
  refine e_Pn.run (t' := (22, [(0, (1, 1))], [(0, 0), (1, 1)], w4)) kAlk 2 rfl ?_
  refine e_Pn.putf kAlk rfl rfl ?_
  generalize hw5 : e_up w4 1 14 0 = w5
  refine e_Pn.run (t' := (27, [(0, (1, 1))], [(0, 0), (1, 1)], w5)) kAlk 2 rfl ?_
  refine e_Pn.putf kAlk rfl rfl ?_
  generalize hw6 : e_up w5 1 7 0 = w6
  refine e_Pn.run (t' := (31, [(0, (1, 1))], [(1, 1)], w6)) kAlk 1 rfl ?_
  refine e_Pn.getr (z := cd) kAlk rfl rfl (Eq.trans (by rw [← hw6]; exact (e_up_ne _ _ (Or.inr (by omega))).trans (by rw [← hw5]; exact (e_up_ne _ _ (Or.inr (by omega))).trans (by rw [← hw4]; exact (e_up_ne _ _ (Or.inr (by omega))).trans (by rw [← hw3]; exact (e_up_ne _ _ (Or.inr (by omega))).trans (by rw [← hw2]; exact (e_up_ne _ _ (Or.inr (by omega))).trans (by rw [← hw1]; exact (e_up_ne _ _ (Or.inr (by omega))).trans rfl)))))) hR.2.1) (by omega) ?_
  refine e_Pn.callA rfl (fun nq dq => l_20) (fun r7 w8 h9 => ?_)
  obtain ⟨rfl, w8q⟩ := h9
  generalize hw10 : e_up w6 cd 0 0 = w10 at w8q
  generalize hw11 : e_up w10 cd 1 0 = w11 at w8q
  show e_Pn 20 elay kcode eI n d 119 (37, [(0, (1, 1))], [], w8) _
  refine e_Pn.run (t' := (38, [(0, (1, 1))], [(1, 1)], w8)) kAlk 1 rfl ?_
  refine e_Pn.callA rfl (fun nq dq => t_123b (hA.fr3 (by rw [← w8q]; exact (e_up_ne _ _ (Or.inl (by omega))).trans (by rw [← hw11]; exact (e_up_ne _ _ (Or.inl (by omega))).trans (by rw [← hw10]; exact (e_up_ne _ _ (Or.inl (by omega))).trans (by rw [← hw6]; exact (e_up_ne _ _ (Or.inr (by omega))).trans (by rw [← hw5]; exact (e_up_ne _ _ (Or.inr (by omega))).trans (by rw [← hw4]; exact (e_up_ne _ _ (Or.inr (by omega))).trans (by rw [← hw3]; exact (e_up_ne _ _ (Or.inr (by omega))).trans (by rw [← hw2]; exact (e_up_ne _ _ (Or.inr (by omega))).trans (by rw [← hw1]; exact (e_up_ne _ _ (Or.inr (by omega))).trans rfl))))))))) (fun i => (by rw [← w8q]; exact (e_up_ne _ _ (Or.inl (by omega))).trans (by rw [← hw11]; exact (e_up_ne _ _ (Or.inl (by omega))).trans (by rw [← hw10]; exact (e_up_ne _ _ (Or.inl (by omega))).trans (by rw [← hw6]; exact (e_up_ne _ _ (Or.inl (by omega))).trans (by rw [← hw5]; exact (e_up_ne _ _ (Or.inl (by omega))).trans (by rw [← hw4]; exact (e_up_ne _ _ (Or.inl (by omega))).trans (by rw [← hw3]; exact (e_up_ne _ _ (Or.inl (by omega))).trans (by rw [← hw2]; exact (e_up_ne _ _ (Or.inl (by omega))).trans (by rw [← hw1]; exact (e_up_ne _ _ (Or.inl (by omega))).trans rfl)))))))))) (by rw [← w8q]; exact (e_up_ne _ _ (Or.inl (by omega))).trans (by rw [← hw11]; exact (e_up_ne _ _ (Or.inl (by omega))).trans (by rw [← hw10]; exact (e_up_ne _ _ (Or.inl (by omega))).trans (by rw [← hw6]; exact (e_up_ne _ _ (Or.inr (by omega))).trans (by rw [← hw5]; exact (e_up_ne _ _ (Or.inr (by omega))).trans (by rw [← hw4]; exact (e_up_ne _ _ (Or.inr (by omega))).trans (by rw [← hw3]; exact (e_up_ne _ _ (Or.inr (by omega))).trans (by rw [← hw2]; exact (e_up_ne _ _ (Or.inr (by omega))).trans (by rw [← hw1]; exact (e_up_ne _ _ (Or.inr (by omega))).trans rfl))))))))) (by rw [← w8q]; exact (e_up_ne _ _ (Or.inl (by omega))).trans (by rw [← hw11]; exact (e_up_ne _ _ (Or.inl (by omega))).trans (by rw [← hw10]; exact (e_up_ne _ _ (Or.inl (by omega))).trans (by rw [← hw6]; exact (e_up_ne _ _ (Or.inr (by omega))).trans (by rw [← hw5]; exact (e_up_ne _ _ (Or.inr (by omega))).trans (by rw [← hw4]; exact (e_up_ne _ _ (Or.inr (by omega))).trans (by rw [← hw3]; exact (e_up_ne _ _ (Or.inr (by omega))).trans (by rw [← hw2]; exact (e_up_ne _ _ (Or.inr (by omega))).trans (by rw [← hw1]; exact (e_up_ne _ _ (Or.inr (by omega))).trans rfl))))))))) (by rw [← w8q]; exact (e_up_ne _ _ (Or.inl (by omega))).trans (by rw [← hw11]; exact (e_up_ne _ _ (Or.inl (by omega))).trans (by rw [← hw10]; exact (e_up_ne _ _ (Or.inl (by omega))).trans (by rw [← hw6]; exact (e_up_ne _ _ (Or.inr (by omega))).trans (by rw [← hw5]; exact (e_up_ne _ _ (Or.inr (by omega))).trans (by rw [← hw4]; exact (e_up_ne _ _ (Or.inr (by omega))).trans (by rw [← hw3]; exact (e_up_ne _ _ (Or.inr (by omega))).trans (by rw [← hw2]; exact (e_up_ne _ _ (Or.inr (by omega))).trans (by rw [← hw1]; exact (e_up_ne _ _ (Or.inr (by omega))).trans rfl))))))))) (by rw [← w8q]; exact (e_up_ne _ _ (Or.inl (by omega))).trans (by rw [← hw11]; exact (e_up_ne _ _ (Or.inl (by omega))).trans (by rw [← hw10]; exact (e_up_ne _ _ (Or.inl (by omega))).trans (by rw [← hw6]; exact (e_up_ne _ _ (Or.inr (by omega))).trans (by rw [← hw5]; exact (e_up_ne _ _ (Or.inr (by omega))).trans (by rw [← hw4]; exact (e_up_ne _ _ (Or.inr (by omega))).trans (by rw [← hw3]; exact (e_up_ne _ _ (Or.inr (by omega))).trans (by rw [← hw2]; exact (e_up_ne _ _ (Or.inr (by omega))).trans (by rw [← hw1]; exact (e_up_ne _ _ (Or.inr (by omega))).trans rfl))))))))) (by rw [← w8q]; exact (e_up_ne _ _ (Or.inl (by omega))).trans (by rw [← hw11]; exact (e_up_ne _ _ (Or.inl (by omega))).trans (by rw [← hw10]; exact (e_up_ne _ _ (Or.inl (by omega))).trans (by rw [← hw6]; exact e_up_eq _ _ _ _))))) ⟨(by rw [← w8q]; exact (e_up_ne _ _ (Or.inl (by omega))).trans (by rw [← hw11]; exact (e_up_ne _ _ (Or.inl (by omega))).trans (by rw [← hw10]; exact (e_up_ne _ _ (Or.inl (by omega))).trans (by rw [← hw6]; exact (e_up_ne _ _ (Or.inr (by omega))).trans (by rw [← hw5]; exact (e_up_ne _ _ (Or.inr (by omega))).trans (by rw [← hw4]; exact (e_up_ne _ _ (Or.inr (by omega))).trans (by rw [← hw3]; exact (e_up_ne _ _ (Or.inr (by omega))).trans (by rw [← hw2]; exact (e_up_ne _ _ (Or.inr (by omega))).trans (by rw [← hw1]; exact e_up_eq _ _ _ _))))))))), hv.1⟩ (by rw [show w8 1 7 = 0 from (by rw [← w8q]; exact (e_up_ne _ _ (Or.inl (by omega))).trans (by rw [← hw11]; exact (e_up_ne _ _ (Or.inl (by omega))).trans (by rw [← hw10]; exact (e_up_ne _ _ (Or.inl (by omega))).trans (by rw [← hw6]; exact e_up_eq _ _ _ _))))]; exact hv.2.1.symm) (by rw [show w8 1 7 = 0 from (by rw [← w8q]; exact (e_up_ne _ _ (Or.inl (by omega))).trans (by rw [← hw11]; exact (e_up_ne _ _ (Or.inl (by omega))).trans (by rw [← hw10]; exact (e_up_ne _ _ (Or.inl (by omega))).trans (by rw [← hw6]; exact e_up_eq _ _ _ _))))]; have := hA.1; omega) (d' := d1) h1) (fun r12 w13 h14 => ?_)
  obtain ⟨rfl, rfl, w13t⟩ := h14
  show e_Pn 20 elay kcode eI n d 119 (41, [(0, (1, 1))], [], w13) _
  have hz : tz0 N cd w13 v1 := tz0.mk w13t ⟨hR.1, (show w8 1 3 = w 1 3 from (by rw [← w8q]; exact (e_up_ne _ _ (Or.inl (by omega))).trans (by rw [← hw11]; exact (e_up_ne _ _ (Or.inl (by omega))).trans (by rw [← hw10]; exact (e_up_ne _ _ (Or.inl (by omega))).trans (by rw [← hw6]; exact (e_up_ne _ _ (Or.inr (by omega))).trans (by rw [← hw5]; exact (e_up_ne _ _ (Or.inr (by omega))).trans (by rw [← hw4]; exact (e_up_ne _ _ (Or.inr (by omega))).trans (by rw [← hw3]; exact (e_up_ne _ _ (Or.inr (by omega))).trans (by rw [← hw2]; exact (e_up_ne _ _ (Or.inr (by omega))).trans (by rw [← hw1]; exact (e_up_ne _ _ (Or.inr (by omega))).trans rfl)))))))))).trans hR.2.1, (show w8 1 4 = w 1 4 from (by rw [← w8q]; exact (e_up_ne _ _ (Or.inl (by omega))).trans (by rw [← hw11]; exact (e_up_ne _ _ (Or.inl (by omega))).trans (by rw [← hw10]; exact (e_up_ne _ _ (Or.inl (by omega))).trans (by rw [← hw6]; exact (e_up_ne _ _ (Or.inr (by omega))).trans (by rw [← hw5]; exact (e_up_ne _ _ (Or.inr (by omega))).trans (by rw [← hw4]; exact (e_up_ne _ _ (Or.inr (by omega))).trans (by rw [← hw3]; exact (e_up_ne _ _ (Or.inr (by omega))).trans (by rw [← hw2]; exact (e_up_ne _ _ (Or.inr (by omega))).trans (by rw [← hw1]; exact (e_up_ne _ _ (Or.inr (by omega))).trans rfl)))))))))).trans hR.2.2.1, (show w8 1 15 = w 1 15 from (by rw [← w8q]; exact (e_up_ne _ _ (Or.inl (by omega))).trans (by rw [← hw11]; exact (e_up_ne _ _ (Or.inl (by omega))).trans (by rw [← hw10]; exact (e_up_ne _ _ (Or.inl (by omega))).trans (by rw [← hw6]; exact (e_up_ne _ _ (Or.inr (by omega))).trans (by rw [← hw5]; exact (e_up_ne _ _ (Or.inr (by omega))).trans (by rw [← hw4]; exact (e_up_ne _ _ (Or.inr (by omega))).trans (by rw [← hw3]; exact (e_up_ne _ _ (Or.inr (by omega))).trans (by rw [← hw2]; exact (e_up_ne _ _ (Or.inr (by omega))).trans (by rw [← hw1]; exact (e_up_ne _ _ (Or.inr (by omega))).trans rfl)))))))))).trans hR.2.2.2.1, (show w8 1 16 = w 1 16 from (by rw [← w8q]; exact (e_up_ne _ _ (Or.inl (by omega))).trans (by rw [← hw11]; exact (e_up_ne _ _ (Or.inl (by omega))).trans (by rw [← hw10]; exact (e_up_ne _ _ (Or.inl (by omega))).trans (by rw [← hw6]; exact (e_up_ne _ _ (Or.inr (by omega))).trans (by rw [← hw5]; exact (e_up_ne _ _ (Or.inr (by omega))).trans (by rw [← hw4]; exact (e_up_ne _ _ (Or.inr (by omega))).trans (by rw [← hw3]; exact (e_up_ne _ _ (Or.inr (by omega))).trans (by rw [← hw2]; exact (e_up_ne _ _ (Or.inr (by omega))).trans (by rw [← hw1]; exact (e_up_ne _ _ (Or.inr (by omega))).trans rfl)))))))))).trans hR.2.2.2.2.1, (show w8 cd 3 = w cd 3 from (by rw [← w8q]; exact (e_up_ne _ _ (Or.inr (by omega))).trans (by rw [← hw11]; exact (e_up_ne _ _ (Or.inr (by omega))).trans (by rw [← hw10]; exact (e_up_ne _ _ (Or.inr (by omega))).trans (by rw [← hw6]; exact (e_up_ne _ _ (Or.inl (by omega))).trans (by rw [← hw5]; exact (e_up_ne _ _ (Or.inl (by omega))).trans (by rw [← hw4]; exact (e_up_ne _ _ (Or.inl (by omega))).trans (by rw [← hw3]; exact (e_up_ne _ _ (Or.inl (by omega))).trans (by rw [← hw2]; exact (e_up_ne _ _ (Or.inl (by omega))).trans (by rw [← hw1]; exact (e_up_ne _ _ (Or.inl (by omega))).trans rfl)))))))))).trans hR.2.2.2.2.2.1, (show w8 cd 4 = w cd 4 from (by rw [← w8q]; exact (e_up_ne _ _ (Or.inr (by omega))).trans (by rw [← hw11]; exact (e_up_ne _ _ (Or.inr (by omega))).trans (by rw [← hw10]; exact (e_up_ne _ _ (Or.inr (by omega))).trans (by rw [← hw6]; exact (e_up_ne _ _ (Or.inl (by omega))).trans (by rw [← hw5]; exact (e_up_ne _ _ (Or.inl (by omega))).trans (by rw [← hw4]; exact (e_up_ne _ _ (Or.inl (by omega))).trans (by rw [← hw3]; exact (e_up_ne _ _ (Or.inl (by omega))).trans (by rw [← hw2]; exact (e_up_ne _ _ (Or.inl (by omega))).trans (by rw [← hw1]; exact (e_up_ne _ _ (Or.inl (by omega))).trans rfl)))))))))).trans hR.2.2.2.2.2.2⟩ hMw ⟨(by rw [← w8q]; exact (e_up_ne _ _ (Or.inr (by omega))).trans (by rw [← hw11]; exact (e_up_ne _ _ (Or.inr (by omega))).trans (by rw [← hw10]; exact e_up_eq _ _ _ _))), (by rw [← w8q]; exact e_up_eq _ _ _ _), (by rw [← w8q]; exact (e_up_ne _ _ (Or.inl (by omega))).trans (by rw [← hw11]; exact (e_up_ne _ _ (Or.inl (by omega))).trans (by rw [← hw10]; exact (e_up_ne _ _ (Or.inl (by omega))).trans (by rw [← hw6]; exact (e_up_ne _ _ (Or.inr (by omega))).trans (by rw [← hw5]; exact e_up_eq _ _ _ _))))), (by rw [← w8q]; exact (e_up_ne _ _ (Or.inl (by omega))).trans (by rw [← hw11]; exact (e_up_ne _ _ (Or.inl (by omega))).trans (by rw [← hw10]; exact (e_up_ne _ _ (Or.inl (by omega))).trans (by rw [← hw6]; exact (e_up_ne _ _ (Or.inr (by omega))).trans (by rw [← hw5]; exact (e_up_ne _ _ (Or.inr (by omega))).trans (by rw [← hw4]; exact (e_up_ne _ _ (Or.inr (by omega))).trans (by rw [← hw3]; exact e_up_eq _ _ _ _))))))), (by rw [← w8q]; exact (e_up_ne _ _ (Or.inl (by omega))).trans (by rw [← hw11]; exact (e_up_ne _ _ (Or.inl (by omega))).trans (by rw [← hw10]; exact (e_up_ne _ _ (Or.inl (by omega))).trans (by rw [← hw6]; exact (e_up_ne _ _ (Or.inr (by omega))).trans (by rw [← hw5]; exact (e_up_ne _ _ (Or.inr (by omega))).trans (by rw [← hw4]; exact e_up_eq _ _ _ _))))))⟩ ⟨hv.2.2.1, hv.2.2.2.1, hv.2.2.2.2.1, hv.2.2.2.2.2⟩
  exact (e_txt hz h2 (fun n9 _ tl y w9 hE => t_119b hE) (fun w9 hF => ⟨rfl, Or.inl hF⟩)).2
end
