noncomputable section
/-! the class: an arm goes on in its cell -/
theorem hm_kSp {a c k : Int} (ha : 0 ≤ a ∧ a ≤ 3) (g : kSp a c k) : kHm c k := by
  unfold kSp at g
  unfold kHm
  have h1 : 97 ≤ c ∧ c ≤ 153 := by omega
  have h2 : 11 ≤ (c - 86) % 17 := by omega
  simp only [h1.1, h1.2, h2, g.2.2, true_and, and_true, true_or, or_true]
section Ks
variable {w w' : eW} {OP OD CL : Int → Int → Int} {h t0 : Int}
theorem ah_kGo {a c k : Int} (g : kGo a c k) : kAh a c k := by
  unfold kGo at g
  rcases g with g | g | g
  · exact Or.inr (Or.inr (Or.inr (Or.inl ⟨g.1, by omega⟩)))
  · exact Or.inr (Or.inr (Or.inr (Or.inr (Or.inr ⟨g.1, g.2.1⟩))))
  · exact Or.inr (Or.inr (Or.inr (Or.inr (Or.inl (by omega)))))
/-- one tick further, no joint moved -/
theorem kI.goA {a : Int} (q : kI w OP OD CL h t0) (ha : 0 ≤ a ∧ a ≤ 3) (hT : e_Has kTy w') (f : e_fr (kGo a) w w') (hs : w (17 * a + 86) 11 ≠ 0) (hM : aMs w' a (w (17 * a + 86) 8) (w (17 * a + 86) 11)) (hK : aK w' a) (hk : kn1 (w' (17 * a + 86) 12)) (hv : ∀ i, 0 ≤ i → i < w (17 * a + 86) 8 → w' (17 * a + i + 97) 7 = w (17 * a + i + 97) 7) : kI w' OP OD CL h t0 :=
  kI.ar q hT ha (f.mono (fun c k g => ah_kGo g)) (q.lgk.fr f (by unfold kGo; omega) (fun k => by unfold kGo; omega)) ((q.2.1 a ha.1 ha.2).go ha (kn_joints q.1 ha).2 (fun c k _ g2 _ => f c k g2) hK hM hk hs (Or.inr ⟨f _ _ (by unfold kGo; omega), hv⟩)) (fun g g9 => by rw [f _ _ (by unfold kGo; omega)]; exact q.pw g a ha.1 ha.2 g9)
/-- one tick further, and ways are stale -/
theorem kI.goB {w2 w3 : eW} {a : Int} (q : kI w OP OD CL h t0) (ha : 0 ≤ a ∧ a ≤ 3) (hT2 : e_Has kTy w2) (f : e_fr (kGo a) w w2) (hs : w (17 * a + 86) 11 ≠ 0) (hM : aMs w2 a (w (17 * a + 86) 8) (w (17 * a + 86) 11)) (hK : aK w2 a) (hk : kn1 (w2 (17 * a + 86) 12)) (hT3 : e_Has kTy w3) (f3 : e_fr kMv w2 w3) (hm : ∀ i, 0 ≤ i → i ≤ 3 → w3 (17 * i + 86) 19 ≠ 0) : kI w3 OP OD CL h t0 := by
  have e : ∀ c k, ¬ (c = 17 * a + 86 ∧ k = 19) → e_up w2 (17 * a + 86) 19 1 c k = w2 c k := fun c k g => e_up_ne _ _ (by omega)
  have hTu : e_Has kTy (e_up w2 (17 * a + 86) 19 1) := e_Has.upr hT2 rfl (kA_19 (a := a) rfl ha) (by decide)
  have hn := (kn_joints q.1 ha).2
  have hA : aR (e_up w2 (17 * a + 86) 19 1) a := by
    refine (q.2.1 a ha.1 ha.2).go ha hn (fun c k g1 g2 g3 => by rw [e _ _ g3]; exact f c k g2) (hK.up rfl (by omega) (by omega) (by omega)) ?_ (by rw [e _ _ (by omega)]; exact hk) hs (Or.inl (by rw [e_up_eq]; decide))
    exact hM.eq hn (fun c k g1 g2 g3 g4 => e _ _ (by omega))
  have Q1 : kI (e_up w2 (17 * a + 86) 19 1) OP OD CL h t0 := by
    refine kI.ar q hTu ha (fun c k g => ?_) ?_ hA (fun g g9 => by rw [e _ _ (by omega), f _ _ (by unfold kGo; omega)]; exact q.pw g a ha.1 ha.2 g9)
    · by_cases g4 : c = 17 * a + 86 ∧ k = 19
      · exact absurd (Or.inr (Or.inr (Or.inr (Or.inl ⟨g4.1, by omega⟩)))) g
      · rw [e _ _ g4]; exact f c k (fun g5 => g (ah_kGo g5))
    · refine q.lgk.fr (S := fun c k => (c = 17 * a + 86 ∧ k = 19) ∨ kGo a c k) (fun c k g => ?_) (by unfold kGo; omega) (fun k => by unfold kGo; omega)
      rw [e _ _ (fun g2 => g (Or.inl g2))]; exact f c k (fun g2 => g (Or.inr g2))
  have hcdn : 17 * a + 86 = 86 ∨ 17 * a + 86 = 103 ∨ 17 * a + 86 = 120 ∨ 17 * a + 86 = 137 := by omega
  refine kI.stale Q1 hT3 (fun c k g => ?_) hm
  rw [f3 c k g, e _ _ (fun g2 => g (Or.inl ⟨by omega, g2.2⟩))]
end Ks
set_option maxHeartbeats 4000000 in
theorem c_260 {d : Nat} (hd : 26 ≤ d) {w : eW} (hT : e_Has kTy w) {a : Int} (ga : 0 ≤ a ∧ a ≤ 3) {OP OD CL : Int → Int → Int} {h t0 : Int} (q : kI w OP OD CL h t0) (he : w 74 1 < 2147483646) : e_Ok 20 elay kcode eI d 260 (0, [(0, (1, 0)), (1, (0, a))], [], w) (fun r w' => r = [] ∧ e_Has kTy w' ∧ (e_fr kNw w w' ∧ w' 74 0 = w 74 0) ∧ kI w' OP OD CL h t0 ∧ w 74 1 ≤ w' 74 1 ∧ w' 74 1 ≤ w 74 1 + 1 ∧ aQ w w') := by
  obtain ⟨d, rfl⟩ : ∃ e, d = e + 1 := ⟨d - 1, by omega⟩
  have h74 := e_Has.get hT (c := 74) (k := 1) (lo := 0) (hi := 2147483647) rfl (by decide)
  have hjn := kn_joints hT (a := a) (by omega)
  refine e_Ok.run (t' := (1, [(0, (1, 0)), (1, (0, a))], [(1, 0)], w)) 1 rfl ?_
  refine e_Ok.getr (z := 9) rfl (el_o rfl) rfl rfl (Eq.trans (e_Has.eq hT rfl) (by omega)) (by omega) ?_
  refine e_Ok.run (t' := (5, [(0, (1, 0)), (1, (0, a))], [(0, a), (1, 9)], w)) 1 rfl ?_
  refine e_Ok.aald (z := 17 * a + 86) rfl (el_o rfl) rfl (by omega) (Eq.trans (e_Has.eq hT (k9 (by omega))) (by omega)) (by omega) ?_
  refine e_Ok.run (t' := (8, [(2, (1, 17 * a + 86)), (0, (1, 0)), (1, (0, a))], [(1, 17 * a + 86)], w)) 2 rfl ?_
  refine e_Ok.callV rfl (by omega) rfl (lA0 (a := a) (by omega) (by omega)) rfl rfl (c_12 (a := a) hT (by omega)) (fun r1 w2 h3 => ?_)
  obtain ⟨rfl, q4f, q4T, q4x⟩ := h3
  have f5 : e_fr kNw w w2 := e_fr.trans (e_fr.refl w) (e_fr.mono q4f (fun c k q => by exact nw_kSp (by omega) q))
  have A6 : aQ w w2 := aQ.trans (aQ.refl w) (aQ.q (e_fr.mono q4f (fun c k q => nq_kSp (by omega) q)) hT q4T)
  have Q1 := kI.hm q q4T (q4f.mono (fun c k g => hm_kSp ga g))
  have b1 : (∀ i, 0 ≤ i → i < w (17 * a + 86) 8 → kn1 (w2 (17 * a + i + 97) 11)) := q4x
  have j1 : w2 (17 * a + 86) 8 = w (17 * a + 86) 8 := q4f _ _ (by unfold kSp; omega)
  have s1 : w2 (17 * a + 86) 11 = w (17 * a + 86) 11 := q4f _ _ (by unfold kSp; omega)
  have v1e : w2 74 1 = w 74 1 := q4f _ _ (by unfold kSp; omega)
  have t1e : w2 74 0 = w 74 0 := q4f _ _ (by unfold kSp; omega)
  show e_Ok 20 elay kcode eI (d + 1) 260 (11, [(2, (1, 17 * a + 86)), (0, (1, 0)), (1, (0, a))], [], w2) _
  refine e_Ok.run (t' := (12, [(2, (1, 17 * a + 86)), (0, (1, 0)), (1, (0, a))], [(1, 0)], w2)) 1 rfl ?_
  refine e_Ok.getr (z := 74) rfl (el_o rfl) rfl rfl ((q4f 0 5 (by unfold kSp; omega)).trans (Eq.trans (e_Has.eq hT rfl) (by omega))) (by omega) ?_
  have h7 := (e_Has.get hT (c := 74) (k := 3) (lo := 0) (hi := 1) rfl (by decide))
  refine e_Ok.getf (z := w 74 3) rfl (el_o rfl) rfl rfl ((q4f 74 3 (by unfold kSp; omega)).trans rfl) (by omega) ?_
  refine e_Ok.if1 rfl (fun h8 => ?_) (fun h8 => ?_)
  · replace h8 : (w 74 3 : Int) = 0 := h8
    refine e_Ok.jp rfl ⟨rfl, 17 * a + 86, rfl, q4T, a, ga, rfl, fun j g1 g2 => b1 j g1 (by omega)⟩ (fun w9 hw9 => ?_)
    have fHv : e_fr kHv w2 w9 := by rw [← hw9]; exact e_hk_fr _
    have Q9 := kI.hk Q1 hw9
    have f10 : e_fr kNw w w9 := e_fr.trans f5 (e_fr.mono fHv (fun c k q => by exact nw_kHv q))
    have A11 : aQ w w9 := aQ.trans A6 (aQ.q (e_fr.mono fHv (fun c k q => nq_kHv q)) q4T Q9.1)
    refine e_Ok.rets rfl rfl ?_
    exact ⟨rfl, Q9.1, ⟨f10, Eq.trans (fHv _ _ (by unfold kHv; omega)) t1e⟩, Q9, by rw [fHv _ _ (by unfold kHv; omega)]; omega, by rw [fHv _ _ (by unfold kHv; omega)]; omega, A11⟩
  · replace h8 : (w 74 3 : Int) ≠ 0 := by have q : ¬ ((w 74 3 : Int) = 0) := h8; omega
    refine e_Ok.run (t' := (22, [(2, (1, 17 * a + 86)), (0, (1, 0)), (1, (0, a))], [(1, 17 * a + 86)], w2)) 1 rfl ?_
    have h12 := (e_Has.get hT (c := 17 * a + 86) (k := 11) (lo := 0) (hi := 2) (kA_11 (a := a) (by omega) (by omega)) (by decide))
    refine e_Ok.getf (z := w (17 * a + 86) 11) rfl (lA0 (a := a) (by omega) (by omega)) rfl rfl ((q4f (17 * a + 86) 11 (by unfold kSp; omega)).trans rfl) (by omega) ?_
    refine e_Ok.if1 rfl (fun h13 => ?_) (fun h13 => ?_)
    · replace h13 : (w (17 * a + 86) 11 : Int) = 0 := h13
      refine e_Ok.jp rfl ⟨rfl, 17 * a + 86, rfl, q4T, a, ga, rfl, fun j g1 g2 => b1 j g1 (by omega)⟩ (fun w14 hw14 => ?_)
      have fHv : e_fr kHv w2 w14 := by rw [← hw14]; exact e_hk_fr _
      have Q9 := kI.hk Q1 hw14
      have f15 : e_fr kNw w w14 := e_fr.trans f5 (e_fr.mono fHv (fun c k q => by exact nw_kHv q))
      have A16 : aQ w w14 := aQ.trans A6 (aQ.q (e_fr.mono fHv (fun c k q => nq_kHv q)) q4T Q9.1)
      refine e_Ok.rets rfl rfl ?_
      exact ⟨rfl, Q9.1, ⟨f15, Eq.trans (fHv _ _ (by unfold kHv; omega)) t1e⟩, Q9, by rw [fHv _ _ (by unfold kHv; omega)]; omega, by rw [fHv _ _ (by unfold kHv; omega)]; omega, A16⟩
    · replace h13 : (w (17 * a + 86) 11 : Int) ≠ 0 := by have q : ¬ ((w (17 * a + 86) 11 : Int) = 0) := h13; omega
      refine e_Ok.run (t' := (29, [(2, (1, 17 * a + 86)), (0, (1, 0)), (1, (0, a))], [(1, 17 * a + 86)], w2)) 1 rfl ?_
      refine e_Ok.callV rfl (by omega) rfl (lA0 (a := a) (by omega) (by omega)) rfl rfl (c_14_b (by omega) (a := a) q4T (by omega) (Q1.arm (a := a) (by omega) (by omega)).1 ((Q1.arm (a := a) (by omega) (by omega)).2.2.2.1 (by omega)).1 (by omega) (Q1.arm (a := a) (by omega) (by omega)).2.2.1) (fun r17 w18 h19 => ?_)
      obtain ⟨z20, rfl, q21f, q21T, q21r, q21x⟩ := h19
      have f22 : e_fr kNw w w18 := e_fr.trans f5 (e_fr.mono q21f (fun c k q => by exact nw_kGo (by omega) q))
      have A23 : aQ w w18 := aQ.trans A6 (aQ.go ga q21f q4T q21T q21x.2.2.2.2)
      show e_Ok 20 elay kcode eI (d + 1) 260 (32, [(2, (1, 17 * a + 86)), (0, (1, 0)), (1, (0, a))], [(0, z20)], w18) _
      refine e_Ok.if1 rfl (fun h24 => ?_) (fun h24 => ?_)
      · replace h24 : (z20 : Int) = 0 := h24
        have Q3 := kI.goA Q1 ga q21T q21f (by omega) q21x.1 q21x.2.1 q21x.2.2.2.1 (q21x.2.2.1 (by omega))
        have b3 : (∀ i, 0 ≤ i → i < w (17 * a + 86) 8 → kn1 (w18 (17 * a + i + 97) 11)) := fun i g1 g2 => by rw [q21f _ _ (by unfold kGo; omega)]; exact b1 i g1 g2
        have j3 : w18 (17 * a + 86) 8 = w (17 * a + 86) 8 := Eq.trans (q21f _ _ (by unfold kGo; omega)) j1
        have v3e : w18 74 1 = w 74 1 := Eq.trans (q21f _ _ (by unfold kGo; omega)) v1e
        have t3e : w18 74 0 = w 74 0 := Eq.trans (q21f _ _ (by unfold kGo; omega)) t1e
        have s3 : w18 (17 * a + 86) 11 = w2 (17 * a + 86) 11 := q21f _ _ (by unfold kGo; omega)
        refine e_Ok.run (t' := (44, [(2, (1, 17 * a + 86)), (0, (1, 0)), (1, (0, a))], [(1, 17 * a + 86)], w18)) 1 rfl ?_
        refine e_Ok.getf (z := w (17 * a + 86) 11) rfl (lA0 (a := a) (by omega) (by omega)) rfl rfl ((q21f (17 * a + 86) 11 (by unfold kGo; omega)).trans ((q4f (17 * a + 86) 11 (by unfold kSp; omega)).trans rfl)) (by omega) ?_
        refine e_Ok.run (t' := (48, [(2, (1, 17 * a + 86)), (0, (1, 0)), (1, (0, a))], [(0, 2), (0, w (17 * a + 86) 11)], w18)) 1 rfl ?_
        refine e_Ok.if2 rfl (fun h25 => ?_) (fun h25 => ?_)
        · replace h25 : (w (17 * a + 86) 11 : Int) ≠ 2 := h25
          refine e_Ok.run (t' := (66, [(2, (1, 17 * a + 86)), (0, (1, 0)), (1, (0, a))], [(1, 17 * a + 86)], w18)) 1 rfl ?_
          refine e_Ok.getf (z := w (17 * a + 86) 11) rfl (lA0 (a := a) (by omega) (by omega)) rfl rfl ((q21f (17 * a + 86) 11 (by unfold kGo; omega)).trans ((q4f (17 * a + 86) 11 (by unfold kSp; omega)).trans rfl)) (by omega) ?_
          refine e_Ok.run (t' := (70, [(2, (1, 17 * a + 86)), (0, (1, 0)), (1, (0, a))], [(0, 1), (0, w (17 * a + 86) 11)], w18)) 1 rfl ?_
          refine e_Ok.if2 rfl (fun h26 => ?_) (fun h26 => ?_)
          · replace h26 : (w (17 * a + 86) 11 : Int) ≠ 1 := h26
            exfalso; omega
          · replace h26 : (w (17 * a + 86) 11 : Int) = 1 := by have q : ¬ ((w (17 * a + 86) 11 : Int) ≠ 1) := h26; omega
            refine e_Ok.run (t' := (74, [(2, (1, 17 * a + 86)), (0, (1, 0)), (1, (0, a))], [(1, 17 * a + 86)], w18)) 1 rfl ?_
            refine e_Ok.callV rfl (by omega) rfl (lA0 (a := a) (by omega) (by omega)) rfl rfl (c_16 (by omega) (a := a) q21T (by omega)) (fun r27 w28 h29 => ?_)
            obtain ⟨z30, rfl, rfl, q31r, q31x⟩ := h29
            show e_Ok 20 elay kcode eI (d + 1) 260 (77, [(2, (1, 17 * a + 86)), (0, (1, 0)), (1, (0, a))], [(0, z30)], w18) _
            refine e_Ok.if1 rfl (fun h32 => ?_) (fun h32 => ?_)
            · replace h32 : (z30 : Int) = 0 := h32
              refine e_Ok.jp rfl ⟨rfl, 17 * a + 86, rfl, q21T, a, ga, rfl, fun j g1 g2 => b3 j g1 (by omega)⟩ (fun w33 hw33 => ?_)
              have fHv : e_fr kHv w18 w33 := by rw [← hw33]; exact e_hk_fr _
              have Q9 := kI.hk Q3 hw33
              have f34 : e_fr kNw w w33 := e_fr.trans f22 (e_fr.mono fHv (fun c k q => by exact nw_kHv q))
              have A35 : aQ w w33 := aQ.trans A23 (aQ.q (e_fr.mono fHv (fun c k q => nq_kHv q)) q21T Q9.1)
              refine e_Ok.rets rfl rfl ?_
              exact ⟨rfl, Q9.1, ⟨f34, Eq.trans (fHv _ _ (by unfold kHv; omega)) t3e⟩, Q9, by rw [fHv _ _ (by unfold kHv; omega)]; omega, by rw [fHv _ _ (by unfold kHv; omega)]; omega, A35⟩
            · replace h32 : (z30 : Int) ≠ 0 := by have q : ¬ ((z30 : Int) = 0) := h32; omega
              refine e_Ok.run (t' := (82, [(2, (1, 17 * a + 86)), (0, (1, 0)), (1, (0, a))], [(0, a), (1, 0)], w18)) 2 rfl ?_
              refine e_Ok.callV rfl (by omega) rfl rfl rfl rfl (c_261 (by omega) (a := a) q21T ga Q3 (by omega) (q31x (by omega)) (by omega)) (fun r36 w37 h38 => ?_)
              obtain ⟨rfl, q40T, q40f, q40Q, q40e, q40b⟩ := h38
              have f41 : e_fr kNw w w37 := e_fr.trans f22 (e_fr.mono q40f.1 (fun c k q => by exact nq_nw q))
              have A42 : aQ w w37 := aQ.trans A23 (aQ.q q40f.1 q21T q40T)
              have b5 : (∀ i, 0 ≤ i → i < w (17 * a + 86) 8 → kn1 (w37 (17 * a + i + 97) 11)) := fun i g1 g2 => by rw [q40b i g1 (by omega)]; exact b3 i g1 g2
              have j5 : w37 (17 * a + 86) 8 = w (17 * a + 86) 8 := Eq.trans (q40f.1 _ _ (by unfold kNq; omega)) j3
              have v5e : w37 74 1 = w 74 1 + 1 := by rw [q40e, v3e]
              have t5e : w37 74 0 = w 74 0 := Eq.trans q40f.2 t3e
              show e_Ok 20 elay kcode eI (d + 1) 260 (85, [(2, (1, 17 * a + 86)), (0, (1, 0)), (1, (0, a))], [], w37) _
              refine e_Ok.jp rfl ⟨rfl, 17 * a + 86, rfl, q40T, a, ga, rfl, fun j g1 g2 => b5 j g1 (by omega)⟩ (fun w43 hw43 => ?_)
              have fHv : e_fr kHv w37 w43 := by rw [← hw43]; exact e_hk_fr _
              have Q9 := kI.hk q40Q hw43
              have f44 : e_fr kNw w w43 := e_fr.trans f41 (e_fr.mono fHv (fun c k q => by exact nw_kHv q))
              have A45 : aQ w w43 := aQ.trans A42 (aQ.q (e_fr.mono fHv (fun c k q => nq_kHv q)) q40T Q9.1)
              refine e_Ok.rets rfl rfl ?_
              exact ⟨rfl, Q9.1, ⟨f44, Eq.trans (fHv _ _ (by unfold kHv; omega)) t5e⟩, Q9, by rw [fHv _ _ (by unfold kHv; omega)]; omega, by rw [fHv _ _ (by unfold kHv; omega)]; omega, A45⟩
        · replace h25 : (w (17 * a + 86) 11 : Int) = 2 := by have q : ¬ ((w (17 * a + 86) 11 : Int) ≠ 2) := h25; omega
          refine e_Ok.run (t' := (52, [(2, (1, 17 * a + 86)), (0, (1, 0)), (1, (0, a))], [(1, 17 * a + 86)], w18)) 1 rfl ?_
          refine e_Ok.callV rfl (by omega) rfl (lA0 (a := a) (by omega) (by omega)) rfl rfl (c_15 (a := a) q21T (by omega)) (fun r46 w47 h48 => ?_)
          obtain ⟨z50, rfl, rfl, q49r, q49x⟩ := h48
          show e_Ok 20 elay kcode eI (d + 1) 260 (55, [(2, (1, 17 * a + 86)), (0, (1, 0)), (1, (0, a))], [(0, z50)], w18) _
          refine e_Ok.if1 rfl (fun h51 => ?_) (fun h51 => ?_)
          · replace h51 : (z50 : Int) = 0 := h51
            refine e_Ok.run (t' := (66, [(2, (1, 17 * a + 86)), (0, (1, 0)), (1, (0, a))], [(1, 17 * a + 86)], w18)) 1 rfl ?_
            refine e_Ok.getf (z := w (17 * a + 86) 11) rfl (lA0 (a := a) (by omega) (by omega)) rfl rfl ((q21f (17 * a + 86) 11 (by unfold kGo; omega)).trans ((q4f (17 * a + 86) 11 (by unfold kSp; omega)).trans rfl)) (by omega) ?_
            refine e_Ok.run (t' := (70, [(2, (1, 17 * a + 86)), (0, (1, 0)), (1, (0, a))], [(0, 1), (0, w (17 * a + 86) 11)], w18)) 1 rfl ?_
            refine e_Ok.if2 rfl (fun h52 => ?_) (fun h52 => ?_)
            · replace h52 : (w (17 * a + 86) 11 : Int) ≠ 1 := h52
              refine e_Ok.jp rfl ⟨rfl, 17 * a + 86, rfl, q21T, a, ga, rfl, fun j g1 g2 => b3 j g1 (by omega)⟩ (fun w53 hw53 => ?_)
              have fHv : e_fr kHv w18 w53 := by rw [← hw53]; exact e_hk_fr _
              have Q9 := kI.hk Q3 hw53
              have f54 : e_fr kNw w w53 := e_fr.trans f22 (e_fr.mono fHv (fun c k q => by exact nw_kHv q))
              have A55 : aQ w w53 := aQ.trans A23 (aQ.q (e_fr.mono fHv (fun c k q => nq_kHv q)) q21T Q9.1)
              refine e_Ok.rets rfl rfl ?_
              exact ⟨rfl, Q9.1, ⟨f54, Eq.trans (fHv _ _ (by unfold kHv; omega)) t3e⟩, Q9, by rw [fHv _ _ (by unfold kHv; omega)]; omega, by rw [fHv _ _ (by unfold kHv; omega)]; omega, A55⟩
            · replace h52 : (w (17 * a + 86) 11 : Int) = 1 := by have q : ¬ ((w (17 * a + 86) 11 : Int) ≠ 1) := h52; omega
              exfalso; omega
          · replace h51 : (z50 : Int) ≠ 0 := by have q : ¬ ((z50 : Int) = 0) := h51; omega
            refine e_Ok.run (t' := (59, [(2, (1, 17 * a + 86)), (0, (1, 0)), (1, (0, a))], [(1, 17 * a + 86)], w18)) 1 rfl ?_
            refine e_Ok.callV rfl (by omega) rfl (lA0 (a := a) (by omega) (by omega)) rfl rfl (c_17_b (a := a) q21T (by omega)) (fun r56 w57 h58 => ?_)
            obtain ⟨rfl, q59f, q59T, q59x⟩ := h58
            have f60 : e_fr kNw w w57 := e_fr.trans f22 (e_fr.mono q59f (fun c k q => by exact nw_kSt (by omega) q))
            have A61 : aQ w w57 := aQ.trans A23 (aQ.q (e_fr.mono q59f (fun c k q => nq_kSt (by omega) q)) q21T q59T)
            have hA4 := (Q3.arm (a := a) (by omega) (by omega)).stand (w' := w57) (by omega) (kn_joints Q3.1 (by omega)).2 (fun c k g1 g2 g3 => q59f c k (by unfold dA at g1; unfold kSt; omega)) q59x.1 q59x.2.2 q59x.2.1
            have Q4 := kI.ar Q3 q59T (by omega) (q59f.mono (fun c k g => ah_kSt g)) (Q3.lgk.fr q59f (by unfold kSt; omega) (fun k => by unfold kSt; omega)) hA4 (fun _ _ => q59x.1)
            have b4 : (∀ i, 0 ≤ i → i < w (17 * a + 86) 8 → kn1 (w57 (17 * a + i + 97) 11)) := fun i g1 g2 => by rw [q59f _ _ (by unfold kSt; omega)]; exact b3 i g1 g2
            have j4 : w57 (17 * a + 86) 8 = w (17 * a + 86) 8 := Eq.trans (q59f _ _ (by unfold kSt; omega)) j3
            have v4e : w57 74 1 = w 74 1 := Eq.trans (q59f _ _ (by unfold kSt; omega)) v3e
            have t4e : w57 74 0 = w 74 0 := Eq.trans (q59f _ _ (by unfold kSt; omega)) t3e
            show e_Ok 20 elay kcode eI (d + 1) 260 (62, [(2, (1, 17 * a + 86)), (0, (1, 0)), (1, (0, a))], [], w57) _
            refine e_Ok.run (t' := (85, [(2, (1, 17 * a + 86)), (0, (1, 0)), (1, (0, a))], [], w57)) 1 rfl ?_
            refine e_Ok.jp rfl ⟨rfl, 17 * a + 86, rfl, q59T, a, ga, rfl, fun j g1 g2 => b4 j g1 (by omega)⟩ (fun w62 hw62 => ?_)
            have fHv : e_fr kHv w57 w62 := by rw [← hw62]; exact e_hk_fr _
            have Q9 := kI.hk Q4 hw62
            have f63 : e_fr kNw w w62 := e_fr.trans f60 (e_fr.mono fHv (fun c k q => by exact nw_kHv q))
            have A64 : aQ w w62 := aQ.trans A61 (aQ.q (e_fr.mono fHv (fun c k q => nq_kHv q)) q59T Q9.1)
            refine e_Ok.rets rfl rfl ?_
            exact ⟨rfl, Q9.1, ⟨f63, Eq.trans (fHv _ _ (by unfold kHv; omega)) t4e⟩, Q9, by rw [fHv _ _ (by unfold kHv; omega)]; omega, by rw [fHv _ _ (by unfold kHv; omega)]; omega, A64⟩
      · replace h24 : (z20 : Int) ≠ 0 := by have q : ¬ ((z20 : Int) = 0) := h24; omega
        refine e_Ok.run (t' := (36, [(2, (1, 17 * a + 86)), (0, (1, 0)), (1, (0, a))], [(1, 0)], w18)) 1 rfl ?_
        refine e_Ok.getr (z := 8) rfl (el_o rfl) rfl rfl ((q21f 0 1 (by unfold kGo; omega)).trans ((q4f 0 1 (by unfold kSp; omega)).trans (Eq.trans (e_Has.eq hT rfl) (by omega)))) (by omega) ?_
        refine e_Ok.run (t' := (40, [(2, (1, 17 * a + 86)), (0, (1, 0)), (1, (0, a))], [(0, a), (1, 8)], w18)) 1 rfl ?_
        refine e_Ok.callV rfl (by omega) rfl rfl rfl rfl (c_39 q21T (by omega)) (fun r65 w66 h67 => ?_)
        obtain ⟨rfl, q68f, q68T, q68x⟩ := h67
        have f69 : e_fr kNw w w66 := e_fr.trans f22 (e_fr.mono q68f (fun c k q => by exact nw_kMv q))
        have A70 : aQ w w66 := aQ.trans A23 (aQ.q (e_fr.mono q68f (fun c k q => nq_kMv q)) q21T q68T)
        have b2 : (∀ i, 0 ≤ i → i < w (17 * a + 86) 8 → kn1 (w18 (17 * a + i + 97) 11)) := fun i g1 g2 => by rw [q21f _ _ (by unfold kGo; omega)]; exact b1 i g1 g2
        have j2 : w18 (17 * a + 86) 8 = w (17 * a + 86) 8 := Eq.trans (q21f _ _ (by unfold kGo; omega)) j1
        have v2e : w18 74 1 = w 74 1 := Eq.trans (q21f _ _ (by unfold kGo; omega)) v1e
        have t2e : w18 74 0 = w 74 0 := Eq.trans (q21f _ _ (by unfold kGo; omega)) t1e
        have Q3 := kI.goB Q1 ga q21T q21f (by omega) q21x.1 q21x.2.1 q21x.2.2.2.1 q68T q68f q68x
        have b3 : (∀ i, 0 ≤ i → i < w (17 * a + 86) 8 → kn1 (w66 (17 * a + i + 97) 11)) := fun i g1 g2 => by rw [q68f _ _ (by unfold kMv; omega)]; exact b2 i g1 g2
        have j3 : w66 (17 * a + 86) 8 = w (17 * a + 86) 8 := Eq.trans (q68f _ _ (by unfold kMv; omega)) j2
        have v3e : w66 74 1 = w 74 1 := Eq.trans (q68f _ _ (by unfold kMv; omega)) v2e
        have t3e : w66 74 0 = w 74 0 := Eq.trans (q68f _ _ (by unfold kMv; omega)) t2e
        have s3 : w66 (17 * a + 86) 11 = w2 (17 * a + 86) 11 := Eq.trans (q68f _ _ (by unfold kMv; omega)) (q21f _ _ (by unfold kGo; omega))
        show e_Ok 20 elay kcode eI (d + 1) 260 (43, [(2, (1, 17 * a + 86)), (0, (1, 0)), (1, (0, a))], [], w66) _
        refine e_Ok.run (t' := (44, [(2, (1, 17 * a + 86)), (0, (1, 0)), (1, (0, a))], [(1, 17 * a + 86)], w66)) 1 rfl ?_
        refine e_Ok.getf (z := w (17 * a + 86) 11) rfl (lA0 (a := a) (by omega) (by omega)) rfl rfl ((q68f (17 * a + 86) 11 (by unfold kMv; omega)).trans ((q21f (17 * a + 86) 11 (by unfold kGo; omega)).trans ((q4f (17 * a + 86) 11 (by unfold kSp; omega)).trans rfl))) (by omega) ?_
        refine e_Ok.run (t' := (48, [(2, (1, 17 * a + 86)), (0, (1, 0)), (1, (0, a))], [(0, 2), (0, w (17 * a + 86) 11)], w66)) 1 rfl ?_
        refine e_Ok.if2 rfl (fun h71 => ?_) (fun h71 => ?_)
        · replace h71 : (w (17 * a + 86) 11 : Int) ≠ 2 := h71
          refine e_Ok.run (t' := (66, [(2, (1, 17 * a + 86)), (0, (1, 0)), (1, (0, a))], [(1, 17 * a + 86)], w66)) 1 rfl ?_
          refine e_Ok.getf (z := w (17 * a + 86) 11) rfl (lA0 (a := a) (by omega) (by omega)) rfl rfl ((q68f (17 * a + 86) 11 (by unfold kMv; omega)).trans ((q21f (17 * a + 86) 11 (by unfold kGo; omega)).trans ((q4f (17 * a + 86) 11 (by unfold kSp; omega)).trans rfl))) (by omega) ?_
          refine e_Ok.run (t' := (70, [(2, (1, 17 * a + 86)), (0, (1, 0)), (1, (0, a))], [(0, 1), (0, w (17 * a + 86) 11)], w66)) 1 rfl ?_
          refine e_Ok.if2 rfl (fun h72 => ?_) (fun h72 => ?_)
          · replace h72 : (w (17 * a + 86) 11 : Int) ≠ 1 := h72
            exfalso; omega
          · replace h72 : (w (17 * a + 86) 11 : Int) = 1 := by have q : ¬ ((w (17 * a + 86) 11 : Int) ≠ 1) := h72; omega
            refine e_Ok.run (t' := (74, [(2, (1, 17 * a + 86)), (0, (1, 0)), (1, (0, a))], [(1, 17 * a + 86)], w66)) 1 rfl ?_
            refine e_Ok.callV rfl (by omega) rfl (lA0 (a := a) (by omega) (by omega)) rfl rfl (c_16 (by omega) (a := a) q68T (by omega)) (fun r73 w74 h75 => ?_)
            obtain ⟨z76, rfl, rfl, q77r, q77x⟩ := h75
            show e_Ok 20 elay kcode eI (d + 1) 260 (77, [(2, (1, 17 * a + 86)), (0, (1, 0)), (1, (0, a))], [(0, z76)], w66) _
            refine e_Ok.if1 rfl (fun h78 => ?_) (fun h78 => ?_)
            · replace h78 : (z76 : Int) = 0 := h78
              refine e_Ok.jp rfl ⟨rfl, 17 * a + 86, rfl, q68T, a, ga, rfl, fun j g1 g2 => b3 j g1 (by omega)⟩ (fun w79 hw79 => ?_)
              have fHv : e_fr kHv w66 w79 := by rw [← hw79]; exact e_hk_fr _
              have Q9 := kI.hk Q3 hw79
              have f80 : e_fr kNw w w79 := e_fr.trans f69 (e_fr.mono fHv (fun c k q => by exact nw_kHv q))
              have A81 : aQ w w79 := aQ.trans A70 (aQ.q (e_fr.mono fHv (fun c k q => nq_kHv q)) q68T Q9.1)
              refine e_Ok.rets rfl rfl ?_
              exact ⟨rfl, Q9.1, ⟨f80, Eq.trans (fHv _ _ (by unfold kHv; omega)) t3e⟩, Q9, by rw [fHv _ _ (by unfold kHv; omega)]; omega, by rw [fHv _ _ (by unfold kHv; omega)]; omega, A81⟩
            · replace h78 : (z76 : Int) ≠ 0 := by have q : ¬ ((z76 : Int) = 0) := h78; omega
              refine e_Ok.run (t' := (82, [(2, (1, 17 * a + 86)), (0, (1, 0)), (1, (0, a))], [(0, a), (1, 0)], w66)) 2 rfl ?_
              refine e_Ok.callV rfl (by omega) rfl rfl rfl rfl (c_261 (by omega) (a := a) q68T ga Q3 (by omega) (q77x (by omega)) (by omega)) (fun r82 w83 h84 => ?_)
              obtain ⟨rfl, q85T, q85f, q85Q, q85e, q85b⟩ := h84
              have f86 : e_fr kNw w w83 := e_fr.trans f69 (e_fr.mono q85f.1 (fun c k q => by exact nq_nw q))
              have A87 : aQ w w83 := aQ.trans A70 (aQ.q q85f.1 q68T q85T)
              have b5 : (∀ i, 0 ≤ i → i < w (17 * a + 86) 8 → kn1 (w83 (17 * a + i + 97) 11)) := fun i g1 g2 => by rw [q85b i g1 (by omega)]; exact b3 i g1 g2
              have j5 : w83 (17 * a + 86) 8 = w (17 * a + 86) 8 := Eq.trans (q85f.1 _ _ (by unfold kNq; omega)) j3
              have v5e : w83 74 1 = w 74 1 + 1 := by rw [q85e, v3e]
              have t5e : w83 74 0 = w 74 0 := Eq.trans q85f.2 t3e
              show e_Ok 20 elay kcode eI (d + 1) 260 (85, [(2, (1, 17 * a + 86)), (0, (1, 0)), (1, (0, a))], [], w83) _
              refine e_Ok.jp rfl ⟨rfl, 17 * a + 86, rfl, q85T, a, ga, rfl, fun j g1 g2 => b5 j g1 (by omega)⟩ (fun w88 hw88 => ?_)
              have fHv : e_fr kHv w83 w88 := by rw [← hw88]; exact e_hk_fr _
              have Q9 := kI.hk q85Q hw88
              have f89 : e_fr kNw w w88 := e_fr.trans f86 (e_fr.mono fHv (fun c k q => by exact nw_kHv q))
              have A90 : aQ w w88 := aQ.trans A87 (aQ.q (e_fr.mono fHv (fun c k q => nq_kHv q)) q85T Q9.1)
              refine e_Ok.rets rfl rfl ?_
              exact ⟨rfl, Q9.1, ⟨f89, Eq.trans (fHv _ _ (by unfold kHv; omega)) t5e⟩, Q9, by rw [fHv _ _ (by unfold kHv; omega)]; omega, by rw [fHv _ _ (by unfold kHv; omega)]; omega, A90⟩
        · replace h71 : (w (17 * a + 86) 11 : Int) = 2 := by have q : ¬ ((w (17 * a + 86) 11 : Int) ≠ 2) := h71; omega
          refine e_Ok.run (t' := (52, [(2, (1, 17 * a + 86)), (0, (1, 0)), (1, (0, a))], [(1, 17 * a + 86)], w66)) 1 rfl ?_
          refine e_Ok.callV rfl (by omega) rfl (lA0 (a := a) (by omega) (by omega)) rfl rfl (c_15 (a := a) q68T (by omega)) (fun r91 w92 h93 => ?_)
          obtain ⟨z95, rfl, rfl, q94r, q94x⟩ := h93
          show e_Ok 20 elay kcode eI (d + 1) 260 (55, [(2, (1, 17 * a + 86)), (0, (1, 0)), (1, (0, a))], [(0, z95)], w66) _
          refine e_Ok.if1 rfl (fun h101 => ?_) (fun h101 => ?_)
          · replace h101 : (z95 : Int) = 0 := h101
            refine e_Ok.run (t' := (66, [(2, (1, 17 * a + 86)), (0, (1, 0)), (1, (0, a))], [(1, 17 * a + 86)], w66)) 1 rfl ?_
            refine e_Ok.getf (z := w (17 * a + 86) 11) rfl (lA0 (a := a) (by omega) (by omega)) rfl rfl ((q68f (17 * a + 86) 11 (by unfold kMv; omega)).trans ((q21f (17 * a + 86) 11 (by unfold kGo; omega)).trans ((q4f (17 * a + 86) 11 (by unfold kSp; omega)).trans rfl))) (by omega) ?_
            refine e_Ok.run (t' := (70, [(2, (1, 17 * a + 86)), (0, (1, 0)), (1, (0, a))], [(0, 1), (0, w (17 * a + 86) 11)], w66)) 1 rfl ?_
            refine e_Ok.if2 rfl (fun h103 => ?_) (fun h103 => ?_)
            · replace h103 : (w (17 * a + 86) 11 : Int) ≠ 1 := h103
              refine e_Ok.jp rfl ⟨rfl, 17 * a + 86, rfl, q68T, a, ga, rfl, fun j g1 g2 => b3 j g1 (by omega)⟩ (fun w104 hw104 => ?_)
              have fHv : e_fr kHv w66 w104 := by rw [← hw104]; exact e_hk_fr _
              have Q9 := kI.hk Q3 hw104
              have f105 : e_fr kNw w w104 := e_fr.trans f69 (e_fr.mono fHv (fun c k q => by exact nw_kHv q))
              have A106 : aQ w w104 := aQ.trans A70 (aQ.q (e_fr.mono fHv (fun c k q => nq_kHv q)) q68T Q9.1)
              refine e_Ok.rets rfl rfl ?_
              exact ⟨rfl, Q9.1, ⟨f105, Eq.trans (fHv _ _ (by unfold kHv; omega)) t3e⟩, Q9, by rw [fHv _ _ (by unfold kHv; omega)]; omega, by rw [fHv _ _ (by unfold kHv; omega)]; omega, A106⟩
            · replace h103 : (w (17 * a + 86) 11 : Int) = 1 := by have q : ¬ ((w (17 * a + 86) 11 : Int) ≠ 1) := h103; omega
              exfalso; omega
          · replace h101 : (z95 : Int) ≠ 0 := by have q : ¬ ((z95 : Int) = 0) := h101; omega
            refine e_Ok.run (t' := (59, [(2, (1, 17 * a + 86)), (0, (1, 0)), (1, (0, a))], [(1, 17 * a + 86)], w66)) 1 rfl ?_
            refine e_Ok.callV rfl (by omega) rfl (lA0 (a := a) (by omega) (by omega)) rfl rfl (c_17_b (a := a) q68T (by omega)) (fun r107 w108 h109 => ?_)
            obtain ⟨rfl, q110f, q110T, q110x⟩ := h109
            have f111 : e_fr kNw w w108 := e_fr.trans f69 (e_fr.mono q110f (fun c k q => by exact nw_kSt (by omega) q))
            have A112 : aQ w w108 := aQ.trans A70 (aQ.q (e_fr.mono q110f (fun c k q => nq_kSt (by omega) q)) q68T q110T)
            have hA4 := (Q3.arm (a := a) (by omega) (by omega)).stand (w' := w108) (by omega) (kn_joints Q3.1 (by omega)).2 (fun c k g1 g2 g3 => q110f c k (by unfold dA at g1; unfold kSt; omega)) q110x.1 q110x.2.2 q110x.2.1
            have Q4 := kI.ar Q3 q110T (by omega) (q110f.mono (fun c k g => ah_kSt g)) (Q3.lgk.fr q110f (by unfold kSt; omega) (fun k => by unfold kSt; omega)) hA4 (fun _ _ => q110x.1)
            have b4 : (∀ i, 0 ≤ i → i < w (17 * a + 86) 8 → kn1 (w108 (17 * a + i + 97) 11)) := fun i g1 g2 => by rw [q110f _ _ (by unfold kSt; omega)]; exact b3 i g1 g2
            have j4 : w108 (17 * a + 86) 8 = w (17 * a + 86) 8 := Eq.trans (q110f _ _ (by unfold kSt; omega)) j3
            have v4e : w108 74 1 = w 74 1 := Eq.trans (q110f _ _ (by unfold kSt; omega)) v3e
            have t4e : w108 74 0 = w 74 0 := Eq.trans (q110f _ _ (by unfold kSt; omega)) t3e
            show e_Ok 20 elay kcode eI (d + 1) 260 (62, [(2, (1, 17 * a + 86)), (0, (1, 0)), (1, (0, a))], [], w108) _
            refine e_Ok.run (t' := (85, [(2, (1, 17 * a + 86)), (0, (1, 0)), (1, (0, a))], [], w108)) 1 rfl ?_
            refine e_Ok.jp rfl ⟨rfl, 17 * a + 86, rfl, q110T, a, ga, rfl, fun j g1 g2 => b4 j g1 (by omega)⟩ (fun w113 hw113 => ?_)
            have fHv : e_fr kHv w108 w113 := by rw [← hw113]; exact e_hk_fr _
            have Q9 := kI.hk Q4 hw113
            have f114 : e_fr kNw w w113 := e_fr.trans f111 (e_fr.mono fHv (fun c k q => by exact nw_kHv q))
            have A115 : aQ w w113 := aQ.trans A112 (aQ.q (e_fr.mono fHv (fun c k q => nq_kHv q)) q110T Q9.1)
            refine e_Ok.rets rfl rfl ?_
            exact ⟨rfl, Q9.1, ⟨f114, Eq.trans (fHv _ _ (by unfold kHv; omega)) t4e⟩, Q9, by rw [fHv _ _ (by unfold kHv; omega)]; omega, by rw [fHv _ _ (by unfold kHv; omega)]; omega, A115⟩
end
