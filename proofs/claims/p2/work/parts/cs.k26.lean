noncomputable section
/-! the class: an arm goes on in its cell -/
theorem hm_kSp {a c k : Int} (ha : 0 ≤ a ∧ a ≤ 3) (g : kSp a c k) : kHm c k := by
  unfold kSp at g
  unfold kHm
  have h1 : 97 ≤ c ∧ c ≤ 153 := by omega
  have h2 : 11 ≤ (c - 86) % 17 := by omega
  simp only [h1.1, h1.2, h2, g.2.2, true_and, and_true, true_or, or_true]
section Ks
variable {w w' : eW} {OP OD CL : Int → Int → Int} {h t0 : Int}
theorem ah_kGo {a c k : Int} (g : kGo a c k) : kAh a c k := by
  unfold kGo at g
  rcases g with g | g | g
  · exact Or.inr (Or.inr (Or.inr (Or.inl ⟨g.1, by omega⟩)))
  · exact Or.inr (Or.inr (Or.inr (Or.inr (Or.inr ⟨g.1, g.2.1⟩))))
  · exact Or.inr (Or.inr (Or.inr (Or.inr (Or.inl (by omega)))))
/-- one tick further, no joint moved -/
theorem kI.goA {a : Int} (q : kI w OP OD CL h t0) (ha : 0 ≤ a ∧ a ≤ 3) (hT : e_Has kTy w') (f : e_fr (kGo a) w w') (hs : w (17 * a + 86) 11 ≠ 0) (hM : aMs w' a (w (17 * a + 86) 8) (w (17 * a + 86) 11)) (hK : aK w' a) (hk : kn1 (w' (17 * a + 86) 12)) (hv : ∀ i, 0 ≤ i → i < w (17 * a + 86) 8 → w' (17 * a + i + 97) 7 = w (17 * a + i + 97) 7) : kI w' OP OD CL h t0 :=
  kI.ar q hT ha (f.mono (fun c k g => ah_kGo g)) (q.lgk.fr f (by unfold kGo; omega) (fun k => by unfold kGo; omega)) ((q.2.1 a ha.1 ha.2).go ha (kn_joints q.1 ha).2 (fun c k _ g2 _ => f c k g2) hK hM hk hs (Or.inr ⟨f _ _ (by unfold kGo; omega), hv⟩)) (fun g g9 => by rw [f _ _ (by unfold kGo; omega)]; exact q.pw g a ha.1 ha.2 g9)
/-- one tick further, and ways are stale -/
theorem kI.goB {w2 w3 : eW} {a : Int} (q : kI w OP OD CL h t0) (ha : 0 ≤ a ∧ a ≤ 3) (hT2 : e_Has kTy w2) (f : e_fr (kGo a) w w2) (hs : w (17 * a + 86) 11 ≠ 0) (hM : aMs w2 a (w (17 * a + 86) 8) (w (17 * a + 86) 11)) (hK : aK w2 a) (hk : kn1 (w2 (17 * a + 86) 12)) (hT3 : e_Has kTy w3) (f3 : e_fr kMv w2 w3) (hm : ∀ i, 0 ≤ i → i ≤ 3 → w3 (17 * i + 86) 19 ≠ 0) : kI w3 OP OD CL h t0 := by
  have e : ∀ c k, ¬ (c = 17 * a + 86 ∧ k = 19) → e_up w2 (17 * a + 86) 19 1 c k = w2 c k := fun c k g => e_up_ne _ _ (by omega)
  have hTu : e_Has kTy (e_up w2 (17 * a + 86) 19 1) := e_Has.upr hT2 rfl (kA_19 (a := a) rfl ha) (by decide)
  have hn := (kn_joints q.1 ha).2
  have hA : aR (e_up w2 (17 * a + 86) 19 1) a := by
    refine (q.2.1 a ha.1 ha.2).go ha hn (fun c k g1 g2 g3 => by rw [e _ _ g3]; exact f c k g2) (hK.up rfl (by omega) (by omega) (by omega)) ?_ (by rw [e _ _ (by omega)]; exact hk) hs (Or.inl (by rw [e_up_eq]; decide))
    exact hM.eq hn (fun c k g1 g2 g3 g4 => e _ _ (by omega))
  have Q1 : kI (e_up w2 (17 * a + 86) 19 1) OP OD CL h t0 := by
    refine kI.ar q hTu ha (fun c k g => ?_) ?_ hA (fun g g9 => by rw [e _ _ (by omega), f _ _ (by unfold kGo; omega)]; exact q.pw g a ha.1 ha.2 g9)
    · by_cases g4 : c = 17 * a + 86 ∧ k = 19
      · exact absurd (Or.inr (Or.inr (Or.inr (Or.inl ⟨g4.1, by omega⟩)))) g
      · rw [e _ _ g4]; exact f c k (fun g5 => g (ah_kGo g5))
    · refine q.lgk.fr (S := fun c k => (c = 17 * a + 86 ∧ k = 19) ∨ kGo a c k) (fun c k g => ?_) (by unfold kGo; omega) (fun k => by unfold kGo; omega)
      rw [e _ _ (fun g2 => g (Or.inl g2))]; exact f c k (fun g2 => g (Or.inr g2))
  have hcdn : 17 * a + 86 = 86 ∨ 17 * a + 86 = 103 ∨ 17 * a + 86 = 120 ∨ 17 * a + 86 = 137 := by omega
  refine kI.stale Q1 hT3 (fun c k g => ?_) hm
  rw [f3 c k g, e _ _ (fun g2 => g (Or.inl ⟨by omega, g2.2⟩))]
end Ks
set_option maxHeartbeats 4000000 in
theorem c_260 {d : Nat} (hd : 26 ≤ d) {w : eW} (hT : e_Has kTy w) {a : Int} (ga : 0 ≤ a ∧ a ≤ 3) {OP OD CL : Int → Int → Int} {h t0 : Int} (q : kI w OP OD CL h t0) (he : w 74 1 < 2147483646) : e_Ok 20 elay kcode eI d 260 (0, [(0, (1, 0)), (1, (0, a))], [], w) (fun r w' => r = [] ∧ e_Has kTy w' ∧ (e_fr kNw w w' ∧ w' 74 0 = w 74 0) ∧ kI w' OP OD CL h t0 ∧ w 74 1 ≤ w' 74 1 ∧ w' 74 1 ≤ w 74 1 + 1) := by
  obtain ⟨d, rfl⟩ : ∃ e, d = e + 1 := ⟨d - 1, by omega⟩
  have h74 := e_Has.get hT (c := 74) (k := 1) (lo := 0) (hi := 2147483647) rfl (by decide)
  have hjn := kn_joints hT (a := a) (by omega)
  refine e_Ok.run (t' := (1, [(0, (1, 0)), (1, (0, a))], [(1, 0)], w)) 1 rfl ?_
  refine e_Ok.getr (z := 9) rfl rfl rfl rfl (Eq.trans (e_Has.eq hT rfl) (by omega)) (by omega) ?_
  refine e_Ok.run (t' := (5, [(0, (1, 0)), (1, (0, a))], [(0, a), (1, 9)], w)) 1 rfl ?_
  refine e_Ok.aald (z := 17 * a + 86) rfl rfl rfl (by omega) (Eq.trans (e_Has.eq hT (k9 (by omega))) (by omega)) (by omega) ?_
  refine e_Ok.run (t' := (8, [(2, (1, 17 * a + 86)), (0, (1, 0)), (1, (0, a))], [(1, 17 * a + 86)], w)) 2 rfl ?_
  refine e_Ok.callV rfl (by omega) rfl (lA0 (a := a) (by omega) (by omega)) rfl rfl (c_12 (a := a) hT (by omega)) (fun r1 w2 h3 => ?_)
  obtain ⟨rfl, q4f, q4T, q4x⟩ := h3
  have f5 : e_fr kNw w w2 := e_fr.trans (e_fr.refl w) (e_fr.mono q4f (fun c k q => by exact nw_kSp (by omega) q))
  have Q1 := kI.hm q q4T (q4f.mono (fun c k g => hm_kSp ga g))
  have b1 : (∀ i, 0 ≤ i → i < w (17 * a + 86) 8 → kn1 (w2 (17 * a + i + 97) 11)) := q4x
  have j1 : w2 (17 * a + 86) 8 = w (17 * a + 86) 8 := q4f _ _ (by unfold kSp; omega)
  have s1 : w2 (17 * a + 86) 11 = w (17 * a + 86) 11 := q4f _ _ (by unfold kSp; omega)
  have v1e : w2 74 1 = w 74 1 := q4f _ _ (by unfold kSp; omega)
  have t1e : w2 74 0 = w 74 0 := q4f _ _ (by unfold kSp; omega)
  show e_Ok 20 elay kcode eI (d + 1) 260 (11, [(2, (1, 17 * a + 86)), (0, (1, 0)), (1, (0, a))], [], w2) _
  refine e_Ok.run (t' := (12, [(2, (1, 17 * a + 86)), (0, (1, 0)), (1, (0, a))], [(1, 0)], w2)) 1 rfl ?_
  refine e_Ok.getr (z := 74) rfl rfl rfl rfl ((q4f 0 5 (by unfold kSp; omega)).trans (Eq.trans (e_Has.eq hT rfl) (by omega))) (by omega) ?_
  have h6 := (e_Has.get hT (c := 74) (k := 3) (lo := 0) (hi := 1) rfl (by decide))
  refine e_Ok.getf (z := w 74 3) rfl rfl rfl rfl ((q4f 74 3 (by unfold kSp; omega)).trans rfl) (by omega) ?_
  refine e_Ok.if1 rfl (fun h7 => ?_) (fun h7 => ?_)
  · replace h7 : (w 74 3 : Int) = 0 := h7
    refine e_Ok.jp rfl ⟨rfl, 17 * a + 86, rfl, q4T, a, ga, rfl, fun j g1 g2 => b1 j g1 (by omega)⟩ (fun w8 hw8 => ?_)
    have fHv : e_fr kHv w2 w8 := by rw [← hw8]; exact e_hk_fr _
    have Q9 := kI.hk Q1 hw8
    have f9 : e_fr kNw w w8 := e_fr.trans f5 (e_fr.mono fHv (fun c k q => by exact nw_kHv q))
    refine e_Ok.rets rfl rfl ?_
    exact ⟨rfl, Q9.1, ⟨f9, Eq.trans (fHv _ _ (by unfold kHv; omega)) t1e⟩, Q9, by rw [fHv _ _ (by unfold kHv; omega)]; omega, by rw [fHv _ _ (by unfold kHv; omega)]; omega⟩
  · replace h7 : (w 74 3 : Int) ≠ 0 := by have q : ¬ ((w 74 3 : Int) = 0) := h7; omega
    refine e_Ok.run (t' := (22, [(2, (1, 17 * a + 86)), (0, (1, 0)), (1, (0, a))], [(1, 17 * a + 86)], w2)) 1 rfl ?_
    have h10 := (e_Has.get hT (c := 17 * a + 86) (k := 11) (lo := 0) (hi := 2) (kA_11 (a := a) (by omega) (by omega)) (by decide))
    refine e_Ok.getf (z := w (17 * a + 86) 11) rfl (lA0 (a := a) (by omega) (by omega)) rfl rfl ((q4f (17 * a + 86) 11 (by unfold kSp; omega)).trans rfl) (by omega) ?_
    refine e_Ok.if1 rfl (fun h11 => ?_) (fun h11 => ?_)
    · replace h11 : (w (17 * a + 86) 11 : Int) = 0 := h11
      refine e_Ok.jp rfl ⟨rfl, 17 * a + 86, rfl, q4T, a, ga, rfl, fun j g1 g2 => b1 j g1 (by omega)⟩ (fun w12 hw12 => ?_)
      have fHv : e_fr kHv w2 w12 := by rw [← hw12]; exact e_hk_fr _
      have Q9 := kI.hk Q1 hw12
      have f13 : e_fr kNw w w12 := e_fr.trans f5 (e_fr.mono fHv (fun c k q => by exact nw_kHv q))
      refine e_Ok.rets rfl rfl ?_
      exact ⟨rfl, Q9.1, ⟨f13, Eq.trans (fHv _ _ (by unfold kHv; omega)) t1e⟩, Q9, by rw [fHv _ _ (by unfold kHv; omega)]; omega, by rw [fHv _ _ (by unfold kHv; omega)]; omega⟩
    · replace h11 : (w (17 * a + 86) 11 : Int) ≠ 0 := by have q : ¬ ((w (17 * a + 86) 11 : Int) = 0) := h11; omega
      refine e_Ok.run (t' := (29, [(2, (1, 17 * a + 86)), (0, (1, 0)), (1, (0, a))], [(1, 17 * a + 86)], w2)) 1 rfl ?_
      refine e_Ok.callV rfl (by omega) rfl (lA0 (a := a) (by omega) (by omega)) rfl rfl (c_14_b (by omega) (a := a) q4T (by omega) (Q1.arm (a := a) (by omega) (by omega)).1 ((Q1.arm (a := a) (by omega) (by omega)).2.2.2.1 (by omega)).1 (by omega) (Q1.arm (a := a) (by omega) (by omega)).2.2.1) (fun r14 w15 h16 => ?_)
      obtain ⟨z17, rfl, q18f, q18T, q18r, q18x⟩ := h16
      have f19 : e_fr kNw w w15 := e_fr.trans f5 (e_fr.mono q18f (fun c k q => by exact nw_kGo (by omega) q))
      show e_Ok 20 elay kcode eI (d + 1) 260 (32, [(2, (1, 17 * a + 86)), (0, (1, 0)), (1, (0, a))], [(0, z17)], w15) _
      refine e_Ok.if1 rfl (fun h20 => ?_) (fun h20 => ?_)
      · replace h20 : (z17 : Int) = 0 := h20
        have Q3 := kI.goA Q1 ga q18T q18f (by omega) q18x.1 q18x.2.1 q18x.2.2.2 (q18x.2.2.1 (by omega))
        have b3 : (∀ i, 0 ≤ i → i < w (17 * a + 86) 8 → kn1 (w15 (17 * a + i + 97) 11)) := fun i g1 g2 => by rw [q18f _ _ (by unfold kGo; omega)]; exact b1 i g1 g2
        have j3 : w15 (17 * a + 86) 8 = w (17 * a + 86) 8 := Eq.trans (q18f _ _ (by unfold kGo; omega)) j1
        have v3e : w15 74 1 = w 74 1 := Eq.trans (q18f _ _ (by unfold kGo; omega)) v1e
        have t3e : w15 74 0 = w 74 0 := Eq.trans (q18f _ _ (by unfold kGo; omega)) t1e
        have s3 : w15 (17 * a + 86) 11 = w2 (17 * a + 86) 11 := q18f _ _ (by unfold kGo; omega)
        refine e_Ok.run (t' := (44, [(2, (1, 17 * a + 86)), (0, (1, 0)), (1, (0, a))], [(1, 17 * a + 86)], w15)) 1 rfl ?_
        refine e_Ok.getf (z := w (17 * a + 86) 11) rfl (lA0 (a := a) (by omega) (by omega)) rfl rfl ((q18f (17 * a + 86) 11 (by unfold kGo; omega)).trans ((q4f (17 * a + 86) 11 (by unfold kSp; omega)).trans rfl)) (by omega) ?_
        refine e_Ok.run (t' := (48, [(2, (1, 17 * a + 86)), (0, (1, 0)), (1, (0, a))], [(0, 2), (0, w (17 * a + 86) 11)], w15)) 1 rfl ?_
        refine e_Ok.if2 rfl (fun h21 => ?_) (fun h21 => ?_)
        · replace h21 : (w (17 * a + 86) 11 : Int) ≠ 2 := h21
          refine e_Ok.run (t' := (66, [(2, (1, 17 * a + 86)), (0, (1, 0)), (1, (0, a))], [(1, 17 * a + 86)], w15)) 1 rfl ?_
          refine e_Ok.getf (z := w (17 * a + 86) 11) rfl (lA0 (a := a) (by omega) (by omega)) rfl rfl ((q18f (17 * a + 86) 11 (by unfold kGo; omega)).trans ((q4f (17 * a + 86) 11 (by unfold kSp; omega)).trans rfl)) (by omega) ?_
          refine e_Ok.run (t' := (70, [(2, (1, 17 * a + 86)), (0, (1, 0)), (1, (0, a))], [(0, 1), (0, w (17 * a + 86) 11)], w15)) 1 rfl ?_
          refine e_Ok.if2 rfl (fun h22 => ?_) (fun h22 => ?_)
          · replace h22 : (w (17 * a + 86) 11 : Int) ≠ 1 := h22
            exfalso; omega
          · replace h22 : (w (17 * a + 86) 11 : Int) = 1 := by have q : ¬ ((w (17 * a + 86) 11 : Int) ≠ 1) := h22; omega
            refine e_Ok.run (t' := (74, [(2, (1, 17 * a + 86)), (0, (1, 0)), (1, (0, a))], [(1, 17 * a + 86)], w15)) 1 rfl ?_
            refine e_Ok.callV rfl (by omega) rfl (lA0 (a := a) (by omega) (by omega)) rfl rfl (c_16 (by omega) (a := a) q18T (by omega)) (fun r23 w24 h25 => ?_)
            obtain ⟨z26, rfl, rfl, q27r, q27x⟩ := h25
            show e_Ok 20 elay kcode eI (d + 1) 260 (77, [(2, (1, 17 * a + 86)), (0, (1, 0)), (1, (0, a))], [(0, z26)], w15) _
            refine e_Ok.if1 rfl (fun h28 => ?_) (fun h28 => ?_)
            · replace h28 : (z26 : Int) = 0 := h28
              refine e_Ok.jp rfl ⟨rfl, 17 * a + 86, rfl, q18T, a, ga, rfl, fun j g1 g2 => b3 j g1 (by omega)⟩ (fun w29 hw29 => ?_)
              have fHv : e_fr kHv w15 w29 := by rw [← hw29]; exact e_hk_fr _
              have Q9 := kI.hk Q3 hw29
              have f30 : e_fr kNw w w29 := e_fr.trans f19 (e_fr.mono fHv (fun c k q => by exact nw_kHv q))
              refine e_Ok.rets rfl rfl ?_
              exact ⟨rfl, Q9.1, ⟨f30, Eq.trans (fHv _ _ (by unfold kHv; omega)) t3e⟩, Q9, by rw [fHv _ _ (by unfold kHv; omega)]; omega, by rw [fHv _ _ (by unfold kHv; omega)]; omega⟩
            · replace h28 : (z26 : Int) ≠ 0 := by have q : ¬ ((z26 : Int) = 0) := h28; omega
              refine e_Ok.run (t' := (82, [(2, (1, 17 * a + 86)), (0, (1, 0)), (1, (0, a))], [(0, a), (1, 0)], w15)) 2 rfl ?_
              refine e_Ok.callV rfl (by omega) rfl rfl rfl rfl (c_261 (by omega) (a := a) q18T ga Q3 (by omega) (q27x (by omega)) (by omega)) (fun r31 w32 h33 => ?_)
              obtain ⟨rfl, q34T, q34f, q34Q, q34e, q34b⟩ := h33
              have f35 : e_fr kNw w w32 := e_fr.trans f19 (e_fr.mono q34f.1 (fun c k q => by exact q))
              have b5 : (∀ i, 0 ≤ i → i < w (17 * a + 86) 8 → kn1 (w32 (17 * a + i + 97) 11)) := fun i g1 g2 => by rw [q34b i g1 (by omega)]; exact b3 i g1 g2
              have j5 : w32 (17 * a + 86) 8 = w (17 * a + 86) 8 := Eq.trans (q34f.1 _ _ (by unfold kNw; omega)) j3
              have v5e : w32 74 1 = w 74 1 + 1 := by rw [q34e, v3e]
              have t5e : w32 74 0 = w 74 0 := Eq.trans q34f.2 t3e
              show e_Ok 20 elay kcode eI (d + 1) 260 (85, [(2, (1, 17 * a + 86)), (0, (1, 0)), (1, (0, a))], [], w32) _
              refine e_Ok.jp rfl ⟨rfl, 17 * a + 86, rfl, q34T, a, ga, rfl, fun j g1 g2 => b5 j g1 (by omega)⟩ (fun w36 hw36 => ?_)
              have fHv : e_fr kHv w32 w36 := by rw [← hw36]; exact e_hk_fr _
              have Q9 := kI.hk q34Q hw36
              have f37 : e_fr kNw w w36 := e_fr.trans f35 (e_fr.mono fHv (fun c k q => by exact nw_kHv q))
              refine e_Ok.rets rfl rfl ?_
              exact ⟨rfl, Q9.1, ⟨f37, Eq.trans (fHv _ _ (by unfold kHv; omega)) t5e⟩, Q9, by rw [fHv _ _ (by unfold kHv; omega)]; omega, by rw [fHv _ _ (by unfold kHv; omega)]; omega⟩
        · replace h21 : (w (17 * a + 86) 11 : Int) = 2 := by have q : ¬ ((w (17 * a + 86) 11 : Int) ≠ 2) := h21; omega
          refine e_Ok.run (t' := (52, [(2, (1, 17 * a + 86)), (0, (1, 0)), (1, (0, a))], [(1, 17 * a + 86)], w15)) 1 rfl ?_
          refine e_Ok.callV rfl (by omega) rfl (lA0 (a := a) (by omega) (by omega)) rfl rfl (c_15 (a := a) q18T (by omega)) (fun r38 w40 h41 => ?_)
          obtain ⟨z43, rfl, rfl, q42r, q42x⟩ := h41
          show e_Ok 20 elay kcode eI (d + 1) 260 (55, [(2, (1, 17 * a + 86)), (0, (1, 0)), (1, (0, a))], [(0, z43)], w15) _
          refine e_Ok.if1 rfl (fun h44 => ?_) (fun h44 => ?_)
          · replace h44 : (z43 : Int) = 0 := h44
            refine e_Ok.run (t' := (66, [(2, (1, 17 * a + 86)), (0, (1, 0)), (1, (0, a))], [(1, 17 * a + 86)], w15)) 1 rfl ?_
            refine e_Ok.getf (z := w (17 * a + 86) 11) rfl (lA0 (a := a) (by omega) (by omega)) rfl rfl ((q18f (17 * a + 86) 11 (by unfold kGo; omega)).trans ((q4f (17 * a + 86) 11 (by unfold kSp; omega)).trans rfl)) (by omega) ?_
            refine e_Ok.run (t' := (70, [(2, (1, 17 * a + 86)), (0, (1, 0)), (1, (0, a))], [(0, 1), (0, w (17 * a + 86) 11)], w15)) 1 rfl ?_
            refine e_Ok.if2 rfl (fun h45 => ?_) (fun h45 => ?_)
            · replace h45 : (w (17 * a + 86) 11 : Int) ≠ 1 := h45
              refine e_Ok.jp rfl ⟨rfl, 17 * a + 86, rfl, q18T, a, ga, rfl, fun j g1 g2 => b3 j g1 (by omega)⟩ (fun w46 hw46 => ?_)
              have fHv : e_fr kHv w15 w46 := by rw [← hw46]; exact e_hk_fr _
              have Q9 := kI.hk Q3 hw46
              have f47 : e_fr kNw w w46 := e_fr.trans f19 (e_fr.mono fHv (fun c k q => by exact nw_kHv q))
              refine e_Ok.rets rfl rfl ?_
              exact ⟨rfl, Q9.1, ⟨f47, Eq.trans (fHv _ _ (by unfold kHv; omega)) t3e⟩, Q9, by rw [fHv _ _ (by unfold kHv; omega)]; omega, by rw [fHv _ _ (by unfold kHv; omega)]; omega⟩
            · replace h45 : (w (17 * a + 86) 11 : Int) = 1 := by have q : ¬ ((w (17 * a + 86) 11 : Int) ≠ 1) := h45; omega
              exfalso; omega
          · replace h44 : (z43 : Int) ≠ 0 := by have q : ¬ ((z43 : Int) = 0) := h44; omega
            refine e_Ok.run (t' := (59, [(2, (1, 17 * a + 86)), (0, (1, 0)), (1, (0, a))], [(1, 17 * a + 86)], w15)) 1 rfl ?_
            refine e_Ok.callV rfl (by omega) rfl (lA0 (a := a) (by omega) (by omega)) rfl rfl (c_17_b (a := a) q18T (by omega)) (fun r48 w49 h50 => ?_)
            obtain ⟨rfl, q51f, q51T, q51x⟩ := h50
            have f52 : e_fr kNw w w49 := e_fr.trans f19 (e_fr.mono q51f (fun c k q => by exact nw_kSt (by omega) q))
            have hA4 := (Q3.arm (a := a) (by omega) (by omega)).stand (w' := w49) (by omega) (kn_joints Q3.1 (by omega)).2 (fun c k g1 g2 g3 => q51f c k (by unfold dA at g1; unfold kSt; omega)) q51x.1 q51x.2.2 q51x.2.1
            have Q4 := kI.ar Q3 q51T (by omega) (q51f.mono (fun c k g => ah_kSt g)) (Q3.lgk.fr q51f (by unfold kSt; omega) (fun k => by unfold kSt; omega)) hA4 (fun _ _ => q51x.1)
            have b4 : (∀ i, 0 ≤ i → i < w (17 * a + 86) 8 → kn1 (w49 (17 * a + i + 97) 11)) := fun i g1 g2 => by rw [q51f _ _ (by unfold kSt; omega)]; exact b3 i g1 g2
            have j4 : w49 (17 * a + 86) 8 = w (17 * a + 86) 8 := Eq.trans (q51f _ _ (by unfold kSt; omega)) j3
            have v4e : w49 74 1 = w 74 1 := Eq.trans (q51f _ _ (by unfold kSt; omega)) v3e
            have t4e : w49 74 0 = w 74 0 := Eq.trans (q51f _ _ (by unfold kSt; omega)) t3e
            show e_Ok 20 elay kcode eI (d + 1) 260 (62, [(2, (1, 17 * a + 86)), (0, (1, 0)), (1, (0, a))], [], w49) _
            refine e_Ok.run (t' := (85, [(2, (1, 17 * a + 86)), (0, (1, 0)), (1, (0, a))], [], w49)) 1 rfl ?_
            refine e_Ok.jp rfl ⟨rfl, 17 * a + 86, rfl, q51T, a, ga, rfl, fun j g1 g2 => b4 j g1 (by omega)⟩ (fun w53 hw53 => ?_)
            have fHv : e_fr kHv w49 w53 := by rw [← hw53]; exact e_hk_fr _
            have Q9 := kI.hk Q4 hw53
            have f54 : e_fr kNw w w53 := e_fr.trans f52 (e_fr.mono fHv (fun c k q => by exact nw_kHv q))
            refine e_Ok.rets rfl rfl ?_
            exact ⟨rfl, Q9.1, ⟨f54, Eq.trans (fHv _ _ (by unfold kHv; omega)) t4e⟩, Q9, by rw [fHv _ _ (by unfold kHv; omega)]; omega, by rw [fHv _ _ (by unfold kHv; omega)]; omega⟩
      · replace h20 : (z17 : Int) ≠ 0 := by have q : ¬ ((z17 : Int) = 0) := h20; omega
        refine e_Ok.run (t' := (36, [(2, (1, 17 * a + 86)), (0, (1, 0)), (1, (0, a))], [(1, 0)], w15)) 1 rfl ?_
        refine e_Ok.getr (z := 8) rfl rfl rfl rfl ((q18f 0 1 (by unfold kGo; omega)).trans ((q4f 0 1 (by unfold kSp; omega)).trans (Eq.trans (e_Has.eq hT rfl) (by omega)))) (by omega) ?_
        refine e_Ok.run (t' := (40, [(2, (1, 17 * a + 86)), (0, (1, 0)), (1, (0, a))], [(0, a), (1, 8)], w15)) 1 rfl ?_
        refine e_Ok.callV rfl (by omega) rfl rfl rfl rfl (c_39 q18T (by omega)) (fun r55 w56 h57 => ?_)
        obtain ⟨rfl, q58f, q58T, q58x⟩ := h57
        have f59 : e_fr kNw w w56 := e_fr.trans f19 (e_fr.mono q58f (fun c k q => by exact nw_kMv q))
        have b2 : (∀ i, 0 ≤ i → i < w (17 * a + 86) 8 → kn1 (w15 (17 * a + i + 97) 11)) := fun i g1 g2 => by rw [q18f _ _ (by unfold kGo; omega)]; exact b1 i g1 g2
        have j2 : w15 (17 * a + 86) 8 = w (17 * a + 86) 8 := Eq.trans (q18f _ _ (by unfold kGo; omega)) j1
        have v2e : w15 74 1 = w 74 1 := Eq.trans (q18f _ _ (by unfold kGo; omega)) v1e
        have t2e : w15 74 0 = w 74 0 := Eq.trans (q18f _ _ (by unfold kGo; omega)) t1e
        have Q3 := kI.goB Q1 ga q18T q18f (by omega) q18x.1 q18x.2.1 q18x.2.2.2 q58T q58f q58x
        have b3 : (∀ i, 0 ≤ i → i < w (17 * a + 86) 8 → kn1 (w56 (17 * a + i + 97) 11)) := fun i g1 g2 => by rw [q58f _ _ (by unfold kMv; omega)]; exact b2 i g1 g2
        have j3 : w56 (17 * a + 86) 8 = w (17 * a + 86) 8 := Eq.trans (q58f _ _ (by unfold kMv; omega)) j2
        have v3e : w56 74 1 = w 74 1 := Eq.trans (q58f _ _ (by unfold kMv; omega)) v2e
        have t3e : w56 74 0 = w 74 0 := Eq.trans (q58f _ _ (by unfold kMv; omega)) t2e
        have s3 : w56 (17 * a + 86) 11 = w2 (17 * a + 86) 11 := Eq.trans (q58f _ _ (by unfold kMv; omega)) (q18f _ _ (by unfold kGo; omega))
        show e_Ok 20 elay kcode eI (d + 1) 260 (43, [(2, (1, 17 * a + 86)), (0, (1, 0)), (1, (0, a))], [], w56) _
        refine e_Ok.run (t' := (44, [(2, (1, 17 * a + 86)), (0, (1, 0)), (1, (0, a))], [(1, 17 * a + 86)], w56)) 1 rfl ?_
        refine e_Ok.getf (z := w (17 * a + 86) 11) rfl (lA0 (a := a) (by omega) (by omega)) rfl rfl ((q58f (17 * a + 86) 11 (by unfold kMv; omega)).trans ((q18f (17 * a + 86) 11 (by unfold kGo; omega)).trans ((q4f (17 * a + 86) 11 (by unfold kSp; omega)).trans rfl))) (by omega) ?_
        refine e_Ok.run (t' := (48, [(2, (1, 17 * a + 86)), (0, (1, 0)), (1, (0, a))], [(0, 2), (0, w (17 * a + 86) 11)], w56)) 1 rfl ?_
        refine e_Ok.if2 rfl (fun h60 => ?_) (fun h60 => ?_)
        · replace h60 : (w (17 * a + 86) 11 : Int) ≠ 2 := h60
          refine e_Ok.run (t' := (66, [(2, (1, 17 * a + 86)), (0, (1, 0)), (1, (0, a))], [(1, 17 * a + 86)], w56)) 1 rfl ?_
          refine e_Ok.getf (z := w (17 * a + 86) 11) rfl (lA0 (a := a) (by omega) (by omega)) rfl rfl ((q58f (17 * a + 86) 11 (by unfold kMv; omega)).trans ((q18f (17 * a + 86) 11 (by unfold kGo; omega)).trans ((q4f (17 * a + 86) 11 (by unfold kSp; omega)).trans rfl))) (by omega) ?_
          refine e_Ok.run (t' := (70, [(2, (1, 17 * a + 86)), (0, (1, 0)), (1, (0, a))], [(0, 1), (0, w (17 * a + 86) 11)], w56)) 1 rfl ?_
          refine e_Ok.if2 rfl (fun h61 => ?_) (fun h61 => ?_)
          · replace h61 : (w (17 * a + 86) 11 : Int) ≠ 1 := h61
            exfalso; omega
          · replace h61 : (w (17 * a + 86) 11 : Int) = 1 := by have q : ¬ ((w (17 * a + 86) 11 : Int) ≠ 1) := h61; omega
            refine e_Ok.run (t' := (74, [(2, (1, 17 * a + 86)), (0, (1, 0)), (1, (0, a))], [(1, 17 * a + 86)], w56)) 1 rfl ?_
            refine e_Ok.callV rfl (by omega) rfl (lA0 (a := a) (by omega) (by omega)) rfl rfl (c_16 (by omega) (a := a) q58T (by omega)) (fun r62 w63 h64 => ?_)
            obtain ⟨z65, rfl, rfl, q66r, q66x⟩ := h64
            show e_Ok 20 elay kcode eI (d + 1) 260 (77, [(2, (1, 17 * a + 86)), (0, (1, 0)), (1, (0, a))], [(0, z65)], w56) _
            refine e_Ok.if1 rfl (fun h67 => ?_) (fun h67 => ?_)
            · replace h67 : (z65 : Int) = 0 := h67
              refine e_Ok.jp rfl ⟨rfl, 17 * a + 86, rfl, q58T, a, ga, rfl, fun j g1 g2 => b3 j g1 (by omega)⟩ (fun w68 hw68 => ?_)
              have fHv : e_fr kHv w56 w68 := by rw [← hw68]; exact e_hk_fr _
              have Q9 := kI.hk Q3 hw68
              have f69 : e_fr kNw w w68 := e_fr.trans f59 (e_fr.mono fHv (fun c k q => by exact nw_kHv q))
              refine e_Ok.rets rfl rfl ?_
              exact ⟨rfl, Q9.1, ⟨f69, Eq.trans (fHv _ _ (by unfold kHv; omega)) t3e⟩, Q9, by rw [fHv _ _ (by unfold kHv; omega)]; omega, by rw [fHv _ _ (by unfold kHv; omega)]; omega⟩
            · replace h67 : (z65 : Int) ≠ 0 := by have q : ¬ ((z65 : Int) = 0) := h67; omega
              refine e_Ok.run (t' := (82, [(2, (1, 17 * a + 86)), (0, (1, 0)), (1, (0, a))], [(0, a), (1, 0)], w56)) 2 rfl ?_
              refine e_Ok.callV rfl (by omega) rfl rfl rfl rfl (c_261 (by omega) (a := a) q58T ga Q3 (by omega) (q66x (by omega)) (by omega)) (fun r70 w71 h72 => ?_)
              obtain ⟨rfl, q73T, q73f, q73Q, q73e, q73b⟩ := h72
              have f74 : e_fr kNw w w71 := e_fr.trans f59 (e_fr.mono q73f.1 (fun c k q => by exact q))
              have b5 : (∀ i, 0 ≤ i → i < w (17 * a + 86) 8 → kn1 (w71 (17 * a + i + 97) 11)) := fun i g1 g2 => by rw [q73b i g1 (by omega)]; exact b3 i g1 g2
              have j5 : w71 (17 * a + 86) 8 = w (17 * a + 86) 8 := Eq.trans (q73f.1 _ _ (by unfold kNw; omega)) j3
              have v5e : w71 74 1 = w 74 1 + 1 := by rw [q73e, v3e]
              have t5e : w71 74 0 = w 74 0 := Eq.trans q73f.2 t3e
              show e_Ok 20 elay kcode eI (d + 1) 260 (85, [(2, (1, 17 * a + 86)), (0, (1, 0)), (1, (0, a))], [], w71) _
              refine e_Ok.jp rfl ⟨rfl, 17 * a + 86, rfl, q73T, a, ga, rfl, fun j g1 g2 => b5 j g1 (by omega)⟩ (fun w75 hw75 => ?_)
              have fHv : e_fr kHv w71 w75 := by rw [← hw75]; exact e_hk_fr _
              have Q9 := kI.hk q73Q hw75
              have f76 : e_fr kNw w w75 := e_fr.trans f74 (e_fr.mono fHv (fun c k q => by exact nw_kHv q))
              refine e_Ok.rets rfl rfl ?_
              exact ⟨rfl, Q9.1, ⟨f76, Eq.trans (fHv _ _ (by unfold kHv; omega)) t5e⟩, Q9, by rw [fHv _ _ (by unfold kHv; omega)]; omega, by rw [fHv _ _ (by unfold kHv; omega)]; omega⟩
        · replace h60 : (w (17 * a + 86) 11 : Int) = 2 := by have q : ¬ ((w (17 * a + 86) 11 : Int) ≠ 2) := h60; omega
          refine e_Ok.run (t' := (52, [(2, (1, 17 * a + 86)), (0, (1, 0)), (1, (0, a))], [(1, 17 * a + 86)], w56)) 1 rfl ?_
          refine e_Ok.callV rfl (by omega) rfl (lA0 (a := a) (by omega) (by omega)) rfl rfl (c_15 (a := a) q58T (by omega)) (fun r77 w78 h79 => ?_)
          obtain ⟨z81, rfl, rfl, q80r, q80x⟩ := h79
          show e_Ok 20 elay kcode eI (d + 1) 260 (55, [(2, (1, 17 * a + 86)), (0, (1, 0)), (1, (0, a))], [(0, z81)], w56) _
          refine e_Ok.if1 rfl (fun h82 => ?_) (fun h82 => ?_)
          · replace h82 : (z81 : Int) = 0 := h82
            refine e_Ok.run (t' := (66, [(2, (1, 17 * a + 86)), (0, (1, 0)), (1, (0, a))], [(1, 17 * a + 86)], w56)) 1 rfl ?_
            refine e_Ok.getf (z := w (17 * a + 86) 11) rfl (lA0 (a := a) (by omega) (by omega)) rfl rfl ((q58f (17 * a + 86) 11 (by unfold kMv; omega)).trans ((q18f (17 * a + 86) 11 (by unfold kGo; omega)).trans ((q4f (17 * a + 86) 11 (by unfold kSp; omega)).trans rfl))) (by omega) ?_
            refine e_Ok.run (t' := (70, [(2, (1, 17 * a + 86)), (0, (1, 0)), (1, (0, a))], [(0, 1), (0, w (17 * a + 86) 11)], w56)) 1 rfl ?_
            refine e_Ok.if2 rfl (fun h83 => ?_) (fun h83 => ?_)
            · replace h83 : (w (17 * a + 86) 11 : Int) ≠ 1 := h83
              refine e_Ok.jp rfl ⟨rfl, 17 * a + 86, rfl, q58T, a, ga, rfl, fun j g1 g2 => b3 j g1 (by omega)⟩ (fun w84 hw84 => ?_)
              have fHv : e_fr kHv w56 w84 := by rw [← hw84]; exact e_hk_fr _
              have Q9 := kI.hk Q3 hw84
              have f85 : e_fr kNw w w84 := e_fr.trans f59 (e_fr.mono fHv (fun c k q => by exact nw_kHv q))
              refine e_Ok.rets rfl rfl ?_
              exact ⟨rfl, Q9.1, ⟨f85, Eq.trans (fHv _ _ (by unfold kHv; omega)) t3e⟩, Q9, by rw [fHv _ _ (by unfold kHv; omega)]; omega, by rw [fHv _ _ (by unfold kHv; omega)]; omega⟩
            · replace h83 : (w (17 * a + 86) 11 : Int) = 1 := by have q : ¬ ((w (17 * a + 86) 11 : Int) ≠ 1) := h83; omega
              exfalso; omega
          · replace h82 : (z81 : Int) ≠ 0 := by have q : ¬ ((z81 : Int) = 0) := h82; omega
            refine e_Ok.run (t' := (59, [(2, (1, 17 * a + 86)), (0, (1, 0)), (1, (0, a))], [(1, 17 * a + 86)], w56)) 1 rfl ?_
            refine e_Ok.callV rfl (by omega) rfl (lA0 (a := a) (by omega) (by omega)) rfl rfl (c_17_b (a := a) q58T (by omega)) (fun r86 w87 h88 => ?_)
            obtain ⟨rfl, q89f, q89T, q89x⟩ := h88
            have f90 : e_fr kNw w w87 := e_fr.trans f59 (e_fr.mono q89f (fun c k q => by exact nw_kSt (by omega) q))
            have hA4 := (Q3.arm (a := a) (by omega) (by omega)).stand (w' := w87) (by omega) (kn_joints Q3.1 (by omega)).2 (fun c k g1 g2 g3 => q89f c k (by unfold dA at g1; unfold kSt; omega)) q89x.1 q89x.2.2 q89x.2.1
            have Q4 := kI.ar Q3 q89T (by omega) (q89f.mono (fun c k g => ah_kSt g)) (Q3.lgk.fr q89f (by unfold kSt; omega) (fun k => by unfold kSt; omega)) hA4 (fun _ _ => q89x.1)
            have b4 : (∀ i, 0 ≤ i → i < w (17 * a + 86) 8 → kn1 (w87 (17 * a + i + 97) 11)) := fun i g1 g2 => by rw [q89f _ _ (by unfold kSt; omega)]; exact b3 i g1 g2
            have j4 : w87 (17 * a + 86) 8 = w (17 * a + 86) 8 := Eq.trans (q89f _ _ (by unfold kSt; omega)) j3
            have v4e : w87 74 1 = w 74 1 := Eq.trans (q89f _ _ (by unfold kSt; omega)) v3e
            have t4e : w87 74 0 = w 74 0 := Eq.trans (q89f _ _ (by unfold kSt; omega)) t3e
            show e_Ok 20 elay kcode eI (d + 1) 260 (62, [(2, (1, 17 * a + 86)), (0, (1, 0)), (1, (0, a))], [], w87) _
            refine e_Ok.run (t' := (85, [(2, (1, 17 * a + 86)), (0, (1, 0)), (1, (0, a))], [], w87)) 1 rfl ?_
            refine e_Ok.jp rfl ⟨rfl, 17 * a + 86, rfl, q89T, a, ga, rfl, fun j g1 g2 => b4 j g1 (by omega)⟩ (fun w91 hw91 => ?_)
            have fHv : e_fr kHv w87 w91 := by rw [← hw91]; exact e_hk_fr _
            have Q9 := kI.hk Q4 hw91
            have f92 : e_fr kNw w w91 := e_fr.trans f90 (e_fr.mono fHv (fun c k q => by exact nw_kHv q))
            refine e_Ok.rets rfl rfl ?_
            exact ⟨rfl, Q9.1, ⟨f92, Eq.trans (fHv _ _ (by unfold kHv; omega)) t4e⟩, Q9, by rw [fHv _ _ (by unfold kHv; omega)]; omega, by rw [fHv _ _ (by unfold kHv; omega)]; omega⟩
end
