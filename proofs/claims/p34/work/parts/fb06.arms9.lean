noncomputable section
/-! the law: what each call does -/
theorem law6_arm_12 {L : Nat} {xs : Nat → Int32} {G : eS → Prop} (hS : e_GS (codeL L xs) 0 G) (hCk : law_GC L xs kcode Bk G) (hCm : law_GC L xs ecode Bm G) {u : eW} {i : Int} (hR : lwT i u) (hi : 0 ≤ i) (hL : i + 5 < L) (hL2 : L ≤ 3072) (hK : ∀ v, lwT (i + 6) v → G (2142, [(3, (0, i)), (0, (1, 362)), (1, (1, 0)), (2, (1, 275))], [], v)) : G (802, [(3, (0, i)), (0, (1, 362)), (1, (1, 0)), (2, (1, 275))], [], u) := by
  obtain ⟨⟨⟨h0, h3⟩, h5⟩, hrk, hrm⟩ := hR
  refine e_GS.run hS (t' := (803, [(3, (0, i)), (0, (1, 362)), (1, (1, 0)), (2, (1, 275))], [(1, 0)], u)) 1 rfl ?_
  refine L_arg hS (j := 1) rfl rfl rfl rfl rfl rfl rfl hi (by decide) hL hL2 ?_
  refine L_arg hS (j := 2) rfl rfl rfl rfl rfl rfl rfl hi (by decide) hL hL2 ?_
  refine L_arg hS (j := 3) rfl rfl rfl rfl rfl rfl rfl hi (by decide) hL hL2 ?_
  refine L_arg hS (j := 4) rfl rfl rfl rfl rfl rfl rfl hi (by decide) hL hL2 ?_
  refine hCk 202 5 823 _ _ _ _ _ rfl rfl h0.2.2.1 h0.1 h0.2.1 (L_vB rfl) (e_Ok.both (ks_202 (by decide) h0.2.2.2.2.1 (L_kAl h0.1) (L_rng _) (L_rng _) (L_rng _) (L_rng _)) (kw_202 (by decide) h0.2.2.2.2.1 (L_kAl h0.1) (L_rng _) (L_rng _) (L_rng _) (L_rng _))) (fun r w1 v hq hf1 => ?_)
  obtain ⟨hq, hw1⟩ := hq
  obtain ⟨z1, rfl, hF1, e1, s1⟩ := hq
  have g0 := L_k h0 hf1 hF1
  refine e_GS.run hS (t' := (827, [(3, (0, i)), (0, (1, 362)), (1, (1, 0)), (2, (1, 275))], [], v)) 1 rfl ?_
  refine e_GS.run hS (t' := (828, [(3, (0, i)), (0, (1, 362)), (1, (1, 0)), (2, (1, 275))], [(1, 275)], v)) 1 rfl ?_
  refine L_arg hS (j := 1) rfl rfl rfl rfl rfl rfl rfl hi (by decide) hL hL2 ?_
  refine L_arg hS (j := 2) rfl rfl rfl rfl rfl rfl rfl hi (by decide) hL hL2 ?_
  refine L_arg hS (j := 3) rfl rfl rfl rfl rfl rfl rfl hi (by decide) hL hL2 ?_
  refine L_arg hS (j := 4) rfl rfl rfl rfl rfl rfl rfl hi (by decide) hL hL2 ?_
  refine hCm 288 5 848 _ _ _ _ _ rfl rfl g0.2.2.2.1 g0.1 g0.2.1 (L_vBm rfl) (e_Ok.both (ms_288 (by decide) g0.2.2.2.2.2 (L_rng _) (L_rng _) (L_rng _) (L_rng _)) (mw_288 (by decide) g0.2.2.2.2.2 (L_rng _) (L_rng _) (L_rng _) (L_rng _))) (fun r w2 v2 hq hf2 => ?_)
  obtain ⟨hq, hw2⟩ := hq
  obtain ⟨z2, rfl, hF2, e2, s2⟩ := hq
  have k0 := L_m g0 hf2 hF2.F
  have k3 : lw3 v2 := lw3_same h0 h3 hf1 e1 hf2 e2
  have k5 : lw5 v2 := lw5_same h0 h5 hf1 s1 hf2 s2
  refine e_GS.run hS (t' := (2142, [(3, (0, i)), (0, (1, 362)), (1, (1, 0)), (2, (1, 275))], [], v2)) 2 rfl ?_
  exact hK v2 ⟨⟨⟨k0, k3⟩, k5⟩, lwT.step h0 k0 hf1 hw1 hf2 hw2 hrk hrm⟩
theorem law6_arm_13 {L : Nat} {xs : Nat → Int32} {G : eS → Prop} (hS : e_GS (codeL L xs) 0 G) (hCk : law_GC L xs kcode Bk G) (hCm : law_GC L xs ecode Bm G) {u : eW} {i : Int} (hR : lwT i u) (hi : 0 ≤ i) (hL : i + 5 < L) (hL2 : L ≤ 3072) (hK : ∀ v, lwT (i + 6) v → G (2142, [(3, (0, i)), (0, (1, 362)), (1, (1, 0)), (2, (1, 275))], [], v)) : G (855, [(3, (0, i)), (0, (1, 362)), (1, (1, 0)), (2, (1, 275))], [], u) := by
  obtain ⟨⟨⟨h0, h3⟩, h5⟩, hrk, hrm⟩ := hR
  refine e_GS.run hS (t' := (856, [(3, (0, i)), (0, (1, 362)), (1, (1, 0)), (2, (1, 275))], [(1, 0)], u)) 1 rfl ?_
  refine L_arg hS (j := 1) rfl rfl rfl rfl rfl rfl rfl hi (by decide) hL hL2 ?_
  refine L_arg hS (j := 2) rfl rfl rfl rfl rfl rfl rfl hi (by decide) hL hL2 ?_
  refine L_arg hS (j := 3) rfl rfl rfl rfl rfl rfl rfl hi (by decide) hL hL2 ?_
  refine hCk 203 4 871 _ _ _ _ _ rfl rfl h0.2.2.1 h0.1 h0.2.1 (L_vB rfl) (e_Ok.both (e_Ok.both (k_203 (by decide) h0.2.2.2.2.1 (L_kAl h0.1) (L_rng _) (L_rng _) (L_rng _)) (e_Ok.both (kq_203 (by decide) h0.2.2.2.2.1 (L_kAl h0.1) (L_rng _) (L_rng _) (L_rng _)) (c_203_ex (by decide) h0.2.2.2.2.1.1 h0.2.2.2.2.1.2.2.1.1 (fun h => (h0.2.2.2.2.1.2.2.2.2.1 h).2.2.2.1.2) (L_rng _) (L_rng _) (L_rng _)))) (kw_203 (by decide) h0.2.2.2.2.1 (L_kAl h0.1) (L_rng _) (L_rng _) (L_rng _))) (fun r w1 v hq hf1 => ?_)
  obtain ⟨hq, hw1⟩ := hq
  obtain ⟨⟨z1, rfl, hF1, e1⟩, f1, y1, hy1, x1⟩ := hq
  have ey1 : z1 = y1 := one_z hy1
  subst ey1
  have g0 := L_k h0 hf1 hF1
  refine e_GS.run hS (t' := (875, [(3, (0, i)), (0, (1, 362)), (1, (1, 0)), (2, (1, 275))], [], v)) 1 rfl ?_
  refine e_GS.run hS (t' := (876, [(3, (0, i)), (0, (1, 362)), (1, (1, 0)), (2, (1, 275))], [(1, 275)], v)) 1 rfl ?_
  refine L_arg hS (j := 1) rfl rfl rfl rfl rfl rfl rfl hi (by decide) hL hL2 ?_
  refine L_arg hS (j := 2) rfl rfl rfl rfl rfl rfl rfl hi (by decide) hL hL2 ?_
  refine L_arg hS (j := 3) rfl rfl rfl rfl rfl rfl rfl hi (by decide) hL hL2 ?_
  refine hCm 289 4 891 _ _ _ _ _ rfl rfl g0.2.2.2.1 g0.1 g0.2.1 (L_vBm rfl) (e_Ok.both (e_Ok.both (m_289 (by decide) g0.2.2.2.2.2 (L_rng _) (L_rng _) (L_rng _)) (e_Ok.both (mz_289 (by decide) g0.2.2.2.2.2 (L_rng _) (L_rng _) (L_rng _)) (c_289_ex (by decide) g0.2.2.2.2.2.1 (L_rng _) (L_rng _) (L_rng _) g0.2.2.2.2.2.or))) (mw_289 (by decide) g0.2.2.2.2.2 (L_rng _) (L_rng _) (L_rng _))) (fun r w2 v2 hq hf2 => ?_)
  obtain ⟨hq, hw2⟩ := hq
  obtain ⟨⟨z2, rfl, hF2, e2⟩, f2, y2, hy2, x2⟩ := hq
  have ey2 : z2 = y2 := one_z hy2
  subst ey2
  have k0 := L_m g0 hf2 hF2.F
  have k3 : lw3 v2 := lw3_same h0 h3 hf1 e1 hf2 e2
  have k5 : lw5 v2 ∧ z1 = z2 := by
    have b0 : e_PB Bk u 0 13 = u 0 13 := e_PB_in (by unfold Bk; omega)
    have b1 : e_PB Bk u 19 0 = u 19 0 := e_PB_in (by unfold Bk; omega)
    have b2 : e_PB Bk u 19 1 = u 19 1 := e_PB_in (by unfold Bk; omega)
    have d0 : e_PB Bm v 275 3 = u 275 3 := (e_PB_in (by unfold Bm; omega)).trans (hf1.2.2.1 275 3 (by unfold Bk; omega))
    have d1 : e_PB Bm v 275 30 = u 275 30 := (e_PB_in (by unfold Bm; omega)).trans (hf1.2.2.1 275 30 (by unfold Bk; omega))
    have d2 : e_PB Bm v 275 40 = u 275 40 := (e_PB_in (by unfold Bm; omega)).trans (hf1.2.2.1 275 40 (by unfold Bk; omega))
    have r := (L_len h0).2.1
    have a1 := h5.1
    have y3 := h3.2.1
    have hb := h5.2.1 ((xs (i + 1).toNat).toInt)
    have bq : e_PB Bk u 20 ((xs (i + 1).toNat).toInt) = u 20 ((xs (i + 1).toNat).toInt) := e_PB_in (by unfold Bk; omega)
    have dq : e_PB Bm v 303 ((xs (i + 1).toNat).toInt) = u 303 ((xs (i + 1).toNat).toInt) := (e_PB_in (by unfold Bm; omega)).trans (hf1.2.2.1 303 _ (by unfold Bk; omega))
    generalize (xs (i + 1).toNat).toInt = p1 at x1 x2 hb bq dq
    have hc : 0 ≤ p1 → p1 < u 19 0 → u 303 p1 = u 20 p1 := fun s t => (hb s t).1
    generalize (xs (i + 2).toNat).toInt = y102 at x1 x2
    generalize (xs (i + 3).toNat).toInt = y103 at x1 x2
    have ez : z1 = z2 := by omega
    have en : ∃ n : Int, (0 ≤ n ∧ n ≤ 1) ∧ w1 19 1 = e_PB Bk u 19 1 + n ∧ w2 275 40 = e_PB Bm v 275 40 + n := by
      rcases x1 with ⟨x1, x3⟩ | ⟨x3, x4, x1⟩
      · exact ⟨0, by decide, by omega, by omega⟩
      · exact ⟨1, by decide, by omega, by omega⟩
    obtain ⟨n, n0, n1, n2⟩ := en
    exact ⟨lw5_n4 h0 h5 hf1 f1 hf2 f2 n0 n1 n2, ez⟩
  refine e_GS.run hS (t' := (2142, [(3, (0, i)), (0, (1, 362)), (1, (1, 0)), (2, (1, 275))], [], v2)) 2 rfl ?_
  exact hK v2 ⟨⟨⟨k0, k3⟩, k5.1⟩, lwT.step h0 k0 hf1 hw1 hf2 hw2 hrk hrm⟩
theorem law6_arm_14 {L : Nat} {xs : Nat → Int32} {G : eS → Prop} (hS : e_GS (codeL L xs) 0 G) (hCk : law_GC L xs kcode Bk G) (hCm : law_GC L xs ecode Bm G) {u : eW} {i : Int} (hR : lwT i u) (hi : 0 ≤ i) (hL : i + 5 < L) (hL2 : L ≤ 3072) (hK : ∀ v, lwT (i + 6) v → G (2142, [(3, (0, i)), (0, (1, 362)), (1, (1, 0)), (2, (1, 275))], [], v)) : G (898, [(3, (0, i)), (0, (1, 362)), (1, (1, 0)), (2, (1, 275))], [], u) := by
  obtain ⟨⟨⟨h0, h3⟩, h5⟩, hrk, hrm⟩ := hR
  refine e_GS.run hS (t' := (899, [(3, (0, i)), (0, (1, 362)), (1, (1, 0)), (2, (1, 275))], [(1, 0)], u)) 1 rfl ?_
  refine L_arg hS (j := 1) rfl rfl rfl rfl rfl rfl rfl hi (by decide) hL hL2 ?_
  refine L_arg hS (j := 2) rfl rfl rfl rfl rfl rfl rfl hi (by decide) hL hL2 ?_
  refine L_arg hS (j := 3) rfl rfl rfl rfl rfl rfl rfl hi (by decide) hL hL2 ?_
  refine hCk 204 4 914 _ _ _ _ _ rfl rfl h0.2.2.1 h0.1 h0.2.1 (L_vB rfl) (e_Ok.both (e_Ok.both (k_204 (by decide) h0.2.2.2.2.1 (L_kAl h0.1) (L_rng _) (L_rng _) (L_rng _)) (e_Ok.both (kq_204 (by decide) h0.2.2.2.2.1 (L_kAl h0.1) (L_rng _) (L_rng _) (L_rng _)) (c_204_ex (by decide) h0.2.2.2.2.1.1 h0.2.2.2.2.1.2.2.1.1 (fun h => (h0.2.2.2.2.1.2.2.2.2.1 h).2.2.2.1.2) (L_rng _) (L_rng _) (L_rng _)))) (kw_204 (by decide) h0.2.2.2.2.1 (L_kAl h0.1) (L_rng _) (L_rng _) (L_rng _))) (fun r w1 v hq hf1 => ?_)
  obtain ⟨hq, hw1⟩ := hq
  obtain ⟨⟨z1, rfl, hF1, e1⟩, f1, y1, hy1, x1⟩ := hq
  have ey1 : z1 = y1 := one_z hy1
  subst ey1
  have g0 := L_k h0 hf1 hF1
  refine e_GS.run hS (t' := (918, [(3, (0, i)), (0, (1, 362)), (1, (1, 0)), (2, (1, 275))], [], v)) 1 rfl ?_
  refine e_GS.run hS (t' := (919, [(3, (0, i)), (0, (1, 362)), (1, (1, 0)), (2, (1, 275))], [(1, 275)], v)) 1 rfl ?_
  refine L_arg hS (j := 1) rfl rfl rfl rfl rfl rfl rfl hi (by decide) hL hL2 ?_
  refine L_arg hS (j := 2) rfl rfl rfl rfl rfl rfl rfl hi (by decide) hL hL2 ?_
  refine L_arg hS (j := 3) rfl rfl rfl rfl rfl rfl rfl hi (by decide) hL hL2 ?_
  refine hCm 290 4 934 _ _ _ _ _ rfl rfl g0.2.2.2.1 g0.1 g0.2.1 (L_vBm rfl) (e_Ok.both (e_Ok.both (m_290 (by decide) g0.2.2.2.2.2 (L_rng _) (L_rng _) (L_rng _)) (e_Ok.both (mz_290 (by decide) g0.2.2.2.2.2 (L_rng _) (L_rng _) (L_rng _)) (c_290_ex (by decide) g0.2.2.2.2.2.1 (L_rng _) (L_rng _) (L_rng _) g0.2.2.2.2.2.or))) (mw_290 (by decide) g0.2.2.2.2.2 (L_rng _) (L_rng _) (L_rng _))) (fun r w2 v2 hq hf2 => ?_)
  obtain ⟨hq, hw2⟩ := hq
  obtain ⟨⟨z2, rfl, hF2, e2⟩, f2, y2, hy2, x2⟩ := hq
  have ey2 : z2 = y2 := one_z hy2
  subst ey2
  have k0 := L_m g0 hf2 hF2.F
  have k3 : lw3 v2 := lw3_same h0 h3 hf1 e1 hf2 e2
  have k5 : lw5 v2 ∧ z1 = z2 := by
    have b0 : e_PB Bk u 0 13 = u 0 13 := e_PB_in (by unfold Bk; omega)
    have b1 : e_PB Bk u 19 0 = u 19 0 := e_PB_in (by unfold Bk; omega)
    have b2 : e_PB Bk u 19 1 = u 19 1 := e_PB_in (by unfold Bk; omega)
    have d0 : e_PB Bm v 275 3 = u 275 3 := (e_PB_in (by unfold Bm; omega)).trans (hf1.2.2.1 275 3 (by unfold Bk; omega))
    have d1 : e_PB Bm v 275 30 = u 275 30 := (e_PB_in (by unfold Bm; omega)).trans (hf1.2.2.1 275 30 (by unfold Bk; omega))
    have d2 : e_PB Bm v 275 40 = u 275 40 := (e_PB_in (by unfold Bm; omega)).trans (hf1.2.2.1 275 40 (by unfold Bk; omega))
    have r := (L_len h0).2.1
    have a1 := h5.1
    have y3 := h3.2.1
    generalize (xs (i + 1).toNat).toInt = y101 at x1 x2
    generalize (xs (i + 2).toNat).toInt = y102 at x1 x2
    generalize (xs (i + 3).toNat).toInt = y103 at x1 x2
    have ez : z1 = z2 := by omega
    have en : ∃ n : Int, (0 ≤ n ∧ n ≤ 1) ∧ w1 19 1 = e_PB Bk u 19 1 + n ∧ w2 275 40 = e_PB Bm v 275 40 + n := by
      rcases x1 with ⟨x1, x3⟩ | ⟨x3, x4, x1⟩
      · exact ⟨0, by decide, by omega, by omega⟩
      · exact ⟨1, by decide, by omega, by omega⟩
    obtain ⟨n, n0, n1, n2⟩ := en
    exact ⟨lw5_n4 h0 h5 hf1 f1 hf2 f2 n0 n1 n2, ez⟩
  refine e_GS.run hS (t' := (2142, [(3, (0, i)), (0, (1, 362)), (1, (1, 0)), (2, (1, 275))], [], v2)) 2 rfl ?_
  exact hK v2 ⟨⟨⟨k0, k3⟩, k5.1⟩, lwT.step h0 k0 hf1 hw1 hf2 hw2 hrk hrm⟩
theorem law6_arm_15 {L : Nat} {xs : Nat → Int32} {G : eS → Prop} (hS : e_GS (codeL L xs) 0 G) (hCk : law_GC L xs kcode Bk G) (hCm : law_GC L xs ecode Bm G) {u : eW} {i : Int} (hR : lwT i u) (hi : 0 ≤ i) (hL : i + 5 < L) (hL2 : L ≤ 3072) (hK : ∀ v, lwT (i + 6) v → G (2142, [(3, (0, i)), (0, (1, 362)), (1, (1, 0)), (2, (1, 275))], [], v)) : G (941, [(3, (0, i)), (0, (1, 362)), (1, (1, 0)), (2, (1, 275))], [], u) := by
  obtain ⟨⟨⟨h0, h3⟩, h5⟩, hrk, hrm⟩ := hR
  refine e_GS.run hS (t' := (942, [(3, (0, i)), (0, (1, 362)), (1, (1, 0)), (2, (1, 275))], [(1, 0)], u)) 1 rfl ?_
  refine L_arg hS (j := 1) rfl rfl rfl rfl rfl rfl rfl hi (by decide) hL hL2 ?_
  refine L_arg hS (j := 2) rfl rfl rfl rfl rfl rfl rfl hi (by decide) hL hL2 ?_
  refine L_arg hS (j := 3) rfl rfl rfl rfl rfl rfl rfl hi (by decide) hL hL2 ?_
  refine L_arg hS (j := 4) rfl rfl rfl rfl rfl rfl rfl hi (by decide) hL hL2 ?_
  refine L_arg hS (j := 5) rfl rfl rfl rfl rfl rfl rfl hi (by decide) hL hL2 ?_
  refine hCk 205 6 967 _ _ _ _ _ rfl rfl h0.2.2.1 h0.1 h0.2.1 (L_vB rfl) (e_Ok.both (e_Ok.both (k_205 (by decide) h0.2.2.2.2.1 (L_kAl h0.1) (L_rng _) (L_rng _) (L_rng _) (L_rng _) (L_rng _)) (c_205_ex (by decide) h0.2.2.2.2.1.1 h0.2.2.2.2.1.2.2.1.1 (L_rng _) (L_rng _) (L_rng _) (L_rng _) (L_rng _))) (kw_205 (by decide) h0.2.2.2.2.1 (L_kAl h0.1) (L_rng _) (L_rng _) (L_rng _) (L_rng _) (L_rng _))) (fun r w1 v hq hf1 => ?_)
  obtain ⟨hq, hw1⟩ := hq
  obtain ⟨⟨z1, rfl, hF1, e1⟩, y1, hy1, x1⟩ := hq
  have ey1 : z1 = y1 := one_z hy1
  subst ey1
  have g0 := L_k h0 hf1 hF1
  refine e_GS.run hS (t' := (971, [(3, (0, i)), (0, (1, 362)), (1, (1, 0)), (2, (1, 275))], [], v)) 1 rfl ?_
  refine e_GS.run hS (t' := (972, [(3, (0, i)), (0, (1, 362)), (1, (1, 0)), (2, (1, 275))], [(1, 275)], v)) 1 rfl ?_
  refine L_arg hS (j := 1) rfl rfl rfl rfl rfl rfl rfl hi (by decide) hL hL2 ?_
  refine L_arg hS (j := 2) rfl rfl rfl rfl rfl rfl rfl hi (by decide) hL hL2 ?_
  refine L_arg hS (j := 3) rfl rfl rfl rfl rfl rfl rfl hi (by decide) hL hL2 ?_
  refine L_arg hS (j := 4) rfl rfl rfl rfl rfl rfl rfl hi (by decide) hL hL2 ?_
  refine L_arg hS (j := 5) rfl rfl rfl rfl rfl rfl rfl hi (by decide) hL hL2 ?_
  refine hCm 291 6 997 _ _ _ _ _ rfl rfl g0.2.2.2.1 g0.1 g0.2.1 (L_vBm rfl) (e_Ok.both (e_Ok.both (m_291 (by decide) g0.2.2.2.2.2 (L_rng _) (L_rng _) (L_rng _) (L_rng _) (L_rng _)) (c_291_ex (by decide) g0.2.2.2.2.2.1 (L_rng _) (L_rng _) (L_rng _) (L_rng _) (L_rng _))) (mw_291 (by decide) g0.2.2.2.2.2 (L_rng _) (L_rng _) (L_rng _) (L_rng _) (L_rng _))) (fun r w2 v2 hq hf2 => ?_)
  obtain ⟨hq, hw2⟩ := hq
  obtain ⟨⟨z2, rfl, hF2, e2⟩, y2, hy2, x2⟩ := hq
  have ey2 : z2 = y2 := one_z hy2
  subst ey2
  have k0 := L_m g0 hf2 hF2.F
  have k3 : lw3 v2 := lw3_same h0 h3 hf1 e1 hf2 e2
  have k5 : lw5 v2 ∧ z1 = z2 := lw5_zone (L_rng _) (L_rng _) (L_rng _) (L_rng _) (L_rng _) h0 h3 h5 hf1 x1 hf2 x2
  refine e_GS.run hS (t' := (2142, [(3, (0, i)), (0, (1, 362)), (1, (1, 0)), (2, (1, 275))], [], v2)) 2 rfl ?_
  exact hK v2 ⟨⟨⟨k0, k3⟩, k5.1⟩, lwT.step h0 k0 hf1 hw1 hf2 hw2 hrk hrm⟩
end
