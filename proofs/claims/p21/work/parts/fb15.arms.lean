noncomputable section
/-! the law: what each call does -/
theorem law_arm_39 {L : Nat} {xs : Nat → Int32} {G : eS → Prop} (hS : e_GS (codeL L xs) 0 G) (hCk : law_GC L xs kcode Bk G) (hCm : law_GC L xs ecode Bm G) {u : eW} {i : Int} (hR : lwR u) (hi : 0 ≤ i) (hL : i + 5 < L) (hL2 : L ≤ 3072) (hK : ∀ v, lwR v → G (2142, [(3, (0, i)), (0, (1, 362)), (1, (1, 0)), (2, (1, 275))], [], v)) : G (1763, [(3, (0, i)), (0, (1, 362)), (1, (1, 0)), (2, (1, 275))], [], u) := by
  obtain ⟨h0, h3⟩ := hR
  refine e_GS.run hS (t' := (1764, [(3, (0, i)), (0, (1, 362)), (1, (1, 0)), (2, (1, 275))], [(1, 0)], u)) 1 rfl ?_
  refine L_arg hS (j := 1) rfl rfl rfl rfl rfl rfl rfl hi (by decide) hL hL2 ?_
  refine L_arg hS (j := 2) rfl rfl rfl rfl rfl rfl rfl hi (by decide) hL hL2 ?_
  refine L_arg hS (j := 3) rfl rfl rfl rfl rfl rfl rfl hi (by decide) hL hL2 ?_
  refine hCk 229 4 1779 _ _ _ _ _ rfl rfl h0.2.2.1 h0.1 h0.2.1 (L_vB rfl) (k_229 (by decide) h0.2.2.2.2.1 (L_kAl h0.1) (L_rng _) (L_rng _) (L_rng _)) (fun r w1 v hq hf1 => ?_)
  obtain ⟨z1, rfl, hF1, e1⟩ := hq
  have g0 := L_k h0 hf1 hF1
  refine e_GS.run hS (t' := (1783, [(3, (0, i)), (0, (1, 362)), (1, (1, 0)), (2, (1, 275))], [], v)) 1 rfl ?_
  refine e_GS.run hS (t' := (1784, [(3, (0, i)), (0, (1, 362)), (1, (1, 0)), (2, (1, 275))], [(1, 275)], v)) 1 rfl ?_
  refine L_arg hS (j := 1) rfl rfl rfl rfl rfl rfl rfl hi (by decide) hL hL2 ?_
  refine L_arg hS (j := 2) rfl rfl rfl rfl rfl rfl rfl hi (by decide) hL hL2 ?_
  refine L_arg hS (j := 3) rfl rfl rfl rfl rfl rfl rfl hi (by decide) hL hL2 ?_
  refine hCm 440 4 1799 _ _ _ _ _ rfl rfl g0.2.2.2.1 g0.1 g0.2.1 (L_vBm rfl) (m_440 (by decide) g0.2.2.2.2.2 (L_rng _) (L_rng _) (L_rng _)) (fun r w2 v2 hq hf2 => ?_)
  obtain ⟨z2, rfl, hF2, e2⟩ := hq
  have k0 := L_m g0 hf2 hF2.F
  have k3 : lw3 v2 := lw3_same h0 h3 hf1 e1 hf2 e2
  refine e_GS.run hS (t' := (2142, [(3, (0, i)), (0, (1, 362)), (1, (1, 0)), (2, (1, 275))], [], v2)) 2 rfl ?_
  exact hK v2 ⟨k0, k3⟩
theorem law_arm_40 {L : Nat} {xs : Nat → Int32} {G : eS → Prop} (hS : e_GS (codeL L xs) 0 G) (hCk : law_GC L xs kcode Bk G) (hCm : law_GC L xs ecode Bm G) {u : eW} {i : Int} (hR : lwR u) (hi : 0 ≤ i) (hL : i + 5 < L) (hL2 : L ≤ 3072) (hK : ∀ v, lwR v → G (2142, [(3, (0, i)), (0, (1, 362)), (1, (1, 0)), (2, (1, 275))], [], v)) : G (1806, [(3, (0, i)), (0, (1, 362)), (1, (1, 0)), (2, (1, 275))], [], u) := by
  obtain ⟨h0, h3⟩ := hR
  refine e_GS.run hS (t' := (1807, [(3, (0, i)), (0, (1, 362)), (1, (1, 0)), (2, (1, 275))], [(1, 0)], u)) 1 rfl ?_
  refine L_arg hS (j := 1) rfl rfl rfl rfl rfl rfl rfl hi (by decide) hL hL2 ?_
  refine L_arg hS (j := 2) rfl rfl rfl rfl rfl rfl rfl hi (by decide) hL hL2 ?_
  refine hCk 230 3 1817 _ _ _ _ _ rfl rfl h0.2.2.1 h0.1 h0.2.1 (L_vB rfl) (k_230 (by decide) h0.2.2.2.2.1 (L_kAl h0.1) (L_rng _) (L_rng _)) (fun r w1 v hq hf1 => ?_)
  obtain ⟨z1, rfl, hF1, e1⟩ := hq
  have g0 := L_k h0 hf1 hF1
  refine e_GS.run hS (t' := (1821, [(3, (0, i)), (0, (1, 362)), (1, (1, 0)), (2, (1, 275))], [], v)) 1 rfl ?_
  refine e_GS.run hS (t' := (1822, [(3, (0, i)), (0, (1, 362)), (1, (1, 0)), (2, (1, 275))], [(1, 275)], v)) 1 rfl ?_
  refine L_arg hS (j := 1) rfl rfl rfl rfl rfl rfl rfl hi (by decide) hL hL2 ?_
  refine L_arg hS (j := 2) rfl rfl rfl rfl rfl rfl rfl hi (by decide) hL hL2 ?_
  refine hCm 441 3 1832 _ _ _ _ _ rfl rfl g0.2.2.2.1 g0.1 g0.2.1 (L_vBm rfl) (m_441 (by decide) g0.2.2.2.2.2 (L_rng _) (L_rng _)) (fun r w2 v2 hq hf2 => ?_)
  obtain ⟨z2, rfl, hF2, e2⟩ := hq
  have k0 := L_m g0 hf2 hF2.F
  have k3 : lw3 v2 := lw3_same h0 h3 hf1 e1 hf2 e2
  refine e_GS.run hS (t' := (2142, [(3, (0, i)), (0, (1, 362)), (1, (1, 0)), (2, (1, 275))], [], v2)) 2 rfl ?_
  exact hK v2 ⟨k0, k3⟩
theorem law_arm_41 {L : Nat} {xs : Nat → Int32} {G : eS → Prop} (hS : e_GS (codeL L xs) 0 G) (hCk : law_GC L xs kcode Bk G) (hCm : law_GC L xs ecode Bm G) {u : eW} {i : Int} (hR : lwR u) (hi : 0 ≤ i) (hL : i + 5 < L) (hL2 : L ≤ 3072) (hK : ∀ v, lwR v → G (2142, [(3, (0, i)), (0, (1, 362)), (1, (1, 0)), (2, (1, 275))], [], v)) : G (1839, [(3, (0, i)), (0, (1, 362)), (1, (1, 0)), (2, (1, 275))], [], u) := by
  obtain ⟨h0, h3⟩ := hR
  refine e_GS.run hS (t' := (1840, [(3, (0, i)), (0, (1, 362)), (1, (1, 0)), (2, (1, 275))], [(1, 0)], u)) 1 rfl ?_
  refine L_arg hS (j := 1) rfl rfl rfl rfl rfl rfl rfl hi (by decide) hL hL2 ?_
  refine L_arg hS (j := 2) rfl rfl rfl rfl rfl rfl rfl hi (by decide) hL hL2 ?_
  refine hCk 231 3 1850 _ _ _ _ _ rfl rfl h0.2.2.1 h0.1 h0.2.1 (L_vB rfl) (k_231 (by decide) h0.2.2.2.2.1 (L_kAl h0.1) (L_rng _) (L_rng _)) (fun r w1 v hq hf1 => ?_)
  obtain ⟨z1, rfl, hF1, e1⟩ := hq
  have g0 := L_k h0 hf1 hF1
  refine e_GS.run hS (t' := (1854, [(3, (0, i)), (0, (1, 362)), (1, (1, 0)), (2, (1, 275))], [], v)) 1 rfl ?_
  refine e_GS.run hS (t' := (1855, [(3, (0, i)), (0, (1, 362)), (1, (1, 0)), (2, (1, 275))], [(1, 275)], v)) 1 rfl ?_
  refine L_arg hS (j := 1) rfl rfl rfl rfl rfl rfl rfl hi (by decide) hL hL2 ?_
  refine L_arg hS (j := 2) rfl rfl rfl rfl rfl rfl rfl hi (by decide) hL hL2 ?_
  refine hCm 442 3 1865 _ _ _ _ _ rfl rfl g0.2.2.2.1 g0.1 g0.2.1 (L_vBm rfl) (m_442 (by decide) g0.2.2.2.2.2 (L_rng _) (L_rng _)) (fun r w2 v2 hq hf2 => ?_)
  obtain ⟨z2, rfl, hF2, e2⟩ := hq
  have k0 := L_m g0 hf2 hF2.F
  have k3 : lw3 v2 := lw3_same h0 h3 hf1 e1 hf2 e2
  refine e_GS.run hS (t' := (2142, [(3, (0, i)), (0, (1, 362)), (1, (1, 0)), (2, (1, 275))], [], v2)) 2 rfl ?_
  exact hK v2 ⟨k0, k3⟩
theorem law_arm_42 {L : Nat} {xs : Nat → Int32} {G : eS → Prop} (hS : e_GS (codeL L xs) 0 G) (hCk : law_GC L xs kcode Bk G) (hCm : law_GC L xs ecode Bm G) {u : eW} {i : Int} (hR : lwR u) (hi : 0 ≤ i) (hL : i + 5 < L) (hL2 : L ≤ 3072) (hK : ∀ v, lwR v → G (2142, [(3, (0, i)), (0, (1, 362)), (1, (1, 0)), (2, (1, 275))], [], v)) : G (1872, [(3, (0, i)), (0, (1, 362)), (1, (1, 0)), (2, (1, 275))], [], u) := by
  obtain ⟨h0, h3⟩ := hR
  refine e_GS.run hS (t' := (1873, [(3, (0, i)), (0, (1, 362)), (1, (1, 0)), (2, (1, 275))], [(1, 0)], u)) 1 rfl ?_
  refine L_arg hS (j := 1) rfl rfl rfl rfl rfl rfl rfl hi (by decide) hL hL2 ?_
  refine L_arg hS (j := 2) rfl rfl rfl rfl rfl rfl rfl hi (by decide) hL hL2 ?_
  refine hCk 232 3 1883 _ _ _ _ _ rfl rfl h0.2.2.1 h0.1 h0.2.1 (L_vB rfl) (k_232 (by decide) h0.2.2.2.2.1 (L_kAl h0.1) (L_rng _) (L_rng _)) (fun r w1 v hq hf1 => ?_)
  obtain ⟨z1, rfl, hF1, e1⟩ := hq
  have g0 := L_k h0 hf1 hF1
  refine e_GS.run hS (t' := (1887, [(3, (0, i)), (0, (1, 362)), (1, (1, 0)), (2, (1, 275))], [], v)) 1 rfl ?_
  refine e_GS.run hS (t' := (1888, [(3, (0, i)), (0, (1, 362)), (1, (1, 0)), (2, (1, 275))], [(1, 275)], v)) 1 rfl ?_
  refine L_arg hS (j := 1) rfl rfl rfl rfl rfl rfl rfl hi (by decide) hL hL2 ?_
  refine L_arg hS (j := 2) rfl rfl rfl rfl rfl rfl rfl hi (by decide) hL hL2 ?_
  refine hCm 443 3 1898 _ _ _ _ _ rfl rfl g0.2.2.2.1 g0.1 g0.2.1 (L_vBm rfl) (m_443 (by decide) g0.2.2.2.2.2 (L_rng _) (L_rng _)) (fun r w2 v2 hq hf2 => ?_)
  obtain ⟨z2, rfl, hF2, e2⟩ := hq
  have k0 := L_m g0 hf2 hF2.F
  have k3 : lw3 v2 := lw3_same h0 h3 hf1 e1 hf2 e2
  refine e_GS.run hS (t' := (2142, [(3, (0, i)), (0, (1, 362)), (1, (1, 0)), (2, (1, 275))], [], v2)) 2 rfl ?_
  exact hK v2 ⟨k0, k3⟩
end
