noncomputable section
/-! the law: what each call does -/
theorem law_arm_31 {L : Nat} {xs : Nat → Int32} {G : eS → Prop} (hS : e_GS (codeL L xs) 0 G) (hCk : law_GC L xs kcode Bk G) (hCm : law_GC L xs ecode Bm G) {u : eW} {i : Int} (hR : lwR u) (hi : 0 ≤ i) (hL : i + 5 < L) (hL2 : L ≤ 3072) (hK : ∀ v, lwR v → G (2142, [(3, (0, i)), (0, (1, 362)), (1, (1, 0)), (2, (1, 275))], [], v)) : G (1519, [(3, (0, i)), (0, (1, 362)), (1, (1, 0)), (2, (1, 275))], [], u) := by
  obtain ⟨h0, h3⟩ := hR
  refine e_GS.run hS (t' := (1520, [(3, (0, i)), (0, (1, 362)), (1, (1, 0)), (2, (1, 275))], [(1, 0)], u)) 1 rfl ?_
  refine L_arg hS (j := 1) rfl rfl rfl rfl rfl rfl rfl hi (by decide) hL hL2 ?_
  refine L_arg hS (j := 2) rfl rfl rfl rfl rfl rfl rfl hi (by decide) hL hL2 ?_
  refine L_arg hS (j := 3) rfl rfl rfl rfl rfl rfl rfl hi (by decide) hL hL2 ?_
  refine hCk 221 4 1535 _ _ _ _ _ rfl rfl h0.2.2.1 h0.1 h0.2.1 (L_vB rfl) (k_221 (by decide) h0.2.2.2.2.1 (L_kAl h0.1) (L_rng _) (L_rng _) (L_rng _)) (fun r w1 v hq hf1 => ?_)
  obtain ⟨z1, rfl, hF1, e1⟩ := hq
  have g0 := L_k h0 hf1 hF1
  refine e_GS.run hS (t' := (1539, [(3, (0, i)), (0, (1, 362)), (1, (1, 0)), (2, (1, 275))], [], v)) 1 rfl ?_
  refine e_GS.run hS (t' := (1540, [(3, (0, i)), (0, (1, 362)), (1, (1, 0)), (2, (1, 275))], [(1, 275)], v)) 1 rfl ?_
  refine L_arg hS (j := 1) rfl rfl rfl rfl rfl rfl rfl hi (by decide) hL hL2 ?_
  refine L_arg hS (j := 2) rfl rfl rfl rfl rfl rfl rfl hi (by decide) hL hL2 ?_
  refine L_arg hS (j := 3) rfl rfl rfl rfl rfl rfl rfl hi (by decide) hL hL2 ?_
  refine hCm 433 4 1555 _ _ _ _ _ rfl rfl g0.2.2.2.1 g0.1 g0.2.1 (L_vBm rfl) (m_433 (by decide) g0.2.2.2.2.2 (L_rng _) (L_rng _) (L_rng _)) (fun r w2 v2 hq hf2 => ?_)
  obtain ⟨z2, rfl, hF2, e2⟩ := hq
  have k0 := L_m g0 hf2 hF2
  have k3 : lw3 v2 := lw3_same h0 h3 hf1 e1 hf2 e2
  refine e_GS.run hS (t' := (2142, [(3, (0, i)), (0, (1, 362)), (1, (1, 0)), (2, (1, 275))], [], v2)) 2 rfl ?_
  exact hK v2 ⟨k0, k3⟩
theorem law_arm_32 {L : Nat} {xs : Nat → Int32} {G : eS → Prop} (hS : e_GS (codeL L xs) 0 G) (hCk : law_GC L xs kcode Bk G) (hCm : law_GC L xs ecode Bm G) {u : eW} {i : Int} (hR : lwR u) (hi : 0 ≤ i) (hL : i + 5 < L) (hL2 : L ≤ 3072) (hK : ∀ v, lwR v → G (2142, [(3, (0, i)), (0, (1, 362)), (1, (1, 0)), (2, (1, 275))], [], v)) : G (1562, [(3, (0, i)), (0, (1, 362)), (1, (1, 0)), (2, (1, 275))], [], u) := by
  obtain ⟨h0, h3⟩ := hR
  refine e_GS.run hS (t' := (1563, [(3, (0, i)), (0, (1, 362)), (1, (1, 0)), (2, (1, 275))], [(1, 0)], u)) 1 rfl ?_
  refine L_arg hS (j := 1) rfl rfl rfl rfl rfl rfl rfl hi (by decide) hL hL2 ?_
  refine L_arg hS (j := 2) rfl rfl rfl rfl rfl rfl rfl hi (by decide) hL hL2 ?_
  refine hCk 222 3 1573 _ _ _ _ _ rfl rfl h0.2.2.1 h0.1 h0.2.1 (L_vB rfl) (k_222 (by decide) h0.2.2.2.2.1 (L_kAl h0.1) (L_rng _) (L_rng _)) (fun r w1 v hq hf1 => ?_)
  obtain ⟨z1, rfl, hF1, e1⟩ := hq
  have g0 := L_k h0 hf1 hF1
  refine e_GS.run hS (t' := (1577, [(3, (0, i)), (0, (1, 362)), (1, (1, 0)), (2, (1, 275))], [], v)) 1 rfl ?_
  refine e_GS.run hS (t' := (1578, [(3, (0, i)), (0, (1, 362)), (1, (1, 0)), (2, (1, 275))], [(1, 275)], v)) 1 rfl ?_
  refine L_arg hS (j := 1) rfl rfl rfl rfl rfl rfl rfl hi (by decide) hL hL2 ?_
  refine L_arg hS (j := 2) rfl rfl rfl rfl rfl rfl rfl hi (by decide) hL hL2 ?_
  refine hCm 434 3 1588 _ _ _ _ _ rfl rfl g0.2.2.2.1 g0.1 g0.2.1 (L_vBm rfl) (m_434 (by decide) g0.2.2.2.2.2 (L_rng _) (L_rng _)) (fun r w2 v2 hq hf2 => ?_)
  obtain ⟨z2, rfl, hF2, e2⟩ := hq
  have k0 := L_m g0 hf2 hF2
  have k3 : lw3 v2 := lw3_same h0 h3 hf1 e1 hf2 e2
  refine e_GS.run hS (t' := (2142, [(3, (0, i)), (0, (1, 362)), (1, (1, 0)), (2, (1, 275))], [], v2)) 2 rfl ?_
  exact hK v2 ⟨k0, k3⟩
theorem law_arm_33 {L : Nat} {xs : Nat → Int32} {G : eS → Prop} (hS : e_GS (codeL L xs) 0 G) (hCk : law_GC L xs kcode Bk G) (hCm : law_GC L xs ecode Bm G) {u : eW} {i : Int} (hR : lwR u) (hi : 0 ≤ i) (hL : i + 5 < L) (hL2 : L ≤ 3072) (hK : ∀ v, lwR v → G (2142, [(3, (0, i)), (0, (1, 362)), (1, (1, 0)), (2, (1, 275))], [], v)) : G (1595, [(3, (0, i)), (0, (1, 362)), (1, (1, 0)), (2, (1, 275))], [], u) := by
  obtain ⟨h0, h3⟩ := hR
  refine e_GS.run hS (t' := (1596, [(3, (0, i)), (0, (1, 362)), (1, (1, 0)), (2, (1, 275))], [(1, 0)], u)) 1 rfl ?_
  refine L_arg hS (j := 1) rfl rfl rfl rfl rfl rfl rfl hi (by decide) hL hL2 ?_
  refine L_arg hS (j := 2) rfl rfl rfl rfl rfl rfl rfl hi (by decide) hL hL2 ?_
  refine L_arg hS (j := 3) rfl rfl rfl rfl rfl rfl rfl hi (by decide) hL hL2 ?_
  refine hCk 223 4 1611 _ _ _ _ _ rfl rfl h0.2.2.1 h0.1 h0.2.1 (L_vB rfl) (k_223 (by decide) h0.2.2.2.2.1 (L_kAl h0.1) (L_rng _) (L_rng _) (L_rng _)) (fun r w1 v hq hf1 => ?_)
  obtain ⟨z1, rfl, hF1, e1⟩ := hq
  have g0 := L_k h0 hf1 hF1
  refine e_GS.run hS (t' := (1615, [(3, (0, i)), (0, (1, 362)), (1, (1, 0)), (2, (1, 275))], [], v)) 1 rfl ?_
  refine e_GS.run hS (t' := (1616, [(3, (0, i)), (0, (1, 362)), (1, (1, 0)), (2, (1, 275))], [(1, 275)], v)) 1 rfl ?_
  refine L_arg hS (j := 1) rfl rfl rfl rfl rfl rfl rfl hi (by decide) hL hL2 ?_
  refine L_arg hS (j := 2) rfl rfl rfl rfl rfl rfl rfl hi (by decide) hL hL2 ?_
  refine L_arg hS (j := 3) rfl rfl rfl rfl rfl rfl rfl hi (by decide) hL hL2 ?_
  refine hCm 418 4 1631 _ _ _ _ _ rfl rfl g0.2.2.2.1 g0.1 g0.2.1 (L_vBm rfl) (m_418 (by decide) g0.2.2.2.2.2 (L_rng _) (L_rng _) (L_rng _)) (fun r w2 v2 hq hf2 => ?_)
  obtain ⟨z2, rfl, hF2, e2⟩ := hq
  have k0 := L_m g0 hf2 hF2
  have k3 : lw3 v2 := lw3_same h0 h3 hf1 e1 hf2 e2
  refine e_GS.run hS (t' := (2142, [(3, (0, i)), (0, (1, 362)), (1, (1, 0)), (2, (1, 275))], [], v2)) 2 rfl ?_
  exact hK v2 ⟨k0, k3⟩
theorem law_arm_34 {L : Nat} {xs : Nat → Int32} {G : eS → Prop} (hS : e_GS (codeL L xs) 0 G) (hCk : law_GC L xs kcode Bk G) (hCm : law_GC L xs ecode Bm G) {u : eW} {i : Int} (hR : lwR u) (hi : 0 ≤ i) (hL : i + 5 < L) (hL2 : L ≤ 3072) (hK : ∀ v, lwR v → G (2142, [(3, (0, i)), (0, (1, 362)), (1, (1, 0)), (2, (1, 275))], [], v)) : G (1638, [(3, (0, i)), (0, (1, 362)), (1, (1, 0)), (2, (1, 275))], [], u) := by
  obtain ⟨h0, h3⟩ := hR
  refine e_GS.run hS (t' := (1639, [(3, (0, i)), (0, (1, 362)), (1, (1, 0)), (2, (1, 275))], [(1, 0)], u)) 1 rfl ?_
  refine L_arg hS (j := 1) rfl rfl rfl rfl rfl rfl rfl hi (by decide) hL hL2 ?_
  refine hCk 224 2 1644 _ _ _ _ _ rfl rfl h0.2.2.1 h0.1 h0.2.1 (L_vB rfl) (k_224 (by decide) h0.2.2.2.2.1 (L_kAl h0.1) (L_rng _)) (fun r w1 v hq hf1 => ?_)
  obtain ⟨z1, rfl, hF1, e1⟩ := hq
  have g0 := L_k h0 hf1 hF1
  refine e_GS.run hS (t' := (1648, [(3, (0, i)), (0, (1, 362)), (1, (1, 0)), (2, (1, 275))], [], v)) 1 rfl ?_
  refine e_GS.run hS (t' := (1649, [(3, (0, i)), (0, (1, 362)), (1, (1, 0)), (2, (1, 275))], [(1, 275)], v)) 1 rfl ?_
  refine L_arg hS (j := 1) rfl rfl rfl rfl rfl rfl rfl hi (by decide) hL hL2 ?_
  refine hCm 419 2 1654 _ _ _ _ _ rfl rfl g0.2.2.2.1 g0.1 g0.2.1 (L_vBm rfl) (m_419 (by decide) g0.2.2.2.2.2 (L_rng _)) (fun r w2 v2 hq hf2 => ?_)
  obtain ⟨z2, rfl, hF2, e2⟩ := hq
  have k0 := L_m g0 hf2 hF2
  have k3 : lw3 v2 := lw3_same h0 h3 hf1 e1 hf2 e2
  refine e_GS.run hS (t' := (2142, [(3, (0, i)), (0, (1, 362)), (1, (1, 0)), (2, (1, 275))], [], v2)) 2 rfl ?_
  exact hK v2 ⟨k0, k3⟩
end
