noncomputable section
/-! the law: what each call does -/
set_option maxHeartbeats 2000000 in
theorem law8_arm_12 {L : Nat} {xs : Nat → Int32} {G : eS → Prop} (hS : e_GS (codeL L xs) 0 G) (hCk : law_GC L xs kcode Bk G) (hCm : law_GC L xs ecode Bm G) {u : eW} {i : Int} (hR : lwP u) (hi : 0 ≤ i) (hL : i + 5 < L) (hL2 : L ≤ 3072) (hK : ∀ v, lwP v → G (2142, [(3, (0, i)), (0, (1, 362)), (1, (1, 0)), (2, (1, 275))], [], v)) : G (802, [(3, (0, i)), (0, (1, 362)), (1, (1, 0)), (2, (1, 275))], [], u) := by
  obtain ⟨⟨h0, h3⟩, ht⟩ := hR
  have b1 : e_PB Bk u 1 0 = u 1 0 := e_PB_in (by unfold Bk; omega)
  refine e_GS.run hS (t' := (803, [(3, (0, i)), (0, (1, 362)), (1, (1, 0)), (2, (1, 275))], [(1, 0)], u)) 1 rfl ?_
  refine L_arg hS (j := 1) rfl rfl rfl rfl rfl rfl rfl hi (by decide) hL hL2 ?_
  refine L_arg hS (j := 2) rfl rfl rfl rfl rfl rfl rfl hi (by decide) hL hL2 ?_
  refine L_arg hS (j := 3) rfl rfl rfl rfl rfl rfl rfl hi (by decide) hL hL2 ?_
  refine L_arg hS (j := 4) rfl rfl rfl rfl rfl rfl rfl hi (by decide) hL hL2 ?_
  refine hCk 202 5 823 _ _ _ _ _ rfl rfl h0.2.2.1 h0.1 h0.2.1 (L_vB rfl) (e_Ok.both (k_202 (by decide) h0.2.2.2.2.1 (L_kAl h0.1) (L_rng _) (L_rng _) (L_rng _) (L_rng _)) (kx_202 (by decide) h0.2.2.2.2.1 (L_kAl h0.1) (L_rng _) (L_rng _) (L_rng _) (L_rng _))) (fun r w1 v hq hf1 => ?_)
  obtain ⟨⟨z1, rfl, hF1, e1⟩, t1⟩ := hq
  have g0 := L_k h0 hf1 hF1
  refine e_GS.run hS (t' := (827, [(3, (0, i)), (0, (1, 362)), (1, (1, 0)), (2, (1, 275))], [], v)) 1 rfl ?_
  refine e_GS.run hS (t' := (828, [(3, (0, i)), (0, (1, 362)), (1, (1, 0)), (2, (1, 275))], [(1, 275)], v)) 1 rfl ?_
  refine L_arg hS (j := 1) rfl rfl rfl rfl rfl rfl rfl hi (by decide) hL hL2 ?_
  refine L_arg hS (j := 2) rfl rfl rfl rfl rfl rfl rfl hi (by decide) hL hL2 ?_
  refine L_arg hS (j := 3) rfl rfl rfl rfl rfl rfl rfl hi (by decide) hL hL2 ?_
  refine L_arg hS (j := 4) rfl rfl rfl rfl rfl rfl rfl hi (by decide) hL hL2 ?_
  refine hCm 288 5 848 _ _ _ _ _ rfl rfl g0.2.2.2.1 g0.1 g0.2.1 (L_vBm rfl) (e_Ok.both (m_288 (by decide) g0.2.2.2.2.2 (L_rng _) (L_rng _) (L_rng _) (L_rng _)) (mx_288 (by decide) g0.2.2.2.2.2 (L_rng _) (L_rng _) (L_rng _) (L_rng _))) (fun r w2 v2 hq hf2 => ?_)
  obtain ⟨⟨z2, rfl, hF2, e2⟩, t2⟩ := hq
  have k0 := L_m g0 hf2 hF2.F
  have k3 : lw3 v2 := lw3_same h0 h3 hf1 e1 hf2 e2
  have c0 := (L_len h0).1
  have hl : 0 ≤ w1 1 0 ∧ w1 1 0 ≤ e_PB Bk u 1 0 := by have e := e1.2.1; omega
  have kt : tpA v2 := tpA.same h0 ht hf1 t1 hf2 t2 hl
  refine e_GS.run hS (t' := (2142, [(3, (0, i)), (0, (1, 362)), (1, (1, 0)), (2, (1, 275))], [], v2)) 2 rfl ?_
  exact hK v2 ⟨⟨k0, k3⟩, kt⟩
theorem law8_arm_13 {L : Nat} {xs : Nat → Int32} {G : eS → Prop} (hS : e_GS (codeL L xs) 0 G) (hCk : law_GC L xs kcode Bk G) (hCm : law_GC L xs ecode Bm G) {u : eW} {i : Int} (hR : lwP u) (hi : 0 ≤ i) (hL : i + 5 < L) (hL2 : L ≤ 3072) (hK : ∀ v, lwP v → G (2142, [(3, (0, i)), (0, (1, 362)), (1, (1, 0)), (2, (1, 275))], [], v)) : G (855, [(3, (0, i)), (0, (1, 362)), (1, (1, 0)), (2, (1, 275))], [], u) := by
  obtain ⟨⟨h0, h3⟩, ht⟩ := hR
  have b1 : e_PB Bk u 1 0 = u 1 0 := e_PB_in (by unfold Bk; omega)
  refine e_GS.run hS (t' := (856, [(3, (0, i)), (0, (1, 362)), (1, (1, 0)), (2, (1, 275))], [(1, 0)], u)) 1 rfl ?_
  refine L_arg hS (j := 1) rfl rfl rfl rfl rfl rfl rfl hi (by decide) hL hL2 ?_
  refine L_arg hS (j := 2) rfl rfl rfl rfl rfl rfl rfl hi (by decide) hL hL2 ?_
  refine L_arg hS (j := 3) rfl rfl rfl rfl rfl rfl rfl hi (by decide) hL hL2 ?_
  refine hCk 203 4 871 _ _ _ _ _ rfl rfl h0.2.2.1 h0.1 h0.2.1 (L_vB rfl) (e_Ok.both (k_203 (by decide) h0.2.2.2.2.1 (L_kAl h0.1) (L_rng _) (L_rng _) (L_rng _)) (kx_203 (by decide) h0.2.2.2.2.1 (L_kAl h0.1) (L_rng _) (L_rng _) (L_rng _))) (fun r w1 v hq hf1 => ?_)
  obtain ⟨⟨z1, rfl, hF1, e1⟩, t1⟩ := hq
  have g0 := L_k h0 hf1 hF1
  refine e_GS.run hS (t' := (875, [(3, (0, i)), (0, (1, 362)), (1, (1, 0)), (2, (1, 275))], [], v)) 1 rfl ?_
  refine e_GS.run hS (t' := (876, [(3, (0, i)), (0, (1, 362)), (1, (1, 0)), (2, (1, 275))], [(1, 275)], v)) 1 rfl ?_
  refine L_arg hS (j := 1) rfl rfl rfl rfl rfl rfl rfl hi (by decide) hL hL2 ?_
  refine L_arg hS (j := 2) rfl rfl rfl rfl rfl rfl rfl hi (by decide) hL hL2 ?_
  refine L_arg hS (j := 3) rfl rfl rfl rfl rfl rfl rfl hi (by decide) hL hL2 ?_
  refine hCm 289 4 891 _ _ _ _ _ rfl rfl g0.2.2.2.1 g0.1 g0.2.1 (L_vBm rfl) (e_Ok.both (m_289 (by decide) g0.2.2.2.2.2 (L_rng _) (L_rng _) (L_rng _)) (mx_289 (by decide) g0.2.2.2.2.2 (L_rng _) (L_rng _) (L_rng _))) (fun r w2 v2 hq hf2 => ?_)
  obtain ⟨⟨z2, rfl, hF2, e2⟩, t2⟩ := hq
  have k0 := L_m g0 hf2 hF2.F
  have k3 : lw3 v2 := lw3_same h0 h3 hf1 e1 hf2 e2
  have c0 := (L_len h0).1
  have hl : 0 ≤ w1 1 0 ∧ w1 1 0 ≤ e_PB Bk u 1 0 := by have e := e1.2.1; omega
  have kt : tpA v2 := tpA.same h0 ht hf1 t1 hf2 t2 hl
  refine e_GS.run hS (t' := (2142, [(3, (0, i)), (0, (1, 362)), (1, (1, 0)), (2, (1, 275))], [], v2)) 2 rfl ?_
  exact hK v2 ⟨⟨k0, k3⟩, kt⟩
theorem law8_arm_14 {L : Nat} {xs : Nat → Int32} {G : eS → Prop} (hS : e_GS (codeL L xs) 0 G) (hCk : law_GC L xs kcode Bk G) (hCm : law_GC L xs ecode Bm G) {u : eW} {i : Int} (hR : lwP u) (hi : 0 ≤ i) (hL : i + 5 < L) (hL2 : L ≤ 3072) (hK : ∀ v, lwP v → G (2142, [(3, (0, i)), (0, (1, 362)), (1, (1, 0)), (2, (1, 275))], [], v)) : G (898, [(3, (0, i)), (0, (1, 362)), (1, (1, 0)), (2, (1, 275))], [], u) := by
  obtain ⟨⟨h0, h3⟩, ht⟩ := hR
  have b1 : e_PB Bk u 1 0 = u 1 0 := e_PB_in (by unfold Bk; omega)
  refine e_GS.run hS (t' := (899, [(3, (0, i)), (0, (1, 362)), (1, (1, 0)), (2, (1, 275))], [(1, 0)], u)) 1 rfl ?_
  refine L_arg hS (j := 1) rfl rfl rfl rfl rfl rfl rfl hi (by decide) hL hL2 ?_
  refine L_arg hS (j := 2) rfl rfl rfl rfl rfl rfl rfl hi (by decide) hL hL2 ?_
  refine L_arg hS (j := 3) rfl rfl rfl rfl rfl rfl rfl hi (by decide) hL hL2 ?_
  refine hCk 204 4 914 _ _ _ _ _ rfl rfl h0.2.2.1 h0.1 h0.2.1 (L_vB rfl) (e_Ok.both (k_204 (by decide) h0.2.2.2.2.1 (L_kAl h0.1) (L_rng _) (L_rng _) (L_rng _)) (kx_204 (by decide) h0.2.2.2.2.1 (L_kAl h0.1) (L_rng _) (L_rng _) (L_rng _))) (fun r w1 v hq hf1 => ?_)
  obtain ⟨⟨z1, rfl, hF1, e1⟩, t1⟩ := hq
  have g0 := L_k h0 hf1 hF1
  refine e_GS.run hS (t' := (918, [(3, (0, i)), (0, (1, 362)), (1, (1, 0)), (2, (1, 275))], [], v)) 1 rfl ?_
  refine e_GS.run hS (t' := (919, [(3, (0, i)), (0, (1, 362)), (1, (1, 0)), (2, (1, 275))], [(1, 275)], v)) 1 rfl ?_
  refine L_arg hS (j := 1) rfl rfl rfl rfl rfl rfl rfl hi (by decide) hL hL2 ?_
  refine L_arg hS (j := 2) rfl rfl rfl rfl rfl rfl rfl hi (by decide) hL hL2 ?_
  refine L_arg hS (j := 3) rfl rfl rfl rfl rfl rfl rfl hi (by decide) hL hL2 ?_
  refine hCm 290 4 934 _ _ _ _ _ rfl rfl g0.2.2.2.1 g0.1 g0.2.1 (L_vBm rfl) (e_Ok.both (m_290 (by decide) g0.2.2.2.2.2 (L_rng _) (L_rng _) (L_rng _)) (mx_290 (by decide) g0.2.2.2.2.2 (L_rng _) (L_rng _) (L_rng _))) (fun r w2 v2 hq hf2 => ?_)
  obtain ⟨⟨z2, rfl, hF2, e2⟩, t2⟩ := hq
  have k0 := L_m g0 hf2 hF2.F
  have k3 : lw3 v2 := lw3_same h0 h3 hf1 e1 hf2 e2
  have c0 := (L_len h0).1
  have hl : 0 ≤ w1 1 0 ∧ w1 1 0 ≤ e_PB Bk u 1 0 := by have e := e1.2.1; omega
  have kt : tpA v2 := tpA.same h0 ht hf1 t1 hf2 t2 hl
  refine e_GS.run hS (t' := (2142, [(3, (0, i)), (0, (1, 362)), (1, (1, 0)), (2, (1, 275))], [], v2)) 2 rfl ?_
  exact hK v2 ⟨⟨k0, k3⟩, kt⟩
set_option maxHeartbeats 2000000 in
theorem law8_arm_15 {L : Nat} {xs : Nat → Int32} {G : eS → Prop} (hS : e_GS (codeL L xs) 0 G) (hCk : law_GC L xs kcode Bk G) (hCm : law_GC L xs ecode Bm G) {u : eW} {i : Int} (hR : lwP u) (hi : 0 ≤ i) (hL : i + 5 < L) (hL2 : L ≤ 3072) (hK : ∀ v, lwP v → G (2142, [(3, (0, i)), (0, (1, 362)), (1, (1, 0)), (2, (1, 275))], [], v)) : G (941, [(3, (0, i)), (0, (1, 362)), (1, (1, 0)), (2, (1, 275))], [], u) := by
  obtain ⟨⟨h0, h3⟩, ht⟩ := hR
  have b1 : e_PB Bk u 1 0 = u 1 0 := e_PB_in (by unfold Bk; omega)
  refine e_GS.run hS (t' := (942, [(3, (0, i)), (0, (1, 362)), (1, (1, 0)), (2, (1, 275))], [(1, 0)], u)) 1 rfl ?_
  refine L_arg hS (j := 1) rfl rfl rfl rfl rfl rfl rfl hi (by decide) hL hL2 ?_
  refine L_arg hS (j := 2) rfl rfl rfl rfl rfl rfl rfl hi (by decide) hL hL2 ?_
  refine L_arg hS (j := 3) rfl rfl rfl rfl rfl rfl rfl hi (by decide) hL hL2 ?_
  refine L_arg hS (j := 4) rfl rfl rfl rfl rfl rfl rfl hi (by decide) hL hL2 ?_
  refine L_arg hS (j := 5) rfl rfl rfl rfl rfl rfl rfl hi (by decide) hL hL2 ?_
  refine hCk 205 6 967 _ _ _ _ _ rfl rfl h0.2.2.1 h0.1 h0.2.1 (L_vB rfl) (e_Ok.both (k_205 (by decide) h0.2.2.2.2.1 (L_kAl h0.1) (L_rng _) (L_rng _) (L_rng _) (L_rng _) (L_rng _)) (kx_205 (by decide) h0.2.2.2.2.1 (L_kAl h0.1) (L_rng _) (L_rng _) (L_rng _) (L_rng _) (L_rng _))) (fun r w1 v hq hf1 => ?_)
  obtain ⟨⟨z1, rfl, hF1, e1⟩, t1⟩ := hq
  have g0 := L_k h0 hf1 hF1
  refine e_GS.run hS (t' := (971, [(3, (0, i)), (0, (1, 362)), (1, (1, 0)), (2, (1, 275))], [], v)) 1 rfl ?_
  refine e_GS.run hS (t' := (972, [(3, (0, i)), (0, (1, 362)), (1, (1, 0)), (2, (1, 275))], [(1, 275)], v)) 1 rfl ?_
  refine L_arg hS (j := 1) rfl rfl rfl rfl rfl rfl rfl hi (by decide) hL hL2 ?_
  refine L_arg hS (j := 2) rfl rfl rfl rfl rfl rfl rfl hi (by decide) hL hL2 ?_
  refine L_arg hS (j := 3) rfl rfl rfl rfl rfl rfl rfl hi (by decide) hL hL2 ?_
  refine L_arg hS (j := 4) rfl rfl rfl rfl rfl rfl rfl hi (by decide) hL hL2 ?_
  refine L_arg hS (j := 5) rfl rfl rfl rfl rfl rfl rfl hi (by decide) hL hL2 ?_
  refine hCm 291 6 997 _ _ _ _ _ rfl rfl g0.2.2.2.1 g0.1 g0.2.1 (L_vBm rfl) (e_Ok.both (m_291 (by decide) g0.2.2.2.2.2 (L_rng _) (L_rng _) (L_rng _) (L_rng _) (L_rng _)) (mx_291 (by decide) g0.2.2.2.2.2 (L_rng _) (L_rng _) (L_rng _) (L_rng _) (L_rng _))) (fun r w2 v2 hq hf2 => ?_)
  obtain ⟨⟨z2, rfl, hF2, e2⟩, t2⟩ := hq
  have k0 := L_m g0 hf2 hF2.F
  have k3 : lw3 v2 := lw3_same h0 h3 hf1 e1 hf2 e2
  have c0 := (L_len h0).1
  have hl : 0 ≤ w1 1 0 ∧ w1 1 0 ≤ e_PB Bk u 1 0 := by have e := e1.2.1; omega
  have kt : tpA v2 := tpA.same h0 ht hf1 t1 hf2 t2 hl
  refine e_GS.run hS (t' := (2142, [(3, (0, i)), (0, (1, 362)), (1, (1, 0)), (2, (1, 275))], [], v2)) 2 rfl ?_
  exact hK v2 ⟨⟨k0, k3⟩, kt⟩
end
