-- part fb10
section
noncomputable section
/-! the law: what each call does -/
theorem law5_arm_22 {L : Nat} {xs : Nat → Int32} {G : eS → Prop} (hS : e_GS (codeL L xs) 0 G) (hCk : law_GC L xs kcode Bk G) (hCm : law_GC L xs ecode Bm G) {u : eW} {i : Int} (hR : lwS u) (hi : 0 ≤ i) (hL : i + 5 < L) (hL2 : L ≤ 3072) (hK : ∀ v, lwS v → G (2142, [(3, (0, i)), (0, (1, 362)), (1, (1, 0)), (2, (1, 275))], [], v)) : G (1214, [(3, (0, i)), (0, (1, 362)), (1, (1, 0)), (2, (1, 275))], [], u) := by
  obtain ⟨⟨h0, h3⟩, h7⟩ := hR
  refine e_GS.run hS (t' := (1215, [(3, (0, i)), (0, (1, 362)), (1, (1, 0)), (2, (1, 275))], [(1, 0)], u)) 1 rfl ?_
  refine hCk 212 1 1215 _ _ _ _ _ rfl rfl h0.2.2.1 h0.1 h0.2.1 (L_vB rfl) (ks7_212 (by decide) h0.2.2.2.2.1 (L_kAl h0.1)) (fun r w1 v hq hf1 => ?_)
  obtain ⟨z1, rfl, hF1, e1, s1⟩ := hq
  have g0 := L_k h0 hf1 hF1
  refine e_GS.run hS (t' := (1219, [(3, (0, i)), (0, (1, 362)), (1, (1, 0)), (2, (1, 275))], [], v)) 1 rfl ?_
  refine e_GS.run hS (t' := (1220, [(3, (0, i)), (0, (1, 362)), (1, (1, 0)), (2, (1, 275))], [(1, 275)], v)) 1 rfl ?_
  refine hCm 296 1 1220 _ _ _ _ _ rfl rfl g0.2.2.2.1 g0.1 g0.2.1 (L_vBm rfl) (ms7_296 (by decide) g0.2.2.2.2.2) (fun r w2 v2 hq hf2 => ?_)
  obtain ⟨z2, rfl, hF2, e2, s2⟩ := hq
  have k0 := L_m g0 hf2 hF2.F
  have k3 : lw3 v2 := by
    obtain ⟨p13, p10, p11, o13, o10, o11, q3, q9, q10, r3, r9, r10⟩ := L_nums h0 hf1 hf2
    obtain ⟨y9, y3, y10⟩ := h3
    unfold km3 at e1
    have a13 := h0.1 0 13
    have a10 := h0.1 1 0
    have a11 := h0.1 0 11
    have b3 := h0.1 275 3
    have b9 := h0.1 275 9
    have b10 := h0.1 275 10
    have c9 := L_len h0
    unfold kn1 at a13 a10 a11 b3 b9 b10
    have nf13 : -2147483648 ≤ w1 0 13 ∧ w1 0 13 ≤ 2147483647 := by omega
    have f13 : v 0 13 = w1 0 13 := hf1.val (c := 0) (k := 13) (by unfold Bk; omega) nf13
    have nf10 : -2147483648 ≤ w1 1 0 ∧ w1 1 0 ≤ 2147483647 := by omega
    have f10 : v 1 0 = w1 1 0 := hf1.val (c := 1) (k := 0) (by unfold Bk; omega) nf10
    have nf11 : -2147483648 ≤ w1 0 11 ∧ w1 0 11 ≤ 2147483647 := by omega
    have f11 : v 0 11 = w1 0 11 := hf1.val (c := 0) (k := 11) (by unfold Bk; omega) nf11
    have nt3 : -2147483648 ≤ w2 275 3 ∧ w2 275 3 ≤ 2147483647 := by omega
    have t3 : v2 275 3 = w2 275 3 := hf2.val (c := 275) (k := 3) (by unfold Bm; omega) nt3
    have nt9 : -2147483648 ≤ w2 275 9 ∧ w2 275 9 ≤ 2147483647 := by omega
    have t9 : v2 275 9 = w2 275 9 := hf2.val (c := 275) (k := 9) (by unfold Bm; omega) nt9
    have nt10 : -2147483648 ≤ w2 275 10 ∧ w2 275 10 ≤ 2147483647 := by omega
    have t10 : v2 275 10 = w2 275 10 := hf2.val (c := 275) (k := 10) (by unfold Bm; omega) nt10
    unfold lw3
    omega
  have k7 : lw7 v2 := lw7_same h0 h7 hf1 s1 hf2 s2
  refine e_GS.run hS (t' := (2142, [(3, (0, i)), (0, (1, 362)), (1, (1, 0)), (2, (1, 275))], [], v2)) 2 rfl ?_
  exact hK v2 ⟨⟨k0, k3⟩, k7⟩
end
end
-- part fb11
section
noncomputable section
/-! the law: what each call does -/
theorem law5_arm_23 {L : Nat} {xs : Nat → Int32} {G : eS → Prop} (hS : e_GS (codeL L xs) 0 G) (hCk : law_GC L xs kcode Bk G) (hCm : law_GC L xs ecode Bm G) {u : eW} {i : Int} (hR : lwS u) (hi : 0 ≤ i) (hL : i + 5 < L) (hL2 : L ≤ 3072) (hK : ∀ v, lwS v → G (2142, [(3, (0, i)), (0, (1, 362)), (1, (1, 0)), (2, (1, 275))], [], v)) : G (1227, [(3, (0, i)), (0, (1, 362)), (1, (1, 0)), (2, (1, 275))], [], u) := by
  obtain ⟨⟨h0, h3⟩, h7⟩ := hR
  refine e_GS.run hS (t' := (1228, [(3, (0, i)), (0, (1, 362)), (1, (1, 0)), (2, (1, 275))], [(1, 0)], u)) 1 rfl ?_
  refine L_arg hS (j := 1) rfl rfl rfl rfl rfl rfl rfl hi (by decide) hL hL2 ?_
  refine L_arg hS (j := 2) rfl rfl rfl rfl rfl rfl rfl hi (by decide) hL hL2 ?_
  refine hCk 213 3 1238 _ _ _ _ _ rfl rfl h0.2.2.1 h0.1 h0.2.1 (L_vB rfl) (ks7_213 (by decide) h0.2.2.2.2.1 (L_kAl h0.1) (L_rng _) (L_rng _)) (fun r w1 v hq hf1 => ?_)
  obtain ⟨z1, rfl, hF1, e1, s1⟩ := hq
  have g0 := L_k h0 hf1 hF1
  refine e_GS.run hS (t' := (1242, [(3, (0, i)), (0, (1, 362)), (1, (1, 0)), (2, (1, 275))], [], v)) 1 rfl ?_
  refine e_GS.run hS (t' := (1243, [(3, (0, i)), (0, (1, 362)), (1, (1, 0)), (2, (1, 275))], [(1, 275)], v)) 1 rfl ?_
  refine L_arg hS (j := 1) rfl rfl rfl rfl rfl rfl rfl hi (by decide) hL hL2 ?_
  refine L_arg hS (j := 2) rfl rfl rfl rfl rfl rfl rfl hi (by decide) hL hL2 ?_
  refine hCm 425 3 1253 _ _ _ _ _ rfl rfl g0.2.2.2.1 g0.1 g0.2.1 (L_vBm rfl) (ms7_425 (by decide) g0.2.2.2.2.2 (L_rng _) (L_rng _)) (fun r w2 v2 hq hf2 => ?_)
  obtain ⟨z2, rfl, hF2, e2, s2⟩ := hq
  have k0 := L_m g0 hf2 hF2
  have k3 : lw3 v2 := lw3_same h0 h3 hf1 e1 hf2 e2
  have k7 : lw7 v2 := lw7_same h0 h7 hf1 s1 hf2 s2
  refine e_GS.run hS (t' := (2142, [(3, (0, i)), (0, (1, 362)), (1, (1, 0)), (2, (1, 275))], [], v2)) 2 rfl ?_
  exact hK v2 ⟨⟨k0, k3⟩, k7⟩
theorem law5_arm_24 {L : Nat} {xs : Nat → Int32} {G : eS → Prop} (hS : e_GS (codeL L xs) 0 G) (hCk : law_GC L xs kcode Bk G) (hCm : law_GC L xs ecode Bm G) {u : eW} {i : Int} (hR : lwS u) (hi : 0 ≤ i) (hL : i + 5 < L) (hL2 : L ≤ 3072) (hK : ∀ v, lwS v → G (2142, [(3, (0, i)), (0, (1, 362)), (1, (1, 0)), (2, (1, 275))], [], v)) : G (1260, [(3, (0, i)), (0, (1, 362)), (1, (1, 0)), (2, (1, 275))], [], u) := by
  obtain ⟨⟨h0, h3⟩, h7⟩ := hR
  refine e_GS.run hS (t' := (1261, [(3, (0, i)), (0, (1, 362)), (1, (1, 0)), (2, (1, 275))], [(1, 0)], u)) 1 rfl ?_
  refine L_arg hS (j := 1) rfl rfl rfl rfl rfl rfl rfl hi (by decide) hL hL2 ?_
  refine hCk 214 2 1266 _ _ _ _ _ rfl rfl h0.2.2.1 h0.1 h0.2.1 (L_vB rfl) (ks7_214 (by decide) h0.2.2.2.2.1 (L_kAl h0.1) (L_rng _)) (fun r w1 v hq hf1 => ?_)
  obtain ⟨z1, rfl, hF1, e1, s1⟩ := hq
  have g0 := L_k h0 hf1 hF1
  refine e_GS.run hS (t' := (1270, [(3, (0, i)), (0, (1, 362)), (1, (1, 0)), (2, (1, 275))], [], v)) 1 rfl ?_
  refine e_GS.run hS (t' := (1271, [(3, (0, i)), (0, (1, 362)), (1, (1, 0)), (2, (1, 275))], [(1, 275)], v)) 1 rfl ?_
  refine L_arg hS (j := 1) rfl rfl rfl rfl rfl rfl rfl hi (by decide) hL hL2 ?_
  refine hCm 426 2 1276 _ _ _ _ _ rfl rfl g0.2.2.2.1 g0.1 g0.2.1 (L_vBm rfl) (ms7_426 (by decide) g0.2.2.2.2.2 (L_rng _)) (fun r w2 v2 hq hf2 => ?_)
  obtain ⟨z2, rfl, hF2, e2, s2⟩ := hq
  have k0 := L_m g0 hf2 hF2
  have k3 : lw3 v2 := lw3_same h0 h3 hf1 e1 hf2 e2
  have k7 : lw7 v2 := lw7_same h0 h7 hf1 s1 hf2 s2
  refine e_GS.run hS (t' := (2142, [(3, (0, i)), (0, (1, 362)), (1, (1, 0)), (2, (1, 275))], [], v2)) 2 rfl ?_
  exact hK v2 ⟨⟨k0, k3⟩, k7⟩
theorem law5_arm_25 {L : Nat} {xs : Nat → Int32} {G : eS → Prop} (hS : e_GS (codeL L xs) 0 G) (hCk : law_GC L xs kcode Bk G) (hCm : law_GC L xs ecode Bm G) {u : eW} {i : Int} (hR : lwS u) (hi : 0 ≤ i) (hL : i + 5 < L) (hL2 : L ≤ 3072) (hK : ∀ v, lwS v → G (2142, [(3, (0, i)), (0, (1, 362)), (1, (1, 0)), (2, (1, 275))], [], v)) : G (1283, [(3, (0, i)), (0, (1, 362)), (1, (1, 0)), (2, (1, 275))], [], u) := by
  obtain ⟨⟨h0, h3⟩, h7⟩ := hR
  refine e_GS.run hS (t' := (1284, [(3, (0, i)), (0, (1, 362)), (1, (1, 0)), (2, (1, 275))], [(1, 0)], u)) 1 rfl ?_
  refine L_arg hS (j := 1) rfl rfl rfl rfl rfl rfl rfl hi (by decide) hL hL2 ?_
  refine L_arg hS (j := 2) rfl rfl rfl rfl rfl rfl rfl hi (by decide) hL hL2 ?_
  refine hCk 215 3 1294 _ _ _ _ _ rfl rfl h0.2.2.1 h0.1 h0.2.1 (L_vB rfl) (ks7_215 (by decide) h0.2.2.2.2.1 (L_kAl h0.1) (L_rng _) (L_rng _)) (fun r w1 v hq hf1 => ?_)
  obtain ⟨z1, rfl, hF1, e1, s1⟩ := hq
  have g0 := L_k h0 hf1 hF1
  refine e_GS.run hS (t' := (1298, [(3, (0, i)), (0, (1, 362)), (1, (1, 0)), (2, (1, 275))], [], v)) 1 rfl ?_
  refine e_GS.run hS (t' := (1299, [(3, (0, i)), (0, (1, 362)), (1, (1, 0)), (2, (1, 275))], [(1, 275)], v)) 1 rfl ?_
  refine L_arg hS (j := 1) rfl rfl rfl rfl rfl rfl rfl hi (by decide) hL hL2 ?_
  refine L_arg hS (j := 2) rfl rfl rfl rfl rfl rfl rfl hi (by decide) hL hL2 ?_
  refine hCm 427 3 1309 _ _ _ _ _ rfl rfl g0.2.2.2.1 g0.1 g0.2.1 (L_vBm rfl) (ms7_427 (by decide) g0.2.2.2.2.2 (L_rng _) (L_rng _)) (fun r w2 v2 hq hf2 => ?_)
  obtain ⟨z2, rfl, hF2, e2, s2⟩ := hq
  have k0 := L_m g0 hf2 hF2
  have k3 : lw3 v2 := lw3_same h0 h3 hf1 e1 hf2 e2
  have k7 : lw7 v2 := lw7_same h0 h7 hf1 s1 hf2 s2
  refine e_GS.run hS (t' := (2142, [(3, (0, i)), (0, (1, 362)), (1, (1, 0)), (2, (1, 275))], [], v2)) 2 rfl ?_
  exact hK v2 ⟨⟨k0, k3⟩, k7⟩
theorem law5_arm_26 {L : Nat} {xs : Nat → Int32} {G : eS → Prop} (hS : e_GS (codeL L xs) 0 G) (hCk : law_GC L xs kcode Bk G) (hCm : law_GC L xs ecode Bm G) {u : eW} {i : Int} (hR : lwS u) (hi : 0 ≤ i) (hL : i + 5 < L) (hL2 : L ≤ 3072) (hK : ∀ v, lwS v → G (2142, [(3, (0, i)), (0, (1, 362)), (1, (1, 0)), (2, (1, 275))], [], v)) : G (1316, [(3, (0, i)), (0, (1, 362)), (1, (1, 0)), (2, (1, 275))], [], u) := by
  obtain ⟨⟨h0, h3⟩, h7⟩ := hR
  refine e_GS.run hS (t' := (1317, [(3, (0, i)), (0, (1, 362)), (1, (1, 0)), (2, (1, 275))], [(1, 0)], u)) 1 rfl ?_
  refine L_arg hS (j := 1) rfl rfl rfl rfl rfl rfl rfl hi (by decide) hL hL2 ?_
  refine L_arg hS (j := 2) rfl rfl rfl rfl rfl rfl rfl hi (by decide) hL hL2 ?_
  refine L_arg hS (j := 3) rfl rfl rfl rfl rfl rfl rfl hi (by decide) hL hL2 ?_
  refine L_bool hS rfl rfl rfl rfl ?_
  refine hCk 216 4 1340 _ _ _ _ _ rfl rfl h0.2.2.1 h0.1 h0.2.1 (L_vB rfl) (ks7_216 (by decide) h0.2.2.2.2.1 (L_kAl h0.1) (L_rng _) (L_rng _) (L_b01 _)) (fun r w1 v hq hf1 => ?_)
  obtain ⟨z1, rfl, hF1, e1, s1⟩ := hq
  have g0 := L_k h0 hf1 hF1
  refine e_GS.run hS (t' := (1344, [(3, (0, i)), (0, (1, 362)), (1, (1, 0)), (2, (1, 275))], [], v)) 1 rfl ?_
  refine e_GS.run hS (t' := (1345, [(3, (0, i)), (0, (1, 362)), (1, (1, 0)), (2, (1, 275))], [(1, 275)], v)) 1 rfl ?_
  refine L_arg hS (j := 1) rfl rfl rfl rfl rfl rfl rfl hi (by decide) hL hL2 ?_
  refine L_arg hS (j := 2) rfl rfl rfl rfl rfl rfl rfl hi (by decide) hL hL2 ?_
  refine L_arg hS (j := 3) rfl rfl rfl rfl rfl rfl rfl hi (by decide) hL hL2 ?_
  refine L_bool hS rfl rfl rfl rfl ?_
  refine hCm 428 4 1368 _ _ _ _ _ rfl rfl g0.2.2.2.1 g0.1 g0.2.1 (L_vBm rfl) (ms7_428 (by decide) g0.2.2.2.2.2 (L_rng _) (L_rng _) (L_b32 _) (L_b01 _)) (fun r w2 v2 hq hf2 => ?_)
  obtain ⟨z2, rfl, hF2, e2, s2⟩ := hq
  have k0 := L_m g0 hf2 hF2
  have k3 : lw3 v2 := lw3_same h0 h3 hf1 e1 hf2 e2
  have k7 : lw7 v2 := lw7_same h0 h7 hf1 s1 hf2 s2
  refine e_GS.run hS (t' := (2142, [(3, (0, i)), (0, (1, 362)), (1, (1, 0)), (2, (1, 275))], [], v2)) 2 rfl ?_
  exact hK v2 ⟨⟨k0, k3⟩, k7⟩
end
end
-- part fb12
section
noncomputable section
/-! the law: what each call does -/
theorem law5_arm_27 {L : Nat} {xs : Nat → Int32} {G : eS → Prop} (hS : e_GS (codeL L xs) 0 G) (hCk : law_GC L xs kcode Bk G) (hCm : law_GC L xs ecode Bm G) {u : eW} {i : Int} (hR : lwS u) (hi : 0 ≤ i) (hL : i + 5 < L) (hL2 : L ≤ 3072) (hK : ∀ v, lwS v → G (2142, [(3, (0, i)), (0, (1, 362)), (1, (1, 0)), (2, (1, 275))], [], v)) : G (1375, [(3, (0, i)), (0, (1, 362)), (1, (1, 0)), (2, (1, 275))], [], u) := by
  obtain ⟨⟨h0, h3⟩, h7⟩ := hR
  refine e_GS.run hS (t' := (1376, [(3, (0, i)), (0, (1, 362)), (1, (1, 0)), (2, (1, 275))], [(1, 0)], u)) 1 rfl ?_
  refine L_arg hS (j := 1) rfl rfl rfl rfl rfl rfl rfl hi (by decide) hL hL2 ?_
  refine L_arg hS (j := 2) rfl rfl rfl rfl rfl rfl rfl hi (by decide) hL hL2 ?_
  refine L_bool hS rfl rfl rfl rfl ?_
  refine L_arg hS (j := 3) rfl rfl rfl rfl rfl rfl rfl hi (by decide) hL hL2 ?_
  refine L_bool hS rfl rfl rfl rfl ?_
  refine hCk 217 4 1407 _ _ _ _ _ rfl rfl h0.2.2.1 h0.1 h0.2.1 (L_vB rfl) (ks7_217 (by decide) h0.2.2.2.2.1 (L_kAl h0.1) (L_rng _) (L_b01 _) (L_b01 _)) (fun r w1 v hq hf1 => ?_)
  obtain ⟨z1, rfl, hF1, e1, s1⟩ := hq
  have g0 := L_k h0 hf1 hF1
  refine e_GS.run hS (t' := (1411, [(3, (0, i)), (0, (1, 362)), (1, (1, 0)), (2, (1, 275))], [], v)) 1 rfl ?_
  refine e_GS.run hS (t' := (1412, [(3, (0, i)), (0, (1, 362)), (1, (1, 0)), (2, (1, 275))], [(1, 275)], v)) 1 rfl ?_
  refine L_arg hS (j := 1) rfl rfl rfl rfl rfl rfl rfl hi (by decide) hL hL2 ?_
  refine L_arg hS (j := 2) rfl rfl rfl rfl rfl rfl rfl hi (by decide) hL hL2 ?_
  refine L_bool hS rfl rfl rfl rfl ?_
  refine L_arg hS (j := 3) rfl rfl rfl rfl rfl rfl rfl hi (by decide) hL hL2 ?_
  refine L_bool hS rfl rfl rfl rfl ?_
  refine hCm 429 4 1443 _ _ _ _ _ rfl rfl g0.2.2.2.1 g0.1 g0.2.1 (L_vBm rfl) (ms7_429 (by decide) g0.2.2.2.2.2 (L_rng _) (L_b32 _) (L_b32 _) (L_b01 _) (L_b01 _)) (fun r w2 v2 hq hf2 => ?_)
  obtain ⟨z2, rfl, hF2, e2, s2⟩ := hq
  have k0 := L_m g0 hf2 hF2
  have k3 : lw3 v2 := lw3_same h0 h3 hf1 e1 hf2 e2
  have k7 : lw7 v2 := lw7_same h0 h7 hf1 s1 hf2 s2
  refine e_GS.run hS (t' := (2142, [(3, (0, i)), (0, (1, 362)), (1, (1, 0)), (2, (1, 275))], [], v2)) 2 rfl ?_
  exact hK v2 ⟨⟨k0, k3⟩, k7⟩
theorem law5_arm_28 {L : Nat} {xs : Nat → Int32} {G : eS → Prop} (hS : e_GS (codeL L xs) 0 G) (hCk : law_GC L xs kcode Bk G) (hCm : law_GC L xs ecode Bm G) {u : eW} {i : Int} (hR : lwS u) (hi : 0 ≤ i) (hL : i + 5 < L) (hL2 : L ≤ 3072) (hK : ∀ v, lwS v → G (2142, [(3, (0, i)), (0, (1, 362)), (1, (1, 0)), (2, (1, 275))], [], v)) : G (1450, [(3, (0, i)), (0, (1, 362)), (1, (1, 0)), (2, (1, 275))], [], u) := by
  obtain ⟨⟨h0, h3⟩, h7⟩ := hR
  refine e_GS.run hS (t' := (1451, [(3, (0, i)), (0, (1, 362)), (1, (1, 0)), (2, (1, 275))], [(1, 0)], u)) 1 rfl ?_
  refine L_arg hS (j := 1) rfl rfl rfl rfl rfl rfl rfl hi (by decide) hL hL2 ?_
  refine hCk 218 2 1456 _ _ _ _ _ rfl rfl h0.2.2.1 h0.1 h0.2.1 (L_vB rfl) (ks7_218 (by decide) h0.2.2.2.2.1 (L_kAl h0.1) (L_rng _)) (fun r w1 v hq hf1 => ?_)
  obtain ⟨z1, rfl, hF1, e1, s1⟩ := hq
  have g0 := L_k h0 hf1 hF1
  refine e_GS.run hS (t' := (1460, [(3, (0, i)), (0, (1, 362)), (1, (1, 0)), (2, (1, 275))], [], v)) 1 rfl ?_
  refine e_GS.run hS (t' := (1461, [(3, (0, i)), (0, (1, 362)), (1, (1, 0)), (2, (1, 275))], [(1, 275)], v)) 1 rfl ?_
  refine L_arg hS (j := 1) rfl rfl rfl rfl rfl rfl rfl hi (by decide) hL hL2 ?_
  refine hCm 430 2 1466 _ _ _ _ _ rfl rfl g0.2.2.2.1 g0.1 g0.2.1 (L_vBm rfl) (ms7_430 (by decide) g0.2.2.2.2.2 (L_rng _)) (fun r w2 v2 hq hf2 => ?_)
  obtain ⟨z2, rfl, hF2, e2, s2⟩ := hq
  have k0 := L_m g0 hf2 hF2
  have k3 : lw3 v2 := lw3_same h0 h3 hf1 e1 hf2 e2
  have k7 : lw7 v2 := lw7_same h0 h7 hf1 s1 hf2 s2
  refine e_GS.run hS (t' := (2142, [(3, (0, i)), (0, (1, 362)), (1, (1, 0)), (2, (1, 275))], [], v2)) 2 rfl ?_
  exact hK v2 ⟨⟨k0, k3⟩, k7⟩
theorem law5_arm_29 {L : Nat} {xs : Nat → Int32} {G : eS → Prop} (hS : e_GS (codeL L xs) 0 G) (hCk : law_GC L xs kcode Bk G) (hCm : law_GC L xs ecode Bm G) {u : eW} {i : Int} (hR : lwS u) (hi : 0 ≤ i) (hL : i + 5 < L) (hL2 : L ≤ 3072) (hK : ∀ v, lwS v → G (2142, [(3, (0, i)), (0, (1, 362)), (1, (1, 0)), (2, (1, 275))], [], v)) : G (1473, [(3, (0, i)), (0, (1, 362)), (1, (1, 0)), (2, (1, 275))], [], u) := by
  obtain ⟨⟨h0, h3⟩, h7⟩ := hR
  refine e_GS.run hS (t' := (1474, [(3, (0, i)), (0, (1, 362)), (1, (1, 0)), (2, (1, 275))], [(1, 0)], u)) 1 rfl ?_
  refine L_arg hS (j := 1) rfl rfl rfl rfl rfl rfl rfl hi (by decide) hL hL2 ?_
  refine hCk 219 2 1479 _ _ _ _ _ rfl rfl h0.2.2.1 h0.1 h0.2.1 (L_vB rfl) (ks7_219 (by decide) h0.2.2.2.2.1 (L_kAl h0.1) (L_rng _)) (fun r w1 v hq hf1 => ?_)
  obtain ⟨z1, rfl, hF1, e1, s1⟩ := hq
  have g0 := L_k h0 hf1 hF1
  refine e_GS.run hS (t' := (1483, [(3, (0, i)), (0, (1, 362)), (1, (1, 0)), (2, (1, 275))], [], v)) 1 rfl ?_
  refine e_GS.run hS (t' := (1484, [(3, (0, i)), (0, (1, 362)), (1, (1, 0)), (2, (1, 275))], [(1, 275)], v)) 1 rfl ?_
  refine L_arg hS (j := 1) rfl rfl rfl rfl rfl rfl rfl hi (by decide) hL hL2 ?_
  refine hCm 431 2 1489 _ _ _ _ _ rfl rfl g0.2.2.2.1 g0.1 g0.2.1 (L_vBm rfl) (ms7_431 (by decide) g0.2.2.2.2.2 (L_rng _)) (fun r w2 v2 hq hf2 => ?_)
  obtain ⟨z2, rfl, hF2, e2, s2⟩ := hq
  have k0 := L_m g0 hf2 hF2
  have k3 : lw3 v2 := lw3_same h0 h3 hf1 e1 hf2 e2
  have k7 : lw7 v2 := lw7_same h0 h7 hf1 s1 hf2 s2
  refine e_GS.run hS (t' := (2142, [(3, (0, i)), (0, (1, 362)), (1, (1, 0)), (2, (1, 275))], [], v2)) 2 rfl ?_
  exact hK v2 ⟨⟨k0, k3⟩, k7⟩
theorem law5_arm_30 {L : Nat} {xs : Nat → Int32} {G : eS → Prop} (hS : e_GS (codeL L xs) 0 G) (hCk : law_GC L xs kcode Bk G) (hCm : law_GC L xs ecode Bm G) {u : eW} {i : Int} (hR : lwS u) (hi : 0 ≤ i) (hL : i + 5 < L) (hL2 : L ≤ 3072) (hK : ∀ v, lwS v → G (2142, [(3, (0, i)), (0, (1, 362)), (1, (1, 0)), (2, (1, 275))], [], v)) : G (1496, [(3, (0, i)), (0, (1, 362)), (1, (1, 0)), (2, (1, 275))], [], u) := by
  obtain ⟨⟨h0, h3⟩, h7⟩ := hR
  refine e_GS.run hS (t' := (1497, [(3, (0, i)), (0, (1, 362)), (1, (1, 0)), (2, (1, 275))], [(1, 0)], u)) 1 rfl ?_
  refine L_arg hS (j := 1) rfl rfl rfl rfl rfl rfl rfl hi (by decide) hL hL2 ?_
  refine hCk 220 2 1502 _ _ _ _ _ rfl rfl h0.2.2.1 h0.1 h0.2.1 (L_vB rfl) (ks7_220 (by decide) h0.2.2.2.2.1 (L_kAl h0.1) (L_rng _)) (fun r w1 v hq hf1 => ?_)
  obtain ⟨z1, rfl, hF1, e1, s1⟩ := hq
  have g0 := L_k h0 hf1 hF1
  refine e_GS.run hS (t' := (1506, [(3, (0, i)), (0, (1, 362)), (1, (1, 0)), (2, (1, 275))], [], v)) 1 rfl ?_
  refine e_GS.run hS (t' := (1507, [(3, (0, i)), (0, (1, 362)), (1, (1, 0)), (2, (1, 275))], [(1, 275)], v)) 1 rfl ?_
  refine L_arg hS (j := 1) rfl rfl rfl rfl rfl rfl rfl hi (by decide) hL hL2 ?_
  refine hCm 432 2 1512 _ _ _ _ _ rfl rfl g0.2.2.2.1 g0.1 g0.2.1 (L_vBm rfl) (ms7_432 (by decide) g0.2.2.2.2.2 (L_rng _)) (fun r w2 v2 hq hf2 => ?_)
  obtain ⟨z2, rfl, hF2, e2, s2⟩ := hq
  have k0 := L_m g0 hf2 hF2
  have k3 : lw3 v2 := lw3_same h0 h3 hf1 e1 hf2 e2
  have k7 : lw7 v2 := lw7_same h0 h7 hf1 s1 hf2 s2
  refine e_GS.run hS (t' := (2142, [(3, (0, i)), (0, (1, 362)), (1, (1, 0)), (2, (1, 275))], [], v2)) 2 rfl ?_
  exact hK v2 ⟨⟨k0, k3⟩, k7⟩
end
end
-- part fb13
section
noncomputable section
/-! the law: what each call does -/
theorem law5_arm_31 {L : Nat} {xs : Nat → Int32} {G : eS → Prop} (hS : e_GS (codeL L xs) 0 G) (hCk : law_GC L xs kcode Bk G) (hCm : law_GC L xs ecode Bm G) {u : eW} {i : Int} (hR : lwS u) (hi : 0 ≤ i) (hL : i + 5 < L) (hL2 : L ≤ 3072) (hK : ∀ v, lwS v → G (2142, [(3, (0, i)), (0, (1, 362)), (1, (1, 0)), (2, (1, 275))], [], v)) : G (1519, [(3, (0, i)), (0, (1, 362)), (1, (1, 0)), (2, (1, 275))], [], u) := by
  obtain ⟨⟨h0, h3⟩, h7⟩ := hR
  refine e_GS.run hS (t' := (1520, [(3, (0, i)), (0, (1, 362)), (1, (1, 0)), (2, (1, 275))], [(1, 0)], u)) 1 rfl ?_
  refine L_arg hS (j := 1) rfl rfl rfl rfl rfl rfl rfl hi (by decide) hL hL2 ?_
  refine L_arg hS (j := 2) rfl rfl rfl rfl rfl rfl rfl hi (by decide) hL hL2 ?_
  refine L_arg hS (j := 3) rfl rfl rfl rfl rfl rfl rfl hi (by decide) hL hL2 ?_
  refine hCk 221 4 1535 _ _ _ _ _ rfl rfl h0.2.2.1 h0.1 h0.2.1 (L_vB rfl) (ks7_221 (by decide) h0.2.2.2.2.1 (L_kAl h0.1) (L_rng _) (L_rng _) (L_rng _)) (fun r w1 v hq hf1 => ?_)
  obtain ⟨z1, rfl, hF1, e1, s1⟩ := hq
  have g0 := L_k h0 hf1 hF1
  refine e_GS.run hS (t' := (1539, [(3, (0, i)), (0, (1, 362)), (1, (1, 0)), (2, (1, 275))], [], v)) 1 rfl ?_
  refine e_GS.run hS (t' := (1540, [(3, (0, i)), (0, (1, 362)), (1, (1, 0)), (2, (1, 275))], [(1, 275)], v)) 1 rfl ?_
  refine L_arg hS (j := 1) rfl rfl rfl rfl rfl rfl rfl hi (by decide) hL hL2 ?_
  refine L_arg hS (j := 2) rfl rfl rfl rfl rfl rfl rfl hi (by decide) hL hL2 ?_
  refine L_arg hS (j := 3) rfl rfl rfl rfl rfl rfl rfl hi (by decide) hL hL2 ?_
  refine hCm 433 4 1555 _ _ _ _ _ rfl rfl g0.2.2.2.1 g0.1 g0.2.1 (L_vBm rfl) (ms7_433 (by decide) g0.2.2.2.2.2 (L_rng _) (L_rng _) (L_rng _)) (fun r w2 v2 hq hf2 => ?_)
  obtain ⟨z2, rfl, hF2, e2, s2⟩ := hq
  have k0 := L_m g0 hf2 hF2
  have k3 : lw3 v2 := lw3_same h0 h3 hf1 e1 hf2 e2
  have k7 : lw7 v2 := lw7_same h0 h7 hf1 s1 hf2 s2
  refine e_GS.run hS (t' := (2142, [(3, (0, i)), (0, (1, 362)), (1, (1, 0)), (2, (1, 275))], [], v2)) 2 rfl ?_
  exact hK v2 ⟨⟨k0, k3⟩, k7⟩
theorem law5_arm_32 {L : Nat} {xs : Nat → Int32} {G : eS → Prop} (hS : e_GS (codeL L xs) 0 G) (hCk : law_GC L xs kcode Bk G) (hCm : law_GC L xs ecode Bm G) {u : eW} {i : Int} (hR : lwS u) (hi : 0 ≤ i) (hL : i + 5 < L) (hL2 : L ≤ 3072) (hK : ∀ v, lwS v → G (2142, [(3, (0, i)), (0, (1, 362)), (1, (1, 0)), (2, (1, 275))], [], v)) : G (1562, [(3, (0, i)), (0, (1, 362)), (1, (1, 0)), (2, (1, 275))], [], u) := by
  obtain ⟨⟨h0, h3⟩, h7⟩ := hR
  refine e_GS.run hS (t' := (1563, [(3, (0, i)), (0, (1, 362)), (1, (1, 0)), (2, (1, 275))], [(1, 0)], u)) 1 rfl ?_
  refine L_arg hS (j := 1) rfl rfl rfl rfl rfl rfl rfl hi (by decide) hL hL2 ?_
  refine L_arg hS (j := 2) rfl rfl rfl rfl rfl rfl rfl hi (by decide) hL hL2 ?_
  refine hCk 222 3 1573 _ _ _ _ _ rfl rfl h0.2.2.1 h0.1 h0.2.1 (L_vB rfl) (ks7_222 (by decide) h0.2.2.2.2.1 (L_kAl h0.1) (L_rng _) (L_rng _)) (fun r w1 v hq hf1 => ?_)
  obtain ⟨z1, rfl, hF1, e1, s1⟩ := hq
  have g0 := L_k h0 hf1 hF1
  refine e_GS.run hS (t' := (1577, [(3, (0, i)), (0, (1, 362)), (1, (1, 0)), (2, (1, 275))], [], v)) 1 rfl ?_
  refine e_GS.run hS (t' := (1578, [(3, (0, i)), (0, (1, 362)), (1, (1, 0)), (2, (1, 275))], [(1, 275)], v)) 1 rfl ?_
  refine L_arg hS (j := 1) rfl rfl rfl rfl rfl rfl rfl hi (by decide) hL hL2 ?_
  refine L_arg hS (j := 2) rfl rfl rfl rfl rfl rfl rfl hi (by decide) hL hL2 ?_
  refine hCm 434 3 1588 _ _ _ _ _ rfl rfl g0.2.2.2.1 g0.1 g0.2.1 (L_vBm rfl) (ms7_434 (by decide) g0.2.2.2.2.2 (L_rng _) (L_rng _)) (fun r w2 v2 hq hf2 => ?_)
  obtain ⟨z2, rfl, hF2, e2, s2⟩ := hq
  have k0 := L_m g0 hf2 hF2
  have k3 : lw3 v2 := lw3_same h0 h3 hf1 e1 hf2 e2
  have k7 : lw7 v2 := lw7_same h0 h7 hf1 s1 hf2 s2
  refine e_GS.run hS (t' := (2142, [(3, (0, i)), (0, (1, 362)), (1, (1, 0)), (2, (1, 275))], [], v2)) 2 rfl ?_
  exact hK v2 ⟨⟨k0, k3⟩, k7⟩
theorem law5_arm_33 {L : Nat} {xs : Nat → Int32} {G : eS → Prop} (hS : e_GS (codeL L xs) 0 G) (hCk : law_GC L xs kcode Bk G) (hCm : law_GC L xs ecode Bm G) {u : eW} {i : Int} (hR : lwS u) (hi : 0 ≤ i) (hL : i + 5 < L) (hL2 : L ≤ 3072) (hK : ∀ v, lwS v → G (2142, [(3, (0, i)), (0, (1, 362)), (1, (1, 0)), (2, (1, 275))], [], v)) : G (1595, [(3, (0, i)), (0, (1, 362)), (1, (1, 0)), (2, (1, 275))], [], u) := by
  obtain ⟨⟨h0, h3⟩, h7⟩ := hR
  refine e_GS.run hS (t' := (1596, [(3, (0, i)), (0, (1, 362)), (1, (1, 0)), (2, (1, 275))], [(1, 0)], u)) 1 rfl ?_
  refine L_arg hS (j := 1) rfl rfl rfl rfl rfl rfl rfl hi (by decide) hL hL2 ?_
  refine L_arg hS (j := 2) rfl rfl rfl rfl rfl rfl rfl hi (by decide) hL hL2 ?_
  refine L_arg hS (j := 3) rfl rfl rfl rfl rfl rfl rfl hi (by decide) hL hL2 ?_
  refine hCk 223 4 1611 _ _ _ _ _ rfl rfl h0.2.2.1 h0.1 h0.2.1 (L_vB rfl) (ks7_223 (by decide) h0.2.2.2.2.1 (L_kAl h0.1) (L_rng _) (L_rng _) (L_rng _)) (fun r w1 v hq hf1 => ?_)
  obtain ⟨z1, rfl, hF1, e1, s1⟩ := hq
  have g0 := L_k h0 hf1 hF1
  refine e_GS.run hS (t' := (1615, [(3, (0, i)), (0, (1, 362)), (1, (1, 0)), (2, (1, 275))], [], v)) 1 rfl ?_
  refine e_GS.run hS (t' := (1616, [(3, (0, i)), (0, (1, 362)), (1, (1, 0)), (2, (1, 275))], [(1, 275)], v)) 1 rfl ?_
  refine L_arg hS (j := 1) rfl rfl rfl rfl rfl rfl rfl hi (by decide) hL hL2 ?_
  refine L_arg hS (j := 2) rfl rfl rfl rfl rfl rfl rfl hi (by decide) hL hL2 ?_
  refine L_arg hS (j := 3) rfl rfl rfl rfl rfl rfl rfl hi (by decide) hL hL2 ?_
  refine hCm 418 4 1631 _ _ _ _ _ rfl rfl g0.2.2.2.1 g0.1 g0.2.1 (L_vBm rfl) (ms7_418 (by decide) g0.2.2.2.2.2 (L_rng _) (L_rng _) (L_rng _)) (fun r w2 v2 hq hf2 => ?_)
  obtain ⟨z2, rfl, hF2, e2, s2⟩ := hq
  have k0 := L_m g0 hf2 hF2
  have k3 : lw3 v2 := lw3_same h0 h3 hf1 e1 hf2 e2
  have k7 : lw7 v2 := lw7_same h0 h7 hf1 s1 hf2 s2
  refine e_GS.run hS (t' := (2142, [(3, (0, i)), (0, (1, 362)), (1, (1, 0)), (2, (1, 275))], [], v2)) 2 rfl ?_
  exact hK v2 ⟨⟨k0, k3⟩, k7⟩
theorem law5_arm_34 {L : Nat} {xs : Nat → Int32} {G : eS → Prop} (hS : e_GS (codeL L xs) 0 G) (hCk : law_GC L xs kcode Bk G) (hCm : law_GC L xs ecode Bm G) {u : eW} {i : Int} (hR : lwS u) (hi : 0 ≤ i) (hL : i + 5 < L) (hL2 : L ≤ 3072) (hK : ∀ v, lwS v → G (2142, [(3, (0, i)), (0, (1, 362)), (1, (1, 0)), (2, (1, 275))], [], v)) : G (1638, [(3, (0, i)), (0, (1, 362)), (1, (1, 0)), (2, (1, 275))], [], u) := by
  obtain ⟨⟨h0, h3⟩, h7⟩ := hR
  refine e_GS.run hS (t' := (1639, [(3, (0, i)), (0, (1, 362)), (1, (1, 0)), (2, (1, 275))], [(1, 0)], u)) 1 rfl ?_
  refine L_arg hS (j := 1) rfl rfl rfl rfl rfl rfl rfl hi (by decide) hL hL2 ?_
  refine hCk 224 2 1644 _ _ _ _ _ rfl rfl h0.2.2.1 h0.1 h0.2.1 (L_vB rfl) (ks7_224 (by decide) h0.2.2.2.2.1 (L_kAl h0.1) (L_rng _)) (fun r w1 v hq hf1 => ?_)
  obtain ⟨z1, rfl, hF1, e1, s1⟩ := hq
  have g0 := L_k h0 hf1 hF1
  refine e_GS.run hS (t' := (1648, [(3, (0, i)), (0, (1, 362)), (1, (1, 0)), (2, (1, 275))], [], v)) 1 rfl ?_
  refine e_GS.run hS (t' := (1649, [(3, (0, i)), (0, (1, 362)), (1, (1, 0)), (2, (1, 275))], [(1, 275)], v)) 1 rfl ?_
  refine L_arg hS (j := 1) rfl rfl rfl rfl rfl rfl rfl hi (by decide) hL hL2 ?_
  refine hCm 419 2 1654 _ _ _ _ _ rfl rfl g0.2.2.2.1 g0.1 g0.2.1 (L_vBm rfl) (ms7_419 (by decide) g0.2.2.2.2.2 (L_rng _)) (fun r w2 v2 hq hf2 => ?_)
  obtain ⟨z2, rfl, hF2, e2, s2⟩ := hq
  have k0 := L_m g0 hf2 hF2
  have k3 : lw3 v2 := lw3_same h0 h3 hf1 e1 hf2 e2
  have k7 : lw7 v2 := lw7_same h0 h7 hf1 s1 hf2 s2
  refine e_GS.run hS (t' := (2142, [(3, (0, i)), (0, (1, 362)), (1, (1, 0)), (2, (1, 275))], [], v2)) 2 rfl ?_
  exact hK v2 ⟨⟨k0, k3⟩, k7⟩
end
end
-- part fb14
section
noncomputable section
/-! the law: what each call does -/
theorem law5_arm_35 {L : Nat} {xs : Nat → Int32} {G : eS → Prop} (hS : e_GS (codeL L xs) 0 G) (hCk : law_GC L xs kcode Bk G) (hCm : law_GC L xs ecode Bm G) {u : eW} {i : Int} (hR : lwS u) (hi : 0 ≤ i) (hL : i + 5 < L) (hL2 : L ≤ 3072) (hK : ∀ v, lwS v → G (2142, [(3, (0, i)), (0, (1, 362)), (1, (1, 0)), (2, (1, 275))], [], v)) : G (1661, [(3, (0, i)), (0, (1, 362)), (1, (1, 0)), (2, (1, 275))], [], u) := by
  obtain ⟨⟨h0, h3⟩, h7⟩ := hR
  refine e_GS.run hS (t' := (1662, [(3, (0, i)), (0, (1, 362)), (1, (1, 0)), (2, (1, 275))], [(1, 0)], u)) 1 rfl ?_
  refine L_arg hS (j := 1) rfl rfl rfl rfl rfl rfl rfl hi (by decide) hL hL2 ?_
  refine hCk 225 2 1667 _ _ _ _ _ rfl rfl h0.2.2.1 h0.1 h0.2.1 (L_vB rfl) (ks7_225 (by decide) h0.2.2.2.2.1 (L_kAl h0.1) (L_rng _)) (fun r w1 v hq hf1 => ?_)
  obtain ⟨z1, rfl, hF1, e1, s1⟩ := hq
  have g0 := L_k h0 hf1 hF1
  refine e_GS.run hS (t' := (1671, [(3, (0, i)), (0, (1, 362)), (1, (1, 0)), (2, (1, 275))], [], v)) 1 rfl ?_
  refine e_GS.run hS (t' := (1672, [(3, (0, i)), (0, (1, 362)), (1, (1, 0)), (2, (1, 275))], [(1, 275)], v)) 1 rfl ?_
  refine L_arg hS (j := 1) rfl rfl rfl rfl rfl rfl rfl hi (by decide) hL hL2 ?_
  refine hCm 436 2 1677 _ _ _ _ _ rfl rfl g0.2.2.2.1 g0.1 g0.2.1 (L_vBm rfl) (ms7_436 (by decide) g0.2.2.2.2.2 (L_rng _)) (fun r w2 v2 hq hf2 => ?_)
  obtain ⟨z2, rfl, hF2, e2, s2⟩ := hq
  have k0 := L_m g0 hf2 hF2
  have k3 : lw3 v2 := lw3_same h0 h3 hf1 e1 hf2 e2
  have k7 : lw7 v2 := lw7_same h0 h7 hf1 s1 hf2 s2
  refine e_GS.run hS (t' := (2142, [(3, (0, i)), (0, (1, 362)), (1, (1, 0)), (2, (1, 275))], [], v2)) 2 rfl ?_
  exact hK v2 ⟨⟨k0, k3⟩, k7⟩
theorem law5_arm_36 {L : Nat} {xs : Nat → Int32} {G : eS → Prop} (hS : e_GS (codeL L xs) 0 G) (hCk : law_GC L xs kcode Bk G) (hCm : law_GC L xs ecode Bm G) {u : eW} {i : Int} (hR : lwS u) (hi : 0 ≤ i) (hL : i + 5 < L) (hL2 : L ≤ 3072) (hK : ∀ v, lwS v → G (2142, [(3, (0, i)), (0, (1, 362)), (1, (1, 0)), (2, (1, 275))], [], v)) : G (1684, [(3, (0, i)), (0, (1, 362)), (1, (1, 0)), (2, (1, 275))], [], u) := by
  obtain ⟨⟨h0, h3⟩, h7⟩ := hR
  refine e_GS.run hS (t' := (1685, [(3, (0, i)), (0, (1, 362)), (1, (1, 0)), (2, (1, 275))], [(1, 0)], u)) 1 rfl ?_
  refine hCk 226 1 1685 _ _ _ _ _ rfl rfl h0.2.2.1 h0.1 h0.2.1 (L_vB rfl) (ks7_226 (by decide) h0.2.2.2.2.1 (L_kAl h0.1)) (fun r w1 v hq hf1 => ?_)
  obtain ⟨z1, rfl, hF1, e1, s1⟩ := hq
  have g0 := L_k h0 hf1 hF1
  refine e_GS.run hS (t' := (1689, [(3, (0, i)), (0, (1, 362)), (1, (1, 0)), (2, (1, 275))], [], v)) 1 rfl ?_
  refine e_GS.run hS (t' := (1690, [(3, (0, i)), (0, (1, 362)), (1, (1, 0)), (2, (1, 275))], [(1, 275)], v)) 1 rfl ?_
  refine hCm 437 1 1690 _ _ _ _ _ rfl rfl g0.2.2.2.1 g0.1 g0.2.1 (L_vBm rfl) (ms7_437 (by decide) g0.2.2.2.2.2) (fun r w2 v2 hq hf2 => ?_)
  obtain ⟨z2, rfl, hF2, e2, s2⟩ := hq
  have k0 := L_m g0 hf2 hF2.F
  have k3 : lw3 v2 := lw3_same h0 h3 hf1 e1 hf2 e2
  have k7 : lw7 v2 := lw7_same h0 h7 hf1 s1 hf2 s2
  refine e_GS.run hS (t' := (2142, [(3, (0, i)), (0, (1, 362)), (1, (1, 0)), (2, (1, 275))], [], v2)) 2 rfl ?_
  exact hK v2 ⟨⟨k0, k3⟩, k7⟩
theorem law5_arm_37 {L : Nat} {xs : Nat → Int32} {G : eS → Prop} (hS : e_GS (codeL L xs) 0 G) (hCk : law_GC L xs kcode Bk G) (hCm : law_GC L xs ecode Bm G) {u : eW} {i : Int} (hR : lwS u) (hi : 0 ≤ i) (hL : i + 5 < L) (hL2 : L ≤ 3072) (hK : ∀ v, lwS v → G (2142, [(3, (0, i)), (0, (1, 362)), (1, (1, 0)), (2, (1, 275))], [], v)) : G (1697, [(3, (0, i)), (0, (1, 362)), (1, (1, 0)), (2, (1, 275))], [], u) := by
  obtain ⟨⟨h0, h3⟩, h7⟩ := hR
  refine e_GS.run hS (t' := (1698, [(3, (0, i)), (0, (1, 362)), (1, (1, 0)), (2, (1, 275))], [(1, 0)], u)) 1 rfl ?_
  refine L_arg hS (j := 1) rfl rfl rfl rfl rfl rfl rfl hi (by decide) hL hL2 ?_
  refine L_arg hS (j := 2) rfl rfl rfl rfl rfl rfl rfl hi (by decide) hL hL2 ?_
  refine hCk 227 3 1708 _ _ _ _ _ rfl rfl h0.2.2.1 h0.1 h0.2.1 (L_vB rfl) (ks7_227 (by decide) h0.2.2.2.2.1 (L_kAl h0.1) (L_rng _) (L_rng _)) (fun r w1 v hq hf1 => ?_)
  obtain ⟨z1, rfl, hF1, e1, s1⟩ := hq
  have g0 := L_k h0 hf1 hF1
  refine e_GS.run hS (t' := (1712, [(3, (0, i)), (0, (1, 362)), (1, (1, 0)), (2, (1, 275))], [], v)) 1 rfl ?_
  refine e_GS.run hS (t' := (1713, [(3, (0, i)), (0, (1, 362)), (1, (1, 0)), (2, (1, 275))], [(1, 275)], v)) 1 rfl ?_
  refine L_arg hS (j := 1) rfl rfl rfl rfl rfl rfl rfl hi (by decide) hL hL2 ?_
  refine L_arg hS (j := 2) rfl rfl rfl rfl rfl rfl rfl hi (by decide) hL hL2 ?_
  refine hCm 438 3 1723 _ _ _ _ _ rfl rfl g0.2.2.2.1 g0.1 g0.2.1 (L_vBm rfl) (ms7_438 (by decide) g0.2.2.2.2.2 (L_rng _) (L_rng _)) (fun r w2 v2 hq hf2 => ?_)
  obtain ⟨z2, rfl, hF2, e2, s2⟩ := hq
  have k0 := L_m g0 hf2 hF2.F
  have k3 : lw3 v2 := lw3_same h0 h3 hf1 e1 hf2 e2
  have k7 : lw7 v2 := lw7_same h0 h7 hf1 s1 hf2 s2
  refine e_GS.run hS (t' := (2142, [(3, (0, i)), (0, (1, 362)), (1, (1, 0)), (2, (1, 275))], [], v2)) 2 rfl ?_
  exact hK v2 ⟨⟨k0, k3⟩, k7⟩
theorem law5_arm_38 {L : Nat} {xs : Nat → Int32} {G : eS → Prop} (hS : e_GS (codeL L xs) 0 G) (hCk : law_GC L xs kcode Bk G) (hCm : law_GC L xs ecode Bm G) {u : eW} {i : Int} (hR : lwS u) (hi : 0 ≤ i) (hL : i + 5 < L) (hL2 : L ≤ 3072) (hK : ∀ v, lwS v → G (2142, [(3, (0, i)), (0, (1, 362)), (1, (1, 0)), (2, (1, 275))], [], v)) : G (1730, [(3, (0, i)), (0, (1, 362)), (1, (1, 0)), (2, (1, 275))], [], u) := by
  obtain ⟨⟨h0, h3⟩, h7⟩ := hR
  refine e_GS.run hS (t' := (1731, [(3, (0, i)), (0, (1, 362)), (1, (1, 0)), (2, (1, 275))], [(1, 0)], u)) 1 rfl ?_
  refine L_arg hS (j := 1) rfl rfl rfl rfl rfl rfl rfl hi (by decide) hL hL2 ?_
  refine L_arg hS (j := 2) rfl rfl rfl rfl rfl rfl rfl hi (by decide) hL hL2 ?_
  refine hCk 228 3 1741 _ _ _ _ _ rfl rfl h0.2.2.1 h0.1 h0.2.1 (L_vB rfl) (ks7_228 (by decide) h0.2.2.2.2.1 (L_kAl h0.1) (L_rng _) (L_rng _)) (fun r w1 v hq hf1 => ?_)
  obtain ⟨z1, rfl, hF1, e1, s1⟩ := hq
  have g0 := L_k h0 hf1 hF1
  refine e_GS.run hS (t' := (1745, [(3, (0, i)), (0, (1, 362)), (1, (1, 0)), (2, (1, 275))], [], v)) 1 rfl ?_
  refine e_GS.run hS (t' := (1746, [(3, (0, i)), (0, (1, 362)), (1, (1, 0)), (2, (1, 275))], [(1, 275)], v)) 1 rfl ?_
  refine L_arg hS (j := 1) rfl rfl rfl rfl rfl rfl rfl hi (by decide) hL hL2 ?_
  refine L_arg hS (j := 2) rfl rfl rfl rfl rfl rfl rfl hi (by decide) hL hL2 ?_
  refine hCm 439 3 1756 _ _ _ _ _ rfl rfl g0.2.2.2.1 g0.1 g0.2.1 (L_vBm rfl) (ms7_439 (by decide) g0.2.2.2.2.2 (L_rng _) (L_rng _)) (fun r w2 v2 hq hf2 => ?_)
  obtain ⟨z2, rfl, hF2, e2, s2⟩ := hq
  have k0 := L_m g0 hf2 hF2.F
  have k3 : lw3 v2 := lw3_same h0 h3 hf1 e1 hf2 e2
  have k7 : lw7 v2 := lw7_same h0 h7 hf1 s1 hf2 s2
  refine e_GS.run hS (t' := (2142, [(3, (0, i)), (0, (1, 362)), (1, (1, 0)), (2, (1, 275))], [], v2)) 2 rfl ?_
  exact hK v2 ⟨⟨k0, k3⟩, k7⟩
end
end
-- part fb15
section
noncomputable section
/-! the law: what each call does -/
theorem law5_arm_39 {L : Nat} {xs : Nat → Int32} {G : eS → Prop} (hS : e_GS (codeL L xs) 0 G) (hCk : law_GC L xs kcode Bk G) (hCm : law_GC L xs ecode Bm G) {u : eW} {i : Int} (hR : lwS u) (hi : 0 ≤ i) (hL : i + 5 < L) (hL2 : L ≤ 3072) (hK : ∀ v, lwS v → G (2142, [(3, (0, i)), (0, (1, 362)), (1, (1, 0)), (2, (1, 275))], [], v)) : G (1763, [(3, (0, i)), (0, (1, 362)), (1, (1, 0)), (2, (1, 275))], [], u) := by
  obtain ⟨⟨h0, h3⟩, h7⟩ := hR
  refine e_GS.run hS (t' := (1764, [(3, (0, i)), (0, (1, 362)), (1, (1, 0)), (2, (1, 275))], [(1, 0)], u)) 1 rfl ?_
  refine L_arg hS (j := 1) rfl rfl rfl rfl rfl rfl rfl hi (by decide) hL hL2 ?_
  refine L_arg hS (j := 2) rfl rfl rfl rfl rfl rfl rfl hi (by decide) hL hL2 ?_
  refine L_arg hS (j := 3) rfl rfl rfl rfl rfl rfl rfl hi (by decide) hL hL2 ?_
  refine hCk 229 4 1779 _ _ _ _ _ rfl rfl h0.2.2.1 h0.1 h0.2.1 (L_vB rfl) (ks7_229 (by decide) h0.2.2.2.2.1 (L_kAl h0.1) (L_rng _) (L_rng _) (L_rng _)) (fun r w1 v hq hf1 => ?_)
  obtain ⟨z1, rfl, hF1, e1, s1⟩ := hq
  have g0 := L_k h0 hf1 hF1
  refine e_GS.run hS (t' := (1783, [(3, (0, i)), (0, (1, 362)), (1, (1, 0)), (2, (1, 275))], [], v)) 1 rfl ?_
  refine e_GS.run hS (t' := (1784, [(3, (0, i)), (0, (1, 362)), (1, (1, 0)), (2, (1, 275))], [(1, 275)], v)) 1 rfl ?_
  refine L_arg hS (j := 1) rfl rfl rfl rfl rfl rfl rfl hi (by decide) hL hL2 ?_
  refine L_arg hS (j := 2) rfl rfl rfl rfl rfl rfl rfl hi (by decide) hL hL2 ?_
  refine L_arg hS (j := 3) rfl rfl rfl rfl rfl rfl rfl hi (by decide) hL hL2 ?_
  refine hCm 440 4 1799 _ _ _ _ _ rfl rfl g0.2.2.2.1 g0.1 g0.2.1 (L_vBm rfl) (ms7_440 (by decide) g0.2.2.2.2.2 (L_rng _) (L_rng _) (L_rng _)) (fun r w2 v2 hq hf2 => ?_)
  obtain ⟨z2, rfl, hF2, e2, s2⟩ := hq
  have k0 := L_m g0 hf2 hF2.F
  have k3 : lw3 v2 := lw3_same h0 h3 hf1 e1 hf2 e2
  have k7 : lw7 v2 := lw7_same h0 h7 hf1 s1 hf2 s2
  refine e_GS.run hS (t' := (2142, [(3, (0, i)), (0, (1, 362)), (1, (1, 0)), (2, (1, 275))], [], v2)) 2 rfl ?_
  exact hK v2 ⟨⟨k0, k3⟩, k7⟩
theorem law5_arm_40 {L : Nat} {xs : Nat → Int32} {G : eS → Prop} (hS : e_GS (codeL L xs) 0 G) (hCk : law_GC L xs kcode Bk G) (hCm : law_GC L xs ecode Bm G) {u : eW} {i : Int} (hR : lwS u) (hi : 0 ≤ i) (hL : i + 5 < L) (hL2 : L ≤ 3072) (hK : ∀ v, lwS v → G (2142, [(3, (0, i)), (0, (1, 362)), (1, (1, 0)), (2, (1, 275))], [], v)) : G (1806, [(3, (0, i)), (0, (1, 362)), (1, (1, 0)), (2, (1, 275))], [], u) := by
  obtain ⟨⟨h0, h3⟩, h7⟩ := hR
  refine e_GS.run hS (t' := (1807, [(3, (0, i)), (0, (1, 362)), (1, (1, 0)), (2, (1, 275))], [(1, 0)], u)) 1 rfl ?_
  refine L_arg hS (j := 1) rfl rfl rfl rfl rfl rfl rfl hi (by decide) hL hL2 ?_
  refine L_arg hS (j := 2) rfl rfl rfl rfl rfl rfl rfl hi (by decide) hL hL2 ?_
  refine hCk 230 3 1817 _ _ _ _ _ rfl rfl h0.2.2.1 h0.1 h0.2.1 (L_vB rfl) (ks7_230 (by decide) h0.2.2.2.2.1 (L_kAl h0.1) (L_rng _) (L_rng _)) (fun r w1 v hq hf1 => ?_)
  obtain ⟨z1, rfl, hF1, e1, s1⟩ := hq
  have g0 := L_k h0 hf1 hF1
  refine e_GS.run hS (t' := (1821, [(3, (0, i)), (0, (1, 362)), (1, (1, 0)), (2, (1, 275))], [], v)) 1 rfl ?_
  refine e_GS.run hS (t' := (1822, [(3, (0, i)), (0, (1, 362)), (1, (1, 0)), (2, (1, 275))], [(1, 275)], v)) 1 rfl ?_
  refine L_arg hS (j := 1) rfl rfl rfl rfl rfl rfl rfl hi (by decide) hL hL2 ?_
  refine L_arg hS (j := 2) rfl rfl rfl rfl rfl rfl rfl hi (by decide) hL hL2 ?_
  refine hCm 441 3 1832 _ _ _ _ _ rfl rfl g0.2.2.2.1 g0.1 g0.2.1 (L_vBm rfl) (ms7_441 (by decide) g0.2.2.2.2.2 (L_rng _) (L_rng _)) (fun r w2 v2 hq hf2 => ?_)
  obtain ⟨z2, rfl, hF2, e2, s2⟩ := hq
  have k0 := L_m g0 hf2 hF2.F
  have k3 : lw3 v2 := lw3_same h0 h3 hf1 e1 hf2 e2
  have k7 : lw7 v2 := lw7_same h0 h7 hf1 s1 hf2 s2
  refine e_GS.run hS (t' := (2142, [(3, (0, i)), (0, (1, 362)), (1, (1, 0)), (2, (1, 275))], [], v2)) 2 rfl ?_
  exact hK v2 ⟨⟨k0, k3⟩, k7⟩
theorem law5_arm_41 {L : Nat} {xs : Nat → Int32} {G : eS → Prop} (hS : e_GS (codeL L xs) 0 G) (hCk : law_GC L xs kcode Bk G) (hCm : law_GC L xs ecode Bm G) {u : eW} {i : Int} (hR : lwS u) (hi : 0 ≤ i) (hL : i + 5 < L) (hL2 : L ≤ 3072) (hK : ∀ v, lwS v → G (2142, [(3, (0, i)), (0, (1, 362)), (1, (1, 0)), (2, (1, 275))], [], v)) : G (1839, [(3, (0, i)), (0, (1, 362)), (1, (1, 0)), (2, (1, 275))], [], u) := by
  obtain ⟨⟨h0, h3⟩, h7⟩ := hR
  refine e_GS.run hS (t' := (1840, [(3, (0, i)), (0, (1, 362)), (1, (1, 0)), (2, (1, 275))], [(1, 0)], u)) 1 rfl ?_
  refine L_arg hS (j := 1) rfl rfl rfl rfl rfl rfl rfl hi (by decide) hL hL2 ?_
  refine L_arg hS (j := 2) rfl rfl rfl rfl rfl rfl rfl hi (by decide) hL hL2 ?_
  refine hCk 231 3 1850 _ _ _ _ _ rfl rfl h0.2.2.1 h0.1 h0.2.1 (L_vB rfl) (ks7_231 (by decide) h0.2.2.2.2.1 (L_kAl h0.1) (L_rng _) (L_rng _)) (fun r w1 v hq hf1 => ?_)
  obtain ⟨z1, rfl, hF1, e1, s1⟩ := hq
  have g0 := L_k h0 hf1 hF1
  refine e_GS.run hS (t' := (1854, [(3, (0, i)), (0, (1, 362)), (1, (1, 0)), (2, (1, 275))], [], v)) 1 rfl ?_
  refine e_GS.run hS (t' := (1855, [(3, (0, i)), (0, (1, 362)), (1, (1, 0)), (2, (1, 275))], [(1, 275)], v)) 1 rfl ?_
  refine L_arg hS (j := 1) rfl rfl rfl rfl rfl rfl rfl hi (by decide) hL hL2 ?_
  refine L_arg hS (j := 2) rfl rfl rfl rfl rfl rfl rfl hi (by decide) hL hL2 ?_
  refine hCm 442 3 1865 _ _ _ _ _ rfl rfl g0.2.2.2.1 g0.1 g0.2.1 (L_vBm rfl) (ms7_442 (by decide) g0.2.2.2.2.2 (L_rng _) (L_rng _)) (fun r w2 v2 hq hf2 => ?_)
  obtain ⟨z2, rfl, hF2, e2, s2⟩ := hq
  have k0 := L_m g0 hf2 hF2.F
  have k3 : lw3 v2 := lw3_same h0 h3 hf1 e1 hf2 e2
  have k7 : lw7 v2 := lw7_same h0 h7 hf1 s1 hf2 s2
  refine e_GS.run hS (t' := (2142, [(3, (0, i)), (0, (1, 362)), (1, (1, 0)), (2, (1, 275))], [], v2)) 2 rfl ?_
  exact hK v2 ⟨⟨k0, k3⟩, k7⟩
theorem law5_arm_42 {L : Nat} {xs : Nat → Int32} {G : eS → Prop} (hS : e_GS (codeL L xs) 0 G) (hCk : law_GC L xs kcode Bk G) (hCm : law_GC L xs ecode Bm G) {u : eW} {i : Int} (hR : lwS u) (hi : 0 ≤ i) (hL : i + 5 < L) (hL2 : L ≤ 3072) (hK : ∀ v, lwS v → G (2142, [(3, (0, i)), (0, (1, 362)), (1, (1, 0)), (2, (1, 275))], [], v)) : G (1872, [(3, (0, i)), (0, (1, 362)), (1, (1, 0)), (2, (1, 275))], [], u) := by
  obtain ⟨⟨h0, h3⟩, h7⟩ := hR
  refine e_GS.run hS (t' := (1873, [(3, (0, i)), (0, (1, 362)), (1, (1, 0)), (2, (1, 275))], [(1, 0)], u)) 1 rfl ?_
  refine L_arg hS (j := 1) rfl rfl rfl rfl rfl rfl rfl hi (by decide) hL hL2 ?_
  refine L_arg hS (j := 2) rfl rfl rfl rfl rfl rfl rfl hi (by decide) hL hL2 ?_
  refine hCk 232 3 1883 _ _ _ _ _ rfl rfl h0.2.2.1 h0.1 h0.2.1 (L_vB rfl) (ks7_232 (by decide) h0.2.2.2.2.1 (L_kAl h0.1) (L_rng _) (L_rng _)) (fun r w1 v hq hf1 => ?_)
  obtain ⟨z1, rfl, hF1, e1, s1⟩ := hq
  have g0 := L_k h0 hf1 hF1
  refine e_GS.run hS (t' := (1887, [(3, (0, i)), (0, (1, 362)), (1, (1, 0)), (2, (1, 275))], [], v)) 1 rfl ?_
  refine e_GS.run hS (t' := (1888, [(3, (0, i)), (0, (1, 362)), (1, (1, 0)), (2, (1, 275))], [(1, 275)], v)) 1 rfl ?_
  refine L_arg hS (j := 1) rfl rfl rfl rfl rfl rfl rfl hi (by decide) hL hL2 ?_
  refine L_arg hS (j := 2) rfl rfl rfl rfl rfl rfl rfl hi (by decide) hL hL2 ?_
  refine hCm 443 3 1898 _ _ _ _ _ rfl rfl g0.2.2.2.1 g0.1 g0.2.1 (L_vBm rfl) (ms7_443 (by decide) g0.2.2.2.2.2 (L_rng _) (L_rng _)) (fun r w2 v2 hq hf2 => ?_)
  obtain ⟨z2, rfl, hF2, e2, s2⟩ := hq
  have k0 := L_m g0 hf2 hF2.F
  have k3 : lw3 v2 := lw3_same h0 h3 hf1 e1 hf2 e2
  have k7 : lw7 v2 := lw7_same h0 h7 hf1 s1 hf2 s2
  refine e_GS.run hS (t' := (2142, [(3, (0, i)), (0, (1, 362)), (1, (1, 0)), (2, (1, 275))], [], v2)) 2 rfl ?_
  exact hK v2 ⟨⟨k0, k3⟩, k7⟩
end
end
-- part fb16
section
noncomputable section
/-! the law: what each call does -/
theorem law5_arm_43 {L : Nat} {xs : Nat → Int32} {G : eS → Prop} (hS : e_GS (codeL L xs) 0 G) (hCk : law_GC L xs kcode Bk G) (hCm : law_GC L xs ecode Bm G) {u : eW} {i : Int} (hR : lwS u) (hi : 0 ≤ i) (hL : i + 5 < L) (hL2 : L ≤ 3072) (hK : ∀ v, lwS v → G (2142, [(3, (0, i)), (0, (1, 362)), (1, (1, 0)), (2, (1, 275))], [], v)) : G (1905, [(3, (0, i)), (0, (1, 362)), (1, (1, 0)), (2, (1, 275))], [], u) := by
  obtain ⟨⟨h0, h3⟩, h7⟩ := hR
  refine e_GS.run hS (t' := (1906, [(3, (0, i)), (0, (1, 362)), (1, (1, 0)), (2, (1, 275))], [(1, 0)], u)) 1 rfl ?_
  refine L_arg hS (j := 1) rfl rfl rfl rfl rfl rfl rfl hi (by decide) hL hL2 ?_
  refine L_arg hS (j := 2) rfl rfl rfl rfl rfl rfl rfl hi (by decide) hL hL2 ?_
  refine hCk 233 3 1916 _ _ _ _ _ rfl rfl h0.2.2.1 h0.1 h0.2.1 (L_vB rfl) (ks7_233 (by decide) h0.2.2.2.2.1 (L_kAl h0.1) (L_rng _) (L_rng _)) (fun r w1 v hq hf1 => ?_)
  obtain ⟨z1, rfl, hF1, e1, s1⟩ := hq
  have g0 := L_k h0 hf1 hF1
  refine e_GS.run hS (t' := (1920, [(3, (0, i)), (0, (1, 362)), (1, (1, 0)), (2, (1, 275))], [], v)) 1 rfl ?_
  refine e_GS.run hS (t' := (1921, [(3, (0, i)), (0, (1, 362)), (1, (1, 0)), (2, (1, 275))], [(1, 275)], v)) 1 rfl ?_
  refine L_arg hS (j := 1) rfl rfl rfl rfl rfl rfl rfl hi (by decide) hL hL2 ?_
  refine L_arg hS (j := 2) rfl rfl rfl rfl rfl rfl rfl hi (by decide) hL hL2 ?_
  refine hCm 444 3 1931 _ _ _ _ _ rfl rfl g0.2.2.2.1 g0.1 g0.2.1 (L_vBm rfl) (ms7_444 (by decide) g0.2.2.2.2.2 (L_rng _) (L_rng _)) (fun r w2 v2 hq hf2 => ?_)
  obtain ⟨z2, rfl, hF2, e2, s2⟩ := hq
  have k0 := L_m g0 hf2 hF2.F
  have k3 : lw3 v2 := lw3_same h0 h3 hf1 e1 hf2 e2
  have k7 : lw7 v2 := lw7_same h0 h7 hf1 s1 hf2 s2
  refine e_GS.run hS (t' := (2142, [(3, (0, i)), (0, (1, 362)), (1, (1, 0)), (2, (1, 275))], [], v2)) 2 rfl ?_
  exact hK v2 ⟨⟨k0, k3⟩, k7⟩
theorem law5_arm_44 {L : Nat} {xs : Nat → Int32} {G : eS → Prop} (hS : e_GS (codeL L xs) 0 G) (hCk : law_GC L xs kcode Bk G) (hCm : law_GC L xs ecode Bm G) {u : eW} {i : Int} (hR : lwS u) (hi : 0 ≤ i) (hL : i + 5 < L) (hL2 : L ≤ 3072) (hK : ∀ v, lwS v → G (2142, [(3, (0, i)), (0, (1, 362)), (1, (1, 0)), (2, (1, 275))], [], v)) : G (1938, [(3, (0, i)), (0, (1, 362)), (1, (1, 0)), (2, (1, 275))], [], u) := by
  obtain ⟨⟨h0, h3⟩, h7⟩ := hR
  refine e_GS.run hS (t' := (1939, [(3, (0, i)), (0, (1, 362)), (1, (1, 0)), (2, (1, 275))], [(1, 0)], u)) 1 rfl ?_
  refine L_arg hS (j := 1) rfl rfl rfl rfl rfl rfl rfl hi (by decide) hL hL2 ?_
  refine hCk 234 2 1944 _ _ _ _ _ rfl rfl h0.2.2.1 h0.1 h0.2.1 (L_vB rfl) (ks7_234 (by decide) h0.2.2.2.2.1 (L_kAl h0.1) (L_rng _)) (fun r w1 v hq hf1 => ?_)
  obtain ⟨z1, rfl, hF1, e1, s1⟩ := hq
  have g0 := L_k h0 hf1 hF1
  refine e_GS.run hS (t' := (1948, [(3, (0, i)), (0, (1, 362)), (1, (1, 0)), (2, (1, 275))], [], v)) 1 rfl ?_
  refine e_GS.run hS (t' := (1949, [(3, (0, i)), (0, (1, 362)), (1, (1, 0)), (2, (1, 275))], [(1, 275)], v)) 1 rfl ?_
  refine L_arg hS (j := 1) rfl rfl rfl rfl rfl rfl rfl hi (by decide) hL hL2 ?_
  refine hCm 445 2 1954 _ _ _ _ _ rfl rfl g0.2.2.2.1 g0.1 g0.2.1 (L_vBm rfl) (ms7_445 (by decide) g0.2.2.2.2.2 (L_rng _)) (fun r w2 v2 hq hf2 => ?_)
  obtain ⟨z2, rfl, hF2, e2, s2⟩ := hq
  have k0 := L_m g0 hf2 hF2.F
  have k3 : lw3 v2 := lw3_same h0 h3 hf1 e1 hf2 e2
  have k7 : lw7 v2 := lw7_same h0 h7 hf1 s1 hf2 s2
  refine e_GS.run hS (t' := (2142, [(3, (0, i)), (0, (1, 362)), (1, (1, 0)), (2, (1, 275))], [], v2)) 2 rfl ?_
  exact hK v2 ⟨⟨k0, k3⟩, k7⟩
theorem law5_arm_45 {L : Nat} {xs : Nat → Int32} {G : eS → Prop} (hS : e_GS (codeL L xs) 0 G) (hCk : law_GC L xs kcode Bk G) (hCm : law_GC L xs ecode Bm G) {u : eW} {i : Int} (hR : lwS u) (hi : 0 ≤ i) (hL : i + 5 < L) (hL2 : L ≤ 3072) (hK : ∀ v, lwS v → G (2142, [(3, (0, i)), (0, (1, 362)), (1, (1, 0)), (2, (1, 275))], [], v)) : G (1961, [(3, (0, i)), (0, (1, 362)), (1, (1, 0)), (2, (1, 275))], [], u) := by
  obtain ⟨⟨h0, h3⟩, h7⟩ := hR
  refine e_GS.run hS (t' := (1962, [(3, (0, i)), (0, (1, 362)), (1, (1, 0)), (2, (1, 275))], [(1, 0)], u)) 1 rfl ?_
  refine L_arg hS (j := 1) rfl rfl rfl rfl rfl rfl rfl hi (by decide) hL hL2 ?_
  refine L_arg hS (j := 2) rfl rfl rfl rfl rfl rfl rfl hi (by decide) hL hL2 ?_
  refine hCk 235 3 1972 _ _ _ _ _ rfl rfl h0.2.2.1 h0.1 h0.2.1 (L_vB rfl) (ks7_235 (by decide) h0.2.2.2.2.1 (L_kAl h0.1) (L_rng _) (L_rng _)) (fun r w1 v hq hf1 => ?_)
  obtain ⟨z1, rfl, hF1, e1, s1⟩ := hq
  have g0 := L_k h0 hf1 hF1
  refine e_GS.run hS (t' := (1976, [(3, (0, i)), (0, (1, 362)), (1, (1, 0)), (2, (1, 275))], [], v)) 1 rfl ?_
  refine e_GS.run hS (t' := (1977, [(3, (0, i)), (0, (1, 362)), (1, (1, 0)), (2, (1, 275))], [(1, 275)], v)) 1 rfl ?_
  refine L_arg hS (j := 1) rfl rfl rfl rfl rfl rfl rfl hi (by decide) hL hL2 ?_
  refine L_arg hS (j := 2) rfl rfl rfl rfl rfl rfl rfl hi (by decide) hL hL2 ?_
  refine hCm 446 3 1987 _ _ _ _ _ rfl rfl g0.2.2.2.1 g0.1 g0.2.1 (L_vBm rfl) (ms7_446 (by decide) g0.2.2.2.2.2 (L_rng _) (L_rng _)) (fun r w2 v2 hq hf2 => ?_)
  obtain ⟨z2, rfl, hF2, e2, s2⟩ := hq
  have k0 := L_m g0 hf2 hF2.F
  have k3 : lw3 v2 := lw3_same h0 h3 hf1 e1 hf2 e2
  have k7 : lw7 v2 := lw7_same h0 h7 hf1 s1 hf2 s2
  refine e_GS.run hS (t' := (2142, [(3, (0, i)), (0, (1, 362)), (1, (1, 0)), (2, (1, 275))], [], v2)) 2 rfl ?_
  exact hK v2 ⟨⟨k0, k3⟩, k7⟩
theorem law5_arm_46 {L : Nat} {xs : Nat → Int32} {G : eS → Prop} (hS : e_GS (codeL L xs) 0 G) (hCk : law_GC L xs kcode Bk G) (hCm : law_GC L xs ecode Bm G) {u : eW} {i : Int} (hR : lwS u) (hi : 0 ≤ i) (hL : i + 5 < L) (hL2 : L ≤ 3072) (hK : ∀ v, lwS v → G (2142, [(3, (0, i)), (0, (1, 362)), (1, (1, 0)), (2, (1, 275))], [], v)) : G (1994, [(3, (0, i)), (0, (1, 362)), (1, (1, 0)), (2, (1, 275))], [], u) := by
  obtain ⟨⟨h0, h3⟩, h7⟩ := hR
  refine e_GS.run hS (t' := (1995, [(3, (0, i)), (0, (1, 362)), (1, (1, 0)), (2, (1, 275))], [(1, 0)], u)) 1 rfl ?_
  refine L_arg hS (j := 1) rfl rfl rfl rfl rfl rfl rfl hi (by decide) hL hL2 ?_
  refine hCk 236 2 2000 _ _ _ _ _ rfl rfl h0.2.2.1 h0.1 h0.2.1 (L_vB rfl) (ks7_236 (by decide) h0.2.2.2.2.1 (L_kAl h0.1) (L_rng _)) (fun r w1 v hq hf1 => ?_)
  obtain ⟨z1, rfl, hF1, e1, s1⟩ := hq
  have g0 := L_k h0 hf1 hF1
  refine e_GS.run hS (t' := (2004, [(3, (0, i)), (0, (1, 362)), (1, (1, 0)), (2, (1, 275))], [], v)) 1 rfl ?_
  refine e_GS.run hS (t' := (2005, [(3, (0, i)), (0, (1, 362)), (1, (1, 0)), (2, (1, 275))], [(1, 275)], v)) 1 rfl ?_
  refine L_arg hS (j := 1) rfl rfl rfl rfl rfl rfl rfl hi (by decide) hL hL2 ?_
  refine hCm 447 2 2010 _ _ _ _ _ rfl rfl g0.2.2.2.1 g0.1 g0.2.1 (L_vBm rfl) (ms7_447 (by decide) g0.2.2.2.2.2 (L_rng _)) (fun r w2 v2 hq hf2 => ?_)
  obtain ⟨z2, rfl, hF2, e2, s2⟩ := hq
  have k0 := L_m g0 hf2 hF2.F
  have k3 : lw3 v2 := lw3_same h0 h3 hf1 e1 hf2 e2
  have k7 : lw7 v2 := lw7_same h0 h7 hf1 s1 hf2 s2
  refine e_GS.run hS (t' := (2142, [(3, (0, i)), (0, (1, 362)), (1, (1, 0)), (2, (1, 275))], [], v2)) 2 rfl ?_
  exact hK v2 ⟨⟨k0, k3⟩, k7⟩
end
end
-- part fb17
section
noncomputable section
/-! the law: what each call does -/
theorem law5_arm_47 {L : Nat} {xs : Nat → Int32} {G : eS → Prop} (hS : e_GS (codeL L xs) 0 G) (hCk : law_GC L xs kcode Bk G) (hCm : law_GC L xs ecode Bm G) {u : eW} {i : Int} (hR : lwS u) (hi : 0 ≤ i) (hL : i + 5 < L) (hL2 : L ≤ 3072) (hK : ∀ v, lwS v → G (2142, [(3, (0, i)), (0, (1, 362)), (1, (1, 0)), (2, (1, 275))], [], v)) : G (2017, [(3, (0, i)), (0, (1, 362)), (1, (1, 0)), (2, (1, 275))], [], u) := by
  obtain ⟨⟨h0, h3⟩, h7⟩ := hR
  refine e_GS.run hS (t' := (2018, [(3, (0, i)), (0, (1, 362)), (1, (1, 0)), (2, (1, 275))], [(1, 0)], u)) 1 rfl ?_
  refine hCk 237 1 2018 _ _ _ _ _ rfl rfl h0.2.2.1 h0.1 h0.2.1 (L_vB rfl) (ks7_237 (by decide) h0.2.2.2.2.1 (L_kAl h0.1)) (fun r w1 v hq hf1 => ?_)
  obtain ⟨z1, rfl, hF1, e1, s1⟩ := hq
  have g0 := L_k h0 hf1 hF1
  refine e_GS.run hS (t' := (2022, [(3, (0, i)), (0, (1, 362)), (1, (1, 0)), (2, (1, 275))], [], v)) 1 rfl ?_
  refine e_GS.run hS (t' := (2023, [(3, (0, i)), (0, (1, 362)), (1, (1, 0)), (2, (1, 275))], [(1, 275)], v)) 1 rfl ?_
  refine hCm 448 1 2023 _ _ _ _ _ rfl rfl g0.2.2.2.1 g0.1 g0.2.1 (L_vBm rfl) (ms7_448 (by decide) g0.2.2.2.2.2) (fun r w2 v2 hq hf2 => ?_)
  obtain ⟨z2, rfl, hF2, e2, s2⟩ := hq
  have k0 := L_m g0 hf2 hF2.F
  have k3 : lw3 v2 := lw3_same h0 h3 hf1 e1 hf2 e2
  have k7 : lw7 v2 := lw7_same h0 h7 hf1 s1 hf2 s2
  refine e_GS.run hS (t' := (2142, [(3, (0, i)), (0, (1, 362)), (1, (1, 0)), (2, (1, 275))], [], v2)) 2 rfl ?_
  exact hK v2 ⟨⟨k0, k3⟩, k7⟩
theorem law5_arm_48 {L : Nat} {xs : Nat → Int32} {G : eS → Prop} (hS : e_GS (codeL L xs) 0 G) (hCk : law_GC L xs kcode Bk G) (hCm : law_GC L xs ecode Bm G) {u : eW} {i : Int} (hR : lwS u) (hi : 0 ≤ i) (hL : i + 5 < L) (hL2 : L ≤ 3072) (hK : ∀ v, lwS v → G (2142, [(3, (0, i)), (0, (1, 362)), (1, (1, 0)), (2, (1, 275))], [], v)) : G (2030, [(3, (0, i)), (0, (1, 362)), (1, (1, 0)), (2, (1, 275))], [], u) := by
  obtain ⟨⟨h0, h3⟩, h7⟩ := hR
  refine e_GS.run hS (t' := (2031, [(3, (0, i)), (0, (1, 362)), (1, (1, 0)), (2, (1, 275))], [(1, 0)], u)) 1 rfl ?_
  refine L_arg hS (j := 1) rfl rfl rfl rfl rfl rfl rfl hi (by decide) hL hL2 ?_
  refine L_arg hS (j := 2) rfl rfl rfl rfl rfl rfl rfl hi (by decide) hL hL2 ?_
  refine hCk 238 3 2041 _ _ _ _ _ rfl rfl h0.2.2.1 h0.1 h0.2.1 (L_vB rfl) (ks7_238 (by decide) h0.2.2.2.2.1 (L_kAl h0.1) (L_rng _) (L_rng _)) (fun r w1 v hq hf1 => ?_)
  obtain ⟨z1, rfl, hF1, e1, s1⟩ := hq
  have g0 := L_k h0 hf1 hF1
  refine e_GS.run hS (t' := (2045, [(3, (0, i)), (0, (1, 362)), (1, (1, 0)), (2, (1, 275))], [], v)) 1 rfl ?_
  refine e_GS.run hS (t' := (2046, [(3, (0, i)), (0, (1, 362)), (1, (1, 0)), (2, (1, 275))], [(1, 275)], v)) 1 rfl ?_
  refine L_arg hS (j := 1) rfl rfl rfl rfl rfl rfl rfl hi (by decide) hL hL2 ?_
  refine L_arg hS (j := 2) rfl rfl rfl rfl rfl rfl rfl hi (by decide) hL hL2 ?_
  refine hCm 449 3 2056 _ _ _ _ _ rfl rfl g0.2.2.2.1 g0.1 g0.2.1 (L_vBm rfl) (ms7_449 (by decide) g0.2.2.2.2.2 (L_rng _) (L_rng _)) (fun r w2 v2 hq hf2 => ?_)
  obtain ⟨z2, rfl, hF2, e2, s2⟩ := hq
  have k0 := L_m g0 hf2 hF2.F
  have k3 : lw3 v2 := lw3_same h0 h3 hf1 e1 hf2 e2
  have k7 : lw7 v2 := lw7_same h0 h7 hf1 s1 hf2 s2
  refine e_GS.run hS (t' := (2142, [(3, (0, i)), (0, (1, 362)), (1, (1, 0)), (2, (1, 275))], [], v2)) 2 rfl ?_
  exact hK v2 ⟨⟨k0, k3⟩, k7⟩
theorem law5_arm_49 {L : Nat} {xs : Nat → Int32} {G : eS → Prop} (hS : e_GS (codeL L xs) 0 G) (hCk : law_GC L xs kcode Bk G) (hCm : law_GC L xs ecode Bm G) {u : eW} {i : Int} (hR : lwS u) (hi : 0 ≤ i) (hL : i + 5 < L) (hL2 : L ≤ 3072) (hK : ∀ v, lwS v → G (2142, [(3, (0, i)), (0, (1, 362)), (1, (1, 0)), (2, (1, 275))], [], v)) : G (2063, [(3, (0, i)), (0, (1, 362)), (1, (1, 0)), (2, (1, 275))], [], u) := by
  obtain ⟨⟨h0, h3⟩, h7⟩ := hR
  refine e_GS.run hS (t' := (2064, [(3, (0, i)), (0, (1, 362)), (1, (1, 0)), (2, (1, 275))], [(1, 0)], u)) 1 rfl ?_
  refine L_arg hS (j := 1) rfl rfl rfl rfl rfl rfl rfl hi (by decide) hL hL2 ?_
  refine L_arg hS (j := 2) rfl rfl rfl rfl rfl rfl rfl hi (by decide) hL hL2 ?_
  refine hCk 239 3 2074 _ _ _ _ _ rfl rfl h0.2.2.1 h0.1 h0.2.1 (L_vB rfl) (ks7_239 (by decide) h0.2.2.2.2.1 (L_kAl h0.1) (L_rng _) (L_rng _)) (fun r w1 v hq hf1 => ?_)
  obtain ⟨z1, rfl, hF1, e1, s1⟩ := hq
  have g0 := L_k h0 hf1 hF1
  refine e_GS.run hS (t' := (2078, [(3, (0, i)), (0, (1, 362)), (1, (1, 0)), (2, (1, 275))], [], v)) 1 rfl ?_
  refine e_GS.run hS (t' := (2079, [(3, (0, i)), (0, (1, 362)), (1, (1, 0)), (2, (1, 275))], [(1, 275)], v)) 1 rfl ?_
  refine L_arg hS (j := 1) rfl rfl rfl rfl rfl rfl rfl hi (by decide) hL hL2 ?_
  refine L_arg hS (j := 2) rfl rfl rfl rfl rfl rfl rfl hi (by decide) hL hL2 ?_
  refine hCm 318 3 2089 _ _ _ _ _ rfl rfl g0.2.2.2.1 g0.1 g0.2.1 (L_vBm rfl) (ms7_318 (by decide) g0.2.2.2.2.2 (L_rng _) (L_rng _)) (fun r w2 v2 hq hf2 => ?_)
  obtain ⟨z2, rfl, hF2, e2, s2⟩ := hq
  have k0 := L_m g0 hf2 hF2.F
  have k3 : lw3 v2 := lw3_same h0 h3 hf1 e1 hf2 e2
  have k7 : lw7 v2 := lw7_same h0 h7 hf1 s1 hf2 s2
  refine e_GS.run hS (t' := (2142, [(3, (0, i)), (0, (1, 362)), (1, (1, 0)), (2, (1, 275))], [], v2)) 2 rfl ?_
  exact hK v2 ⟨⟨k0, k3⟩, k7⟩
end
end
-- part fb18
section
noncomputable section
/-! the law: what each call does -/
theorem law5_arm_50 {L : Nat} {xs : Nat → Int32} {G : eS → Prop} (hS : e_GS (codeL L xs) 0 G) (hCk : law_GC L xs kcode Bk G) (hCm : law_GC L xs ecode Bm G) {u : eW} {i : Int} (hR : lwS u) (hi : 0 ≤ i) (hL : i + 5 < L) (hL2 : L ≤ 3072) (hK : ∀ v, lwS v → G (2142, [(3, (0, i)), (0, (1, 362)), (1, (1, 0)), (2, (1, 275))], [], v)) : G (2096, [(3, (0, i)), (0, (1, 362)), (1, (1, 0)), (2, (1, 275))], [], u) := by
  obtain ⟨⟨h0, h3⟩, h7⟩ := hR
  refine e_GS.run hS (t' := (2097, [(3, (0, i)), (0, (1, 362)), (1, (1, 0)), (2, (1, 275))], [(1, 0)], u)) 1 rfl ?_
  refine L_arg hS (j := 1) rfl rfl rfl rfl rfl rfl rfl hi (by decide) hL hL2 ?_
  refine hCk 240 2 2102 _ _ _ _ _ rfl rfl h0.2.2.1 h0.1 h0.2.1 (L_vB rfl) (ks7_240 (by decide) h0.2.2.2.2.1 (L_kAl h0.1) (L_rng _)) (fun r w1 v hq hf1 => ?_)
  obtain ⟨z1, rfl, hF1, e1, s1⟩ := hq
  have g0 := L_k h0 hf1 hF1
  refine e_GS.run hS (t' := (2106, [(3, (0, i)), (0, (1, 362)), (1, (1, 0)), (2, (1, 275))], [], v)) 1 rfl ?_
  refine e_GS.run hS (t' := (2107, [(3, (0, i)), (0, (1, 362)), (1, (1, 0)), (2, (1, 275))], [(1, 275)], v)) 1 rfl ?_
  refine L_arg hS (j := 1) rfl rfl rfl rfl rfl rfl rfl hi (by decide) hL hL2 ?_
  refine hCm 450 2 2112 _ _ _ _ _ rfl rfl g0.2.2.2.1 g0.1 g0.2.1 (L_vBm rfl) (ms7_450 (by decide) g0.2.2.2.2.2 (L_rng _)) (fun r w2 v2 hq hf2 => ?_)
  obtain ⟨z2, rfl, hF2, e2, s2⟩ := hq
  have k0 := L_m g0 hf2 hF2.F
  have k3 : lw3 v2 := lw3_same h0 h3 hf1 e1 hf2 e2
  have k7 : lw7 v2 := lw7_same h0 h7 hf1 s1 hf2 s2
  refine e_GS.run hS (t' := (2142, [(3, (0, i)), (0, (1, 362)), (1, (1, 0)), (2, (1, 275))], [], v2)) 2 rfl ?_
  exact hK v2 ⟨⟨k0, k3⟩, k7⟩
theorem law5_arm_51 {L : Nat} {xs : Nat → Int32} {G : eS → Prop} (hS : e_GS (codeL L xs) 0 G) (hCk : law_GC L xs kcode Bk G) (hCm : law_GC L xs ecode Bm G) {u : eW} {i : Int} (hR : lwS u) (hi : 0 ≤ i) (hL : i + 5 < L) (hL2 : L ≤ 3072) (hK : ∀ v, lwS v → G (2142, [(3, (0, i)), (0, (1, 362)), (1, (1, 0)), (2, (1, 275))], [], v)) : G (2119, [(3, (0, i)), (0, (1, 362)), (1, (1, 0)), (2, (1, 275))], [], u) := by
  obtain ⟨⟨h0, h3⟩, h7⟩ := hR
  refine e_GS.run hS (t' := (2120, [(3, (0, i)), (0, (1, 362)), (1, (1, 0)), (2, (1, 275))], [(1, 0)], u)) 1 rfl ?_
  refine L_arg hS (j := 1) rfl rfl rfl rfl rfl rfl rfl hi (by decide) hL hL2 ?_
  refine hCk 241 2 2125 _ _ _ _ _ rfl rfl h0.2.2.1 h0.1 h0.2.1 (L_vB rfl) (ks7_241 (by decide) h0.2.2.2.2.1 (L_kAl h0.1) (L_rng _)) (fun r w1 v hq hf1 => ?_)
  obtain ⟨z1, rfl, hF1, e1, s1⟩ := hq
  have g0 := L_k h0 hf1 hF1
  refine e_GS.run hS (t' := (2129, [(3, (0, i)), (0, (1, 362)), (1, (1, 0)), (2, (1, 275))], [], v)) 1 rfl ?_
  refine e_GS.run hS (t' := (2130, [(3, (0, i)), (0, (1, 362)), (1, (1, 0)), (2, (1, 275))], [(1, 275)], v)) 1 rfl ?_
  refine L_arg hS (j := 1) rfl rfl rfl rfl rfl rfl rfl hi (by decide) hL hL2 ?_
  refine hCm 451 2 2135 _ _ _ _ _ rfl rfl g0.2.2.2.1 g0.1 g0.2.1 (L_vBm rfl) (ms7_451 (by decide) g0.2.2.2.2.2 (L_rng _)) (fun r w2 v2 hq hf2 => ?_)
  obtain ⟨z2, rfl, hF2, e2, s2⟩ := hq
  have k0 := L_m g0 hf2 hF2.F
  have k3 : lw3 v2 := lw3_same h0 h3 hf1 e1 hf2 e2
  have k7 : lw7 v2 := lw7_same h0 h7 hf1 s1 hf2 s2
  refine e_GS.run hS (t' := (2142, [(3, (0, i)), (0, (1, 362)), (1, (1, 0)), (2, (1, 275))], [], v2)) 2 rfl ?_
  exact hK v2 ⟨⟨k0, k3⟩, k7⟩
end
end
