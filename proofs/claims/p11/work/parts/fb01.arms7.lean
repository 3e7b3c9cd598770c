noncomputable section
/-! the law: what each call does -/
theorem law5_arm_1 {L : Nat} {xs : Nat → Int32} {G : eS → Prop} (hS : e_GS (codeL L xs) 0 G) (hCk : law_GC L xs kcode Bk G) (hCm : law_GC L xs ecode Bm G) {u : eW} {i : Int} (hR : lwS u) (hi : 0 ≤ i) (hL : i + 5 < L) (hL2 : L ≤ 3072) (hK : ∀ v, lwS v → G (2142, [(3, (0, i)), (0, (1, 362)), (1, (1, 0)), (2, (1, 275))], [], v)) : G (319, [(3, (0, i)), (0, (1, 362)), (1, (1, 0)), (2, (1, 275))], [], u) := by
  obtain ⟨⟨h0, h3⟩, h7⟩ := hR
  refine e_GS.run hS (t' := (320, [(3, (0, i)), (0, (1, 362)), (1, (1, 0)), (2, (1, 275))], [(1, 0)], u)) 1 rfl ?_
  refine L_arg hS (j := 1) rfl rfl rfl rfl rfl rfl rfl hi (by decide) hL hL2 ?_
  refine hCk 191 2 325 _ _ _ _ _ rfl rfl h0.2.2.1 h0.1 h0.2.1 (L_vB rfl) (ks7_191 (by decide) h0.2.2.2.2.1 (L_kAl h0.1) (L_rng _)) (fun r w1 v hq hf1 => ?_)
  obtain ⟨z1, rfl, hF1, e1, s1⟩ := hq
  have g0 := L_k h0 hf1 hF1
  refine e_GS.run hS (t' := (329, [(3, (0, i)), (0, (1, 362)), (1, (1, 0)), (2, (1, 275))], [], v)) 1 rfl ?_
  refine e_GS.run hS (t' := (330, [(3, (0, i)), (0, (1, 362)), (1, (1, 0)), (2, (1, 275))], [(1, 275)], v)) 1 rfl ?_
  refine L_arg hS (j := 1) rfl rfl rfl rfl rfl rfl rfl hi (by decide) hL hL2 ?_
  refine hCm 276 2 335 _ _ _ _ _ rfl rfl g0.2.2.2.1 g0.1 g0.2.1 (L_vBm rfl) (ms7_276 (by decide) g0.2.2.2.2.2) (fun r w2 v2 hq hf2 => ?_)
  obtain ⟨z2, rfl, hF2, e2, s2⟩ := hq
  have k0 := L_m g0 hf2 hF2.F
  have k3 : lw3 v2 := by
    obtain ⟨p13, p10, p11, o13, o10, o11, q3, q9, q10, r3, r9, r10⟩ := L_nums h0 hf1 hf2
    obtain ⟨y9, y3, y10⟩ := h3
    unfold km3 at e1
    try generalize (xs (i + 1).toNat).toInt = y101 at e1 e2
    have a13 := h0.1 0 13
    have a10 := h0.1 1 0
    have a11 := h0.1 0 11
    have b3 := h0.1 275 3
    have b9 := h0.1 275 9
    have b10 := h0.1 275 10
    have c9 := L_len h0
    unfold kn1 at a13 a10 a11 b3 b9 b10
    have nf13 : -2147483648 ≤ w1 0 13 ∧ w1 0 13 ≤ 2147483647 := by omega
    have f13 : v 0 13 = w1 0 13 := hf1.val (c := 0) (k := 13) (by unfold Bk; omega) nf13
    have nf10 : -2147483648 ≤ w1 1 0 ∧ w1 1 0 ≤ 2147483647 := by omega
    have f10 : v 1 0 = w1 1 0 := hf1.val (c := 1) (k := 0) (by unfold Bk; omega) nf10
    have nf11 : -2147483648 ≤ w1 0 11 ∧ w1 0 11 ≤ 2147483647 := by omega
    have f11 : v 0 11 = w1 0 11 := hf1.val (c := 0) (k := 11) (by unfold Bk; omega) nf11
    have nt3 : -2147483648 ≤ w2 275 3 ∧ w2 275 3 ≤ 2147483647 := by omega
    have t3 : v2 275 3 = w2 275 3 := hf2.val (c := 275) (k := 3) (by unfold Bm; omega) nt3
    have nt9 : -2147483648 ≤ w2 275 9 ∧ w2 275 9 ≤ 2147483647 := by omega
    have t9 : v2 275 9 = w2 275 9 := hf2.val (c := 275) (k := 9) (by unfold Bm; omega) nt9
    have nt10 : -2147483648 ≤ w2 275 10 ∧ w2 275 10 ≤ 2147483647 := by omega
    have t10 : v2 275 10 = w2 275 10 := hf2.val (c := 275) (k := 10) (by unfold Bm; omega) nt10
    unfold lw3
    omega
  have k7 : lw7 v2 := lw7_same h0 h7 hf1 s1 hf2 s2
  refine e_GS.run hS (t' := (2142, [(3, (0, i)), (0, (1, 362)), (1, (1, 0)), (2, (1, 275))], [], v2)) 2 rfl ?_
  exact hK v2 ⟨⟨k0, k3⟩, k7⟩
end
