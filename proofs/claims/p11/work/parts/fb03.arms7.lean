noncomputable section
/-! the law: what each call does -/
theorem law5_arm_3 {L : Nat} {xs : Nat → Int32} {G : eS → Prop} (hS : e_GS (codeL L xs) 0 G) (hCk : law_GC L xs kcode Bk G) (hCm : law_GC L xs ecode Bm G) {u : eW} {i : Int} (hR : lwS u) (hi : 0 ≤ i) (hL : i + 5 < L) (hL2 : L ≤ 3072) (hK : ∀ v, lwS v → G (2142, [(3, (0, i)), (0, (1, 362)), (1, (1, 0)), (2, (1, 275))], [], v)) : G (355, [(3, (0, i)), (0, (1, 362)), (1, (1, 0)), (2, (1, 275))], [], u) := by
  obtain ⟨⟨h0, h3⟩, h7⟩ := hR
  refine e_GS.run hS (t' := (356, [(3, (0, i)), (0, (1, 362)), (1, (1, 0)), (2, (1, 275))], [(1, 0)], u)) 1 rfl ?_
  refine L_arg hS (j := 1) rfl rfl rfl rfl rfl rfl rfl hi (by decide) hL hL2 ?_
  refine L_arg hS (j := 2) rfl rfl rfl rfl rfl rfl rfl hi (by decide) hL hL2 ?_
  refine L_arg hS (j := 3) rfl rfl rfl rfl rfl rfl rfl hi (by decide) hL hL2 ?_
  refine L_arg hS (j := 4) rfl rfl rfl rfl rfl rfl rfl hi (by decide) hL hL2 ?_
  refine hCk 193 5 376 _ _ _ _ _ rfl rfl h0.2.2.1 h0.1 h0.2.1 (L_vB rfl) (e_Ok.both (k_193 (by decide) h0.2.2.2.2.1 (L_kAl h0.1) (L_rng _) (L_rng _) (L_rng _) (L_rng _)) (e_Ok.both (kq_193 (by decide) h0.2.2.2.2.1 (L_kAl h0.1) (L_rng _) (L_rng _) (L_rng _) (L_rng _)) (kq_193s (by decide) h0.2.2.2.2.1 (L_kAl h0.1) (L_rng _) (L_rng _) (L_rng _) (L_rng _)))) (fun r w1 v hq hf1 => ?_)
  obtain ⟨⟨z1, rfl, hF1, e1⟩, x1, x1s⟩ := hq
  have g0 := L_k h0 hf1 hF1
  refine e_GS.run hS (t' := (380, [(3, (0, i)), (0, (1, 362)), (1, (1, 0)), (2, (1, 275))], [], v)) 1 rfl ?_
  refine e_GS.run hS (t' := (381, [(3, (0, i)), (0, (1, 362)), (1, (1, 0)), (2, (1, 275))], [(1, 275)], v)) 1 rfl ?_
  refine L_arg hS (j := 1) rfl rfl rfl rfl rfl rfl rfl hi (by decide) hL hL2 ?_
  refine L_arg hS (j := 2) rfl rfl rfl rfl rfl rfl rfl hi (by decide) hL hL2 ?_
  refine L_arg hS (j := 3) rfl rfl rfl rfl rfl rfl rfl hi (by decide) hL hL2 ?_
  refine L_arg hS (j := 4) rfl rfl rfl rfl rfl rfl rfl hi (by decide) hL hL2 ?_
  refine hCm 278 5 401 _ _ _ _ _ rfl rfl g0.2.2.2.1 g0.1 g0.2.1 (L_vBm rfl) (e_Ok.both (m_278x (by decide) g0.2.2.2.2.2 (L_rng _) (L_rng _) (L_rng _) (L_rng _)) (c_278_ex (by decide) g0.2.2.2.2.2.1 (L_rng _) (L_rng _) (L_rng _) (L_rng _))) (fun r w2 v2 hq hf2 => ?_)
  obtain ⟨⟨z2, rfl, hF2, e2⟩, y2, hy2, x2⟩ := hq
  have ey2 : z2 = y2 := one_z hy2
  subst ey2
  have k0 := L_m g0 hf2 hF2.F
  have x2b := x2.imp (fun q => q.1) (fun q => q.2.2)
  have k3 : lw3 v2 := by
    clear x1 x1s x2 x2b
    obtain ⟨p13, p10, p11, o13, o10, o11, q3, q9, q10, r3, r9, r10⟩ := L_nums h0 hf1 hf2
    obtain ⟨y9, y3, y10⟩ := h3
    unfold km3 at e1
    try generalize (xs (i + 1).toNat).toInt = y101 at e1 e2
    try generalize (xs (i + 2).toNat).toInt = y102 at e1 e2
    try generalize (xs (i + 3).toNat).toInt = y103 at e1 e2
    try generalize (xs (i + 4).toNat).toInt = y104 at e1 e2
    have f13 := hf1.val (c := 0) (k := 13) (by unfold Bk; omega)
    have f10 := hf1.val (c := 1) (k := 0) (by unfold Bk; omega)
    have f11 := hf1.val (c := 0) (k := 11) (by unfold Bk; omega)
    have t3 := hf2.val (c := 275) (k := 3) (by unfold Bm; omega)
    have t9 := hf2.val (c := 275) (k := 9) (by unfold Bm; omega)
    have t10 := hf2.val (c := 275) (k := 10) (by unfold Bm; omega)
    have a13 := h0.1 0 13
    have a10 := h0.1 1 0
    have a11 := h0.1 0 11
    have b3 := h0.1 275 3
    have b9 := h0.1 275 9
    have b10 := h0.1 275 10
    have c9 := L_len h0
    unfold kn1 at a13 a10 a11 b3 b9 b10 f13 f10 f11 t3 t9 t10
    obtain ⟨m1, m2, m3⟩ := e2
    have hw : w1 0 13 = e_PB Bk u 0 13 ∧ w1 1 0 = e_PB Bk u 1 0 := by
      rcases e1 with ⟨e1, -⟩ | ⟨-, e1⟩
      · exact ⟨e1.1, e1.2.1⟩
      · exact ⟨e1.1, e1.2.1⟩
    have hs : (w1 0 11 = e_PB Bk u 0 11 ∧ w2 275 10 = e_PB Bm v 275 10) ∨ ((w1 0 11 = e_PB Bk u 0 11 + 1 ∧ w2 275 10 = e_PB Bm v 275 10 + 1) ∧ e_PB Bk u 0 11 ≤ 3) := by
      rcases e1 with ⟨e1, n1⟩ | ⟨a1, e1⟩
      · rcases m3 with ⟨n2, m3⟩ | ⟨a2, m3⟩
        · exact Or.inl ⟨e1.2.2, m3⟩
        · exact absurd ⟨a2.1, a2.2.1, a2.2.2.1, a2.2.2.2.1, (show e_PB Bk u 0 13 = 0 by rw [p13, ← y3, ← r3, ← q3]; exact a2.2.2.2.2.1), (show e_PB Bk u 0 11 ≤ 3 by rw [p11, ← y10, ← r10, ← q10]; exact a2.2.2.2.2.2)⟩ n1
      · rcases m3 with ⟨n2, m3⟩ | ⟨a2, m3⟩
        · exact absurd ⟨a1.1, a1.2.1, a1.2.2.1, a1.2.2.2.1, (show e_PB Bm v 275 3 = 0 by rw [q3, r3, y3, ← p13]; exact a1.2.2.2.2.1), (show e_PB Bm v 275 10 ≤ 3 by rw [q10, r10, y10, ← p11]; exact a1.2.2.2.2.2)⟩ n2
        · exact Or.inr ⟨⟨e1.2.2, m3⟩, a1.2.2.2.2.2⟩
    clear e1 m3
    unfold lw3
    omega
  have k7 : lw7 v2 := lw7_arm h0 h3 k3 h7 hf1 x1 x1s hf2 x2b
  refine e_GS.run hS (t' := (2142, [(3, (0, i)), (0, (1, 362)), (1, (1, 0)), (2, (1, 275))], [], v2)) 2 rfl ?_
  exact hK v2 ⟨⟨k0, k3⟩, k7⟩
end
