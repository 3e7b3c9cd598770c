noncomputable section
/-! the law: what each call does -/
theorem law_arm_0 {L : Nat} {xs : Nat → Int32} {G : eS → Prop} (hS : e_GS (codeL L xs) 0 G) (hCk : law_GC L xs kcode Bk G) (hCm : law_GC L xs ecode Bm G) {u : eW} {i : Int} (hR : lwR u) (hi : 0 ≤ i) (hL : i + 5 < L) (hL2 : L ≤ 3072) (hK : ∀ v, lwR v → G (2142, [(3, (0, i)), (0, (1, 362)), (1, (1, 0)), (2, (1, 275))], [], v)) : G (256, [(3, (0, i)), (0, (1, 362)), (1, (1, 0)), (2, (1, 275))], [], u) := by
  obtain ⟨h0, h3⟩ := hR
  refine e_GS.run hS (t' := (257, [(3, (0, i)), (0, (1, 362)), (1, (1, 0)), (2, (1, 275))], [(1, 0)], u)) 1 rfl ?_
  refine L_arg hS (j := 1) rfl rfl rfl rfl rfl rfl rfl hi (by decide) hL hL2 ?_
  refine L_arg hS (j := 2) rfl rfl rfl rfl rfl rfl rfl hi (by decide) hL hL2 ?_
  refine L_arg hS (j := 3) rfl rfl rfl rfl rfl rfl rfl hi (by decide) hL hL2 ?_
  refine L_arg hS (j := 4) rfl rfl rfl rfl rfl rfl rfl hi (by decide) hL hL2 ?_
  refine L_arg hS (j := 5) rfl rfl rfl rfl rfl rfl rfl hi (by decide) hL hL2 ?_
  refine hCk 190 6 282 _ _ _ _ _ rfl rfl h0.2.2.1 h0.1 h0.2.1 (L_vB rfl) (k_190 (by decide) h0.2.2.2.2.1 (L_kAl h0.1) (L_rng _) (L_rng _) (L_rng _) (L_rng _) (L_rng _)) (fun r w1 v hq hf1 => ?_)
  obtain ⟨z1, rfl, hF1, e1⟩ := hq
  have g0 := L_k h0 hf1 hF1
  refine e_GS.run hS (t' := (286, [(3, (0, i)), (0, (1, 362)), (1, (1, 0)), (2, (1, 275))], [(1, 275), (0, z1)], v)) 1 rfl ?_
  refine L_arg hS (j := 1) rfl rfl rfl rfl rfl rfl rfl hi (by decide) hL hL2 ?_
  refine L_arg hS (j := 2) rfl rfl rfl rfl rfl rfl rfl hi (by decide) hL hL2 ?_
  refine L_arg hS (j := 3) rfl rfl rfl rfl rfl rfl rfl hi (by decide) hL hL2 ?_
  refine L_arg hS (j := 4) rfl rfl rfl rfl rfl rfl rfl hi (by decide) hL hL2 ?_
  refine L_arg hS (j := 5) rfl rfl rfl rfl rfl rfl rfl hi (by decide) hL hL2 ?_
  refine hCm 274 6 311 _ _ _ _ _ rfl rfl g0.2.2.2.1 g0.1 g0.2.1 (L_vBm rfl) (m_274 (by decide) g0.2.2.2.2.2) (fun r w2 v2 hq hf2 => ?_)
  obtain ⟨z2, rfl, hF2, e2⟩ := hq
  have k0 := L_m g0 hf2 hF2.F
  have k3 : lw3 v2 ∧ z1 = z2 := by
    obtain ⟨p13, p10, p11, o13, o10, o11, q3, q9, q10, r3, r9, r10⟩ := L_nums h0 hf1 hf2
    obtain ⟨y9, y3, y10⟩ := h3
    unfold km3 at e1
    try generalize (xs (i + 1).toNat).toInt = y101 at e1 e2
    try generalize (xs (i + 2).toNat).toInt = y102 at e1 e2
    try generalize (xs (i + 3).toNat).toInt = y103 at e1 e2
    try generalize (xs (i + 4).toNat).toInt = y104 at e1 e2
    try generalize (xs (i + 5).toNat).toInt = y105 at e1 e2
    have f13 := hf1.val (c := 0) (k := 13) (by unfold Bk; omega)
    have f10 := hf1.val (c := 1) (k := 0) (by unfold Bk; omega)
    have f11 := hf1.val (c := 0) (k := 11) (by unfold Bk; omega)
    have t3 := hf2.val (c := 275) (k := 3) (by unfold Bm; omega)
    have t9 := hf2.val (c := 275) (k := 9) (by unfold Bm; omega)
    have t10 := hf2.val (c := 275) (k := 10) (by unfold Bm; omega)
    have a13 := h0.1 0 13
    have a10 := h0.1 1 0
    have a11 := h0.1 0 11
    have b3 := h0.1 275 3
    have b9 := h0.1 275 9
    have b10 := h0.1 275 10
    have c9 := L_len h0
    unfold kn1 at a13 a10 a11 b3 b9 b10 f13 f10 f11 t3 t9 t10
    unfold lw3
    omega
  refine e_GS.if2 hS rfl (fun _ => hK v2 ⟨k0, k3.1⟩) (fun h => absurd (show z1 = z2 from k3.2) h)
theorem law_arm_1 {L : Nat} {xs : Nat → Int32} {G : eS → Prop} (hS : e_GS (codeL L xs) 0 G) (hCk : law_GC L xs kcode Bk G) (hCm : law_GC L xs ecode Bm G) {u : eW} {i : Int} (hR : lwR u) (hi : 0 ≤ i) (hL : i + 5 < L) (hL2 : L ≤ 3072) (hK : ∀ v, lwR v → G (2142, [(3, (0, i)), (0, (1, 362)), (1, (1, 0)), (2, (1, 275))], [], v)) : G (319, [(3, (0, i)), (0, (1, 362)), (1, (1, 0)), (2, (1, 275))], [], u) := by
  obtain ⟨h0, h3⟩ := hR
  refine e_GS.run hS (t' := (320, [(3, (0, i)), (0, (1, 362)), (1, (1, 0)), (2, (1, 275))], [(1, 0)], u)) 1 rfl ?_
  refine L_arg hS (j := 1) rfl rfl rfl rfl rfl rfl rfl hi (by decide) hL hL2 ?_
  refine hCk 191 2 325 _ _ _ _ _ rfl rfl h0.2.2.1 h0.1 h0.2.1 (L_vB rfl) (k_191 (by decide) h0.2.2.2.2.1 (L_kAl h0.1) (L_rng _)) (fun r w1 v hq hf1 => ?_)
  obtain ⟨z1, rfl, hF1, e1⟩ := hq
  have g0 := L_k h0 hf1 hF1
  refine e_GS.run hS (t' := (329, [(3, (0, i)), (0, (1, 362)), (1, (1, 0)), (2, (1, 275))], [], v)) 1 rfl ?_
  refine e_GS.run hS (t' := (330, [(3, (0, i)), (0, (1, 362)), (1, (1, 0)), (2, (1, 275))], [(1, 275)], v)) 1 rfl ?_
  refine L_arg hS (j := 1) rfl rfl rfl rfl rfl rfl rfl hi (by decide) hL hL2 ?_
  refine hCm 276 2 335 _ _ _ _ _ rfl rfl g0.2.2.2.1 g0.1 g0.2.1 (L_vBm rfl) (m_276 (by decide) g0.2.2.2.2.2) (fun r w2 v2 hq hf2 => ?_)
  obtain ⟨z2, rfl, hF2, e2⟩ := hq
  have k0 := L_m g0 hf2 hF2.F
  have k3 : lw3 v2 := by
    obtain ⟨p13, p10, p11, o13, o10, o11, q3, q9, q10, r3, r9, r10⟩ := L_nums h0 hf1 hf2
    obtain ⟨y9, y3, y10⟩ := h3
    unfold km3 at e1
    try generalize (xs (i + 1).toNat).toInt = y101 at e1 e2
    have f13 := hf1.val (c := 0) (k := 13) (by unfold Bk; omega)
    have f10 := hf1.val (c := 1) (k := 0) (by unfold Bk; omega)
    have f11 := hf1.val (c := 0) (k := 11) (by unfold Bk; omega)
    have t3 := hf2.val (c := 275) (k := 3) (by unfold Bm; omega)
    have t9 := hf2.val (c := 275) (k := 9) (by unfold Bm; omega)
    have t10 := hf2.val (c := 275) (k := 10) (by unfold Bm; omega)
    have a13 := h0.1 0 13
    have a10 := h0.1 1 0
    have a11 := h0.1 0 11
    have b3 := h0.1 275 3
    have b9 := h0.1 275 9
    have b10 := h0.1 275 10
    have c9 := L_len h0
    unfold kn1 at a13 a10 a11 b3 b9 b10 f13 f10 f11 t3 t9 t10
    unfold lw3
    omega
  refine e_GS.run hS (t' := (2142, [(3, (0, i)), (0, (1, 362)), (1, (1, 0)), (2, (1, 275))], [], v2)) 2 rfl ?_
  exact hK v2 ⟨k0, k3⟩
theorem law_arm_2 {L : Nat} {xs : Nat → Int32} {G : eS → Prop} (hS : e_GS (codeL L xs) 0 G) (hCk : law_GC L xs kcode Bk G) (hCm : law_GC L xs ecode Bm G) {u : eW} {i : Int} (hR : lwR u) (hi : 0 ≤ i) (hL : i + 5 < L) (hL2 : L ≤ 3072) (hK : ∀ v, lwR v → G (2142, [(3, (0, i)), (0, (1, 362)), (1, (1, 0)), (2, (1, 275))], [], v)) : G (342, [(3, (0, i)), (0, (1, 362)), (1, (1, 0)), (2, (1, 275))], [], u) := by
  obtain ⟨h0, h3⟩ := hR
  refine e_GS.run hS (t' := (343, [(3, (0, i)), (0, (1, 362)), (1, (1, 0)), (2, (1, 275))], [(1, 0)], u)) 1 rfl ?_
  refine hCk 192 1 343 _ _ _ _ _ rfl rfl h0.2.2.1 h0.1 h0.2.1 (L_vB rfl) (k_192 (by decide) h0.2.2.2.2.1 (L_kAl h0.1)) (fun r w1 v hq hf1 => ?_)
  obtain ⟨z1, rfl, hF1, e1⟩ := hq
  have g0 := L_k h0 hf1 hF1
  refine e_GS.run hS (t' := (347, [(3, (0, i)), (0, (1, 362)), (1, (1, 0)), (2, (1, 275))], [], v)) 1 rfl ?_
  refine e_GS.run hS (t' := (348, [(3, (0, i)), (0, (1, 362)), (1, (1, 0)), (2, (1, 275))], [(1, 275)], v)) 1 rfl ?_
  refine hCm 277 1 348 _ _ _ _ _ rfl rfl g0.2.2.2.1 g0.1 g0.2.1 (L_vBm rfl) (m_277 (by decide) g0.2.2.2.2.2) (fun r w2 v2 hq hf2 => ?_)
  obtain ⟨z2, rfl, hF2, e2⟩ := hq
  have k0 := L_m g0 hf2 hF2.F
  have k3 : lw3 v2 := by
    obtain ⟨p13, p10, p11, o13, o10, o11, q3, q9, q10, r3, r9, r10⟩ := L_nums h0 hf1 hf2
    obtain ⟨y9, y3, y10⟩ := h3
    have f13 := hf1.val (c := 0) (k := 13) (by unfold Bk; omega)
    have f10 := hf1.val (c := 1) (k := 0) (by unfold Bk; omega)
    have f11 := hf1.val (c := 0) (k := 11) (by unfold Bk; omega)
    have t3 := hf2.val (c := 275) (k := 3) (by unfold Bm; omega)
    have t9 := hf2.val (c := 275) (k := 9) (by unfold Bm; omega)
    have t10 := hf2.val (c := 275) (k := 10) (by unfold Bm; omega)
    have a13 := h0.1 0 13
    have a10 := h0.1 1 0
    have a11 := h0.1 0 11
    have b3 := h0.1 275 3
    have b9 := h0.1 275 9
    have b10 := h0.1 275 10
    have c9 := L_len h0
    unfold kn1 at a13 a10 a11 b3 b9 b10 f13 f10 f11 t3 t9 t10
    unfold lw3
    omega
  refine e_GS.run hS (t' := (2142, [(3, (0, i)), (0, (1, 362)), (1, (1, 0)), (2, (1, 275))], [], v2)) 2 rfl ?_
  exact hK v2 ⟨k0, k3⟩
theorem law_arm_3 {L : Nat} {xs : Nat → Int32} {G : eS → Prop} (hS : e_GS (codeL L xs) 0 G) (hCk : law_GC L xs kcode Bk G) (hCm : law_GC L xs ecode Bm G) {u : eW} {i : Int} (hR : lwR u) (hi : 0 ≤ i) (hL : i + 5 < L) (hL2 : L ≤ 3072) (hK : ∀ v, lwR v → G (2142, [(3, (0, i)), (0, (1, 362)), (1, (1, 0)), (2, (1, 275))], [], v)) : G (355, [(3, (0, i)), (0, (1, 362)), (1, (1, 0)), (2, (1, 275))], [], u) := by
  obtain ⟨h0, h3⟩ := hR
  refine e_GS.run hS (t' := (356, [(3, (0, i)), (0, (1, 362)), (1, (1, 0)), (2, (1, 275))], [(1, 0)], u)) 1 rfl ?_
  refine L_arg hS (j := 1) rfl rfl rfl rfl rfl rfl rfl hi (by decide) hL hL2 ?_
  refine L_arg hS (j := 2) rfl rfl rfl rfl rfl rfl rfl hi (by decide) hL hL2 ?_
  refine L_arg hS (j := 3) rfl rfl rfl rfl rfl rfl rfl hi (by decide) hL hL2 ?_
  refine L_arg hS (j := 4) rfl rfl rfl rfl rfl rfl rfl hi (by decide) hL hL2 ?_
  refine hCk 193 5 376 _ _ _ _ _ rfl rfl h0.2.2.1 h0.1 h0.2.1 (L_vB rfl) (k_193 (by decide) h0.2.2.2.2.1 (L_kAl h0.1) (L_rng _) (L_rng _) (L_rng _) (L_rng _)) (fun r w1 v hq hf1 => ?_)
  obtain ⟨z1, rfl, hF1, e1⟩ := hq
  have g0 := L_k h0 hf1 hF1
  refine e_GS.run hS (t' := (380, [(3, (0, i)), (0, (1, 362)), (1, (1, 0)), (2, (1, 275))], [], v)) 1 rfl ?_
  refine e_GS.run hS (t' := (381, [(3, (0, i)), (0, (1, 362)), (1, (1, 0)), (2, (1, 275))], [(1, 275)], v)) 1 rfl ?_
  refine L_arg hS (j := 1) rfl rfl rfl rfl rfl rfl rfl hi (by decide) hL hL2 ?_
  refine L_arg hS (j := 2) rfl rfl rfl rfl rfl rfl rfl hi (by decide) hL hL2 ?_
  refine L_arg hS (j := 3) rfl rfl rfl rfl rfl rfl rfl hi (by decide) hL hL2 ?_
  refine L_arg hS (j := 4) rfl rfl rfl rfl rfl rfl rfl hi (by decide) hL hL2 ?_
  refine hCm 278 5 401 _ _ _ _ _ rfl rfl g0.2.2.2.1 g0.1 g0.2.1 (L_vBm rfl) (m_278x (by decide) g0.2.2.2.2.2 (L_rng _) (L_rng _) (L_rng _) (L_rng _)) (fun r w2 v2 hq hf2 => ?_)
  obtain ⟨z2, rfl, hF2, e2⟩ := hq
  have k0 := L_m g0 hf2 hF2.F
  have k3 : lw3 v2 := by
    obtain ⟨p13, p10, p11, o13, o10, o11, q3, q9, q10, r3, r9, r10⟩ := L_nums h0 hf1 hf2
    obtain ⟨y9, y3, y10⟩ := h3
    unfold km3 at e1
    try generalize (xs (i + 1).toNat).toInt = y101 at e1 e2
    try generalize (xs (i + 2).toNat).toInt = y102 at e1 e2
    try generalize (xs (i + 3).toNat).toInt = y103 at e1 e2
    try generalize (xs (i + 4).toNat).toInt = y104 at e1 e2
    have f13 := hf1.val (c := 0) (k := 13) (by unfold Bk; omega)
    have f10 := hf1.val (c := 1) (k := 0) (by unfold Bk; omega)
    have f11 := hf1.val (c := 0) (k := 11) (by unfold Bk; omega)
    have t3 := hf2.val (c := 275) (k := 3) (by unfold Bm; omega)
    have t9 := hf2.val (c := 275) (k := 9) (by unfold Bm; omega)
    have t10 := hf2.val (c := 275) (k := 10) (by unfold Bm; omega)
    have a13 := h0.1 0 13
    have a10 := h0.1 1 0
    have a11 := h0.1 0 11
    have b3 := h0.1 275 3
    have b9 := h0.1 275 9
    have b10 := h0.1 275 10
    have c9 := L_len h0
    unfold kn1 at a13 a10 a11 b3 b9 b10 f13 f10 f11 t3 t9 t10
    unfold lw3
    omega
  refine e_GS.run hS (t' := (2142, [(3, (0, i)), (0, (1, 362)), (1, (1, 0)), (2, (1, 275))], [], v2)) 2 rfl ?_
  exact hK v2 ⟨k0, k3⟩
theorem law_arm_4 {L : Nat} {xs : Nat → Int32} {G : eS → Prop} (hS : e_GS (codeL L xs) 0 G) (hCk : law_GC L xs kcode Bk G) (hCm : law_GC L xs ecode Bm G) {u : eW} {i : Int} (hR : lwR u) (hi : 0 ≤ i) (hL : i + 5 < L) (hL2 : L ≤ 3072) (hK : ∀ v, lwR v → G (2142, [(3, (0, i)), (0, (1, 362)), (1, (1, 0)), (2, (1, 275))], [], v)) : G (408, [(3, (0, i)), (0, (1, 362)), (1, (1, 0)), (2, (1, 275))], [], u) := by
  obtain ⟨h0, h3⟩ := hR
  refine e_GS.run hS (t' := (409, [(3, (0, i)), (0, (1, 362)), (1, (1, 0)), (2, (1, 275))], [(1, 0)], u)) 1 rfl ?_
  refine L_arg hS (j := 1) rfl rfl rfl rfl rfl rfl rfl hi (by decide) hL hL2 ?_
  refine L_arg hS (j := 2) rfl rfl rfl rfl rfl rfl rfl hi (by decide) hL hL2 ?_
  refine L_arg hS (j := 3) rfl rfl rfl rfl rfl rfl rfl hi (by decide) hL hL2 ?_
  refine L_arg hS (j := 4) rfl rfl rfl rfl rfl rfl rfl hi (by decide) hL hL2 ?_
  refine L_arg hS (j := 5) rfl rfl rfl rfl rfl rfl rfl hi (by decide) hL hL2 ?_
  refine hCk 194 6 434 _ _ _ _ _ rfl rfl h0.2.2.1 h0.1 h0.2.1 (L_vB rfl) (k_194 (by decide) h0.2.2.2.2.1 (L_kAl h0.1) (L_rng _) (L_rng _) (L_rng _) (L_rng _) (L_rng _)) (fun r w1 v hq hf1 => ?_)
  obtain ⟨z1, rfl, hF1, e1⟩ := hq
  have g0 := L_k h0 hf1 hF1
  refine e_GS.run hS (t' := (438, [(3, (0, i)), (0, (1, 362)), (1, (1, 0)), (2, (1, 275))], [], v)) 1 rfl ?_
  refine e_GS.run hS (t' := (439, [(3, (0, i)), (0, (1, 362)), (1, (1, 0)), (2, (1, 275))], [(1, 275)], v)) 1 rfl ?_
  refine L_arg hS (j := 1) rfl rfl rfl rfl rfl rfl rfl hi (by decide) hL hL2 ?_
  refine L_arg hS (j := 2) rfl rfl rfl rfl rfl rfl rfl hi (by decide) hL hL2 ?_
  refine L_arg hS (j := 3) rfl rfl rfl rfl rfl rfl rfl hi (by decide) hL hL2 ?_
  refine L_arg hS (j := 4) rfl rfl rfl rfl rfl rfl rfl hi (by decide) hL hL2 ?_
  refine L_arg hS (j := 5) rfl rfl rfl rfl rfl rfl rfl hi (by decide) hL hL2 ?_
  refine hCm 279 6 464 _ _ _ _ _ rfl rfl g0.2.2.2.1 g0.1 g0.2.1 (L_vBm rfl) (m_279 (by decide) g0.2.2.2.2.2 (L_rng _) (L_rng _) (L_rng _) (L_rng _) (L_rng _)) (fun r w2 v2 hq hf2 => ?_)
  obtain ⟨z2, rfl, hF2, e2⟩ := hq
  have k0 := L_m g0 hf2 hF2.F
  have k3 : lw3 v2 := lw3_same h0 h3 hf1 e1 hf2 e2
  refine e_GS.run hS (t' := (2142, [(3, (0, i)), (0, (1, 362)), (1, (1, 0)), (2, (1, 275))], [], v2)) 2 rfl ?_
  exact hK v2 ⟨k0, k3⟩
theorem law_arm_5 {L : Nat} {xs : Nat → Int32} {G : eS → Prop} (hS : e_GS (codeL L xs) 0 G) (hCk : law_GC L xs kcode Bk G) (hCm : law_GC L xs ecode Bm G) {u : eW} {i : Int} (hR : lwR u) (hi : 0 ≤ i) (hL : i + 5 < L) (hL2 : L ≤ 3072) (hK : ∀ v, lwR v → G (2142, [(3, (0, i)), (0, (1, 362)), (1, (1, 0)), (2, (1, 275))], [], v)) : G (471, [(3, (0, i)), (0, (1, 362)), (1, (1, 0)), (2, (1, 275))], [], u) := by
  obtain ⟨h0, h3⟩ := hR
  refine e_GS.run hS (t' := (472, [(3, (0, i)), (0, (1, 362)), (1, (1, 0)), (2, (1, 275))], [(1, 0)], u)) 1 rfl ?_
  refine L_arg hS (j := 1) rfl rfl rfl rfl rfl rfl rfl hi (by decide) hL hL2 ?_
  refine L_arg hS (j := 2) rfl rfl rfl rfl rfl rfl rfl hi (by decide) hL hL2 ?_
  refine L_arg hS (j := 3) rfl rfl rfl rfl rfl rfl rfl hi (by decide) hL hL2 ?_
  refine L_arg hS (j := 4) rfl rfl rfl rfl rfl rfl rfl hi (by decide) hL hL2 ?_
  refine hCk 195 5 492 _ _ _ _ _ rfl rfl h0.2.2.1 h0.1 h0.2.1 (L_vB rfl) (k_195 (by decide) h0.2.2.2.2.1 (L_kAl h0.1) (L_rng _) (L_rng _) (L_rng _) (L_rng _)) (fun r w1 v hq hf1 => ?_)
  obtain ⟨z1, rfl, hF1, e1⟩ := hq
  have g0 := L_k h0 hf1 hF1
  refine e_GS.run hS (t' := (496, [(3, (0, i)), (0, (1, 362)), (1, (1, 0)), (2, (1, 275))], [], v)) 1 rfl ?_
  refine e_GS.run hS (t' := (497, [(3, (0, i)), (0, (1, 362)), (1, (1, 0)), (2, (1, 275))], [(1, 275)], v)) 1 rfl ?_
  refine L_arg hS (j := 1) rfl rfl rfl rfl rfl rfl rfl hi (by decide) hL hL2 ?_
  refine L_arg hS (j := 2) rfl rfl rfl rfl rfl rfl rfl hi (by decide) hL hL2 ?_
  refine L_arg hS (j := 3) rfl rfl rfl rfl rfl rfl rfl hi (by decide) hL hL2 ?_
  refine L_arg hS (j := 4) rfl rfl rfl rfl rfl rfl rfl hi (by decide) hL hL2 ?_
  refine hCm 281 5 517 _ _ _ _ _ rfl rfl g0.2.2.2.1 g0.1 g0.2.1 (L_vBm rfl) (m_281 (by decide) g0.2.2.2.2.2 (L_rng _) (L_rng _) (L_rng _) (L_rng _)) (fun r w2 v2 hq hf2 => ?_)
  obtain ⟨z2, rfl, hF2, e2⟩ := hq
  have k0 := L_m g0 hf2 hF2.F
  have k3 : lw3 v2 := lw3_same h0 h3 hf1 e1 hf2 e2
  refine e_GS.run hS (t' := (2142, [(3, (0, i)), (0, (1, 362)), (1, (1, 0)), (2, (1, 275))], [], v2)) 2 rfl ?_
  exact hK v2 ⟨k0, k3⟩
theorem law_arm_6 {L : Nat} {xs : Nat → Int32} {G : eS → Prop} (hS : e_GS (codeL L xs) 0 G) (hCk : law_GC L xs kcode Bk G) (hCm : law_GC L xs ecode Bm G) {u : eW} {i : Int} (hR : lwR u) (hi : 0 ≤ i) (hL : i + 5 < L) (hL2 : L ≤ 3072) (hK : ∀ v, lwR v → G (2142, [(3, (0, i)), (0, (1, 362)), (1, (1, 0)), (2, (1, 275))], [], v)) : G (524, [(3, (0, i)), (0, (1, 362)), (1, (1, 0)), (2, (1, 275))], [], u) := by
  obtain ⟨h0, h3⟩ := hR
  refine e_GS.run hS (t' := (525, [(3, (0, i)), (0, (1, 362)), (1, (1, 0)), (2, (1, 275))], [(1, 0)], u)) 1 rfl ?_
  refine L_arg hS (j := 1) rfl rfl rfl rfl rfl rfl rfl hi (by decide) hL hL2 ?_
  refine L_arg hS (j := 2) rfl rfl rfl rfl rfl rfl rfl hi (by decide) hL hL2 ?_
  refine L_arg hS (j := 3) rfl rfl rfl rfl rfl rfl rfl hi (by decide) hL hL2 ?_
  refine hCk 196 4 540 _ _ _ _ _ rfl rfl h0.2.2.1 h0.1 h0.2.1 (L_vB rfl) (k_196 (by decide) h0.2.2.2.2.1 (L_kAl h0.1) (L_rng _) (L_rng _) (L_rng _)) (fun r w1 v hq hf1 => ?_)
  obtain ⟨z1, rfl, hF1, e1⟩ := hq
  have g0 := L_k h0 hf1 hF1
  refine e_GS.run hS (t' := (544, [(3, (0, i)), (0, (1, 362)), (1, (1, 0)), (2, (1, 275))], [], v)) 1 rfl ?_
  refine e_GS.run hS (t' := (545, [(3, (0, i)), (0, (1, 362)), (1, (1, 0)), (2, (1, 275))], [(1, 275)], v)) 1 rfl ?_
  refine L_arg hS (j := 1) rfl rfl rfl rfl rfl rfl rfl hi (by decide) hL hL2 ?_
  refine L_arg hS (j := 2) rfl rfl rfl rfl rfl rfl rfl hi (by decide) hL hL2 ?_
  refine L_arg hS (j := 3) rfl rfl rfl rfl rfl rfl rfl hi (by decide) hL hL2 ?_
  refine hCm 280 4 560 _ _ _ _ _ rfl rfl g0.2.2.2.1 g0.1 g0.2.1 (L_vBm rfl) (m_280 (by decide) g0.2.2.2.2.2 (L_rng _) (L_rng _) (L_rng _)) (fun r w2 v2 hq hf2 => ?_)
  obtain ⟨z2, rfl, hF2, e2⟩ := hq
  have k0 := L_m g0 hf2 hF2.F
  have k3 : lw3 v2 := lw3_same h0 h3 hf1 e1 hf2 e2
  refine e_GS.run hS (t' := (2142, [(3, (0, i)), (0, (1, 362)), (1, (1, 0)), (2, (1, 275))], [], v2)) 2 rfl ?_
  exact hK v2 ⟨k0, k3⟩
theorem law_arm_7 {L : Nat} {xs : Nat → Int32} {G : eS → Prop} (hS : e_GS (codeL L xs) 0 G) (hCk : law_GC L xs kcode Bk G) (hCm : law_GC L xs ecode Bm G) {u : eW} {i : Int} (hR : lwR u) (hi : 0 ≤ i) (hL : i + 5 < L) (hL2 : L ≤ 3072) (hK : ∀ v, lwR v → G (2142, [(3, (0, i)), (0, (1, 362)), (1, (1, 0)), (2, (1, 275))], [], v)) : G (567, [(3, (0, i)), (0, (1, 362)), (1, (1, 0)), (2, (1, 275))], [], u) := by
  obtain ⟨h0, h3⟩ := hR
  refine e_GS.run hS (t' := (568, [(3, (0, i)), (0, (1, 362)), (1, (1, 0)), (2, (1, 275))], [(1, 0)], u)) 1 rfl ?_
  refine L_arg hS (j := 1) rfl rfl rfl rfl rfl rfl rfl hi (by decide) hL hL2 ?_
  refine L_arg hS (j := 2) rfl rfl rfl rfl rfl rfl rfl hi (by decide) hL hL2 ?_
  refine L_arg hS (j := 3) rfl rfl rfl rfl rfl rfl rfl hi (by decide) hL hL2 ?_
  refine hCk 197 4 583 _ _ _ _ _ rfl rfl h0.2.2.1 h0.1 h0.2.1 (L_vB rfl) (k_197 (by decide) h0.2.2.2.2.1 (L_kAl h0.1) (L_rng _) (L_rng _) (L_rng _)) (fun r w1 v hq hf1 => ?_)
  obtain ⟨z1, rfl, hF1, e1⟩ := hq
  have g0 := L_k h0 hf1 hF1
  refine e_GS.run hS (t' := (587, [(3, (0, i)), (0, (1, 362)), (1, (1, 0)), (2, (1, 275))], [], v)) 1 rfl ?_
  refine e_GS.run hS (t' := (588, [(3, (0, i)), (0, (1, 362)), (1, (1, 0)), (2, (1, 275))], [(1, 275)], v)) 1 rfl ?_
  refine L_arg hS (j := 1) rfl rfl rfl rfl rfl rfl rfl hi (by decide) hL hL2 ?_
  refine L_arg hS (j := 2) rfl rfl rfl rfl rfl rfl rfl hi (by decide) hL hL2 ?_
  refine L_arg hS (j := 3) rfl rfl rfl rfl rfl rfl rfl hi (by decide) hL hL2 ?_
  refine hCm 283 4 603 _ _ _ _ _ rfl rfl g0.2.2.2.1 g0.1 g0.2.1 (L_vBm rfl) (m_283 (by decide) g0.2.2.2.2.2 (L_rng _) (L_rng _) (L_rng _)) (fun r w2 v2 hq hf2 => ?_)
  obtain ⟨z2, rfl, hF2, e2⟩ := hq
  have k0 := L_m g0 hf2 hF2.F
  have k3 : lw3 v2 := lw3_same h0 h3 hf1 e1 hf2 e2
  refine e_GS.run hS (t' := (2142, [(3, (0, i)), (0, (1, 362)), (1, (1, 0)), (2, (1, 275))], [], v2)) 2 rfl ?_
  exact hK v2 ⟨k0, k3⟩
theorem law_arm_8 {L : Nat} {xs : Nat → Int32} {G : eS → Prop} (hS : e_GS (codeL L xs) 0 G) (hCk : law_GC L xs kcode Bk G) (hCm : law_GC L xs ecode Bm G) {u : eW} {i : Int} (hR : lwR u) (hi : 0 ≤ i) (hL : i + 5 < L) (hL2 : L ≤ 3072) (hK : ∀ v, lwR v → G (2142, [(3, (0, i)), (0, (1, 362)), (1, (1, 0)), (2, (1, 275))], [], v)) : G (610, [(3, (0, i)), (0, (1, 362)), (1, (1, 0)), (2, (1, 275))], [], u) := by
  obtain ⟨h0, h3⟩ := hR
  refine e_GS.run hS (t' := (611, [(3, (0, i)), (0, (1, 362)), (1, (1, 0)), (2, (1, 275))], [(1, 0)], u)) 1 rfl ?_
  refine L_arg hS (j := 1) rfl rfl rfl rfl rfl rfl rfl hi (by decide) hL hL2 ?_
  refine L_arg hS (j := 2) rfl rfl rfl rfl rfl rfl rfl hi (by decide) hL hL2 ?_
  refine L_arg hS (j := 3) rfl rfl rfl rfl rfl rfl rfl hi (by decide) hL hL2 ?_
  refine L_arg hS (j := 4) rfl rfl rfl rfl rfl rfl rfl hi (by decide) hL hL2 ?_
  refine hCk 198 5 631 _ _ _ _ _ rfl rfl h0.2.2.1 h0.1 h0.2.1 (L_vB rfl) (k_198 (by decide) h0.2.2.2.2.1 (L_kAl h0.1) (L_rng _) (L_rng _) (L_rng _) (L_rng _)) (fun r w1 v hq hf1 => ?_)
  obtain ⟨z1, rfl, hF1, e1⟩ := hq
  have g0 := L_k h0 hf1 hF1
  refine e_GS.run hS (t' := (635, [(3, (0, i)), (0, (1, 362)), (1, (1, 0)), (2, (1, 275))], [], v)) 1 rfl ?_
  refine e_GS.run hS (t' := (636, [(3, (0, i)), (0, (1, 362)), (1, (1, 0)), (2, (1, 275))], [(1, 275)], v)) 1 rfl ?_
  refine L_arg hS (j := 1) rfl rfl rfl rfl rfl rfl rfl hi (by decide) hL hL2 ?_
  refine L_arg hS (j := 2) rfl rfl rfl rfl rfl rfl rfl hi (by decide) hL hL2 ?_
  refine L_arg hS (j := 3) rfl rfl rfl rfl rfl rfl rfl hi (by decide) hL hL2 ?_
  refine L_arg hS (j := 4) rfl rfl rfl rfl rfl rfl rfl hi (by decide) hL hL2 ?_
  refine hCm 284 5 656 _ _ _ _ _ rfl rfl g0.2.2.2.1 g0.1 g0.2.1 (L_vBm rfl) (m_284 (by decide) g0.2.2.2.2.2 (L_rng _) (L_rng _) (L_rng _) (L_rng _)) (fun r w2 v2 hq hf2 => ?_)
  obtain ⟨z2, rfl, hF2, e2⟩ := hq
  have k0 := L_m g0 hf2 hF2.F
  have k3 : lw3 v2 := lw3_same h0 h3 hf1 e1 hf2 e2
  refine e_GS.run hS (t' := (2142, [(3, (0, i)), (0, (1, 362)), (1, (1, 0)), (2, (1, 275))], [], v2)) 2 rfl ?_
  exact hK v2 ⟨k0, k3⟩
theorem law_arm_9 {L : Nat} {xs : Nat → Int32} {G : eS → Prop} (hS : e_GS (codeL L xs) 0 G) (hCk : law_GC L xs kcode Bk G) (hCm : law_GC L xs ecode Bm G) {u : eW} {i : Int} (hR : lwR u) (hi : 0 ≤ i) (hL : i + 5 < L) (hL2 : L ≤ 3072) (hK : ∀ v, lwR v → G (2142, [(3, (0, i)), (0, (1, 362)), (1, (1, 0)), (2, (1, 275))], [], v)) : G (663, [(3, (0, i)), (0, (1, 362)), (1, (1, 0)), (2, (1, 275))], [], u) := by
  obtain ⟨h0, h3⟩ := hR
  refine e_GS.run hS (t' := (664, [(3, (0, i)), (0, (1, 362)), (1, (1, 0)), (2, (1, 275))], [(1, 0)], u)) 1 rfl ?_
  refine L_arg hS (j := 1) rfl rfl rfl rfl rfl rfl rfl hi (by decide) hL hL2 ?_
  refine L_arg hS (j := 2) rfl rfl rfl rfl rfl rfl rfl hi (by decide) hL hL2 ?_
  refine L_arg hS (j := 3) rfl rfl rfl rfl rfl rfl rfl hi (by decide) hL hL2 ?_
  refine hCk 199 4 679 _ _ _ _ _ rfl rfl h0.2.2.1 h0.1 h0.2.1 (L_vB rfl) (k_199 (by decide) h0.2.2.2.2.1 (L_kAl h0.1) (L_rng _) (L_rng _) (L_rng _)) (fun r w1 v hq hf1 => ?_)
  obtain ⟨z1, rfl, hF1, e1⟩ := hq
  have g0 := L_k h0 hf1 hF1
  refine e_GS.run hS (t' := (683, [(3, (0, i)), (0, (1, 362)), (1, (1, 0)), (2, (1, 275))], [], v)) 1 rfl ?_
  refine e_GS.run hS (t' := (684, [(3, (0, i)), (0, (1, 362)), (1, (1, 0)), (2, (1, 275))], [(1, 275)], v)) 1 rfl ?_
  refine L_arg hS (j := 1) rfl rfl rfl rfl rfl rfl rfl hi (by decide) hL hL2 ?_
  refine L_arg hS (j := 2) rfl rfl rfl rfl rfl rfl rfl hi (by decide) hL hL2 ?_
  refine L_arg hS (j := 3) rfl rfl rfl rfl rfl rfl rfl hi (by decide) hL hL2 ?_
  refine hCm 285 4 699 _ _ _ _ _ rfl rfl g0.2.2.2.1 g0.1 g0.2.1 (L_vBm rfl) (m_285 (by decide) g0.2.2.2.2.2 (L_rng _) (L_rng _) (L_rng _)) (fun r w2 v2 hq hf2 => ?_)
  obtain ⟨z2, rfl, hF2, e2⟩ := hq
  have k0 := L_m g0 hf2 hF2.F
  have k3 : lw3 v2 := lw3_same h0 h3 hf1 e1 hf2 e2
  refine e_GS.run hS (t' := (2142, [(3, (0, i)), (0, (1, 362)), (1, (1, 0)), (2, (1, 275))], [], v2)) 2 rfl ?_
  exact hK v2 ⟨k0, k3⟩
theorem law_arm_10 {L : Nat} {xs : Nat → Int32} {G : eS → Prop} (hS : e_GS (codeL L xs) 0 G) (hCk : law_GC L xs kcode Bk G) (hCm : law_GC L xs ecode Bm G) {u : eW} {i : Int} (hR : lwR u) (hi : 0 ≤ i) (hL : i + 5 < L) (hL2 : L ≤ 3072) (hK : ∀ v, lwR v → G (2142, [(3, (0, i)), (0, (1, 362)), (1, (1, 0)), (2, (1, 275))], [], v)) : G (706, [(3, (0, i)), (0, (1, 362)), (1, (1, 0)), (2, (1, 275))], [], u) := by
  obtain ⟨h0, h3⟩ := hR
  refine e_GS.run hS (t' := (707, [(3, (0, i)), (0, (1, 362)), (1, (1, 0)), (2, (1, 275))], [(1, 0)], u)) 1 rfl ?_
  refine L_arg hS (j := 1) rfl rfl rfl rfl rfl rfl rfl hi (by decide) hL hL2 ?_
  refine L_arg hS (j := 2) rfl rfl rfl rfl rfl rfl rfl hi (by decide) hL hL2 ?_
  refine L_arg hS (j := 3) rfl rfl rfl rfl rfl rfl rfl hi (by decide) hL hL2 ?_
  refine L_arg hS (j := 4) rfl rfl rfl rfl rfl rfl rfl hi (by decide) hL hL2 ?_
  refine L_arg hS (j := 5) rfl rfl rfl rfl rfl rfl rfl hi (by decide) hL hL2 ?_
  refine hCk 200 6 732 _ _ _ _ _ rfl rfl h0.2.2.1 h0.1 h0.2.1 (L_vB rfl) (k_200 (by decide) h0.2.2.2.2.1 (L_kAl h0.1) (L_rng _) (L_rng _) (L_rng _) (L_rng _) (L_rng _)) (fun r w1 v hq hf1 => ?_)
  obtain ⟨z1, rfl, hF1, e1⟩ := hq
  have g0 := L_k h0 hf1 hF1
  refine e_GS.run hS (t' := (736, [(3, (0, i)), (0, (1, 362)), (1, (1, 0)), (2, (1, 275))], [], v)) 1 rfl ?_
  refine e_GS.run hS (t' := (737, [(3, (0, i)), (0, (1, 362)), (1, (1, 0)), (2, (1, 275))], [(1, 275)], v)) 1 rfl ?_
  refine L_arg hS (j := 1) rfl rfl rfl rfl rfl rfl rfl hi (by decide) hL hL2 ?_
  refine L_arg hS (j := 2) rfl rfl rfl rfl rfl rfl rfl hi (by decide) hL hL2 ?_
  refine L_arg hS (j := 3) rfl rfl rfl rfl rfl rfl rfl hi (by decide) hL hL2 ?_
  refine L_arg hS (j := 4) rfl rfl rfl rfl rfl rfl rfl hi (by decide) hL hL2 ?_
  refine L_arg hS (j := 5) rfl rfl rfl rfl rfl rfl rfl hi (by decide) hL hL2 ?_
  refine hCm 286 6 762 _ _ _ _ _ rfl rfl g0.2.2.2.1 g0.1 g0.2.1 (L_vBm rfl) (m_286 (by decide) g0.2.2.2.2.2 (L_rng _) (L_rng _) (L_rng _) (L_rng _) (L_rng _)) (fun r w2 v2 hq hf2 => ?_)
  obtain ⟨z2, rfl, hF2, e2⟩ := hq
  have k0 := L_m g0 hf2 hF2.F
  have k3 : lw3 v2 := lw3_same h0 h3 hf1 e1 hf2 e2
  refine e_GS.run hS (t' := (2142, [(3, (0, i)), (0, (1, 362)), (1, (1, 0)), (2, (1, 275))], [], v2)) 2 rfl ?_
  exact hK v2 ⟨k0, k3⟩
theorem law_arm_11 {L : Nat} {xs : Nat → Int32} {G : eS → Prop} (hS : e_GS (codeL L xs) 0 G) (hCk : law_GC L xs kcode Bk G) (hCm : law_GC L xs ecode Bm G) {u : eW} {i : Int} (hR : lwR u) (hi : 0 ≤ i) (hL : i + 5 < L) (hL2 : L ≤ 3072) (hK : ∀ v, lwR v → G (2142, [(3, (0, i)), (0, (1, 362)), (1, (1, 0)), (2, (1, 275))], [], v)) : G (769, [(3, (0, i)), (0, (1, 362)), (1, (1, 0)), (2, (1, 275))], [], u) := by
  obtain ⟨h0, h3⟩ := hR
  refine e_GS.run hS (t' := (770, [(3, (0, i)), (0, (1, 362)), (1, (1, 0)), (2, (1, 275))], [(1, 0)], u)) 1 rfl ?_
  refine L_arg hS (j := 1) rfl rfl rfl rfl rfl rfl rfl hi (by decide) hL hL2 ?_
  refine L_arg hS (j := 2) rfl rfl rfl rfl rfl rfl rfl hi (by decide) hL hL2 ?_
  refine hCk 201 3 780 _ _ _ _ _ rfl rfl h0.2.2.1 h0.1 h0.2.1 (L_vB rfl) (k_201 (by decide) h0.2.2.2.2.1 (L_kAl h0.1) (L_rng _) (L_rng _)) (fun r w1 v hq hf1 => ?_)
  obtain ⟨z1, rfl, hF1, e1⟩ := hq
  have g0 := L_k h0 hf1 hF1
  refine e_GS.run hS (t' := (784, [(3, (0, i)), (0, (1, 362)), (1, (1, 0)), (2, (1, 275))], [], v)) 1 rfl ?_
  refine e_GS.run hS (t' := (785, [(3, (0, i)), (0, (1, 362)), (1, (1, 0)), (2, (1, 275))], [(1, 275)], v)) 1 rfl ?_
  refine L_arg hS (j := 1) rfl rfl rfl rfl rfl rfl rfl hi (by decide) hL hL2 ?_
  refine L_arg hS (j := 2) rfl rfl rfl rfl rfl rfl rfl hi (by decide) hL hL2 ?_
  refine hCm 287 3 795 _ _ _ _ _ rfl rfl g0.2.2.2.1 g0.1 g0.2.1 (L_vBm rfl) (m_287 (by decide) g0.2.2.2.2.2 (L_rng _) (L_rng _)) (fun r w2 v2 hq hf2 => ?_)
  obtain ⟨z2, rfl, hF2, e2⟩ := hq
  have k0 := L_m g0 hf2 hF2.F
  have k3 : lw3 v2 := lw3_same h0 h3 hf1 e1 hf2 e2
  refine e_GS.run hS (t' := (2142, [(3, (0, i)), (0, (1, 362)), (1, (1, 0)), (2, (1, 275))], [], v2)) 2 rfl ?_
  exact hK v2 ⟨k0, k3⟩
theorem law_arm_12 {L : Nat} {xs : Nat → Int32} {G : eS → Prop} (hS : e_GS (codeL L xs) 0 G) (hCk : law_GC L xs kcode Bk G) (hCm : law_GC L xs ecode Bm G) {u : eW} {i : Int} (hR : lwR u) (hi : 0 ≤ i) (hL : i + 5 < L) (hL2 : L ≤ 3072) (hK : ∀ v, lwR v → G (2142, [(3, (0, i)), (0, (1, 362)), (1, (1, 0)), (2, (1, 275))], [], v)) : G (802, [(3, (0, i)), (0, (1, 362)), (1, (1, 0)), (2, (1, 275))], [], u) := by
  obtain ⟨h0, h3⟩ := hR
  refine e_GS.run hS (t' := (803, [(3, (0, i)), (0, (1, 362)), (1, (1, 0)), (2, (1, 275))], [(1, 0)], u)) 1 rfl ?_
  refine L_arg hS (j := 1) rfl rfl rfl rfl rfl rfl rfl hi (by decide) hL hL2 ?_
  refine L_arg hS (j := 2) rfl rfl rfl rfl rfl rfl rfl hi (by decide) hL hL2 ?_
  refine L_arg hS (j := 3) rfl rfl rfl rfl rfl rfl rfl hi (by decide) hL hL2 ?_
  refine L_arg hS (j := 4) rfl rfl rfl rfl rfl rfl rfl hi (by decide) hL hL2 ?_
  refine hCk 202 5 823 _ _ _ _ _ rfl rfl h0.2.2.1 h0.1 h0.2.1 (L_vB rfl) (k_202 (by decide) h0.2.2.2.2.1 (L_kAl h0.1) (L_rng _) (L_rng _) (L_rng _) (L_rng _)) (fun r w1 v hq hf1 => ?_)
  obtain ⟨z1, rfl, hF1, e1⟩ := hq
  have g0 := L_k h0 hf1 hF1
  refine e_GS.run hS (t' := (827, [(3, (0, i)), (0, (1, 362)), (1, (1, 0)), (2, (1, 275))], [], v)) 1 rfl ?_
  refine e_GS.run hS (t' := (828, [(3, (0, i)), (0, (1, 362)), (1, (1, 0)), (2, (1, 275))], [(1, 275)], v)) 1 rfl ?_
  refine L_arg hS (j := 1) rfl rfl rfl rfl rfl rfl rfl hi (by decide) hL hL2 ?_
  refine L_arg hS (j := 2) rfl rfl rfl rfl rfl rfl rfl hi (by decide) hL hL2 ?_
  refine L_arg hS (j := 3) rfl rfl rfl rfl rfl rfl rfl hi (by decide) hL hL2 ?_
  refine L_arg hS (j := 4) rfl rfl rfl rfl rfl rfl rfl hi (by decide) hL hL2 ?_
  refine hCm 288 5 848 _ _ _ _ _ rfl rfl g0.2.2.2.1 g0.1 g0.2.1 (L_vBm rfl) (m_288 (by decide) g0.2.2.2.2.2 (L_rng _) (L_rng _) (L_rng _) (L_rng _)) (fun r w2 v2 hq hf2 => ?_)
  obtain ⟨z2, rfl, hF2, e2⟩ := hq
  have k0 := L_m g0 hf2 hF2.F
  have k3 : lw3 v2 := lw3_same h0 h3 hf1 e1 hf2 e2
  refine e_GS.run hS (t' := (2142, [(3, (0, i)), (0, (1, 362)), (1, (1, 0)), (2, (1, 275))], [], v2)) 2 rfl ?_
  exact hK v2 ⟨k0, k3⟩
end
