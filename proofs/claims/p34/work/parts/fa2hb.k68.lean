noncomputable section
/-! the class: how many rows the book has; what channel and aim answer -/
theorem c_256_4 {d : Nat} (hd : 27 ≤ d) {w : eW} (hT : e_Has kTy w) {a b c : Int} (ga : 0 ≤ a ∧ a ≤ 7) (gb : 0 ≤ b ∧ b ≤ 1) (gc : 0 ≤ c ∧ c ≤ 1) : e_Ok 20 elay kcode eI d 256 (0, [(0, (1, 0)), (1, (0, 4)), (2, (0, a)), (3, (0, b)), (4, (0, c))], [], w) (fun r w' => ∃ z : Int, r = [(0, z)] ∧ z = 0) := by
  obtain ⟨d, rfl⟩ : ∃ e, d = e + 1 := ⟨d - 1, by omega⟩
  refine e_Ok.run (t' := (1, [(0, (1, 0)), (1, (0, 4)), (2, (0, a)), (3, (0, b)), (4, (0, c))], [(0, 4)], w)) 1 rfl ?_
  have hs2 : ∀ x : Int, 4 ≤ x ∧ x ≤ 4 → (x = 4) := fun x h => by omega
  obtain h1 := hs2 (4) (by omega)
  · refine e_Ok.swk (tg := 104) rfl (by rw [h1]; rfl) ?_
    refine e_Ok.run (t' := (105, [(0, (1, 0)), (1, (0, 4)), (2, (0, a)), (3, (0, b)), (4, (0, c))], [(1, 0)], w)) 1 rfl ?_
    refine e_Ok.getr (z := 74) rfl rfl rfl rfl (Eq.trans (e_Has.eq hT rfl) (by omega)) (by omega) ?_
    refine e_Ok.run (t' := (110, [(0, (1, 0)), (1, (0, 4)), (2, (0, a)), (3, (0, b)), (4, (0, c))], [(0, b), (0, a), (1, 74)], w)) 2 rfl ?_
    have hJ5 : ∀ m4 : Int, 0 ≤ m4 ∧ m4 ≤ 1 → e_Ok 20 elay kcode eI (d + 1) 256 (118, [(0, (1, 0)), (1, (0, 4)), (2, (0, a)), (3, (0, b)), (4, (0, c))], [(0, m4), (0, a), (1, 74)], w) (fun r w' => ∃ z : Int, r = [(0, z)] ∧ z = 0) := by
      intro m4 m4r
      refine e_Ok.run (t' := (120, [(0, (1, 0)), (1, (0, 4)), (2, (0, a)), (3, (0, b)), (4, (0, c))], [(0, c), (0, m4), (0, a), (1, 74)], w)) 1 rfl ?_
      have hJ8 : ∀ m7 : Int, 0 ≤ m7 ∧ m7 ≤ 1 → e_Ok 20 elay kcode eI (d + 1) 256 (128, [(0, (1, 0)), (1, (0, 4)), (2, (0, a)), (3, (0, b)), (4, (0, c))], [(0, m7), (0, m4), (0, a), (1, 74)], w) (fun r w' => ∃ z : Int, r = [(0, z)] ∧ z = 0) := by
        intro m7 m7r
        refine e_Ok.callV rfl (by omega) rfl rfl rfl rfl (c_28 hT ga (by omega) (by omega)) (fun r9 w10 h11 => ?_)
        obtain ⟨z12, rfl, q13f, q13T, q13r⟩ := h11
        have f14 : e_fr kNw w w10 := e_fr.trans (e_fr.refl w) (e_fr.mono q13f (fun c k q => by exact nw_kCh q))
        show e_Ok 20 elay kcode eI (d + 1) 256 (131, [(0, (1, 0)), (1, (0, 4)), (2, (0, a)), (3, (0, b)), (4, (0, c))], [(0, z12)], w10) _
        refine e_Ok.rets rfl rfl ?_
        exact ⟨_, rfl, by omega⟩
      refine e_Ok.if1 rfl (fun h6 => ?_) (fun h6 => ?_)
      · exact e_Ok.run 1 rfl (hJ8 0 (by omega))
      · exact e_Ok.run 2 rfl (hJ8 1 (by omega))
    refine e_Ok.if1 rfl (fun h3 => ?_) (fun h3 => ?_)
    · exact e_Ok.run 1 rfl (hJ5 0 (by omega))
    · exact e_Ok.run 2 rfl (hJ5 1 (by omega))
theorem c_256_9 {d : Nat} (hd : 27 ≤ d) {w : eW} (hT : e_Has kTy w) {a b c : Int} (ga : 0 ≤ a ∧ a ≤ 5) (gb : -2147483648 ≤ b ∧ b ≤ 2147483647) : e_Ok 20 elay kcode eI d 256 (0, [(0, (1, 0)), (1, (0, 9)), (2, (0, a)), (3, (0, b)), (4, (0, c))], [], w) (fun r w' => ∃ z : Int, r = [(0, z)] ∧ z = 0) := by
  obtain ⟨d, rfl⟩ : ∃ e, d = e + 1 := ⟨d - 1, by omega⟩
  refine e_Ok.run (t' := (1, [(0, (1, 0)), (1, (0, 9)), (2, (0, a)), (3, (0, b)), (4, (0, c))], [(0, 9)], w)) 1 rfl ?_
  have hs2 : ∀ x : Int, 9 ≤ x ∧ x ≤ 9 → (x = 9) := fun x h => by omega
  obtain h1 := hs2 (9) (by omega)
  · refine e_Ok.swk (tg := 165) rfl (by rw [h1]; rfl) ?_
    refine e_Ok.run (t' := (166, [(0, (1, 0)), (1, (0, 9)), (2, (0, a)), (3, (0, b)), (4, (0, c))], [(1, 0)], w)) 1 rfl ?_
    refine e_Ok.getr (z := 272) rfl rfl rfl rfl (Eq.trans (e_Has.eq hT rfl) (by omega)) (by omega) ?_
    refine e_Ok.run (t' := (171, [(0, (1, 0)), (1, (0, 9)), (2, (0, a)), (3, (0, b)), (4, (0, c))], [(0, b), (0, a), (1, 272)], w)) 2 rfl ?_
    refine e_Ok.ast rfl rfl rfl rfl (by omega) ?_
    generalize hw3 : e_up w 272 a b = w3
    have f4 : e_fr kNw w w3 := e_fr.up (e_fr.refl w) hw3 (by unfold kNw; omega)
    have hT5 : e_Has kTy w3 := e_Has.upr hT hw3 rfl (by omega)
    refine e_Ok.run (t' := (173, [(0, (1, 0)), (1, (0, 9)), (2, (0, a)), (3, (0, b)), (4, (0, c))], [(0, 0)], w3)) 1 rfl ?_
    refine e_Ok.rets rfl rfl ?_
    exact ⟨_, rfl, rfl⟩
theorem c_255_r {d : Nat} (hd : 29 ≤ d) {w : eW} (hT : e_Has kTy w) {OP OD CL : Int → Int → Int} {S : Int → eW} (q : kB w OP OD CL S) (hO : w 0 13 = 1) {x a b c : Int} (g_x : -2147483648 ≤ x ∧ x ≤ 2147483647) (g_a : -2147483648 ≤ a ∧ a ≤ 2147483647) (g_b : -2147483648 ≤ b ∧ b ≤ 2147483647) (g_c : -2147483648 ≤ c ∧ c ≤ 2147483647) (hx : x ≠ 1) (hR : rwC w x a b c) (hb : x = 10 → b < w 262 0) : e_Ok 20 elay kcode eI d 255 (0, [(0, (1, 0)), (1, (0, x)), (2, (0, a)), (3, (0, b)), (4, (0, c))], [], w) (fun r w' => ∃ z : Int, r = [(0, z)] ∧ ((w' = w ∧ z = -3 ∧ 2000 ≤ w 0 12) ∨ ((0 ≤ w 0 12 ∧ w 0 12 < 2000) ∧ w' 0 12 = w 0 12 + 1))) := by
  obtain ⟨d, rfl⟩ : ∃ e, d = e + 1 := ⟨d - 1, by omega⟩
  have h12 := q.1.1
  refine e_Ok.run (t' := (1, [(0, (1, 0)), (1, (0, x)), (2, (0, a)), (3, (0, b)), (4, (0, c))], [(1, 0)], w)) 1 rfl ?_
  refine e_Ok.callV rfl (by omega) rfl rfl rfl rfl (c_253 h12) (fun r1 w2 h3 => ?_)
  obtain ⟨z5, rfl, rfl, q4r, q4x⟩ := h3
  show e_Ok 20 elay kcode eI (d + 1) 255 (4, [(0, (1, 0)), (1, (0, x)), (2, (0, a)), (3, (0, b)), (4, (0, c))], [(0, z5)], w) _
  refine e_Ok.if1 rfl (fun h6 => ?_) (fun h6 => ?_)
  · replace h6 : (z5 : Int) ≠ 0 := h6
    refine e_Ok.run (t' := (16, [(0, (1, 0)), (1, (0, x)), (2, (0, a)), (3, (0, b)), (4, (0, c))], [(0, c), (0, b), (0, a), (0, x), (1, 0)], w)) 5 rfl ?_
    refine e_Ok.callV rfl (by omega) rfl rfl rfl rfl (e_Ok.out kAlk (c_254 hT g_x g_a g_b g_c (by omega))) (fun r7 w8 h9 => ?_)
    obtain ⟨⟨rfl, q10f, q10T, q10x⟩, q10o⟩ := h9
    have f11 : e_fr kNv w w8 := e_fr.trans (e_fr.refl w) (e_fr.mono q10f (fun c k q => by exact Or.inr q))
    show e_Ok 20 elay kcode eI (d + 1) 255 (19, [(0, (1, 0)), (1, (0, x)), (2, (0, a)), (3, (0, b)), (4, (0, c))], [], w8) _
    refine e_Ok.run (t' := (25, [(0, (1, 0)), (1, (0, x)), (2, (0, a)), (3, (0, b)), (4, (0, c))], [(0, c), (0, b), (0, a), (0, x), (1, 0)], w8)) 5 rfl ?_
    obtain ⟨⟨hh, h0, hU⟩, hev, he0, he1⟩ := q.ev (i := w 0 12) (by omega)
    have hUw := q.2.2.2.1.pj
    have hU1 : e_rf (pj w (S (w 0 12))) w8 := pj.rfo hUw (fun c k g => q10f c k (fun g2 => by have z := bo_x g2; rcases g with g | g; exact g z.1; exact z.2 g))
    refine e_Ok.callV rfl (by omega) rfl rfl rfl rfl (car_r (by omega) hU1 hU h0 (by omega) (rwC.dn hU hUw hb hR) g_a g_b g_c) (fun r12 w13 h14 => ?_)
    obtain ⟨⟨⟨z, rfl⟩, q15f, q15T, -⟩, -⟩ := h14
    have f16 : e_fr kNv w w13 := e_fr.trans f11 (e_fr.mono q15f (fun c k q => by exact Or.inl q))
    show e_Ok 20 elay kcode eI (d + 1) 255 (28, [(0, (1, 0)), (1, (0, x)), (2, (0, a)), (3, (0, b)), (4, (0, c))], [(0, z)], w13) _
    refine e_Ok.rets rfl rfl ?_
    exact ⟨_, rfl, Or.inr ⟨⟨by omega, by omega⟩, (q15f _ _ (by unfold kNw; omega)).trans q10x.1⟩⟩
  · replace h6 : (z5 : Int) = 0 := by have q : ¬ ((z5 : Int) ≠ 0) := h6; omega
    refine e_Ok.run (t' := (9, [(0, (1, 0)), (1, (0, x)), (2, (0, a)), (3, (0, b)), (4, (0, c))], [(0, (-3))], w)) 1 rfl ?_
    refine e_Ok.rets rfl rfl ?_
    exact ⟨_, rfl, Or.inl ⟨rfl, rfl, by omega⟩⟩
theorem c_255_4 {d : Nat} (hd : 29 ≤ d) {w : eW} (hT : e_Has kTy w) {OP OD CL : Int → Int → Int} {S : Int → eW} (q : kB w OP OD CL S) (hO : w 0 13 = 1) {a b c : Int} (g_a : -2147483648 ≤ a ∧ a ≤ 2147483647) (g_b : -2147483648 ≤ b ∧ b ≤ 2147483647) (g_c : -2147483648 ≤ c ∧ c ≤ 2147483647) (ga7 : 0 ≤ a ∧ a ≤ 7) (gb1 : 0 ≤ b ∧ b ≤ 1) (gc1 : 0 ≤ c ∧ c ≤ 1) (hR : rwC w 4 a b c) : e_Ok 20 elay kcode eI d 255 (0, [(0, (1, 0)), (1, (0, 4)), (2, (0, a)), (3, (0, b)), (4, (0, c))], [], w) (fun r w' => ∃ z : Int, r = [(0, z)] ∧ ((w' = w ∧ z = -3 ∧ 2000 ≤ w 0 12) ∨ ((0 ≤ w 0 12 ∧ w 0 12 < 2000) ∧ w' 0 12 = w 0 12 + 1 ∧ z = 0))) := by
  obtain ⟨d, rfl⟩ : ∃ e, d = e + 1 := ⟨d - 1, by omega⟩
  have h12 := q.1.1
  have hb : (4 : Int) = 10 → b < w 262 0 := fun g => absurd g (by decide)
  have g_x : -2147483648 ≤ (4 : Int) ∧ (4 : Int) ≤ 2147483647 := by decide
  refine e_Ok.run (t' := (1, [(0, (1, 0)), (1, (0, 4)), (2, (0, a)), (3, (0, b)), (4, (0, c))], [(1, 0)], w)) 1 rfl ?_
  refine e_Ok.callV rfl (by omega) rfl rfl rfl rfl (c_253 h12) (fun r1 w2 h3 => ?_)
  obtain ⟨z5, rfl, rfl, q4r, q4x⟩ := h3
  show e_Ok 20 elay kcode eI (d + 1) 255 (4, [(0, (1, 0)), (1, (0, 4)), (2, (0, a)), (3, (0, b)), (4, (0, c))], [(0, z5)], w) _
  refine e_Ok.if1 rfl (fun h6 => ?_) (fun h6 => ?_)
  · replace h6 : (z5 : Int) ≠ 0 := h6
    refine e_Ok.run (t' := (16, [(0, (1, 0)), (1, (0, 4)), (2, (0, a)), (3, (0, b)), (4, (0, c))], [(0, c), (0, b), (0, a), (0, 4), (1, 0)], w)) 5 rfl ?_
    refine e_Ok.callV rfl (by omega) rfl rfl rfl rfl (e_Ok.out kAlk (c_254 hT g_x g_a g_b g_c (by omega))) (fun r7 w8 h9 => ?_)
    obtain ⟨⟨rfl, q10f, q10T, q10x⟩, q10o⟩ := h9
    have f11 : e_fr kNv w w8 := e_fr.trans (e_fr.refl w) (e_fr.mono q10f (fun c k q => by exact Or.inr q))
    show e_Ok 20 elay kcode eI (d + 1) 255 (19, [(0, (1, 0)), (1, (0, 4)), (2, (0, a)), (3, (0, b)), (4, (0, c))], [], w8) _
    refine e_Ok.run (t' := (25, [(0, (1, 0)), (1, (0, 4)), (2, (0, a)), (3, (0, b)), (4, (0, c))], [(0, c), (0, b), (0, a), (0, 4), (1, 0)], w8)) 5 rfl ?_
    obtain ⟨⟨hh, h0, hU⟩, hev, he0, he1⟩ := q.ev (i := w 0 12) (by omega)
    have hUw := q.2.2.2.1.pj
    have hU1 : e_rf (pj w (S (w 0 12))) w8 := pj.rfo hUw (fun c k g => q10f c k (fun g2 => by have z := bo_x g2; rcases g with g | g; exact g z.1; exact z.2 g))
    refine e_Ok.callV rfl (by omega) rfl rfl rfl rfl (e_Ok.both (car_r (by omega) hU1 hU h0 (by omega) (rwC.dn hU hUw hb hR) g_a g_b g_c) (c_256_4 (by omega) q10T ga7 gb1 gc1)) (fun r12 w13 h14 => ?_)
    obtain ⟨⟨⟨⟨z, rfl⟩, q15f, q15T, -⟩, -⟩, z2, q15z, q15y⟩ := h14
    have ez : z = 0 := (one_z q15z).trans q15y
    have f16 : e_fr kNv w w13 := e_fr.trans f11 (e_fr.mono q15f (fun c k q => by exact Or.inl q))
    show e_Ok 20 elay kcode eI (d + 1) 255 (28, [(0, (1, 0)), (1, (0, 4)), (2, (0, a)), (3, (0, b)), (4, (0, c))], [(0, z)], w13) _
    refine e_Ok.rets rfl rfl ?_
    exact ⟨_, rfl, Or.inr ⟨⟨by omega, by omega⟩, (q15f _ _ (by unfold kNw; omega)).trans q10x.1, ez⟩⟩
  · replace h6 : (z5 : Int) = 0 := by have q : ¬ ((z5 : Int) ≠ 0) := h6; omega
    refine e_Ok.run (t' := (9, [(0, (1, 0)), (1, (0, 4)), (2, (0, a)), (3, (0, b)), (4, (0, c))], [(0, (-3))], w)) 1 rfl ?_
    refine e_Ok.rets rfl rfl ?_
    exact ⟨_, rfl, Or.inl ⟨rfl, rfl, by omega⟩⟩
theorem c_255_9 {d : Nat} (hd : 29 ≤ d) {w : eW} (hT : e_Has kTy w) {OP OD CL : Int → Int → Int} {S : Int → eW} (q : kB w OP OD CL S) (hO : w 0 13 = 1) {a b c : Int} (g_a : -2147483648 ≤ a ∧ a ≤ 2147483647) (g_b : -2147483648 ≤ b ∧ b ≤ 2147483647) (g_c : -2147483648 ≤ c ∧ c ≤ 2147483647) (ga7 : 0 ≤ a ∧ a ≤ 5) (hR : rwC w 9 a b c) : e_Ok 20 elay kcode eI d 255 (0, [(0, (1, 0)), (1, (0, 9)), (2, (0, a)), (3, (0, b)), (4, (0, c))], [], w) (fun r w' => ∃ z : Int, r = [(0, z)] ∧ ((w' = w ∧ z = -3 ∧ 2000 ≤ w 0 12) ∨ ((0 ≤ w 0 12 ∧ w 0 12 < 2000) ∧ w' 0 12 = w 0 12 + 1 ∧ z = 0))) := by
  obtain ⟨d, rfl⟩ : ∃ e, d = e + 1 := ⟨d - 1, by omega⟩
  have h12 := q.1.1
  have hb : (9 : Int) = 10 → b < w 262 0 := fun g => absurd g (by decide)
  have g_x : -2147483648 ≤ (9 : Int) ∧ (9 : Int) ≤ 2147483647 := by decide
  refine e_Ok.run (t' := (1, [(0, (1, 0)), (1, (0, 9)), (2, (0, a)), (3, (0, b)), (4, (0, c))], [(1, 0)], w)) 1 rfl ?_
  refine e_Ok.callV rfl (by omega) rfl rfl rfl rfl (c_253 h12) (fun r1 w2 h3 => ?_)
  obtain ⟨z5, rfl, rfl, q4r, q4x⟩ := h3
  show e_Ok 20 elay kcode eI (d + 1) 255 (4, [(0, (1, 0)), (1, (0, 9)), (2, (0, a)), (3, (0, b)), (4, (0, c))], [(0, z5)], w) _
  refine e_Ok.if1 rfl (fun h6 => ?_) (fun h6 => ?_)
  · replace h6 : (z5 : Int) ≠ 0 := h6
    refine e_Ok.run (t' := (16, [(0, (1, 0)), (1, (0, 9)), (2, (0, a)), (3, (0, b)), (4, (0, c))], [(0, c), (0, b), (0, a), (0, 9), (1, 0)], w)) 5 rfl ?_
    refine e_Ok.callV rfl (by omega) rfl rfl rfl rfl (e_Ok.out kAlk (c_254 hT g_x g_a g_b g_c (by omega))) (fun r7 w8 h9 => ?_)
    obtain ⟨⟨rfl, q10f, q10T, q10x⟩, q10o⟩ := h9
    have f11 : e_fr kNv w w8 := e_fr.trans (e_fr.refl w) (e_fr.mono q10f (fun c k q => by exact Or.inr q))
    show e_Ok 20 elay kcode eI (d + 1) 255 (19, [(0, (1, 0)), (1, (0, 9)), (2, (0, a)), (3, (0, b)), (4, (0, c))], [], w8) _
    refine e_Ok.run (t' := (25, [(0, (1, 0)), (1, (0, 9)), (2, (0, a)), (3, (0, b)), (4, (0, c))], [(0, c), (0, b), (0, a), (0, 9), (1, 0)], w8)) 5 rfl ?_
    obtain ⟨⟨hh, h0, hU⟩, hev, he0, he1⟩ := q.ev (i := w 0 12) (by omega)
    have hUw := q.2.2.2.1.pj
    have hU1 : e_rf (pj w (S (w 0 12))) w8 := pj.rfo hUw (fun c k g => q10f c k (fun g2 => by have z := bo_x g2; rcases g with g | g; exact g z.1; exact z.2 g))
    refine e_Ok.callV rfl (by omega) rfl rfl rfl rfl (e_Ok.both (car_r (by omega) hU1 hU h0 (by omega) (rwC.dn hU hUw hb hR) g_a g_b g_c) (c_256_9 (by omega) q10T ga7 g_b)) (fun r12 w13 h14 => ?_)
    obtain ⟨⟨⟨⟨z, rfl⟩, q15f, q15T, -⟩, -⟩, z2, q15z, q15y⟩ := h14
    have ez : z = 0 := (one_z q15z).trans q15y
    have f16 : e_fr kNv w w13 := e_fr.trans f11 (e_fr.mono q15f (fun c k q => by exact Or.inl q))
    show e_Ok 20 elay kcode eI (d + 1) 255 (28, [(0, (1, 0)), (1, (0, 9)), (2, (0, a)), (3, (0, b)), (4, (0, c))], [(0, z)], w13) _
    refine e_Ok.rets rfl rfl ?_
    exact ⟨_, rfl, Or.inr ⟨⟨by omega, by omega⟩, (q15f _ _ (by unfold kNw; omega)).trans q10x.1, ez⟩⟩
  · replace h6 : (z5 : Int) = 0 := by have q : ¬ ((z5 : Int) ≠ 0) := h6; omega
    refine e_Ok.run (t' := (9, [(0, (1, 0)), (1, (0, 9)), (2, (0, a)), (3, (0, b)), (4, (0, c))], [(0, (-3))], w)) 1 rfl ?_
    refine e_Ok.rets rfl rfl ?_
    exact ⟨_, rfl, Or.inl ⟨rfl, rfl, by omega⟩⟩
theorem c_213_r {d : Nat} (hd : 31 ≤ d) {w : eW} (hT : e_Has kTy w) (hO : 0 ≤ w 0 13 ∧ w 0 13 ≤ 1) (hC : ∀ a, 0 ≤ a → a ≤ 3 → isCd (w (17 * a + 86) 7)) (hB : w 0 13 = 1 → ∃ OP OD CL S, kB w OP OD CL S) {a : Int} (g_a : (-2147483648) ≤ a ∧ a ≤ 2147483647) {b : Int} (g_b : (-2147483648) ≤ b ∧ b ≤ 2147483647) : e_Ok 20 elay kcode eI d 213 (0, [(0, (1, 0)), (1, (0, a)), (2, (0, b))], [], w) (fun r w' => ∃ z : Int, r = [(0, z)] ∧ (w' 0 12 = w 0 12 ∨ (0 ≤ w' 0 12 ∧ w' 0 12 ≤ w 0 12 + 1))) := by
  obtain ⟨d, rfl⟩ : ∃ e, d = e + 1 := ⟨d - 1, by omega⟩
  have hw0 := e_Has.get hT (c := 0) (k := 11) (lo := 0) (hi := 4) rfl (by decide)
  refine e_Ok.run (t' := (2, [(0, (1, 0)), (1, (0, a)), (2, (0, b))], [(0, a), (1, 0)], w)) 2 rfl ?_
  refine e_Ok.callV rfl (by omega) rfl rfl rfl rfl (c_246 (by omega) hT (by omega)) (fun r1 w2 h3 => ?_)
  obtain ⟨z4, rfl, rfl, q5⟩ := h3
  obtain ⟨rfl, q5⟩ | ⟨rfl, q5⟩ := q5
  · show e_Ok 20 elay kcode eI (d + 1) 213 (5, [(0, (1, 0)), (1, (0, a)), (2, (0, b))], [(0, 1)], w) _
    refine e_Ok.if1 rfl (fun h6 => ?_) (fun h6 => ?_)
    · replace h6 : (1 : Int) = 0 := h6
      exfalso; omega
    · replace h6 : (1 : Int) ≠ 0 := by have q : ¬ ((1 : Int) = 0) := h6; omega
      have hcd := hC a (by omega) (by omega)
      have hcd2 := hcd; unfold isCd at hcd2
      have hrt := e_Has.get hT (kD_1 hcd) (by decide)
      refine e_Ok.run (t' := (11, [(0, (1, 0)), (1, (0, a)), (2, (0, b))], [(1, 0), (0, 0), (0, b)], w)) 3 rfl ?_
      refine e_Ok.getr (z := 9) rfl rfl rfl rfl (Eq.trans (e_Has.eq hT rfl) (by omega)) (by omega) ?_
      refine e_Ok.run (t' := (15, [(0, (1, 0)), (1, (0, a)), (2, (0, b))], [(0, a), (1, 9), (0, 0), (0, b)], w)) 1 rfl ?_
      refine e_Ok.aald (z := 17 * a + 86) rfl rfl rfl (by omega) (Eq.trans (e_Has.eq hT (k9 (by omega))) (by omega)) (by omega) ?_
      refine e_Ok.getr (z := w (17 * a + 86) 7) rfl (lA0 (a := a) (by omega) (by omega)) rfl rfl rfl (by omega) ?_
      have h7 := (e_Has.get hT (c := w (17 * a + 86) 7) (k := 1) (lo := 0) (hi := 32) (kD_1 hcd) (by decide))
      refine e_Ok.getf (z := w (w (17 * a + 86) 7) 1) rfl (lD0 hcd) rfl rfl rfl (by omega) ?_
      refine e_Ok.run (t' := (23, [(0, (1, 0)), (1, (0, a)), (2, (0, b))], [(0, 1), (0, w (w (17 * a + 86) 7) 1), (0, 0), (0, b)], w)) 1 rfl ?_
      refine e_Ok.sub' (z := w (w (17 * a + 86) 7) 1 - 1) rfl (by omega) (by omega) ?_
      refine e_Ok.callS rfl (by omega) rfl rfl (c_242 (by omega) (by omega) (by omega)) (fun r8 w9 h10 => ?_)
      obtain ⟨z11, rfl, rfl, q12⟩ := h10
      obtain ⟨rfl, q12⟩ | ⟨rfl, q12⟩ := q12
      · show e_Ok 20 elay kcode eI (d + 1) 213 (27, [(0, (1, 0)), (1, (0, a)), (2, (0, b))], [(0, 1)], w) _
        refine e_Ok.if1 rfl (fun h13 => ?_) (fun h13 => ?_)
        · replace h13 : (1 : Int) ≠ 0 := h13
          refine e_Ok.run (t' := (33, [(0, (1, 0)), (1, (0, a)), (2, (0, b))], [(1, 0)], w)) 1 rfl ?_
          refine e_Ok.getf (z := w 0 13) rfl rfl rfl rfl rfl (by omega) ?_
          refine e_Ok.if1 rfl (fun h14 => ?_) (fun h14 => ?_)
          · replace h14 : (w 0 13 : Int) ≠ 0 := h14
            refine e_Ok.run (t' := (43, [(0, (1, 0)), (1, (0, a)), (2, (0, b))], [(1, 0)], w)) 1 rfl ?_
            refine e_Ok.getr (z := 8) rfl rfl rfl rfl (Eq.trans (e_Has.eq hT rfl) (by omega)) (by omega) ?_
            refine e_Ok.callV rfl (by omega) rfl rfl rfl rfl (c_36 hT) (fun r15 w16 h17 => ?_)
            obtain ⟨z19, rfl, rfl, q18r, q18x⟩ := h17
            show e_Ok 20 elay kcode eI (d + 1) 213 (49, [(0, (1, 0)), (1, (0, a)), (2, (0, b))], [(0, z19)], w) _
            refine e_Ok.if1 rfl (fun h20 => ?_) (fun h20 => ?_)
            · replace h20 : (z19 : Int) ≥ 0 := h20
              refine e_Ok.run (t' := (60, [(0, (1, 0)), (1, (0, a)), (2, (0, b))], [(0, 0), (0, b), (0, a), (0, 0), (1, 0)], w)) 5 rfl ?_
              obtain ⟨OP, OD, CL, S, hK⟩ := hB (by omega)
              refine e_Ok.callV rfl (by omega) rfl rfl rfl rfl (c_255_r (by omega) hT hK (by omega) (by omega) (by omega) (by omega) (by omega) (by decide) (rwC.k0 ⟨by omega, by omega, by omega⟩) (fun g => absurd g (by decide))) (fun r21 w22 h23 => ?_)
              obtain ⟨z24, rfl, q25⟩ := h23
              show e_Ok 20 elay kcode eI (d + 1) 213 (63, [(0, (1, 0)), (1, (0, a)), (2, (0, b))], [(0, z24)], w22) _
              refine e_Ok.rets rfl rfl ?_
              obtain ⟨ee, ez, eg⟩ | ⟨eg, ee⟩ := q25
              · exact ⟨_, rfl, Or.inl (by rw [ee])⟩
              · exact ⟨_, rfl, Or.inr ⟨by omega, by omega⟩⟩
            · replace h20 : (z19 : Int) < 0 := by have q : ¬ ((z19 : Int) ≥ 0) := h20; omega
              refine e_Ok.run (t' := (54, [(0, (1, 0)), (1, (0, a)), (2, (0, b))], [(0, (-3))], w)) 1 rfl ?_
              refine e_Ok.rets rfl rfl ?_
              exact ⟨_, rfl, Or.inl rfl⟩
          · replace h14 : (w 0 13 : Int) = 0 := by have q : ¬ ((w 0 13 : Int) ≠ 0) := h14; omega
            refine e_Ok.run (t' := (41, [(0, (1, 0)), (1, (0, a)), (2, (0, b))], [(0, (-2))], w)) 1 rfl ?_
            refine e_Ok.rets rfl rfl ?_
            exact ⟨_, rfl, Or.inl rfl⟩
        · replace h13 : (1 : Int) = 0 := by have q : ¬ ((1 : Int) ≠ 0) := h13; omega
          exfalso; omega
      · show e_Ok 20 elay kcode eI (d + 1) 213 (27, [(0, (1, 0)), (1, (0, a)), (2, (0, b))], [(0, 0)], w) _
        refine e_Ok.if1 rfl (fun h26 => ?_) (fun h26 => ?_)
        · replace h26 : (0 : Int) ≠ 0 := h26
          exfalso; omega
        · replace h26 : (0 : Int) = 0 := by have q : ¬ ((0 : Int) ≠ 0) := h26; omega
          refine e_Ok.run (t' := (31, [(0, (1, 0)), (1, (0, a)), (2, (0, b))], [(0, (-1))], w)) 1 rfl ?_
          refine e_Ok.rets rfl rfl ?_
          exact ⟨_, rfl, Or.inl rfl⟩
  · show e_Ok 20 elay kcode eI (d + 1) 213 (5, [(0, (1, 0)), (1, (0, a)), (2, (0, b))], [(0, 0)], w) _
    refine e_Ok.if1 rfl (fun h27 => ?_) (fun h27 => ?_)
    · replace h27 : (0 : Int) = 0 := h27
      refine e_Ok.run (t' := (31, [(0, (1, 0)), (1, (0, a)), (2, (0, b))], [(0, (-1))], w)) 1 rfl ?_
      refine e_Ok.rets rfl rfl ?_
      exact ⟨_, rfl, Or.inl rfl⟩
    · replace h27 : (0 : Int) ≠ 0 := by have q : ¬ ((0 : Int) = 0) := h27; omega
      exfalso; omega
theorem c_215_r {d : Nat} (hd : 31 ≤ d) {w : eW} (hT : e_Has kTy w) (hO : 0 ≤ w 0 13 ∧ w 0 13 ≤ 1) (hC : ∀ a, 0 ≤ a → a ≤ 3 → isCd (w (17 * a + 86) 7)) (hB : w 0 13 = 1 → ∃ OP OD CL S, kB w OP OD CL S) {a : Int} (g_a : (-2147483648) ≤ a ∧ a ≤ 2147483647) {b : Int} (g_b : (-2147483648) ≤ b ∧ b ≤ 2147483647) : e_Ok 20 elay kcode eI d 215 (0, [(0, (1, 0)), (1, (0, a)), (2, (0, b))], [], w) (fun r w' => ∃ z : Int, r = [(0, z)] ∧ (w' 0 12 = w 0 12 ∨ (0 ≤ w' 0 12 ∧ w' 0 12 ≤ w 0 12 + 1))) := by
  obtain ⟨d, rfl⟩ : ∃ e, d = e + 1 := ⟨d - 1, by omega⟩
  have hw0 := e_Has.get hT (c := 0) (k := 11) (lo := 0) (hi := 4) rfl (by decide)
  refine e_Ok.run (t' := (1, [(0, (1, 0)), (1, (0, a)), (2, (0, b))], [(0, a)], w)) 1 rfl ?_
  refine e_Ok.callS rfl (by omega) rfl rfl (c_245 (by omega) (by omega)) (fun r1 w2 h3 => ?_)
  obtain ⟨z4, rfl, rfl, q5⟩ := h3
  obtain ⟨rfl, q5⟩ | ⟨rfl, q5⟩ := q5
  · show e_Ok 20 elay kcode eI (d + 1) 215 (4, [(0, (1, 0)), (1, (0, a)), (2, (0, b))], [(0, 1)], w) _
    refine e_Ok.if1 rfl (fun h6 => ?_) (fun h6 => ?_)
    · replace h6 : (1 : Int) ≠ 0 := h6
      refine e_Ok.run (t' := (10, [(0, (1, 0)), (1, (0, a)), (2, (0, b))], [(1, 0)], w)) 1 rfl ?_
      refine e_Ok.getf (z := w 0 13) rfl rfl rfl rfl rfl (by omega) ?_
      refine e_Ok.if1 rfl (fun h7 => ?_) (fun h7 => ?_)
      · replace h7 : (w 0 13 : Int) ≠ 0 := h7
        refine e_Ok.run (t' := (24, [(0, (1, 0)), (1, (0, a)), (2, (0, b))], [(0, 0), (0, b), (0, a), (0, 2), (1, 0)], w)) 5 rfl ?_
        obtain ⟨OP, OD, CL, S, hK⟩ := hB (by omega)
        refine e_Ok.callV rfl (by omega) rfl rfl rfl rfl (c_255_r (by omega) hT hK (by omega) (by omega) (by omega) (by omega) (by omega) (by decide) (rwC.k2 (by omega)) (fun g => absurd g (by decide))) (fun r8 w9 h10 => ?_)
        obtain ⟨z11, rfl, q12⟩ := h10
        show e_Ok 20 elay kcode eI (d + 1) 215 (27, [(0, (1, 0)), (1, (0, a)), (2, (0, b))], [(0, z11)], w9) _
        refine e_Ok.rets rfl rfl ?_
        obtain ⟨ee, ez, eg⟩ | ⟨eg, ee⟩ := q12
        · exact ⟨_, rfl, Or.inl (by rw [ee])⟩
        · exact ⟨_, rfl, Or.inr ⟨by omega, by omega⟩⟩
      · replace h7 : (w 0 13 : Int) = 0 := by have q : ¬ ((w 0 13 : Int) ≠ 0) := h7; omega
        refine e_Ok.run (t' := (18, [(0, (1, 0)), (1, (0, a)), (2, (0, b))], [(0, (-2))], w)) 1 rfl ?_
        refine e_Ok.rets rfl rfl ?_
        exact ⟨_, rfl, Or.inl rfl⟩
    · replace h6 : (1 : Int) = 0 := by have q : ¬ ((1 : Int) ≠ 0) := h6; omega
      exfalso; omega
  · show e_Ok 20 elay kcode eI (d + 1) 215 (4, [(0, (1, 0)), (1, (0, a)), (2, (0, b))], [(0, 0)], w) _
    refine e_Ok.if1 rfl (fun h13 => ?_) (fun h13 => ?_)
    · replace h13 : (0 : Int) ≠ 0 := h13
      exfalso; omega
    · replace h13 : (0 : Int) = 0 := by have q : ¬ ((0 : Int) ≠ 0) := h13; omega
      refine e_Ok.run (t' := (8, [(0, (1, 0)), (1, (0, a)), (2, (0, b))], [(0, (-1))], w)) 1 rfl ?_
      refine e_Ok.rets rfl rfl ?_
      exact ⟨_, rfl, Or.inl rfl⟩
theorem c_216_r {d : Nat} (hd : 31 ≤ d) {w : eW} (hT : e_Has kTy w) (hO : 0 ≤ w 0 13 ∧ w 0 13 ≤ 1) (hC : ∀ a, 0 ≤ a → a ≤ 3 → isCd (w (17 * a + 86) 7)) (hB : w 0 13 = 1 → ∃ OP OD CL S, kB w OP OD CL S) {a : Int} (g_a : (-2147483648) ≤ a ∧ a ≤ 2147483647) {b : Int} (g_b : (-2147483648) ≤ b ∧ b ≤ 2147483647) {c : Int} (g_c : 0 ≤ c ∧ c ≤ 1) : e_Ok 20 elay kcode eI d 216 (0, [(0, (1, 0)), (1, (0, a)), (2, (0, b)), (3, (0, c))], [], w) (fun r w' => ∃ z : Int, r = [(0, z)] ∧ (w' 0 12 = w 0 12 ∨ (0 ≤ w' 0 12 ∧ w' 0 12 ≤ w 0 12 + 1))) := by
  obtain ⟨d, rfl⟩ : ∃ e, d = e + 1 := ⟨d - 1, by omega⟩
  have hw0 := e_Has.get hT (c := 0) (k := 11) (lo := 0) (hi := 4) rfl (by decide)
  refine e_Ok.run (t' := (1, [(0, (1, 0)), (1, (0, a)), (2, (0, b)), (3, (0, c))], [(0, a)], w)) 1 rfl ?_
  refine e_Ok.callS rfl (by omega) rfl rfl (c_245 (by omega) (by omega)) (fun r1 w2 h3 => ?_)
  obtain ⟨z4, rfl, rfl, q5⟩ := h3
  obtain ⟨rfl, q5⟩ | ⟨rfl, q5⟩ := q5
  · show e_Ok 20 elay kcode eI (d + 1) 216 (4, [(0, (1, 0)), (1, (0, a)), (2, (0, b)), (3, (0, c))], [(0, 1)], w) _
    refine e_Ok.if1 rfl (fun h6 => ?_) (fun h6 => ?_)
    · replace h6 : (1 : Int) ≠ 0 := h6
      refine e_Ok.run (t' := (10, [(0, (1, 0)), (1, (0, a)), (2, (0, b)), (3, (0, c))], [(1, 0)], w)) 1 rfl ?_
      refine e_Ok.getf (z := w 0 13) rfl rfl rfl rfl rfl (by omega) ?_
      refine e_Ok.if1 rfl (fun h7 => ?_) (fun h7 => ?_)
      · replace h7 : (w 0 13 : Int) ≠ 0 := h7
        refine e_Ok.run (t' := (24, [(0, (1, 0)), (1, (0, a)), (2, (0, b)), (3, (0, c))], [(0, c), (0, b), (0, a), (0, 3), (1, 0)], w)) 5 rfl ?_
        have hJ10 : ∀ m9 : Int, 0 ≤ m9 ∧ m9 ≤ 1 → e_Ok 20 elay kcode eI (d + 1) 216 (32, [(0, (1, 0)), (1, (0, a)), (2, (0, b)), (3, (0, c))], [(0, m9), (0, b), (0, a), (0, 3), (1, 0)], w) (fun r w' => ∃ z : Int, r = [(0, z)] ∧ (w' 0 12 = w 0 12 ∨ (0 ≤ w' 0 12 ∧ w' 0 12 ≤ w 0 12 + 1))) := by
          intro m9 m9r
          obtain ⟨OP, OD, CL, S, hK⟩ := hB (by omega)
          refine e_Ok.callV rfl (by omega) rfl rfl rfl rfl (c_255_r (by omega) hT hK (by omega) (by omega) (by omega) (by omega) (by omega) (by decide) (rwC.k3 (by omega)) (fun g => absurd g (by decide))) (fun r11 w12 h13 => ?_)
          obtain ⟨z14, rfl, q15⟩ := h13
          show e_Ok 20 elay kcode eI (d + 1) 216 (35, [(0, (1, 0)), (1, (0, a)), (2, (0, b)), (3, (0, c))], [(0, z14)], w12) _
          refine e_Ok.rets rfl rfl ?_
          obtain ⟨ee, ez, eg⟩ | ⟨eg, ee⟩ := q15
          · exact ⟨_, rfl, Or.inl (by rw [ee])⟩
          · exact ⟨_, rfl, Or.inr ⟨by omega, by omega⟩⟩
        refine e_Ok.if1 rfl (fun h8 => ?_) (fun h8 => ?_)
        · exact e_Ok.run 1 rfl (hJ10 0 (by omega))
        · exact e_Ok.run 2 rfl (hJ10 1 (by omega))
      · replace h7 : (w 0 13 : Int) = 0 := by have q : ¬ ((w 0 13 : Int) ≠ 0) := h7; omega
        refine e_Ok.run (t' := (18, [(0, (1, 0)), (1, (0, a)), (2, (0, b)), (3, (0, c))], [(0, (-2))], w)) 1 rfl ?_
        refine e_Ok.rets rfl rfl ?_
        exact ⟨_, rfl, Or.inl rfl⟩
    · replace h6 : (1 : Int) = 0 := by have q : ¬ ((1 : Int) ≠ 0) := h6; omega
      exfalso; omega
  · show e_Ok 20 elay kcode eI (d + 1) 216 (4, [(0, (1, 0)), (1, (0, a)), (2, (0, b)), (3, (0, c))], [(0, 0)], w) _
    refine e_Ok.if1 rfl (fun h16 => ?_) (fun h16 => ?_)
    · replace h16 : (0 : Int) ≠ 0 := h16
      exfalso; omega
    · replace h16 : (0 : Int) = 0 := by have q : ¬ ((0 : Int) ≠ 0) := h16; omega
      refine e_Ok.run (t' := (8, [(0, (1, 0)), (1, (0, a)), (2, (0, b)), (3, (0, c))], [(0, (-1))], w)) 1 rfl ?_
      refine e_Ok.rets rfl rfl ?_
      exact ⟨_, rfl, Or.inl rfl⟩
theorem c_217_r {d : Nat} (hd : 31 ≤ d) {w : eW} (hT : e_Has kTy w) (hO : 0 ≤ w 0 13 ∧ w 0 13 ≤ 1) (hC : ∀ a, 0 ≤ a → a ≤ 3 → isCd (w (17 * a + 86) 7)) (hB : w 0 13 = 1 → ∃ OP OD CL S, kB w OP OD CL S) {a : Int} (g_a : (-2147483648) ≤ a ∧ a ≤ 2147483647) {b : Int} (g_b : 0 ≤ b ∧ b ≤ 1) {c : Int} (g_c : 0 ≤ c ∧ c ≤ 1) : e_Ok 20 elay kcode eI d 217 (0, [(0, (1, 0)), (1, (0, a)), (2, (0, b)), (3, (0, c))], [], w) (fun r w' => ∃ z : Int, r = [(0, z)] ∧ (w' 0 12 = w 0 12 ∨ (0 ≤ w' 0 12 ∧ w' 0 12 ≤ w 0 12 + 1)) ∧ ((¬ (0 ≤ a ∧ a < w 74 2) ∧ z = -1) ∨ ((0 ≤ a ∧ a < w 74 2) ∧ ((w 0 13 = 0 ∧ z = -2) ∨ (w 0 13 = 1 ∧ ((2000 ≤ w 0 12 ∧ z = -3) ∨ (w 0 12 < 2000 ∧ z = 0))))))) := by
  obtain ⟨d, rfl⟩ : ∃ e, d = e + 1 := ⟨d - 1, by omega⟩
  have hw0 := e_Has.get hT (c := 0) (k := 11) (lo := 0) (hi := 4) rfl (by decide)
  have h742 := e_Has.get hT (c := 74) (k := 2) (lo := 0) (hi := 8) rfl (by decide)
  refine e_Ok.run (t' := (3, [(0, (1, 0)), (1, (0, a)), (2, (0, b)), (3, (0, c))], [(1, 0), (0, 0), (0, a)], w)) 3 rfl ?_
  refine e_Ok.getr (z := 74) rfl rfl rfl rfl (Eq.trans (e_Has.eq hT rfl) (by omega)) (by omega) ?_
  have h1 := (e_Has.get hT (c := 74) (k := 2) (lo := 0) (hi := 8) rfl (by decide))
  refine e_Ok.getf (z := w 74 2) rfl rfl rfl rfl rfl (by omega) ?_
  refine e_Ok.run (t' := (10, [(0, (1, 0)), (1, (0, a)), (2, (0, b)), (3, (0, c))], [(0, 1), (0, w 74 2), (0, 0), (0, a)], w)) 1 rfl ?_
  refine e_Ok.sub' (z := w 74 2 - 1) rfl (by omega) (by omega) ?_
  refine e_Ok.callS rfl (by omega) rfl rfl (c_242 (by omega) (by omega) (by omega)) (fun r2 w3 h4 => ?_)
  obtain ⟨z5, rfl, rfl, q6⟩ := h4
  obtain ⟨rfl, q6⟩ | ⟨rfl, q6⟩ := q6
  · show e_Ok 20 elay kcode eI (d + 1) 217 (14, [(0, (1, 0)), (1, (0, a)), (2, (0, b)), (3, (0, c))], [(0, 1)], w) _
    refine e_Ok.if1 rfl (fun h7 => ?_) (fun h7 => ?_)
    · replace h7 : (1 : Int) ≠ 0 := h7
      refine e_Ok.run (t' := (20, [(0, (1, 0)), (1, (0, a)), (2, (0, b)), (3, (0, c))], [(1, 0)], w)) 1 rfl ?_
      refine e_Ok.getf (z := w 0 13) rfl rfl rfl rfl rfl (by omega) ?_
      refine e_Ok.if1 rfl (fun h8 => ?_) (fun h8 => ?_)
      · replace h8 : (w 0 13 : Int) ≠ 0 := h8
        refine e_Ok.run (t' := (33, [(0, (1, 0)), (1, (0, a)), (2, (0, b)), (3, (0, c))], [(0, b), (0, a), (0, 4), (1, 0)], w)) 4 rfl ?_
        have hJ11 : ∀ m10 : Int, 0 ≤ m10 ∧ m10 ≤ 1 → e_Ok 20 elay kcode eI (d + 1) 217 (41, [(0, (1, 0)), (1, (0, a)), (2, (0, b)), (3, (0, c))], [(0, m10), (0, a), (0, 4), (1, 0)], w) (fun r w' => ∃ z : Int, r = [(0, z)] ∧ (w' 0 12 = w 0 12 ∨ (0 ≤ w' 0 12 ∧ w' 0 12 ≤ w 0 12 + 1)) ∧ ((¬ (0 ≤ a ∧ a < w 74 2) ∧ z = -1) ∨ ((0 ≤ a ∧ a < w 74 2) ∧ ((w 0 13 = 0 ∧ z = -2) ∨ (w 0 13 = 1 ∧ ((2000 ≤ w 0 12 ∧ z = -3) ∨ (w 0 12 < 2000 ∧ z = 0))))))) := by
          intro m10 m10r
          refine e_Ok.run (t' := (42, [(0, (1, 0)), (1, (0, a)), (2, (0, b)), (3, (0, c))], [(0, c), (0, m10), (0, a), (0, 4), (1, 0)], w)) 1 rfl ?_
          have hJ14 : ∀ m13 : Int, 0 ≤ m13 ∧ m13 ≤ 1 → e_Ok 20 elay kcode eI (d + 1) 217 (50, [(0, (1, 0)), (1, (0, a)), (2, (0, b)), (3, (0, c))], [(0, m13), (0, m10), (0, a), (0, 4), (1, 0)], w) (fun r w' => ∃ z : Int, r = [(0, z)] ∧ (w' 0 12 = w 0 12 ∨ (0 ≤ w' 0 12 ∧ w' 0 12 ≤ w 0 12 + 1)) ∧ ((¬ (0 ≤ a ∧ a < w 74 2) ∧ z = -1) ∨ ((0 ≤ a ∧ a < w 74 2) ∧ ((w 0 13 = 0 ∧ z = -2) ∨ (w 0 13 = 1 ∧ ((2000 ≤ w 0 12 ∧ z = -3) ∨ (w 0 12 < 2000 ∧ z = 0))))))) := by
            intro m13 m13r
            obtain ⟨OP, OD, CL, S, hK⟩ := hB (by omega)
            refine e_Ok.callV rfl (by omega) rfl rfl rfl rfl (c_255_4 (by omega) hT hK (by omega) (by omega) (by omega) (by omega) (by omega) (by omega) (by omega) (rwC.k4 (by omega))) (fun r15 w16 h17 => ?_)
            obtain ⟨z18, rfl, q19⟩ := h17
            show e_Ok 20 elay kcode eI (d + 1) 217 (53, [(0, (1, 0)), (1, (0, a)), (2, (0, b)), (3, (0, c))], [(0, z18)], w16) _
            refine e_Ok.rets rfl rfl ?_
            obtain ⟨ee, ez, eg⟩ | ⟨eg, ee, ez⟩ := q19
            · exact ⟨_, rfl, Or.inl (by rw [ee]), by omega⟩
            · exact ⟨_, rfl, Or.inr ⟨by omega, by omega⟩, by omega⟩
          refine e_Ok.if1 rfl (fun h12 => ?_) (fun h12 => ?_)
          · exact e_Ok.run 1 rfl (hJ14 0 (by omega))
          · exact e_Ok.run 2 rfl (hJ14 1 (by omega))
        refine e_Ok.if1 rfl (fun h9 => ?_) (fun h9 => ?_)
        · exact e_Ok.run 1 rfl (hJ11 0 (by omega))
        · exact e_Ok.run 2 rfl (hJ11 1 (by omega))
      · replace h8 : (w 0 13 : Int) = 0 := by have q : ¬ ((w 0 13 : Int) ≠ 0) := h8; omega
        refine e_Ok.run (t' := (28, [(0, (1, 0)), (1, (0, a)), (2, (0, b)), (3, (0, c))], [(0, (-2))], w)) 1 rfl ?_
        refine e_Ok.rets rfl rfl ?_
        exact ⟨_, rfl, Or.inl rfl, by omega⟩
    · replace h7 : (1 : Int) = 0 := by have q : ¬ ((1 : Int) ≠ 0) := h7; omega
      exfalso; omega
  · show e_Ok 20 elay kcode eI (d + 1) 217 (14, [(0, (1, 0)), (1, (0, a)), (2, (0, b)), (3, (0, c))], [(0, 0)], w) _
    refine e_Ok.if1 rfl (fun h20 => ?_) (fun h20 => ?_)
    · replace h20 : (0 : Int) ≠ 0 := h20
      exfalso; omega
    · replace h20 : (0 : Int) = 0 := by have q : ¬ ((0 : Int) ≠ 0) := h20; omega
      refine e_Ok.run (t' := (18, [(0, (1, 0)), (1, (0, a)), (2, (0, b)), (3, (0, c))], [(0, (-1))], w)) 1 rfl ?_
      refine e_Ok.rets rfl rfl ?_
      exact ⟨_, rfl, Or.inl rfl, by omega⟩
theorem c_218_r {d : Nat} (hd : 31 ≤ d) {w : eW} (hT : e_Has kTy w) (hO : 0 ≤ w 0 13 ∧ w 0 13 ≤ 1) (hC : ∀ a, 0 ≤ a → a ≤ 3 → isCd (w (17 * a + 86) 7)) (hB : w 0 13 = 1 → ∃ OP OD CL S, kB w OP OD CL S) {a : Int} (g_a : (-2147483648) ≤ a ∧ a ≤ 2147483647) : e_Ok 20 elay kcode eI d 218 (0, [(0, (1, 0)), (1, (0, a))], [], w) (fun r w' => ∃ z : Int, r = [(0, z)] ∧ (w' 0 12 = w 0 12 ∨ (0 ≤ w' 0 12 ∧ w' 0 12 ≤ w 0 12 + 1))) := by
  obtain ⟨d, rfl⟩ : ∃ e, d = e + 1 := ⟨d - 1, by omega⟩
  have hw0 := e_Has.get hT (c := 0) (k := 11) (lo := 0) (hi := 4) rfl (by decide)
  refine e_Ok.run (t' := (4, [(0, (1, 0)), (1, (0, a))], [(0, 7), (0, 0), (0, a)], w)) 3 rfl ?_
  refine e_Ok.callS rfl (by omega) rfl rfl (c_242 (by omega) (by omega) (by omega)) (fun r1 w2 h3 => ?_)
  obtain ⟨z4, rfl, rfl, q5⟩ := h3
  obtain ⟨rfl, q5⟩ | ⟨rfl, q5⟩ := q5
  · show e_Ok 20 elay kcode eI (d + 1) 218 (7, [(0, (1, 0)), (1, (0, a))], [(0, 1)], w) _
    refine e_Ok.if1 rfl (fun h6 => ?_) (fun h6 => ?_)
    · replace h6 : (1 : Int) ≠ 0 := h6
      refine e_Ok.run (t' := (13, [(0, (1, 0)), (1, (0, a))], [(1, 0)], w)) 1 rfl ?_
      refine e_Ok.getf (z := w 0 13) rfl rfl rfl rfl rfl (by omega) ?_
      refine e_Ok.if1 rfl (fun h7 => ?_) (fun h7 => ?_)
      · replace h7 : (w 0 13 : Int) = 0 := h7
        refine e_Ok.run (t' := (53, [(0, (1, 0)), (1, (0, a))], [(0, (-2))], w)) 1 rfl ?_
        refine e_Ok.rets rfl rfl ?_
        exact ⟨_, rfl, Or.inl rfl⟩
      · replace h7 : (w 0 13 : Int) ≠ 0 := by have q : ¬ ((w 0 13 : Int) = 0) := h7; omega
        refine e_Ok.run (t' := (20, [(0, (1, 0)), (1, (0, a))], [(1, 0)], w)) 1 rfl ?_
        refine e_Ok.getr (z := 74) rfl rfl rfl rfl (Eq.trans (e_Has.eq hT rfl) (by omega)) (by omega) ?_
        refine e_Ok.getr (z := 77) rfl rfl rfl rfl (Eq.trans (e_Has.eq hT rfl) (by omega)) (by omega) ?_
        refine e_Ok.run (t' := (27, [(0, (1, 0)), (1, (0, a))], [(0, a), (1, 77)], w)) 1 rfl ?_
        have h8 := (e_Has.get hT (c := 77) (k := a) (lo := 0) (hi := 1) rfl (by decide))
        refine e_Ok.ald (z := w 77 a) rfl rfl rfl (by omega) rfl (by omega) ?_
        refine e_Ok.if1 rfl (fun h9 => ?_) (fun h9 => ?_)
        · replace h9 : (w 77 a : Int) = 0 := h9
          refine e_Ok.run (t' := (53, [(0, (1, 0)), (1, (0, a))], [(0, (-2))], w)) 1 rfl ?_
          refine e_Ok.rets rfl rfl ?_
          exact ⟨_, rfl, Or.inl rfl⟩
        · replace h9 : (w 77 a : Int) ≠ 0 := by have q : ¬ ((w 77 a : Int) = 0) := h9; omega
          refine e_Ok.run (t' := (32, [(0, (1, 0)), (1, (0, a))], [(1, 0)], w)) 1 rfl ?_
          refine e_Ok.getr (z := 74) rfl rfl rfl rfl (Eq.trans (e_Has.eq hT rfl) (by omega)) (by omega) ?_
          have h10 := (e_Has.get hT (c := 74) (k := 3) (lo := 0) (hi := 1) rfl (by decide))
          refine e_Ok.getf (z := w 74 3) rfl rfl rfl rfl rfl (by omega) ?_
          refine e_Ok.if1 rfl (fun h11 => ?_) (fun h11 => ?_)
          · replace h11 : (w 74 3 : Int) ≠ 0 := h11
            refine e_Ok.run (t' := (53, [(0, (1, 0)), (1, (0, a))], [(0, (-2))], w)) 1 rfl ?_
            refine e_Ok.rets rfl rfl ?_
            exact ⟨_, rfl, Or.inl rfl⟩
          · replace h11 : (w 74 3 : Int) = 0 := by have q : ¬ ((w 74 3 : Int) ≠ 0) := h11; omega
            refine e_Ok.run (t' := (42, [(0, (1, 0)), (1, (0, a))], [(1, 0)], w)) 1 rfl ?_
            refine e_Ok.getr (z := 74) rfl rfl rfl rfl (Eq.trans (e_Has.eq hT rfl) (by omega)) (by omega) ?_
            refine e_Ok.callV rfl (by omega) rfl rfl rfl rfl (c_31 hT) (fun r12 w13 h14 => ?_)
            obtain ⟨z16, rfl, rfl, q15r⟩ := h14
            show e_Ok 20 elay kcode eI (d + 1) 218 (48, [(0, (1, 0)), (1, (0, a))], [(0, z16)], w) _
            refine e_Ok.if1 rfl (fun h17 => ?_) (fun h17 => ?_)
            · replace h17 : (z16 : Int) ≠ 0 := h17
              refine e_Ok.run (t' := (59, [(0, (1, 0)), (1, (0, a))], [(0, 0), (0, 0), (0, a), (0, 5), (1, 0)], w)) 5 rfl ?_
              obtain ⟨OP, OD, CL, S, hK⟩ := hB (by omega)
              refine e_Ok.callV rfl (by omega) rfl rfl rfl rfl (c_255_r (by omega) hT hK (by omega) (by omega) (by omega) (by omega) (by omega) (by decide) rwC.k5 (fun g => absurd g (by decide))) (fun r18 w19 h20 => ?_)
              obtain ⟨z21, rfl, q22⟩ := h20
              show e_Ok 20 elay kcode eI (d + 1) 218 (62, [(0, (1, 0)), (1, (0, a))], [(0, z21)], w19) _
              refine e_Ok.rets rfl rfl ?_
              obtain ⟨ee, ez, eg⟩ | ⟨eg, ee⟩ := q22
              · exact ⟨_, rfl, Or.inl (by rw [ee])⟩
              · exact ⟨_, rfl, Or.inr ⟨by omega, by omega⟩⟩
            · replace h17 : (z16 : Int) = 0 := by have q : ¬ ((z16 : Int) ≠ 0) := h17; omega
              refine e_Ok.run (t' := (53, [(0, (1, 0)), (1, (0, a))], [(0, (-2))], w)) 1 rfl ?_
              refine e_Ok.rets rfl rfl ?_
              exact ⟨_, rfl, Or.inl rfl⟩
    · replace h6 : (1 : Int) = 0 := by have q : ¬ ((1 : Int) ≠ 0) := h6; omega
      exfalso; omega
  · show e_Ok 20 elay kcode eI (d + 1) 218 (7, [(0, (1, 0)), (1, (0, a))], [(0, 0)], w) _
    refine e_Ok.if1 rfl (fun h23 => ?_) (fun h23 => ?_)
    · replace h23 : (0 : Int) ≠ 0 := h23
      exfalso; omega
    · replace h23 : (0 : Int) = 0 := by have q : ¬ ((0 : Int) ≠ 0) := h23; omega
      refine e_Ok.run (t' := (11, [(0, (1, 0)), (1, (0, a))], [(0, (-1))], w)) 1 rfl ?_
      refine e_Ok.rets rfl rfl ?_
      exact ⟨_, rfl, Or.inl rfl⟩
theorem c_219_r {d : Nat} (hd : 31 ≤ d) {w : eW} (hT : e_Has kTy w) (hO : 0 ≤ w 0 13 ∧ w 0 13 ≤ 1) (hC : ∀ a, 0 ≤ a → a ≤ 3 → isCd (w (17 * a + 86) 7)) (hB : w 0 13 = 1 → ∃ OP OD CL S, kB w OP OD CL S) {a : Int} (g_a : (-2147483648) ≤ a ∧ a ≤ 2147483647) : e_Ok 20 elay kcode eI d 219 (0, [(0, (1, 0)), (1, (0, a))], [], w) (fun r w' => ∃ z : Int, r = [(0, z)] ∧ (w' 0 12 = w 0 12 ∨ (0 ≤ w' 0 12 ∧ w' 0 12 ≤ w 0 12 + 1))) := by
  obtain ⟨d, rfl⟩ : ∃ e, d = e + 1 := ⟨d - 1, by omega⟩
  have hw0 := e_Has.get hT (c := 0) (k := 11) (lo := 0) (hi := 4) rfl (by decide)
  refine e_Ok.run (t' := (2, [(0, (1, 0)), (1, (0, a))], [(0, (-1)), (0, a)], w)) 2 rfl ?_
  refine e_Ok.if2 rfl (fun h1 => ?_) (fun h1 => ?_)
  · replace h1 : (a : Int) = (-1) := h1
    refine e_Ok.run (t' := (16, [(0, (1, 0)), (1, (0, a))], [(1, 0)], w)) 1 rfl ?_
    refine e_Ok.getf (z := w 0 13) rfl rfl rfl rfl rfl (by omega) ?_
    refine e_Ok.if1 rfl (fun h2 => ?_) (fun h2 => ?_)
    · replace h2 : (w 0 13 : Int) = 0 := h2
      refine e_Ok.run (t' := (39, [(0, (1, 0)), (1, (0, a))], [(0, (-2))], w)) 1 rfl ?_
      refine e_Ok.rets rfl rfl ?_
      exact ⟨_, rfl, Or.inl rfl⟩
    · replace h2 : (w 0 13 : Int) ≠ 0 := by have q : ¬ ((w 0 13 : Int) = 0) := h2; omega
      refine e_Ok.run (t' := (24, [(0, (1, 0)), (1, (0, a))], [(0, (-1)), (0, a)], w)) 2 rfl ?_
      refine e_Ok.if2 rfl (fun h3 => ?_) (fun h3 => ?_)
      · replace h3 : (a : Int) ≠ (-1) := h3
        exfalso; omega
      · replace h3 : (a : Int) = (-1) := by have q : ¬ ((a : Int) ≠ (-1)) := h3; omega
        refine e_Ok.run (t' := (28, [(0, (1, 0)), (1, (0, a))], [(1, 0)], w)) 1 rfl ?_
        refine e_Ok.getr (z := 74) rfl rfl rfl rfl (Eq.trans (e_Has.eq hT rfl) (by omega)) (by omega) ?_
        have h4 := (e_Has.get hT (c := 74) (k := 3) (lo := 0) (hi := 1) rfl (by decide))
        refine e_Ok.getf (z := w 74 3) rfl rfl rfl rfl rfl (by omega) ?_
        refine e_Ok.if1 rfl (fun h5 => ?_) (fun h5 => ?_)
        · replace h5 : (w 74 3 : Int) ≠ 0 := h5
          refine e_Ok.run (t' := (46, [(0, (1, 0)), (1, (0, a))], [(0, 0), (0, 0), (0, a), (0, 6), (1, 0)], w)) 5 rfl ?_
          obtain ⟨OP, OD, CL, S, hK⟩ := hB (by omega)
          refine e_Ok.callV rfl (by omega) rfl rfl rfl rfl (c_255_r (by omega) hT hK (by omega) (by omega) (by omega) (by omega) (by omega) (by decide) (rwC.k6 (by omega)) (fun g => absurd g (by decide))) (fun r6 w7 h8 => ?_)
          obtain ⟨z9, rfl, q10⟩ := h8
          show e_Ok 20 elay kcode eI (d + 1) 219 (49, [(0, (1, 0)), (1, (0, a))], [(0, z9)], w7) _
          refine e_Ok.rets rfl rfl ?_
          obtain ⟨ee, ez, eg⟩ | ⟨eg, ee⟩ := q10
          · exact ⟨_, rfl, Or.inl (by rw [ee])⟩
          · exact ⟨_, rfl, Or.inr ⟨by omega, by omega⟩⟩
        · replace h5 : (w 74 3 : Int) = 0 := by have q : ¬ ((w 74 3 : Int) ≠ 0) := h5; omega
          refine e_Ok.run (t' := (39, [(0, (1, 0)), (1, (0, a))], [(0, (-2))], w)) 1 rfl ?_
          refine e_Ok.rets rfl rfl ?_
          exact ⟨_, rfl, Or.inl rfl⟩
  · replace h1 : (a : Int) ≠ (-1) := by have q : ¬ ((a : Int) = (-1)) := h1; omega
    refine e_Ok.run (t' := (7, [(0, (1, 0)), (1, (0, a))], [(0, a), (1, 0)], w)) 2 rfl ?_
    refine e_Ok.callV rfl (by omega) rfl rfl rfl rfl (c_246 (by omega) hT (by omega)) (fun r11 w12 h13 => ?_)
    obtain ⟨z14, rfl, rfl, q15⟩ := h13
    obtain ⟨rfl, q15⟩ | ⟨rfl, q15⟩ := q15
    · show e_Ok 20 elay kcode eI (d + 1) 219 (10, [(0, (1, 0)), (1, (0, a))], [(0, 1)], w) _
      refine e_Ok.if1 rfl (fun h16 => ?_) (fun h16 => ?_)
      · replace h16 : (1 : Int) ≠ 0 := h16
        refine e_Ok.run (t' := (16, [(0, (1, 0)), (1, (0, a))], [(1, 0)], w)) 1 rfl ?_
        refine e_Ok.getf (z := w 0 13) rfl rfl rfl rfl rfl (by omega) ?_
        refine e_Ok.if1 rfl (fun h17 => ?_) (fun h17 => ?_)
        · replace h17 : (w 0 13 : Int) = 0 := h17
          refine e_Ok.run (t' := (39, [(0, (1, 0)), (1, (0, a))], [(0, (-2))], w)) 1 rfl ?_
          refine e_Ok.rets rfl rfl ?_
          exact ⟨_, rfl, Or.inl rfl⟩
        · replace h17 : (w 0 13 : Int) ≠ 0 := by have q : ¬ ((w 0 13 : Int) = 0) := h17; omega
          refine e_Ok.run (t' := (24, [(0, (1, 0)), (1, (0, a))], [(0, (-1)), (0, a)], w)) 2 rfl ?_
          refine e_Ok.if2 rfl (fun h18 => ?_) (fun h18 => ?_)
          · replace h18 : (a : Int) ≠ (-1) := h18
            refine e_Ok.run (t' := (46, [(0, (1, 0)), (1, (0, a))], [(0, 0), (0, 0), (0, a), (0, 6), (1, 0)], w)) 5 rfl ?_
            obtain ⟨OP, OD, CL, S, hK⟩ := hB (by omega)
            refine e_Ok.callV rfl (by omega) rfl rfl rfl rfl (c_255_r (by omega) hT hK (by omega) (by omega) (by omega) (by omega) (by omega) (by decide) (rwC.k6 (by omega)) (fun g => absurd g (by decide))) (fun r19 w20 h21 => ?_)
            obtain ⟨z22, rfl, q23⟩ := h21
            show e_Ok 20 elay kcode eI (d + 1) 219 (49, [(0, (1, 0)), (1, (0, a))], [(0, z22)], w20) _
            refine e_Ok.rets rfl rfl ?_
            obtain ⟨ee, ez, eg⟩ | ⟨eg, ee⟩ := q23
            · exact ⟨_, rfl, Or.inl (by rw [ee])⟩
            · exact ⟨_, rfl, Or.inr ⟨by omega, by omega⟩⟩
          · replace h18 : (a : Int) = (-1) := by have q : ¬ ((a : Int) ≠ (-1)) := h18; omega
            exfalso; omega
      · replace h16 : (1 : Int) = 0 := by have q : ¬ ((1 : Int) ≠ 0) := h16; omega
        exfalso; omega
    · show e_Ok 20 elay kcode eI (d + 1) 219 (10, [(0, (1, 0)), (1, (0, a))], [(0, 0)], w) _
      refine e_Ok.if1 rfl (fun h24 => ?_) (fun h24 => ?_)
      · replace h24 : (0 : Int) ≠ 0 := h24
        exfalso; omega
      · replace h24 : (0 : Int) = 0 := by have q : ¬ ((0 : Int) ≠ 0) := h24; omega
        refine e_Ok.run (t' := (14, [(0, (1, 0)), (1, (0, a))], [(0, (-1))], w)) 1 rfl ?_
        refine e_Ok.rets rfl rfl ?_
        exact ⟨_, rfl, Or.inl rfl⟩
theorem c_220_r {d : Nat} (hd : 31 ≤ d) {w : eW} (hT : e_Has kTy w) (hO : 0 ≤ w 0 13 ∧ w 0 13 ≤ 1) (hC : ∀ a, 0 ≤ a → a ≤ 3 → isCd (w (17 * a + 86) 7)) (hB : w 0 13 = 1 → ∃ OP OD CL S, kB w OP OD CL S) {a : Int} (g_a : (-2147483648) ≤ a ∧ a ≤ 2147483647) : e_Ok 20 elay kcode eI d 220 (0, [(0, (1, 0)), (1, (0, a))], [], w) (fun r w' => ∃ z : Int, r = [(0, z)] ∧ (w' 0 12 = w 0 12 ∨ (0 ≤ w' 0 12 ∧ w' 0 12 ≤ w 0 12 + 1))) := by
  obtain ⟨d, rfl⟩ : ∃ e, d = e + 1 := ⟨d - 1, by omega⟩
  have hw0 := e_Has.get hT (c := 0) (k := 11) (lo := 0) (hi := 4) rfl (by decide)
  refine e_Ok.run (t' := (2, [(0, (1, 0)), (1, (0, a))], [(0, a), (1, 0)], w)) 2 rfl ?_
  refine e_Ok.callV rfl (by omega) rfl rfl rfl rfl (c_246 (by omega) hT (by omega)) (fun r1 w2 h3 => ?_)
  obtain ⟨z4, rfl, rfl, q5⟩ := h3
  obtain ⟨rfl, q5⟩ | ⟨rfl, q5⟩ := q5
  · show e_Ok 20 elay kcode eI (d + 1) 220 (5, [(0, (1, 0)), (1, (0, a))], [(0, 1)], w) _
    refine e_Ok.if1 rfl (fun h6 => ?_) (fun h6 => ?_)
    · replace h6 : (1 : Int) ≠ 0 := h6
      refine e_Ok.run (t' := (11, [(0, (1, 0)), (1, (0, a))], [(1, 0)], w)) 1 rfl ?_
      refine e_Ok.getf (z := w 0 13) rfl rfl rfl rfl rfl (by omega) ?_
      refine e_Ok.if1 rfl (fun h7 => ?_) (fun h7 => ?_)
      · replace h7 : (w 0 13 : Int) = 0 := h7
        refine e_Ok.run (t' := (31, [(0, (1, 0)), (1, (0, a))], [(0, (-2))], w)) 1 rfl ?_
        refine e_Ok.rets rfl rfl ?_
        exact ⟨_, rfl, Or.inl rfl⟩
      · replace h7 : (w 0 13 : Int) ≠ 0 := by have q : ¬ ((w 0 13 : Int) = 0) := h7; omega
        refine e_Ok.run (t' := (18, [(0, (1, 0)), (1, (0, a))], [(1, 0)], w)) 1 rfl ?_
        refine e_Ok.getr (z := 9) rfl rfl rfl rfl (Eq.trans (e_Has.eq hT rfl) (by omega)) (by omega) ?_
        refine e_Ok.run (t' := (22, [(0, (1, 0)), (1, (0, a))], [(0, a), (1, 9)], w)) 1 rfl ?_
        refine e_Ok.aald (z := 17 * a + 86) rfl rfl rfl (by omega) (Eq.trans (e_Has.eq hT (k9 (by omega))) (by omega)) (by omega) ?_
        have h8 := (e_Has.get hT (c := 17 * a + 86) (k := 16) (lo := (-1)) (hi := 15) (kA_16 (a := a) (by omega) (by omega)) (by decide))
        refine e_Ok.getf (z := w (17 * a + 86) 16) rfl (lA0 (a := a) (by omega) (by omega)) rfl rfl rfl (by omega) ?_
        refine e_Ok.if1 rfl (fun h9 => ?_) (fun h9 => ?_)
        · replace h9 : (w (17 * a + 86) 16 : Int) ≥ 0 := h9
          refine e_Ok.run (t' := (38, [(0, (1, 0)), (1, (0, a))], [(0, 0), (0, 0), (0, a), (0, 7), (1, 0)], w)) 5 rfl ?_
          obtain ⟨OP, OD, CL, S, hK⟩ := hB (by omega)
          refine e_Ok.callV rfl (by omega) rfl rfl rfl rfl (c_255_r (by omega) hT hK (by omega) (by omega) (by omega) (by omega) (by omega) (by decide) (rwC.k7 (by omega)) (fun g => absurd g (by decide))) (fun r10 w11 h12 => ?_)
          obtain ⟨z13, rfl, q14⟩ := h12
          show e_Ok 20 elay kcode eI (d + 1) 220 (41, [(0, (1, 0)), (1, (0, a))], [(0, z13)], w11) _
          refine e_Ok.rets rfl rfl ?_
          obtain ⟨ee, ez, eg⟩ | ⟨eg, ee⟩ := q14
          · exact ⟨_, rfl, Or.inl (by rw [ee])⟩
          · exact ⟨_, rfl, Or.inr ⟨by omega, by omega⟩⟩
        · replace h9 : (w (17 * a + 86) 16 : Int) < 0 := by have q : ¬ ((w (17 * a + 86) 16 : Int) ≥ 0) := h9; omega
          refine e_Ok.run (t' := (31, [(0, (1, 0)), (1, (0, a))], [(0, (-2))], w)) 1 rfl ?_
          refine e_Ok.rets rfl rfl ?_
          exact ⟨_, rfl, Or.inl rfl⟩
    · replace h6 : (1 : Int) = 0 := by have q : ¬ ((1 : Int) ≠ 0) := h6; omega
      exfalso; omega
  · show e_Ok 20 elay kcode eI (d + 1) 220 (5, [(0, (1, 0)), (1, (0, a))], [(0, 0)], w) _
    refine e_Ok.if1 rfl (fun h15 => ?_) (fun h15 => ?_)
    · replace h15 : (0 : Int) ≠ 0 := h15
      exfalso; omega
    · replace h15 : (0 : Int) = 0 := by have q : ¬ ((0 : Int) ≠ 0) := h15; omega
      refine e_Ok.run (t' := (9, [(0, (1, 0)), (1, (0, a))], [(0, (-1))], w)) 1 rfl ?_
      refine e_Ok.rets rfl rfl ?_
      exact ⟨_, rfl, Or.inl rfl⟩
theorem c_221_r {d : Nat} (hd : 31 ≤ d) {w : eW} (hT : e_Has kTy w) (hO : 0 ≤ w 0 13 ∧ w 0 13 ≤ 1) (hC : ∀ a, 0 ≤ a → a ≤ 3 → isCd (w (17 * a + 86) 7)) (hB : w 0 13 = 1 → ∃ OP OD CL S, kB w OP OD CL S) {a : Int} (g_a : (-2147483648) ≤ a ∧ a ≤ 2147483647) {b : Int} (g_b : (-2147483648) ≤ b ∧ b ≤ 2147483647) {c : Int} (g_c : (-2147483648) ≤ c ∧ c ≤ 2147483647) : e_Ok 20 elay kcode eI d 221 (0, [(0, (1, 0)), (1, (0, a)), (2, (0, b)), (3, (0, c))], [], w) (fun r w' => ∃ z : Int, r = [(0, z)] ∧ (w' 0 12 = w 0 12 ∨ (0 ≤ w' 0 12 ∧ w' 0 12 ≤ w 0 12 + 1))) := by
  obtain ⟨d, rfl⟩ : ∃ e, d = e + 1 := ⟨d - 1, by omega⟩
  have hw0 := e_Has.get hT (c := 0) (k := 11) (lo := 0) (hi := 4) rfl (by decide)
  refine e_Ok.run (t' := (3, [(0, (1, 0)), (1, (0, a)), (2, (0, b)), (3, (0, c))], [(0, b), (0, a), (1, 0)], w)) 3 rfl ?_
  refine e_Ok.callV rfl (by omega) rfl rfl rfl rfl (c_247 (by omega) hT (by omega) (by omega)) (fun r1 w2 h3 => ?_)
  obtain ⟨z4, rfl, rfl, q5⟩ := h3
  obtain ⟨rfl, q5⟩ | ⟨rfl, q5⟩ := q5
  · show e_Ok 20 elay kcode eI (d + 1) 221 (6, [(0, (1, 0)), (1, (0, a)), (2, (0, b)), (3, (0, c))], [(0, 1)], w) _
    refine e_Ok.if1 rfl (fun h6 => ?_) (fun h6 => ?_)
    · replace h6 : (1 : Int) = 0 := h6
      exfalso; omega
    · replace h6 : (1 : Int) ≠ 0 := by have q : ¬ ((1 : Int) = 0) := h6; omega
      have hjn := kn_joints hT (a := a) (by omega)
      refine e_Ok.run (t' := (10, [(0, (1, 0)), (1, (0, a)), (2, (0, b)), (3, (0, c))], [(1, 0)], w)) 1 rfl ?_
      refine e_Ok.getr (z := 9) rfl rfl rfl rfl (Eq.trans (e_Has.eq hT rfl) (by omega)) (by omega) ?_
      refine e_Ok.run (t' := (14, [(0, (1, 0)), (1, (0, a)), (2, (0, b)), (3, (0, c))], [(0, a), (1, 9)], w)) 1 rfl ?_
      refine e_Ok.aald (z := 17 * a + 86) rfl rfl rfl (by omega) (Eq.trans (e_Has.eq hT (k9 (by omega))) (by omega)) (by omega) ?_
      refine e_Ok.getr (z := 17 * a + 87) rfl (lA0 (a := a) (by omega) (by omega)) rfl rfl (Eq.trans (e_Has.eq hT (kA_0 (a := a) (by omega) (by omega))) (by omega)) (by omega) ?_
      refine e_Ok.run (t' := (19, [(0, (1, 0)), (1, (0, a)), (2, (0, b)), (3, (0, c))], [(0, b), (1, 17 * a + 87)], w)) 1 rfl ?_
      refine e_Ok.aald (z := 17 * a + b + 97) rfl (lA1 (a := a) (by omega) (by omega)) rfl (by omega) (Eq.trans (e_Has.eq hT (kA87 (a := a) (by omega) (by omega) (by omega))) (by omega)) (by omega) ?_
      refine e_Ok.run (t' := (21, [(0, (1, 0)), (1, (0, a)), (2, (0, b)), (3, (0, c))], [(0, c), (1, 17 * a + b + 97)], w)) 1 rfl ?_
      refine e_Ok.callV rfl (by omega) rfl (lJ (a := a) (j := b) (by omega) (by omega) (by omega)) rfl rfl (c_89 (by omega) (a := a) (j := b) hT (by omega) (by omega) (by omega)) (fun r7 w8 h9 => ?_)
      obtain ⟨z10, rfl, rfl, q11⟩ := h9
      replace q11 : (z10 = 1 ∧ w (17 * a + b + 97) 1 ≤ c ∧ c ≤ w (17 * a + b + 97) 2) ∨ (z10 = 0 ∧ ¬ (w (17 * a + b + 97) 1 ≤ c ∧ c ≤ w (17 * a + b + 97) 2)) := q11
      obtain ⟨rfl, q11⟩ | ⟨rfl, q11⟩ := q11
      · show e_Ok 20 elay kcode eI (d + 1) 221 (24, [(0, (1, 0)), (1, (0, a)), (2, (0, b)), (3, (0, c))], [(0, 1)], w) _
        refine e_Ok.if1 rfl (fun h12 => ?_) (fun h12 => ?_)
        · replace h12 : (1 : Int) ≠ 0 := h12
          refine e_Ok.run (t' := (30, [(0, (1, 0)), (1, (0, a)), (2, (0, b)), (3, (0, c))], [(1, 0)], w)) 1 rfl ?_
          refine e_Ok.getf (z := w 0 13) rfl rfl rfl rfl rfl (by omega) ?_
          refine e_Ok.if1 rfl (fun h13 => ?_) (fun h13 => ?_)
          · replace h13 : (w 0 13 : Int) = 0 := h13
            refine e_Ok.run (t' := (48, [(0, (1, 0)), (1, (0, a)), (2, (0, b)), (3, (0, c))], [(0, (-2))], w)) 1 rfl ?_
            refine e_Ok.rets rfl rfl ?_
            exact ⟨_, rfl, Or.inl rfl⟩
          · replace h13 : (w 0 13 : Int) ≠ 0 := by have q : ¬ ((w 0 13 : Int) = 0) := h13; omega
            refine e_Ok.run (t' := (37, [(0, (1, 0)), (1, (0, a)), (2, (0, b)), (3, (0, c))], [(1, 0)], w)) 1 rfl ?_
            refine e_Ok.getr (z := 74) rfl rfl rfl rfl (Eq.trans (e_Has.eq hT rfl) (by omega)) (by omega) ?_
            have h14 := (e_Has.get hT (c := 74) (k := 3) (lo := 0) (hi := 1) rfl (by decide))
            refine e_Ok.getf (z := w 74 3) rfl rfl rfl rfl rfl (by omega) ?_
            refine e_Ok.if1 rfl (fun h15 => ?_) (fun h15 => ?_)
            · replace h15 : (w 74 3 : Int) = 0 := h15
              refine e_Ok.run (t' := (55, [(0, (1, 0)), (1, (0, a)), (2, (0, b)), (3, (0, c))], [(0, c), (0, b), (0, a), (0, 8), (1, 0)], w)) 5 rfl ?_
              obtain ⟨OP, OD, CL, S, hK⟩ := hB (by omega)
              obtain ⟨hh, hh0, hI⟩ := hK.live
              have hst := hI.pw (by omega) a (by omega) (by omega) (by omega)
              refine e_Ok.callV rfl (by omega) rfl rfl rfl rfl (c_255_r (by omega) hT hK (by omega) (by omega) (by omega) (by omega) (by omega) (by decide) (rwC.k8 ⟨by omega, by omega, hst, by omega, by omega⟩) (fun g => absurd g (by decide))) (fun r16 w17 h18 => ?_)
              obtain ⟨z19, rfl, q20⟩ := h18
              show e_Ok 20 elay kcode eI (d + 1) 221 (58, [(0, (1, 0)), (1, (0, a)), (2, (0, b)), (3, (0, c))], [(0, z19)], w17) _
              refine e_Ok.rets rfl rfl ?_
              obtain ⟨ee, ez, eg⟩ | ⟨eg, ee⟩ := q20
              · exact ⟨_, rfl, Or.inl (by rw [ee])⟩
              · exact ⟨_, rfl, Or.inr ⟨by omega, by omega⟩⟩
            · replace h15 : (w 74 3 : Int) ≠ 0 := by have q : ¬ ((w 74 3 : Int) = 0) := h15; omega
              refine e_Ok.run (t' := (48, [(0, (1, 0)), (1, (0, a)), (2, (0, b)), (3, (0, c))], [(0, (-2))], w)) 1 rfl ?_
              refine e_Ok.rets rfl rfl ?_
              exact ⟨_, rfl, Or.inl rfl⟩
        · replace h12 : (1 : Int) = 0 := by have q : ¬ ((1 : Int) ≠ 0) := h12; omega
          exfalso; omega
      · show e_Ok 20 elay kcode eI (d + 1) 221 (24, [(0, (1, 0)), (1, (0, a)), (2, (0, b)), (3, (0, c))], [(0, 0)], w) _
        refine e_Ok.if1 rfl (fun h21 => ?_) (fun h21 => ?_)
        · replace h21 : (0 : Int) ≠ 0 := h21
          exfalso; omega
        · replace h21 : (0 : Int) = 0 := by have q : ¬ ((0 : Int) ≠ 0) := h21; omega
          refine e_Ok.run (t' := (28, [(0, (1, 0)), (1, (0, a)), (2, (0, b)), (3, (0, c))], [(0, (-1))], w)) 1 rfl ?_
          refine e_Ok.rets rfl rfl ?_
          exact ⟨_, rfl, Or.inl rfl⟩
  · show e_Ok 20 elay kcode eI (d + 1) 221 (6, [(0, (1, 0)), (1, (0, a)), (2, (0, b)), (3, (0, c))], [(0, 0)], w) _
    refine e_Ok.if1 rfl (fun h22 => ?_) (fun h22 => ?_)
    · replace h22 : (0 : Int) = 0 := h22
      refine e_Ok.run (t' := (28, [(0, (1, 0)), (1, (0, a)), (2, (0, b)), (3, (0, c))], [(0, (-1))], w)) 1 rfl ?_
      refine e_Ok.rets rfl rfl ?_
      exact ⟨_, rfl, Or.inl rfl⟩
    · replace h22 : (0 : Int) ≠ 0 := by have q : ¬ ((0 : Int) = 0) := h22; omega
      exfalso; omega
theorem c_222_r {d : Nat} (hd : 31 ≤ d) {w : eW} (hT : e_Has kTy w) (hO : 0 ≤ w 0 13 ∧ w 0 13 ≤ 1) (hC : ∀ a, 0 ≤ a → a ≤ 3 → isCd (w (17 * a + 86) 7)) (hB : w 0 13 = 1 → ∃ OP OD CL S, kB w OP OD CL S) {a : Int} (g_a : (-2147483648) ≤ a ∧ a ≤ 2147483647) {b : Int} (g_b : (-2147483648) ≤ b ∧ b ≤ 2147483647) : e_Ok 20 elay kcode eI d 222 (0, [(0, (1, 0)), (1, (0, a)), (2, (0, b))], [], w) (fun r w' => ∃ z : Int, r = [(0, z)] ∧ (w' 0 12 = w 0 12 ∨ (0 ≤ w' 0 12 ∧ w' 0 12 ≤ w 0 12 + 1)) ∧ ((¬ (0 ≤ a ∧ a ≤ 5) ∧ z = -1) ∨ ((0 ≤ a ∧ a ≤ 5) ∧ ((w 0 13 = 0 ∧ z = -2) ∨ (w 0 13 = 1 ∧ ((2000 ≤ w 0 12 ∧ z = -3) ∨ (w 0 12 < 2000 ∧ z = 0))))))) := by
  obtain ⟨d, rfl⟩ : ∃ e, d = e + 1 := ⟨d - 1, by omega⟩
  have hw0 := e_Has.get hT (c := 0) (k := 11) (lo := 0) (hi := 4) rfl (by decide)
  refine e_Ok.run (t' := (3, [(0, (1, 0)), (1, (0, a)), (2, (0, b))], [(0, 5), (0, 0), (0, a)], w)) 3 rfl ?_
  refine e_Ok.callS rfl (by omega) rfl rfl (c_242 (by omega) (by omega) (by omega)) (fun r1 w2 h3 => ?_)
  obtain ⟨z4, rfl, rfl, q5⟩ := h3
  obtain ⟨rfl, q5⟩ | ⟨rfl, q5⟩ := q5
  · show e_Ok 20 elay kcode eI (d + 1) 222 (6, [(0, (1, 0)), (1, (0, a)), (2, (0, b))], [(0, 1)], w) _
    refine e_Ok.if1 rfl (fun h6 => ?_) (fun h6 => ?_)
    · replace h6 : (1 : Int) ≠ 0 := h6
      refine e_Ok.run (t' := (12, [(0, (1, 0)), (1, (0, a)), (2, (0, b))], [(1, 0)], w)) 1 rfl ?_
      refine e_Ok.getf (z := w 0 13) rfl rfl rfl rfl rfl (by omega) ?_
      refine e_Ok.if1 rfl (fun h7 => ?_) (fun h7 => ?_)
      · replace h7 : (w 0 13 : Int) ≠ 0 := h7
        refine e_Ok.run (t' := (27, [(0, (1, 0)), (1, (0, a)), (2, (0, b))], [(0, 0), (0, b), (0, a), (0, 9), (1, 0)], w)) 5 rfl ?_
        obtain ⟨OP, OD, CL, S, hK⟩ := hB (by omega)
        refine e_Ok.callV rfl (by omega) rfl rfl rfl rfl (c_255_9 (by omega) hT hK (by omega) (by omega) (by omega) (by omega) (by omega) (rwC.k9 (by omega))) (fun r8 w9 h10 => ?_)
        obtain ⟨z11, rfl, q12⟩ := h10
        show e_Ok 20 elay kcode eI (d + 1) 222 (30, [(0, (1, 0)), (1, (0, a)), (2, (0, b))], [(0, z11)], w9) _
        refine e_Ok.rets rfl rfl ?_
        obtain ⟨ee, ez, eg⟩ | ⟨eg, ee, ez⟩ := q12
        · exact ⟨_, rfl, Or.inl (by rw [ee]), by omega⟩
        · exact ⟨_, rfl, Or.inr ⟨by omega, by omega⟩, by omega⟩
      · replace h7 : (w 0 13 : Int) = 0 := by have q : ¬ ((w 0 13 : Int) ≠ 0) := h7; omega
        refine e_Ok.run (t' := (20, [(0, (1, 0)), (1, (0, a)), (2, (0, b))], [(0, (-2))], w)) 1 rfl ?_
        refine e_Ok.rets rfl rfl ?_
        exact ⟨_, rfl, Or.inl rfl, by omega⟩
    · replace h6 : (1 : Int) = 0 := by have q : ¬ ((1 : Int) ≠ 0) := h6; omega
      exfalso; omega
  · show e_Ok 20 elay kcode eI (d + 1) 222 (6, [(0, (1, 0)), (1, (0, a)), (2, (0, b))], [(0, 0)], w) _
    refine e_Ok.if1 rfl (fun h13 => ?_) (fun h13 => ?_)
    · replace h13 : (0 : Int) ≠ 0 := h13
      exfalso; omega
    · replace h13 : (0 : Int) = 0 := by have q : ¬ ((0 : Int) ≠ 0) := h13; omega
      refine e_Ok.run (t' := (10, [(0, (1, 0)), (1, (0, a)), (2, (0, b))], [(0, (-1))], w)) 1 rfl ?_
      refine e_Ok.rets rfl rfl ?_
      exact ⟨_, rfl, Or.inl rfl, by omega⟩
theorem c_224_r {d : Nat} (hd : 31 ≤ d) {w : eW} (hT : e_Has kTy w) (hO : 0 ≤ w 0 13 ∧ w 0 13 ≤ 1) (hC : ∀ a, 0 ≤ a → a ≤ 3 → isCd (w (17 * a + 86) 7)) (hB : w 0 13 = 1 → ∃ OP OD CL S, kB w OP OD CL S) {a : Int} (g_a : (-2147483648) ≤ a ∧ a ≤ 2147483647) : e_Ok 20 elay kcode eI d 224 (0, [(0, (1, 0)), (1, (0, a))], [], w) (fun r w' => ∃ z : Int, r = [(0, z)] ∧ (w' 0 12 = w 0 12 ∨ (0 ≤ w' 0 12 ∧ w' 0 12 ≤ w 0 12 + 1))) := by
  obtain ⟨d, rfl⟩ : ∃ e, d = e + 1 := ⟨d - 1, by omega⟩
  have hw0 := e_Has.get hT (c := 0) (k := 11) (lo := 0) (hi := 4) rfl (by decide)
  refine e_Ok.run (t' := (2, [(0, (1, 0)), (1, (0, a))], [(0, a), (1, 0)], w)) 2 rfl ?_
  refine e_Ok.callV rfl (by omega) rfl rfl rfl rfl (c_246 (by omega) hT (by omega)) (fun r1 w2 h3 => ?_)
  obtain ⟨z4, rfl, rfl, q5⟩ := h3
  obtain ⟨rfl, q5⟩ | ⟨rfl, q5⟩ := q5
  · show e_Ok 20 elay kcode eI (d + 1) 224 (5, [(0, (1, 0)), (1, (0, a))], [(0, 1)], w) _
    refine e_Ok.if1 rfl (fun h6 => ?_) (fun h6 => ?_)
    · replace h6 : (1 : Int) ≠ 0 := h6
      refine e_Ok.run (t' := (11, [(0, (1, 0)), (1, (0, a))], [(1, 0)], w)) 1 rfl ?_
      refine e_Ok.getf (z := w 0 13) rfl rfl rfl rfl rfl (by omega) ?_
      refine e_Ok.if1 rfl (fun h7 => ?_) (fun h7 => ?_)
      · replace h7 : (w 0 13 : Int) = 0 := h7
        refine e_Ok.run (t' := (43, [(0, (1, 0)), (1, (0, a))], [(0, (-2))], w)) 1 rfl ?_
        refine e_Ok.rets rfl rfl ?_
        exact ⟨_, rfl, Or.inl rfl⟩
      · replace h7 : (w 0 13 : Int) ≠ 0 := by have q : ¬ ((w 0 13 : Int) = 0) := h7; omega
        refine e_Ok.run (t' := (18, [(0, (1, 0)), (1, (0, a))], [(1, 0)], w)) 1 rfl ?_
        refine e_Ok.getr (z := 9) rfl rfl rfl rfl (Eq.trans (e_Has.eq hT rfl) (by omega)) (by omega) ?_
        refine e_Ok.run (t' := (22, [(0, (1, 0)), (1, (0, a))], [(0, a), (1, 9)], w)) 1 rfl ?_
        refine e_Ok.aald (z := 17 * a + 86) rfl rfl rfl (by omega) (Eq.trans (e_Has.eq hT (k9 (by omega))) (by omega)) (by omega) ?_
        refine e_Ok.callV rfl (by omega) rfl (lA0 (a := a) (by omega) (by omega)) rfl rfl (c_9_b (a := a) hT (by omega)) (fun r8 w9 h10 => ?_)
        obtain ⟨z11, rfl, rfl, q12⟩ := h10
        obtain ⟨rfl, q12⟩ | ⟨rfl, q12⟩ := q12
        · show e_Ok 20 elay kcode eI (d + 1) 224 (26, [(0, (1, 0)), (1, (0, a))], [(0, 1)], w) _
          refine e_Ok.if1 rfl (fun h13 => ?_) (fun h13 => ?_)
          · replace h13 : (1 : Int) = 0 := h13
            exfalso; omega
          · replace h13 : (1 : Int) ≠ 0 := by have q : ¬ ((1 : Int) = 0) := h13; omega
            refine e_Ok.run (t' := (30, [(0, (1, 0)), (1, (0, a))], [(1, 0)], w)) 1 rfl ?_
            refine e_Ok.getr (z := 9) rfl rfl rfl rfl (Eq.trans (e_Has.eq hT rfl) (by omega)) (by omega) ?_
            refine e_Ok.run (t' := (34, [(0, (1, 0)), (1, (0, a))], [(0, a), (1, 9)], w)) 1 rfl ?_
            refine e_Ok.aald (z := 17 * a + 86) rfl rfl rfl (by omega) (Eq.trans (e_Has.eq hT (k9 (by omega))) (by omega)) (by omega) ?_
            have h14 := (e_Has.get hT (c := 17 * a + 86) (k := 11) (lo := 0) (hi := 2) (kA_11 (a := a) (by omega) (by omega)) (by decide))
            refine e_Ok.getf (z := w (17 * a + 86) 11) rfl (lA0 (a := a) (by omega) (by omega)) rfl rfl rfl (by omega) ?_
            refine e_Ok.if1 rfl (fun h15 => ?_) (fun h15 => ?_)
            · replace h15 : (w (17 * a + 86) 11 : Int) = 0 := h15
              refine e_Ok.run (t' := (45, [(0, (1, 0)), (1, (0, a))], [(1, 0)], w)) 1 rfl ?_
              refine e_Ok.getr (z := 9) rfl rfl rfl rfl (Eq.trans (e_Has.eq hT rfl) (by omega)) (by omega) ?_
              refine e_Ok.run (t' := (49, [(0, (1, 0)), (1, (0, a))], [(0, a), (1, 9)], w)) 1 rfl ?_
              refine e_Ok.aald (z := 17 * a + 86) rfl rfl rfl (by omega) (Eq.trans (e_Has.eq hT (k9 (by omega))) (by omega)) (by omega) ?_
              have h16 := (e_Has.get hT (c := 17 * a + 86) (k := 16) (lo := (-1)) (hi := 15) (kA_16 (a := a) (by omega) (by omega)) (by decide))
              refine e_Ok.getf (z := w (17 * a + 86) 16) rfl (lA0 (a := a) (by omega) (by omega)) rfl rfl rfl (by omega) ?_
              refine e_Ok.if1 rfl (fun h17 => ?_) (fun h17 => ?_)
              · replace h17 : (w (17 * a + 86) 16 : Int) ≥ 0 := h17
                refine e_Ok.run (t' := (68, [(0, (1, 0)), (1, (0, a))], [(0, (-2))], w)) 1 rfl ?_
                refine e_Ok.rets rfl rfl ?_
                exact ⟨_, rfl, Or.inl rfl⟩
              · replace h17 : (w (17 * a + 86) 16 : Int) < 0 := by have q : ¬ ((w (17 * a + 86) 16 : Int) ≥ 0) := h17; omega
                refine e_Ok.run (t' := (57, [(0, (1, 0)), (1, (0, a))], [(1, 0)], w)) 1 rfl ?_
                refine e_Ok.getr (z := 74) rfl rfl rfl rfl (Eq.trans (e_Has.eq hT rfl) (by omega)) (by omega) ?_
                have h18 := (e_Has.get hT (c := 74) (k := 3) (lo := 0) (hi := 1) rfl (by decide))
                refine e_Ok.getf (z := w 74 3) rfl rfl rfl rfl rfl (by omega) ?_
                refine e_Ok.if1 rfl (fun h19 => ?_) (fun h19 => ?_)
                · replace h19 : (w 74 3 : Int) ≠ 0 := h19
                  refine e_Ok.run (t' := (75, [(0, (1, 0)), (1, (0, a))], [(0, 0), (0, 0), (0, a), (0, 11), (1, 0)], w)) 5 rfl ?_
                  obtain ⟨OP, OD, CL, S, hK⟩ := hB (by omega)
                  refine e_Ok.callV rfl (by omega) rfl rfl rfl rfl (c_255_r (by omega) hT hK (by omega) (by omega) (by omega) (by omega) (by omega) (by decide) (rwC.k11 ⟨by omega, by omega, by omega, by omega, by omega⟩) (fun g => absurd g (by decide))) (fun r20 w21 h22 => ?_)
                  obtain ⟨z23, rfl, q24⟩ := h22
                  show e_Ok 20 elay kcode eI (d + 1) 224 (78, [(0, (1, 0)), (1, (0, a))], [(0, z23)], w21) _
                  refine e_Ok.rets rfl rfl ?_
                  obtain ⟨ee, ez, eg⟩ | ⟨eg, ee⟩ := q24
                  · exact ⟨_, rfl, Or.inl (by rw [ee])⟩
                  · exact ⟨_, rfl, Or.inr ⟨by omega, by omega⟩⟩
                · replace h19 : (w 74 3 : Int) = 0 := by have q : ¬ ((w 74 3 : Int) ≠ 0) := h19; omega
                  refine e_Ok.run (t' := (68, [(0, (1, 0)), (1, (0, a))], [(0, (-2))], w)) 1 rfl ?_
                  refine e_Ok.rets rfl rfl ?_
                  exact ⟨_, rfl, Or.inl rfl⟩
            · replace h15 : (w (17 * a + 86) 11 : Int) ≠ 0 := by have q : ¬ ((w (17 * a + 86) 11 : Int) = 0) := h15; omega
              refine e_Ok.run (t' := (43, [(0, (1, 0)), (1, (0, a))], [(0, (-2))], w)) 1 rfl ?_
              refine e_Ok.rets rfl rfl ?_
              exact ⟨_, rfl, Or.inl rfl⟩
        · show e_Ok 20 elay kcode eI (d + 1) 224 (26, [(0, (1, 0)), (1, (0, a))], [(0, 0)], w) _
          refine e_Ok.if1 rfl (fun h25 => ?_) (fun h25 => ?_)
          · replace h25 : (0 : Int) = 0 := h25
            refine e_Ok.run (t' := (43, [(0, (1, 0)), (1, (0, a))], [(0, (-2))], w)) 1 rfl ?_
            refine e_Ok.rets rfl rfl ?_
            exact ⟨_, rfl, Or.inl rfl⟩
          · replace h25 : (0 : Int) ≠ 0 := by have q : ¬ ((0 : Int) = 0) := h25; omega
            exfalso; omega
    · replace h6 : (1 : Int) = 0 := by have q : ¬ ((1 : Int) ≠ 0) := h6; omega
      exfalso; omega
  · show e_Ok 20 elay kcode eI (d + 1) 224 (5, [(0, (1, 0)), (1, (0, a))], [(0, 0)], w) _
    refine e_Ok.if1 rfl (fun h26 => ?_) (fun h26 => ?_)
    · replace h26 : (0 : Int) ≠ 0 := h26
      exfalso; omega
    · replace h26 : (0 : Int) = 0 := by have q : ¬ ((0 : Int) ≠ 0) := h26; omega
      refine e_Ok.run (t' := (9, [(0, (1, 0)), (1, (0, a))], [(0, (-1))], w)) 1 rfl ?_
      refine e_Ok.rets rfl rfl ?_
      exact ⟨_, rfl, Or.inl rfl⟩
set_option maxHeartbeats 4000000 in
theorem c_214_r {d : Nat} (hd : 31 ≤ d) {w : eW} (hT : e_Has kTy w) (hO : 0 ≤ w 0 13 ∧ w 0 13 ≤ 1) (hC : ∀ a, 0 ≤ a → a ≤ 3 → isCd (w (17 * a + 86) 7)) (hB : w 0 13 = 1 → ∃ OP OD CL S, kB w OP OD CL S) {n : Int} (g_n : -2147483648 ≤ n ∧ n ≤ 2147483647) (h12 : 0 ≤ w 0 12 ∧ w 0 12 ≤ 2000) : e_Ok 20 elay kcode eI d 214 (0, [(0, (1, 0)), (1, (0, n))], [], w) (fun r w' => ∃ z : Int, r = [(0, z)] ∧ (w' 0 12 = w 0 12 ∨ (0 ≤ w' 0 12 ∧ w' 0 12 ≤ w 0 12 + 1))) := by
  obtain ⟨d, rfl⟩ : ∃ e, d = e + 1 := ⟨d - 1, by omega⟩
  have hw0 := e_Has.get hT (c := 0) (k := 11) (lo := 0) (hi := 4) rfl (by decide)
  have h740 := e_Has.get hT (c := 74) (k := 0) (lo := 0) (hi := 6000) rfl (by decide)
  refine e_Ok.run (t' := (5, [(0, (1, 0)), (1, (0, n))], [(0, 1000), (0, 1), (0, n)], w)) 3 rfl ?_
  refine e_Ok.callS rfl (by omega) rfl rfl (c_242 (by omega) (by omega) (by omega)) (fun r1 w2 h3 => ?_)
  obtain ⟨z4, rfl, rfl, q5⟩ := h3
  obtain ⟨rfl, q5⟩ | ⟨rfl, q5⟩ := q5
  · show e_Ok 20 elay kcode eI (d + 1) 214 (8, [(0, (1, 0)), (1, (0, n))], [(0, 1)], w) _
    refine e_Ok.if1 rfl (fun h6 => ?_) (fun h6 => ?_)
    · replace h6 : (1 : Int) ≠ 0 := h6
      refine e_Ok.run (t' := (14, [(0, (1, 0)), (1, (0, n))], [(1, 0)], w)) 1 rfl ?_
      refine e_Ok.getf (z := w 0 13) rfl rfl rfl rfl rfl (by omega) ?_
      refine e_Ok.if1 rfl (fun h7 => ?_) (fun h7 => ?_)
      · replace h7 : (w 0 13 : Int) ≠ 0 := h7
        refine e_Ok.run (t' := (28, [(0, (1, 0)), (1, (0, n))], [(1, 0), (0, 6000), (0, n)], w)) 3 rfl ?_
        refine e_Ok.getr (z := 74) rfl rfl rfl rfl (Eq.trans (e_Has.eq hT rfl) (by omega)) (by omega) ?_
        have h8 := (e_Has.get hT (c := 74) (k := 0) (lo := 0) (hi := 6000) rfl (by decide))
        refine e_Ok.getf (z := w 74 0) rfl rfl rfl rfl rfl (by omega) ?_
        refine e_Ok.sub' (z := -w 74 0 + 6000) rfl (by omega) (by omega) ?_
        refine e_Ok.mmin rfl rfl (fun z9 hz9 => ?_)
        replace hz9 : ((-w 74 0 + 6000) < n ∧ z9 = -w 74 0 + 6000) ∨ (n ≤ -w 74 0 + 6000 ∧ z9 = n) := hz9
        refine e_Ok.run (t' := (40, [(2, (0, z9)), (0, (1, 0)), (1, (0, n))], [(0, z9)], w)) 2 rfl ?_
        refine e_Ok.if1 rfl (fun h10 => ?_) (fun h10 => ?_)
        · replace h10 : (z9 : Int) ≤ 0 := h10
          refine e_Ok.run (t' := (52, [(2, (0, z9)), (0, (1, 0)), (1, (0, n))], [(0, (-3))], w)) 1 rfl ?_
          refine e_Ok.rets rfl rfl ?_
          exact ⟨_, rfl, Or.inl rfl⟩
        · replace h10 : (z9 : Int) > 0 := by have q : ¬ ((z9 : Int) ≤ 0) := h10; omega
          refine e_Ok.run (t' := (44, [(2, (0, z9)), (0, (1, 0)), (1, (0, n))], [(1, 0)], w)) 1 rfl ?_
          refine e_Ok.callV rfl (by omega) rfl rfl rfl rfl (c_253 h12) (fun r11 w12 h13 => ?_)
          obtain ⟨z15, rfl, rfl, q14r, q14x⟩ := h13
          show e_Ok 20 elay kcode eI (d + 1) 214 (47, [(2, (0, z9)), (0, (1, 0)), (1, (0, n))], [(0, z15)], w) _
          refine e_Ok.if1 rfl (fun h16 => ?_) (fun h16 => ?_)
          · replace h16 : (z15 : Int) ≠ 0 := h16
            refine e_Ok.run (t' := (58, [(2, (0, z9)), (0, (1, 0)), (1, (0, n))], [(0, 0), (0, 0), (0, z9), (0, 1), (1, 0)], w)) 5 rfl ?_
            refine e_Ok.callV rfl (by omega) rfl rfl rfl rfl (e_Ok.out kAlk (c_254 hT (by omega) (by omega) (by omega) (by omega) (by omega))) (fun r17 w18 h19 => ?_)
            obtain ⟨⟨rfl, q20f, q20T, q20x⟩, q20o⟩ := h19
            have f21 : e_fr kNv w w18 := e_fr.trans (e_fr.refl w) (e_fr.mono q20f (fun c k q => by exact Or.inr q))
            obtain ⟨OP, OD, CL, S, hK⟩ := hB (by omega)
            obtain ⟨hIU, hev, he0, he1⟩ := hK.ev (i := w 0 12) (by omega)
            have hUw := hK.2.2.2.1.pj
            have hU1 : e_rf (pj w (S (w 0 12))) w18 := pj.rfo hUw (fun c k g => q20f c k (fun g2 => by have z := bo_x g2; rcases g with g | g; exact g z.1; exact z.2 g))
            have eU0 : w 74 0 = pj w (S (w 0 12)) 74 0 := by obtain ⟨hh, -, z⟩ := hIU; exact z.1.kq hUw (lo := 0) (hi := 6000) rfl (by decide) (by decide) (by decide)
            show e_Ok 20 elay kcode eI (d + 1) 214 (61, [(2, (0, z9)), (0, (1, 0)), (1, (0, n))], [], w18) _
            refine e_Ok.run (t' := (63, [(3, (0, 0)), (2, (0, z9)), (0, (1, 0)), (1, (0, n))], [], w18)) 2 rfl ?_
            have hL22 : ∀ (nn : Nat) (y3 : Int) (v1 : eW) (V1 : eW), e_fr kNv w v1 ∧ e_Has kTy v1 ∧ e_fr kNw w18 v1 ∧ (∀ c k, e_out elay c k → v1 c k = w18 c k) ∧ e_rf V1 v1 ∧ tkE OP OD CL y3.toNat (pj w (S (w 0 12))) V1 ∧ ((∃ hh, 0 ≤ hh ∧ kI V1 OP OD CL hh (-1))) ∧ e_fr kNw (pj w (S (w 0 12))) V1 ∧ ((V1 74 0 = pj w (S (w 0 12)) 74 0 + y3 ∧ V1 74 1 ≤ pj w (S (w 0 12)) 74 1 + 900 * y3)) ∧ ((0 ≤ y3 ∧ y3 ≤ z9)) ∧ aQ w18 v1 → 1000 - y3 < nn → e_Ok 20 elay kcode eI (d + 1) 214 (63, [(0, (1, 0)), (2, (0, z9)), (3, (0, y3))], [], v1) (fun r w' => ∃ z : Int, r = [(0, z)] ∧ (w' 0 12 = w 0 12 ∨ (0 ≤ w' 0 12 ∧ w' 0 12 ≤ w 0 12 + 1))) := by
              intro nn
              induction nn with
              | zero => intro y3 v1 V1 hj hm; obtain ⟨j24, j25, j26, j27, j28, j29, j30, j31, j32, j33, j34⟩ := hj; exfalso; omega
              | succ nn ih23 =>
                intro y3 v1 V1 hj hm
                obtain ⟨j24, j25, j26, j27, j28, j29, j30, j31, j32, j33, j34⟩ := hj
                refine e_Ok.run (t' := (65, [(0, (1, 0)), (2, (0, z9)), (3, (0, y3))], [(0, z9), (0, y3)], v1)) 2 rfl ?_
                refine e_Ok.if2 rfl (fun h35 => ?_) (fun h35 => ?_)
                · replace h35 : (y3 : Int) ≥ z9 := h35
                  refine e_Ok.run (t' := (79, [(0, (1, 0)), (2, (0, z9)), (3, (0, y3))], [(0, z9)], v1)) 1 rfl ?_
                  refine e_Ok.rets rfl rfl ?_
                  exact ⟨_, rfl, by have e := (j26 0 12 (by unfold kNw; omega)).trans q20x.1; exact Or.inr ⟨by omega, by omega⟩⟩
                · replace h35 : (y3 : Int) < z9 := by have q : ¬ ((y3 : Int) ≥ z9) := h35; omega
                  refine e_Ok.run (t' := (69, [(0, (1, 0)), (2, (0, z9)), (3, (0, y3))], [(1, 0)], v1)) 1 rfl ?_
                  refine e_Ok.callV rfl (by omega) rfl rfl rfl rfl (tick_r (by omega) (U := V1) j28 ⟨j30, by omega, by omega⟩) (fun r36 w37 h38 => ?_)
                  obtain ⟨⟨rfl, q40f, q40T, V2, t1, t2, t3, t4, t5, t6, t7⟩, q40o⟩ := h38
                  have f41 : e_fr kNv w w37 := e_fr.trans j24 (e_fr.mono q40f (fun c k q => by exact Or.inl q))
                  show e_Ok 20 elay kcode eI (d + 1) 214 (72, [(0, (1, 0)), (2, (0, z9)), (3, (0, y3))], [], w37) _
                  refine e_Ok.inc (z := y3 + 1) rfl rfl (by omega) (by omega) ?_
                  show e_Ok 20 elay kcode eI (d + 1) 214 (75, [(3, (0, y3 + 1)), (0, (1, 0)), (2, (0, z9))], [], w37) _
                  refine e_Ok.run (t' := (63, [(3, (0, y3 + 1)), (0, (1, 0)), (2, (0, z9))], [], w37)) 1 rfl ?_
                  refine e_Ok.sub kAlk (e_sub_of rfl ?_) (ih23 (y3 + 1) w37 V2 ⟨f41, q40T, (e_fr.trans j26 q40f), (fun c k g => (q40o c k g).trans (j27 c k g)), t1, (by rw [show (y3 + 1).toNat = y3.toNat + 1 by omega]; exact tkE.snoc _ j29 ⟨j30, by omega, by omega⟩ t2), t3, (e_fr.trans j31 t4), (by omega), by omega, (aQ.trans j34 t7)⟩ (by omega))
                  exact ⟨rfl, rfl, rfl, trivial⟩
            refine e_Ok.sub kAlk (e_sub_of rfl ?_) (hL22 (1000 + 1 : Int).toNat 0 w18 (pj w (S (w 0 12))) ⟨f21, q20T, (e_fr.refl _), (fun _ _ _ => rfl), hU1, rfl, hIU, (e_fr.refl _), (by omega), by omega, (aQ.refl _)⟩ (by omega))
            exact ⟨rfl, rfl, rfl, trivial⟩
          · replace h16 : (z15 : Int) = 0 := by have q : ¬ ((z15 : Int) ≠ 0) := h16; omega
            refine e_Ok.run (t' := (52, [(2, (0, z9)), (0, (1, 0)), (1, (0, n))], [(0, (-3))], w)) 1 rfl ?_
            refine e_Ok.rets rfl rfl ?_
            exact ⟨_, rfl, Or.inl rfl⟩
      · replace h7 : (w 0 13 : Int) = 0 := by have q : ¬ ((w 0 13 : Int) ≠ 0) := h7; omega
        refine e_Ok.run (t' := (22, [(0, (1, 0)), (1, (0, n))], [(0, (-2))], w)) 1 rfl ?_
        refine e_Ok.rets rfl rfl ?_
        exact ⟨_, rfl, Or.inl rfl⟩
    · replace h6 : (1 : Int) = 0 := by have q : ¬ ((1 : Int) ≠ 0) := h6; omega
      exfalso; omega
  · show e_Ok 20 elay kcode eI (d + 1) 214 (8, [(0, (1, 0)), (1, (0, n))], [(0, 0)], w) _
    refine e_Ok.if1 rfl (fun h42 => ?_) (fun h42 => ?_)
    · replace h42 : (0 : Int) ≠ 0 := h42
      exfalso; omega
    · replace h42 : (0 : Int) = 0 := by have q : ¬ ((0 : Int) ≠ 0) := h42; omega
      refine e_Ok.run (t' := (12, [(0, (1, 0)), (1, (0, n))], [(0, (-1))], w)) 1 rfl ?_
      refine e_Ok.rets rfl rfl ?_
      exact ⟨_, rfl, Or.inl rfl⟩
set_option maxHeartbeats 4000000 in
theorem c_225_r {d : Nat} (hd : 32 ≤ d) {w : eW} (hT : e_Has kTy w) (hO : 0 ≤ w 0 13 ∧ w 0 13 ≤ 1) (hC : ∀ a, 0 ≤ a → a ≤ 3 → isCd (w (17 * a + 86) 7)) (hB : w 0 13 = 1 → ∃ OP OD CL S, kB w OP OD CL S) {n : Int} (g_n : -2147483648 ≤ n ∧ n ≤ 2147483647) (h12 : 0 ≤ w 0 12 ∧ w 0 12 ≤ 2000) : e_Ok 20 elay kcode eI d 225 (0, [(0, (1, 0)), (1, (0, n))], [], w) (fun r w' => ∃ z : Int, r = [(0, z)] ∧ (w' 0 12 = w 0 12 ∨ (0 ≤ w' 0 12 ∧ w' 0 12 ≤ w 0 12 + 1))) := by
  obtain ⟨d, rfl⟩ : ∃ e, d = e + 1 := ⟨d - 1, by omega⟩
  have hw0 := e_Has.get hT (c := 0) (k := 11) (lo := 0) (hi := 4) rfl (by decide)
  refine e_Ok.run (t' := (3, [(0, (1, 0)), (1, (0, n))], [(1, 0), (0, 0), (0, n)], w)) 3 rfl ?_
  refine e_Ok.getf (z := w 0 12) rfl rfl rfl rfl rfl (by omega) ?_
  refine e_Ok.callS rfl (by omega) rfl rfl (c_242 (by omega) (by omega) (by omega)) (fun r1 w2 h3 => ?_)
  obtain ⟨z4, rfl, rfl, q5⟩ := h3
  obtain ⟨rfl, q5⟩ | ⟨rfl, q5⟩ := q5
  · show e_Ok 20 elay kcode eI (d + 1) 225 (9, [(0, (1, 0)), (1, (0, n))], [(0, 1)], w) _
    refine e_Ok.if1 rfl (fun h6 => ?_) (fun h6 => ?_)
    · replace h6 : (1 : Int) ≠ 0 := h6
      refine e_Ok.run (t' := (15, [(0, (1, 0)), (1, (0, n))], [(1, 0)], w)) 1 rfl ?_
      refine e_Ok.getf (z := w 0 13) rfl rfl rfl rfl rfl (by omega) ?_
      refine e_Ok.if1 rfl (fun h7 => ?_) (fun h7 => ?_)
      · replace h7 : (w 0 13 : Int) ≠ 0 := h7
        refine e_Ok.run (t' := (26, [(0, (1, 0)), (1, (0, n))], [(1, 0), (0, n)], w)) 2 rfl ?_
        refine e_Ok.getf (z := w 0 12) rfl rfl rfl rfl rfl (by omega) ?_
        refine e_Ok.if2 rfl (fun h8 => ?_) (fun h8 => ?_)
        · replace h8 : (n : Int) ≠ w 0 12 := h8
          refine e_Ok.run (t' := (42, [(0, (1, 0)), (1, (0, n))], [(0, n), (1, 0)], w)) 2 rfl ?_
          refine e_Ok.putf rfl rfl rfl rfl ?_
          generalize hw9 : e_up w 0 12 n = w9
          have f10 : e_fr kNt w w9 := e_fr.up (e_fr.refl w) hw9 (by unfold kNt kNw; omega)
          have hT11 : e_Has kTy w9 := e_Has.ups hT hw9 rfl
          refine e_Ok.run (t' := (47, [(0, (1, 0)), (1, (0, n))], [(0, 0), (1, 0)], w9)) 2 rfl ?_
          refine e_Ok.putb rfl rfl rfl rfl (by omega) ?_
          generalize hw12 : e_up w9 0 14 0 = w12
          have f13 : e_fr kNt w w12 := e_fr.up f10 hw12 (by unfold kNt kNw; omega)
          have hT14 : e_Has kTy w12 := e_Has.ups hT11 hw12 rfl
          refine e_Ok.run (t' := (51, [(0, (1, 0)), (1, (0, n))], [(1, 0)], w12)) 1 rfl ?_
          obtain ⟨OP, OD, CL, S, hK⟩ := hB (by omega)
          have eB : ∀ c k, ¬ (c = 0 ∧ (k = 12 ∨ k = 14)) → w12 c k = w c k := fun c k g => by rw [← hw12, e_up_ne _ _ (by omega), ← hw9, e_up_ne _ _ (by omega)]
          have oB : ∀ c k, e_out elay c k → w12 c k = w c k := fun c k g => eB c k (fun g2 => by obtain ⟨rfl, g3⟩ := g2; have z := g.2.2 0 11 15 rfl; omega)
          have kB0 : ∀ c k, Kc c k → w12 c k = w c k := fun c k g => eB c k (fun g2 => by obtain ⟨rfl, rfl | rfl⟩ := g2; exact nKc12 g; exact nKc14 g)
          have e12 : w12 0 12 = n := (by rw [← hw12]; exact (e_up_ne _ _ (Or.inr (by omega))).trans (by rw [← hw9]; exact e_up_eq _ _ _ _))
          refine e_Ok.callV rfl (by omega) rfl rfl rfl rfl ((hK.2.2.1 w12 kB0 hT14).dp (by omega)) (fun r15 w16 h17 => ?_)
          obtain ⟨rfl, q18f, q18T, q18o, q18x, q18a⟩ := h17
          have f19 : e_fr kNt w w16 := e_fr.trans f13 (e_fr.mono q18f (fun c k q => by exact Or.inl q))
          show e_Ok 20 elay kcode eI (d + 1) 225 (54, [(0, (1, 0)), (1, (0, n))], [], w16) _
          refine e_Ok.run (t' := (56, [(2, (0, 0)), (0, (1, 0)), (1, (0, n))], [], w16)) 2 rfl ?_
          have hL20 : ∀ (nn : Nat) (y2 : Int) (v1 : eW), e_fr kNt w v1 ∧ e_Has kTy v1 ∧ (∀ c k, e_out elay c k → v1 c k = w c k) ∧ v1 0 12 = n ∧ e_rx (S y2) v1 ∧ ((0 ≤ y2 ∧ y2 ≤ n)) ∧ (∀ a, 0 ≤ a → a ≤ 3 → aP v1 a) → 2000 - y2 < nn → e_Ok 20 elay kcode eI (d + 1) 225 (56, [(0, (1, 0)), (1, (0, n)), (2, (0, y2))], [], v1) (fun r w' => ∃ z : Int, r = [(0, z)] ∧ (w' 0 12 = w 0 12 ∨ (0 ≤ w' 0 12 ∧ w' 0 12 ≤ w 0 12 + 1))) := by
            intro nn
            induction nn with
            | zero => intro y2 v1 hj hm; obtain ⟨j22, j23, j24, j25, j26, j27, j28⟩ := hj; exfalso; omega
            | succ nn ih21 =>
              intro y2 v1 hj hm
              obtain ⟨j22, j23, j24, j25, j26, j27, j28⟩ := hj
              refine e_Ok.run (t' := (58, [(0, (1, 0)), (1, (0, n)), (2, (0, y2))], [(0, n), (0, y2)], v1)) 2 rfl ?_
              refine e_Ok.if2 rfl (fun h29 => ?_) (fun h29 => ?_)
              · replace h29 : (y2 : Int) ≥ n := h29
                refine e_Ok.run (t' := (147, [(0, (1, 0)), (1, (0, n)), (2, (0, y2))], [(0, 1), (1, 0)], v1)) 2 rfl ?_
                refine e_Ok.putb rfl rfl rfl rfl (by omega) ?_
                generalize hw30 : e_up v1 0 14 1 = w30
                have f31 : e_fr kNt w w30 := e_fr.up j22 hw30 (by unfold kNt kNw; omega)
                have hT32 : e_Has kTy w30 := e_Has.ups j23 hw30 rfl
                refine e_Ok.run (t' := (151, [(0, (1, 0)), (1, (0, n)), (2, (0, y2))], [(1, 0)], w30)) 1 rfl ?_
                refine e_Ok.getr (z := 74) rfl rfl rfl rfl (by rw [← hw30]; exact (e_up_ne _ _ (Or.inr (by omega))).trans ((j22 0 5 (by unfold kNt kNw; omega)).trans (Eq.trans (e_Has.eq hT rfl) (by omega)))) (by omega) ?_
                have h33 := (e_Has.get j23 (c := 74) (k := 0) (lo := 0) (hi := 6000) rfl (by decide))
                refine e_Ok.getf (z := v1 74 0) rfl rfl rfl rfl (by rw [← hw30]; exact (e_up_ne _ _ (Or.inl (by omega))).trans rfl) (by omega) ?_
                refine e_Ok.rets rfl rfl ?_
                have eX : w30 0 12 = v1 0 12 := by rw [← hw30]; exact e_up_ne _ _ (by omega)
                exact ⟨_, rfl, by have e := eX.trans j25; exact Or.inr ⟨by omega, by omega⟩⟩
              · replace h29 : (y2 : Int) < n := by have q : ¬ ((y2 : Int) ≥ n) := h29; omega
                refine e_Ok.run (t' := (63, [(0, (1, 0)), (1, (0, n)), (2, (0, y2))], [(0, 4), (0, y2)], v1)) 2 rfl ?_
                refine e_Ok.mul (z := 4 * y2) rfl (by omega) (by omega) ?_
                refine e_Ok.run (t' := (65, [(3, (0, 4 * y2)), (0, (1, 0)), (1, (0, n)), (2, (0, y2))], [], v1)) 1 rfl ?_
                obtain ⟨hkn, hrw⟩ := hK.2.2.2.2.2 y2 (by omega) (by omega)
                have hb0 := hkn (4 * y2) (by omega) (by omega); unfold kn1 at hb0
                have hb1 := hkn (4 * y2 + 1) (by omega) (by omega); unfold kn1 at hb1
                have hb2 := hkn (4 * y2 + 2) (by omega) (by omega); unfold kn1 at hb2
                have hb3 := hkn (4 * y2 + 3) (by omega) (by omega); unfold kn1 at hb3
                have eWp : ∀ c k, (262 ≤ c ∧ c ≤ 271) → v1 c k = w c k := fun c k g => j22 c k (by unfold kNt kNw; omega)
                have hU : e_rf (pj w (S y2)) v1 := rx_pjw j26 (eWp _ _ (by omega)) (fun c k g1 g2 => eWp c k (by omega))
                obtain ⟨⟨hh, hh0, hI⟩, hev, he0, he1⟩ := hK.ev (i := y2) (by omega)
                refine e_Ok.run (t' := (66, [(3, (0, 4 * y2)), (0, (1, 0)), (1, (0, n)), (2, (0, y2))], [(1, 0)], v1)) 1 rfl ?_
                refine e_Ok.getr (z := 273) rfl rfl rfl rfl ((j22 0 9 (by unfold kNt kNw; omega)).trans (Eq.trans (e_Has.eq hT rfl) (by omega))) (by omega) ?_
                refine e_Ok.run (t' := (70, [(3, (0, 4 * y2)), (0, (1, 0)), (1, (0, n)), (2, (0, y2))], [(0, 4 * y2), (1, 273)], v1)) 1 rfl ?_
                refine e_Ok.ald (z := w 273 (4 * y2)) rfl rfl rfl (by omega) ((j22 273 (4 * y2) (by unfold kNt kNw; omega)).trans rfl) (by omega) ?_
                refine e_Ok.run (t' := (72, [(3, (0, 4 * y2)), (0, (1, 0)), (1, (0, n)), (2, (0, y2))], [(0, 1), (0, w 273 (4 * y2))], v1)) 1 rfl ?_
                refine e_Ok.if2 rfl (fun h34 => ?_) (fun h34 => ?_)
                · replace h34 : (w 273 (4 * y2) : Int) = 1 := h34
                  refine e_Ok.run (t' := (116, [(4, (0, 0)), (3, (0, 4 * y2)), (0, (1, 0)), (1, (0, n)), (2, (0, y2))], [], v1)) 2 rfl ?_
                  have hL35 : ∀ (nn : Nat) (y4 : Int) (v2 : eW) (U1 : eW), e_fr kNt w v2 ∧ e_Has kTy v2 ∧ (∀ c k, e_out elay c k → v2 c k = w c k) ∧ v2 0 12 = n ∧ e_rf U1 v2 ∧ tkW OP OD CL (w 273 (4 * y2 + 1) - y4).toNat U1 (S (y2 + 1)) ∧ ((0 ≤ y4 ∧ y4 ≤ w 273 (4 * y2 + 1) ∧ w 273 (4 * y2 + 1) ≤ 1000)) ∧ (∀ a, 0 ≤ a → a ≤ 3 → aP v2 a) → 1000 - y4 < nn → e_Ok 20 elay kcode eI (d + 1) 225 (116, [(0, (1, 0)), (1, (0, n)), (2, (0, y2)), (3, (0, 4 * y2)), (4, (0, y4))], [], v2) (fun r w' => ∃ z : Int, r = [(0, z)] ∧ (w' 0 12 = w 0 12 ∨ (0 ≤ w' 0 12 ∧ w' 0 12 ≤ w 0 12 + 1))) := by
                    intro nn
                    induction nn with
                    | zero => intro y4 v2 U1 hj hm; obtain ⟨j37, j38, j40, j41, j42, j43, j44, j45⟩ := hj; exfalso; omega
                    | succ nn ih36 =>
                      intro y4 v2 U1 hj hm
                      obtain ⟨j37, j38, j40, j41, j42, j43, j44, j45⟩ := hj
                      refine e_Ok.run (t' := (119, [(0, (1, 0)), (1, (0, n)), (2, (0, y2)), (3, (0, 4 * y2)), (4, (0, y4))], [(1, 0), (0, y4)], v2)) 2 rfl ?_
                      refine e_Ok.getr (z := 273) rfl rfl rfl rfl ((j37 0 9 (by unfold kNt kNw; omega)).trans (Eq.trans (e_Has.eq hT rfl) (by omega))) (by omega) ?_
                      refine e_Ok.run (t' := (124, [(0, (1, 0)), (1, (0, n)), (2, (0, y2)), (3, (0, 4 * y2)), (4, (0, y4))], [(0, 1), (0, 4 * y2), (1, 273), (0, y4)], v2)) 2 rfl ?_
                      refine e_Ok.add (z := 4 * y2 + 1) rfl (by omega) (by omega) ?_
                      refine e_Ok.ald (z := w 273 (4 * y2 + 1)) rfl rfl rfl (by omega) ((j37 273 (4 * y2 + 1) (by unfold kNt kNw; omega)).trans rfl) (by omega) ?_
                      refine e_Ok.if2 rfl (fun h46 => ?_) (fun h46 => ?_)
                      · replace h46 : (y4 : Int) ≥ w 273 (4 * y2 + 1) := h46
                        have hts := j43
                        rw [show (w 273 (4 * y2 + 1) - y4).toNat = 0 by omega] at hts
                        have hrx : e_rx (S (y2 + 1)) v2 := e_rx.rf hts j42
                        refine e_Ok.inc (z := y2 + 1) rfl rfl (by omega) (by omega) ?_
                        show e_Ok 20 elay kcode eI (d + 1) 225 (142, [(2, (0, y2 + 1)), (0, (1, 0)), (1, (0, n)), (3, (0, 4 * y2)), (4, (0, y4))], [], v2) _
                        refine e_Ok.run (t' := (56, [(2, (0, y2 + 1)), (0, (1, 0)), (1, (0, n)), (3, (0, 4 * y2)), (4, (0, y4))], [], v2)) 1 rfl ?_
                        refine e_Ok.sub kAlk (e_sub_of rfl ?_) (ih21 (y2 + 1) v2 ⟨j37, j38, j40, j41, hrx, by omega, j45⟩ (by omega))
                        exact ⟨rfl, rfl, rfl, trivial⟩
                      · replace h46 : (y4 : Int) < w 273 (4 * y2 + 1) := by have q : ¬ ((y4 : Int) ≥ w 273 (4 * y2 + 1)) := h46; omega
                        refine e_Ok.run (t' := (130, [(0, (1, 0)), (1, (0, n)), (2, (0, y2)), (3, (0, 4 * y2)), (4, (0, y4))], [(1, 0)], v2)) 1 rfl ?_
                        obtain ⟨m, hm⟩ : ∃ m : Nat, (w 273 (4 * y2 + 1) - y4).toNat = m + 1 := ⟨(w 273 (4 * y2 + 1) - y4).toNat - 1, by omega⟩
                        have hts := j43
                        rw [hm] at hts
                        obtain ⟨hg, u2, ht1, hts2⟩ := hts
                        refine e_Ok.callV rfl (by omega) rfl rfl rfl rfl (tick_b (by omega) (U := U1) j42 hg ht1) (fun r47 w48 h49 => ?_)
                        obtain ⟨⟨rfl, q50f, q50T, q50x, q50a⟩, q50o⟩ := h49
                        have f51 : e_fr kNt w w48 := e_fr.trans j37 (e_fr.mono q50f (fun c k q => by exact Or.inl q))
                        show e_Ok 20 elay kcode eI (d + 1) 225 (133, [(0, (1, 0)), (1, (0, n)), (2, (0, y2)), (3, (0, 4 * y2)), (4, (0, y4))], [], w48) _
                        refine e_Ok.inc (z := y4 + 1) rfl rfl (by omega) (by omega) ?_
                        show e_Ok 20 elay kcode eI (d + 1) 225 (136, [(4, (0, y4 + 1)), (0, (1, 0)), (1, (0, n)), (2, (0, y2)), (3, (0, 4 * y2))], [], w48) _
                        refine e_Ok.run (t' := (116, [(4, (0, y4 + 1)), (0, (1, 0)), (1, (0, n)), (2, (0, y2)), (3, (0, 4 * y2))], [], w48)) 1 rfl ?_
                        refine e_Ok.sub kAlk (e_sub_of rfl ?_) (ih36 (y4 + 1) w48 u2 ⟨f51, q50T, (fun c k g => (q50o c k g).trans (j40 c k g)), (by rw [q50f _ _ (by unfold kNw; omega)]; exact j41), q50x, (by rw [show (w 273 (4 * y2 + 1) - (y4 + 1)).toNat = m by omega]; exact hts2), by omega, (fun a g1 g2 => q50a a g1 g2 (j45 a g1 g2))⟩ (by omega))
                        exact ⟨rfl, rfl, rfl, rfl, rfl, trivial⟩
                  refine e_Ok.sub kAlk (e_sub_of rfl ?_) (hL35 (1000 + 1 : Int).toNat 0 v1 (pj w (S y2)) ⟨j22, j23, j24, j25, hU, (by rcases hrw with g | g; exact absurd (show w 273 (4 * y2) = 1 by omega) g.1; exact (by rw [show (w 273 (4 * y2 + 1) - 0).toNat = (w 273 (4 * y2 + 1)).toNat by omega]; exact g.2.2)), (by rcases hrw with g | g; exact absurd (show w 273 (4 * y2) = 1 by omega) g.1; (have g2 := g.2.1; omega)), j28⟩ (by omega))
                  exact ⟨rfl, rfl, rfl, rfl, rfl, trivial⟩
                · replace h34 : (w 273 (4 * y2) : Int) ≠ 1 := by have q : ¬ ((w 273 (4 * y2) : Int) = 1) := h34; omega
                  refine e_Ok.run (t' := (77, [(3, (0, 4 * y2)), (0, (1, 0)), (1, (0, n)), (2, (0, y2))], [(1, 0), (1, 0)], v1)) 2 rfl ?_
                  refine e_Ok.getr (z := 273) rfl rfl rfl rfl ((j22 0 9 (by unfold kNt kNw; omega)).trans (Eq.trans (e_Has.eq hT rfl) (by omega))) (by omega) ?_
                  refine e_Ok.run (t' := (81, [(3, (0, 4 * y2)), (0, (1, 0)), (1, (0, n)), (2, (0, y2))], [(0, 4 * y2), (1, 273), (1, 0)], v1)) 1 rfl ?_
                  refine e_Ok.ald (z := w 273 (4 * y2)) rfl rfl rfl (by omega) ((j22 273 (4 * y2) (by unfold kNt kNw; omega)).trans rfl) (by omega) ?_
                  refine e_Ok.run (t' := (83, [(3, (0, 4 * y2)), (0, (1, 0)), (1, (0, n)), (2, (0, y2))], [(1, 0), (0, w 273 (4 * y2)), (1, 0)], v1)) 1 rfl ?_
                  refine e_Ok.getr (z := 273) rfl rfl rfl rfl ((j22 0 9 (by unfold kNt kNw; omega)).trans (Eq.trans (e_Has.eq hT rfl) (by omega))) (by omega) ?_
                  refine e_Ok.run (t' := (88, [(3, (0, 4 * y2)), (0, (1, 0)), (1, (0, n)), (2, (0, y2))], [(0, 1), (0, 4 * y2), (1, 273), (0, w 273 (4 * y2)), (1, 0)], v1)) 2 rfl ?_
                  refine e_Ok.add (z := 4 * y2 + 1) rfl (by omega) (by omega) ?_
                  refine e_Ok.ald (z := w 273 (4 * y2 + 1)) rfl rfl rfl (by omega) ((j22 273 (4 * y2 + 1) (by unfold kNt kNw; omega)).trans rfl) (by omega) ?_
                  refine e_Ok.run (t' := (91, [(3, (0, 4 * y2)), (0, (1, 0)), (1, (0, n)), (2, (0, y2))], [(1, 0), (0, w 273 (4 * y2 + 1)), (0, w 273 (4 * y2)), (1, 0)], v1)) 1 rfl ?_
                  refine e_Ok.getr (z := 273) rfl rfl rfl rfl ((j22 0 9 (by unfold kNt kNw; omega)).trans (Eq.trans (e_Has.eq hT rfl) (by omega))) (by omega) ?_
                  refine e_Ok.run (t' := (96, [(3, (0, 4 * y2)), (0, (1, 0)), (1, (0, n)), (2, (0, y2))], [(0, 2), (0, 4 * y2), (1, 273), (0, w 273 (4 * y2 + 1)), (0, w 273 (4 * y2)), (1, 0)], v1)) 2 rfl ?_
                  refine e_Ok.add (z := 4 * y2 + 2) rfl (by omega) (by omega) ?_
                  refine e_Ok.ald (z := w 273 (4 * y2 + 2)) rfl rfl rfl (by omega) ((j22 273 (4 * y2 + 2) (by unfold kNt kNw; omega)).trans rfl) (by omega) ?_
                  refine e_Ok.run (t' := (99, [(3, (0, 4 * y2)), (0, (1, 0)), (1, (0, n)), (2, (0, y2))], [(1, 0), (0, w 273 (4 * y2 + 2)), (0, w 273 (4 * y2 + 1)), (0, w 273 (4 * y2)), (1, 0)], v1)) 1 rfl ?_
                  refine e_Ok.getr (z := 273) rfl rfl rfl rfl ((j22 0 9 (by unfold kNt kNw; omega)).trans (Eq.trans (e_Has.eq hT rfl) (by omega))) (by omega) ?_
                  refine e_Ok.run (t' := (104, [(3, (0, 4 * y2)), (0, (1, 0)), (1, (0, n)), (2, (0, y2))], [(0, 3), (0, 4 * y2), (1, 273), (0, w 273 (4 * y2 + 2)), (0, w 273 (4 * y2 + 1)), (0, w 273 (4 * y2)), (1, 0)], v1)) 2 rfl ?_
                  refine e_Ok.add (z := 4 * y2 + 3) rfl (by omega) (by omega) ?_
                  refine e_Ok.ald (z := w 273 (4 * y2 + 3)) rfl rfl rfl (by omega) ((j22 273 (4 * y2 + 3) (by unfold kNt kNw; omega)).trans rfl) (by omega) ?_
                  obtain ⟨hx1, hrc, hru⟩ : (w 273 (4 * y2) ≠ 1) ∧ rwC (pj w (S y2)) _ _ _ _ ∧ _ := by rcases hrw with g | g; exact g; exact absurd g.1 (by omega)
                  refine e_Ok.callV rfl (by omega) rfl rfl rfl rfl (row_b (by omega) hU hI hh0 (by omega) hrc hb1 hb2 hb3 hru) (fun r52 w53 h54 => ?_)
                  obtain ⟨⟨⟨z, rfl⟩, q55f, q55T, q55x, q55a⟩, q55o⟩ := h54
                  have f56 : e_fr kNt w w53 := e_fr.trans j22 (e_fr.mono q55f (fun c k q => by exact Or.inl q))
                  show e_Ok 20 elay kcode eI (d + 1) 225 (109, [(3, (0, 4 * y2)), (0, (1, 0)), (1, (0, n)), (2, (0, y2))], [(0, z)], w53) _
                  refine e_Ok.run (t' := (139, [(3, (0, 4 * y2)), (0, (1, 0)), (1, (0, n)), (2, (0, y2))], [], w53)) 2 rfl ?_
                  refine e_Ok.inc (z := y2 + 1) rfl rfl (by omega) (by omega) ?_
                  show e_Ok 20 elay kcode eI (d + 1) 225 (142, [(2, (0, y2 + 1)), (3, (0, 4 * y2)), (0, (1, 0)), (1, (0, n))], [], w53) _
                  refine e_Ok.run (t' := (56, [(2, (0, y2 + 1)), (3, (0, 4 * y2)), (0, (1, 0)), (1, (0, n))], [], w53)) 1 rfl ?_
                  refine e_Ok.sub kAlk (e_sub_of rfl ?_) (ih21 (y2 + 1) w53 ⟨f56, q55T, (fun c k g => (q55o c k g).trans (j24 c k g)), (by rw [q55f _ _ (by unfold kNw; omega)]; exact j25), q55x, by omega, (fun a g1 g2 => q55a a g1 g2 (j28 a g1 g2))⟩ (by omega))
                  exact ⟨rfl, rfl, rfl, trivial⟩
          refine e_Ok.sub kAlk (e_sub_of rfl ?_) (hL20 (2000 + 1 : Int).toNat 0 w16 ⟨f19, q18T, (fun c k g => (q18o c k g).trans (oB c k g)), (by rw [q18f _ _ (by unfold kNw; omega)]; exact e12), q18x.rx, by omega, q18a⟩ (by omega))
          exact ⟨rfl, rfl, rfl, trivial⟩
        · replace h8 : (n : Int) = w 0 12 := by have q : ¬ ((n : Int) ≠ w 0 12) := h8; omega
          refine e_Ok.run (t' := (33, [(0, (1, 0)), (1, (0, n))], [(1, 0)], w)) 1 rfl ?_
          refine e_Ok.getr (z := 74) rfl rfl rfl rfl (Eq.trans (e_Has.eq hT rfl) (by omega)) (by omega) ?_
          have h57 := (e_Has.get hT (c := 74) (k := 0) (lo := 0) (hi := 6000) rfl (by decide))
          refine e_Ok.getf (z := w 74 0) rfl rfl rfl rfl rfl (by omega) ?_
          refine e_Ok.rets rfl rfl ?_
          exact ⟨_, rfl, Or.inl rfl⟩
      · replace h7 : (w 0 13 : Int) = 0 := by have q : ¬ ((w 0 13 : Int) ≠ 0) := h7; omega
        refine e_Ok.run (t' := (23, [(0, (1, 0)), (1, (0, n))], [(0, (-2))], w)) 1 rfl ?_
        refine e_Ok.rets rfl rfl ?_
        exact ⟨_, rfl, Or.inl rfl⟩
    · replace h6 : (1 : Int) = 0 := by have q : ¬ ((1 : Int) ≠ 0) := h6; omega
      exfalso; omega
  · show e_Ok 20 elay kcode eI (d + 1) 225 (9, [(0, (1, 0)), (1, (0, n))], [(0, 0)], w) _
    refine e_Ok.if1 rfl (fun h58 => ?_) (fun h58 => ?_)
    · replace h58 : (0 : Int) ≠ 0 := h58
      exfalso; omega
    · replace h58 : (0 : Int) = 0 := by have q : ¬ ((0 : Int) ≠ 0) := h58; omega
      refine e_Ok.run (t' := (13, [(0, (1, 0)), (1, (0, n))], [(0, (-1))], w)) 1 rfl ?_
      refine e_Ok.rets rfl rfl ?_
      exact ⟨_, rfl, Or.inl rfl⟩
set_option maxHeartbeats 4000000 in
theorem c_223_r {d : Nat} (hd : 33 ≤ d) {w : eW} (hT : e_Has kTy w) (hO : 0 ≤ w 0 13 ∧ w 0 13 ≤ 1) (hC : ∀ a, 0 ≤ a → a ≤ 3 → isCd (w (17 * a + 86) 7)) (hB : w 0 13 = 1 → ∃ OP OD CL S, kB w OP OD CL S) {a n r : Int} (g_a : -2147483648 ≤ a ∧ a ≤ 2147483647) (g_n : -2147483648 ≤ n ∧ n ≤ 2147483647) (g_r : -2147483648 ≤ r ∧ r ≤ 2147483647) {m y : Int} (hm : w (17 * a + 86) 8 = m) (hy : w 262 0 = y) (h62 : 0 ≤ y ∧ y ≤ 60) : e_Ok 20 elay kcode eI d 223 (0, [(0, (1, 0)), (1, (0, a)), (2, (0, n)), (3, (0, r))], [], w) (fun r' w' => ∃ z : Int, r' = [(0, z)] ∧ (w' 0 12 = w 0 12 ∨ (0 ≤ w' 0 12 ∧ w' 0 12 ≤ w 0 12 + 1))) := by
  obtain ⟨d, rfl⟩ : ∃ e, d = e + 1 := ⟨d - 1, by omega⟩
  have hw0 := e_Has.get hT (c := 0) (k := 11) (lo := 0) (hi := 4) rfl (by decide)
  refine e_Ok.run (t' := (2, [(0, (1, 0)), (1, (0, a)), (2, (0, n)), (3, (0, r))], [(0, a), (1, 0)], w)) 2 rfl ?_
  refine e_Ok.callV rfl (by omega) rfl rfl rfl rfl (c_246 (by omega) hT (by omega)) (fun r1 w2 h3 => ?_)
  obtain ⟨z4, rfl, rfl, q5⟩ := h3
  obtain ⟨rfl, q5⟩ | ⟨rfl, q5⟩ := q5
  · show e_Ok 20 elay kcode eI (d + 1) 223 (5, [(0, (1, 0)), (1, (0, a)), (2, (0, n)), (3, (0, r))], [(0, 1)], w) _
    refine e_Ok.if1 rfl (fun h6 => ?_) (fun h6 => ?_)
    · replace h6 : (1 : Int) = 0 := h6
      exfalso; omega
    · replace h6 : (1 : Int) ≠ 0 := by have q : ¬ ((1 : Int) = 0) := h6; omega
      refine e_Ok.run (t' := (12, [(0, (1, 0)), (1, (0, a)), (2, (0, n)), (3, (0, r))], [(0, 16), (0, 1), (0, n)], w)) 3 rfl ?_
      refine e_Ok.callS rfl (by omega) rfl rfl (c_242 (by omega) (by omega) (by omega)) (fun r7 w8 h9 => ?_)
      obtain ⟨z10, rfl, rfl, q11⟩ := h9
      obtain ⟨rfl, q11⟩ | ⟨rfl, q11⟩ := q11
      · show e_Ok 20 elay kcode eI (d + 1) 223 (15, [(0, (1, 0)), (1, (0, a)), (2, (0, n)), (3, (0, r))], [(0, 1)], w) _
        refine e_Ok.if1 rfl (fun h12 => ?_) (fun h12 => ?_)
        · replace h12 : (1 : Int) = 0 := h12
          exfalso; omega
        · replace h12 : (1 : Int) ≠ 0 := by have q : ¬ ((1 : Int) = 0) := h12; omega
          refine e_Ok.run (t' := (23, [(0, (1, 0)), (1, (0, a)), (2, (0, n)), (3, (0, r))], [(0, 2000), (0, 0), (0, r)], w)) 3 rfl ?_
          refine e_Ok.callS rfl (by omega) rfl rfl (c_242 (by omega) (by omega) (by omega)) (fun r13 w14 h15 => ?_)
          obtain ⟨z16, rfl, rfl, q17⟩ := h15
          obtain ⟨rfl, q17⟩ | ⟨rfl, q17⟩ := q17
          · show e_Ok 20 elay kcode eI (d + 1) 223 (26, [(0, (1, 0)), (1, (0, a)), (2, (0, n)), (3, (0, r))], [(0, 1)], w) _
            refine e_Ok.if1 rfl (fun h18 => ?_) (fun h18 => ?_)
            · replace h18 : (1 : Int) ≠ 0 := h18
              refine e_Ok.run (t' := (32, [(0, (1, 0)), (1, (0, a)), (2, (0, n)), (3, (0, r))], [(1, 0)], w)) 1 rfl ?_
              refine e_Ok.getf (z := w 0 13) rfl rfl rfl rfl rfl (by omega) ?_
              refine e_Ok.if1 rfl (fun h19 => ?_) (fun h19 => ?_)
              · replace h19 : (w 0 13 : Int) = 0 := h19
                refine e_Ok.run (t' := (52, [(0, (1, 0)), (1, (0, a)), (2, (0, n)), (3, (0, r))], [(0, (-2))], w)) 1 rfl ?_
                refine e_Ok.rets rfl rfl ?_
                exact ⟨_, rfl, Or.inl rfl⟩
              · replace h19 : (w 0 13 : Int) ≠ 0 := by have q : ¬ ((w 0 13 : Int) = 0) := h19; omega
                refine e_Ok.run (t' := (39, [(0, (1, 0)), (1, (0, a)), (2, (0, n)), (3, (0, r))], [(1, 0)], w)) 1 rfl ?_
                refine e_Ok.getr (z := 9) rfl rfl rfl rfl (Eq.trans (e_Has.eq hT rfl) (by omega)) (by omega) ?_
                refine e_Ok.run (t' := (43, [(0, (1, 0)), (1, (0, a)), (2, (0, n)), (3, (0, r))], [(0, a), (1, 9)], w)) 1 rfl ?_
                refine e_Ok.aald (z := 17 * a + 86) rfl rfl rfl (by omega) (Eq.trans (e_Has.eq hT (k9 (by omega))) (by omega)) (by omega) ?_
                have h20 := (e_Has.get hT (c := 17 * a + 86) (k := 11) (lo := 0) (hi := 2) (kA_11 (a := a) (by omega) (by omega)) (by decide))
                refine e_Ok.getf (z := w (17 * a + 86) 11) rfl (lA0 (a := a) (by omega) (by omega)) rfl rfl rfl (by omega) ?_
                refine e_Ok.if1 rfl (fun h21 => ?_) (fun h21 => ?_)
                · replace h21 : (w (17 * a + 86) 11 : Int) = 0 := h21
                  obtain ⟨OP, OD, CL, S, hK⟩ := hB (by omega)
                  obtain ⟨hh, hh0, hI⟩ := hK.live
                  have ga : 0 ≤ a ∧ a ≤ 3 := by omega
                  have hAr := hI.arm (a := a) ga.1 ga.2
                  have hjn := kn_joints hT ga
                  have hst : w (17 * a + 86) 11 = 0 := by omega
                  refine e_Ok.run (t' := (54, [(0, (1, 0)), (1, (0, a)), (2, (0, n)), (3, (0, r))], [(1, 0)], w)) 1 rfl ?_
                  refine e_Ok.getr (z := 262) rfl rfl rfl rfl (Eq.trans (e_Has.eq hT rfl) (by omega)) (by omega) ?_
                  refine e_Ok.run (t' := (58, [(0, (1, 0)), (1, (0, a)), (2, (0, n)), (3, (0, r))], [(1, 0), (1, 262)], w)) 1 rfl ?_
                  refine e_Ok.getr (z := 9) rfl rfl rfl rfl (Eq.trans (e_Has.eq hT rfl) (by omega)) (by omega) ?_
                  refine e_Ok.run (t' := (62, [(0, (1, 0)), (1, (0, a)), (2, (0, n)), (3, (0, r))], [(0, a), (1, 9), (1, 262)], w)) 1 rfl ?_
                  refine e_Ok.aald (z := 17 * a + 86) rfl rfl rfl (by omega) (Eq.trans (e_Has.eq hT (k9 (by omega))) (by omega)) (by omega) ?_
                  refine e_Ok.run (t' := (65, [(0, (1, 0)), (1, (0, a)), (2, (0, n)), (3, (0, r))], [(0, r), (0, n), (1, 17 * a + 86), (1, 262)], w)) 2 rfl ?_
                  refine e_Ok.callV rfl (by omega) rfl rfl rfl rfl (e_Ok.out kAlk (c_98 hT (a := a) ga (by omega) (by omega) (fun j g1 g2 => by have g3 := hAr.2.2.1 j g1 g2; have g4 := g3.1.1; have g5 := g3.2.1; omega))) (fun r22 w23 h24 => ?_)
                  obtain ⟨⟨z25, rfl, l1f, l1T, l1r, l1x⟩, l1o⟩ := h24
                  have f26 : e_fr (kPq a m y) w w23 := e_fr.trans (e_fr.refl w) (e_fr.mono l1f (fun c k q => by exact (by unfold kLy at q; unfold kPq; omega)))
                  have v1 : ∀ j, 0 ≤ j → j ≤ 5 → w23 (17 * a + j + 97) 7 = w (17 * a + j + 97) 7 := fun j g1 g2 => l1f _ _ (by unfold kLy; omega)
                  have h1 : e_fr (fun c _ => 262 ≤ c ∧ c ≤ 271) w w23 := l1f.mono (fun c k g => by unfold kLy at g; omega)
                  have a1 : ∀ b, 0 ≤ b → b ≤ 3 → aP w23 b := fun b g1 g2 => aP.hi ⟨g1, g2⟩ h1 hT l1T (hK.2.1.2 b g1 g2)
                  show e_Ok 20 elay kcode eI (d + 1) 223 (68, [(0, (1, 0)), (1, (0, a)), (2, (0, n)), (3, (0, r))], [(0, z25)], w23) _
                  refine e_Ok.if1 rfl (fun h27 => ?_) (fun h27 => ?_)
                  · replace h27 : (z25 : Int) = 0 := h27
                    refine e_Ok.run (t' := (85, [(0, (1, 0)), (1, (0, a)), (2, (0, n)), (3, (0, r))], [(0, (-3))], w23)) 1 rfl ?_
                    refine e_Ok.rets rfl rfl ?_
                    exact ⟨_, rfl, Or.inl (f26 _ _ (by unfold kPq; omega))⟩
                  · replace h27 : (z25 : Int) ≠ 0 := by have q : ¬ ((z25 : Int) = 0) := h27; omega
                    refine e_Ok.run (t' := (72, [(0, (1, 0)), (1, (0, a)), (2, (0, n)), (3, (0, r))], [(1, 0)], w23)) 1 rfl ?_
                    refine e_Ok.getr (z := 262) rfl rfl rfl rfl ((l1f 0 7 (by unfold kLy; omega)).trans (Eq.trans (e_Has.eq hT rfl) (by omega))) (by omega) ?_
                    refine e_Ok.getf (z := y) rfl rfl rfl rfl ((l1f 262 0 (by unfold kLy; omega)).trans hy) (by omega) ?_
                    refine e_Ok.run (t' := (80, [(0, (1, 0)), (1, (0, a)), (2, (0, n)), (3, (0, r))], [(0, 60), (0, y)], w23)) 1 rfl ?_
                    refine e_Ok.if2 rfl (fun h28 => ?_) (fun h28 => ?_)
                    · replace h28 : (y : Int) < 60 := h28
                      refine e_Ok.run (t' := (87, [(0, (1, 0)), (1, (0, a)), (2, (0, n)), (3, (0, r))], [(1, 0)], w23)) 1 rfl ?_
                      refine e_Ok.getr (z := 262) rfl rfl rfl rfl ((l1f 0 7 (by unfold kLy; omega)).trans (Eq.trans (e_Has.eq hT rfl) (by omega))) (by omega) ?_
                      refine e_Ok.getf (z := y) rfl rfl rfl rfl ((l1f 262 0 (by unfold kLy; omega)).trans hy) (by omega) ?_
                      refine e_Ok.run (t' := (96, [(4, (0, y)), (0, (1, 0)), (1, (0, a)), (2, (0, n)), (3, (0, r))], [(1, 0)], w23)) 2 rfl ?_
                      refine e_Ok.getr (z := 262) rfl rfl rfl rfl ((l1f 0 7 (by unfold kLy; omega)).trans (Eq.trans (e_Has.eq hT rfl) (by omega))) (by omega) ?_
                      refine e_Ok.run (t' := (100, [(4, (0, y)), (0, (1, 0)), (1, (0, a)), (2, (0, n)), (3, (0, r))], [(1, 262), (1, 262)], w23)) 1 rfl ?_
                      refine e_Ok.getf (z := y) rfl rfl rfl rfl ((l1f 262 0 (by unfold kLy; omega)).trans hy) (by omega) ?_
                      refine e_Ok.run (t' := (104, [(4, (0, y)), (0, (1, 0)), (1, (0, a)), (2, (0, n)), (3, (0, r))], [(0, 1), (0, y), (1, 262)], w23)) 1 rfl ?_
                      refine e_Ok.add (z := y + 1) rfl (by omega) (by omega) ?_
                      refine e_Ok.putf rfl rfl rfl rfl ?_
                      generalize hw29 : e_up w23 262 0 (y + 1) = w29
                      have f30 : e_fr (kPq a m y) w w29 := e_fr.up f26 hw29 (by unfold kPq; omega)
                      have hT31 : e_Has kTy w29 := e_Has.ups l1T hw29 rfl
                      have e2 : ∀ c k, ¬ (c = 262 ∧ k = 0) → w29 c k = w23 c k := fun c k g => by rw [← hw29]; exact e_up_ne _ _ (by omega)
                      have hL2 : lyI w29 a n m := by have g := (l1x (by omega)).1; rw [hm] at g; exact g.eq (fun c k g => e2 c k (by omega))
                      have o2 : ∀ c k, e_out elay c k → w29 c k = w c k := fun c k g => (e2 c k (fun g2 => by obtain ⟨rfl, rfl⟩ := g2; have z := g.2.2 0 6 13 rfl; omega)).trans (l1o c k g)
                      have v2 : ∀ j, 0 ≤ j → j ≤ 5 → w29 (17 * a + j + 97) 7 = w (17 * a + j + 97) 7 := fun j g1 g2 => (e2 _ _ (by omega)).trans (v1 j g1 g2)
                      have h2 : e_fr (fun c _ => 262 ≤ c ∧ c ≤ 271) w w29 := fun c k g => (e2 c k (by omega)).trans (h1 c k g)
                      have a2 : ∀ b, 0 ≤ b → b ≤ 3 → aP w29 b := fun b g1 g2 => aP.hi ⟨g1, g2⟩ h2 hT hT31 (hK.2.1.2 b g1 g2)
                      have k2 : ∀ b, 0 ≤ b → b ≤ 3 → aK w29 b := aK.any h2 (fun b c k g1 g2 g3 => by omega) (fun b g1 g2 => (hI.arm g1 g2).1)
                      have p2 : w29 262 0 = y + 1 := (by rw [← hw29]; exact e_up_eq _ _ _ _)
                      refine e_Ok.run (t' := (109, [(4, (0, y)), (0, (1, 0)), (1, (0, a)), (2, (0, n)), (3, (0, r))], [(1, 0)], w29)) 1 rfl ?_
                      refine e_Ok.getr (z := 262) rfl rfl rfl rfl (by rw [← hw29]; exact (e_up_ne _ _ (Or.inl (by omega))).trans ((l1f 0 7 (by unfold kLy; omega)).trans (Eq.trans (e_Has.eq hT rfl) (by omega)))) (by omega) ?_
                      refine e_Ok.run (t' := (113, [(4, (0, y)), (0, (1, 0)), (1, (0, a)), (2, (0, n)), (3, (0, r))], [(1, 0), (1, 262)], w29)) 1 rfl ?_
                      refine e_Ok.getr (z := 9) rfl rfl rfl rfl (by rw [← hw29]; exact (e_up_ne _ _ (Or.inl (by omega))).trans ((l1f 0 2 (by unfold kLy; omega)).trans (Eq.trans (e_Has.eq hT rfl) (by omega)))) (by omega) ?_
                      refine e_Ok.run (t' := (117, [(4, (0, y)), (0, (1, 0)), (1, (0, a)), (2, (0, n)), (3, (0, r))], [(0, a), (1, 9), (1, 262)], w29)) 1 rfl ?_
                      refine e_Ok.aald (z := 17 * a + 86) rfl rfl rfl (by omega) (by rw [← hw29]; exact (e_up_ne _ _ (Or.inl (by omega))).trans ((l1f 9 a (by unfold kLy; omega)).trans (Eq.trans (e_Has.eq hT (k9 (by omega))) (by omega)))) (by omega) ?_
                      refine e_Ok.run (t' := (119, [(4, (0, y)), (0, (1, 0)), (1, (0, a)), (2, (0, n)), (3, (0, r))], [(1, 0), (1, 17 * a + 86), (1, 262)], w29)) 1 rfl ?_
                      refine e_Ok.getr (z := 272) rfl rfl rfl rfl (by rw [← hw29]; exact (e_up_ne _ _ (Or.inl (by omega))).trans ((l1f 0 8 (by unfold kLy; omega)).trans (Eq.trans (e_Has.eq hT rfl) (by omega)))) (by omega) ?_
                      refine e_Ok.callV rfl (by omega) rfl rfl rfl rfl (c_99 (by omega) hT31 hL2 ga) (fun r32 w33 h34 => ?_)
                      obtain ⟨z35, rfl, rfl, q36⟩ := h34
                      obtain rfl | hgg := q36
                      · show e_Ok 20 elay kcode eI (d + 1) 223 (125, [(4, (0, y)), (0, (1, 0)), (1, (0, a)), (2, (0, n)), (3, (0, r))], [(0, (-1))], w29) _
                        refine e_Ok.run (t' := (129, [(5, (0, (-1))), (4, (0, y)), (0, (1, 0)), (1, (0, a)), (2, (0, n)), (3, (0, r))], [(0, (-1))], w29)) 2 rfl ?_
                        refine e_Ok.if1 rfl (fun h37 => ?_) (fun h37 => ?_)
                        · replace h37 : ((-1) : Int) < 0 := h37
                          refine e_Ok.run (t' := (159, [(5, (0, (-1))), (4, (0, y)), (0, (1, 0)), (1, (0, a)), (2, (0, n)), (3, (0, r))], [(0, (-2))], w29)) 1 rfl ?_
                          refine e_Ok.rets rfl rfl ?_
                          exact ⟨_, rfl, Or.inl (f30 _ _ (by unfold kPq; omega))⟩
                        · replace h37 : ((-1) : Int) ≥ 0 := by have q : ¬ (((-1) : Int) < 0) := h37; omega
                          exfalso; omega
                      · show e_Ok 20 elay kcode eI (d + 1) 223 (125, [(4, (0, y)), (0, (1, 0)), (1, (0, a)), (2, (0, n)), (3, (0, r))], [(0, z35)], w29) _
                        refine e_Ok.run (t' := (129, [(5, (0, z35)), (4, (0, y)), (0, (1, 0)), (1, (0, a)), (2, (0, n)), (3, (0, r))], [(0, z35)], w29)) 2 rfl ?_
                        refine e_Ok.if1 rfl (fun h38 => ?_) (fun h38 => ?_)
                        · replace h38 : (z35 : Int) < 0 := h38
                          exfalso; omega
                        · replace h38 : (z35 : Int) ≥ 0 := by have q : ¬ ((z35 : Int) < 0) := h38; omega
                          refine e_Ok.run (t' := (133, [(5, (0, z35)), (4, (0, y)), (0, (1, 0)), (1, (0, a)), (2, (0, n)), (3, (0, r))], [(1, 0)], w29)) 1 rfl ?_
                          refine e_Ok.getr (z := 262) rfl rfl rfl rfl (by rw [← hw29]; exact (e_up_ne _ _ (Or.inl (by omega))).trans ((l1f 0 7 (by unfold kLy; omega)).trans (Eq.trans (e_Has.eq hT rfl) (by omega)))) (by omega) ?_
                          refine e_Ok.run (t' := (137, [(5, (0, z35)), (4, (0, y)), (0, (1, 0)), (1, (0, a)), (2, (0, n)), (3, (0, r))], [(1, 0), (1, 262)], w29)) 1 rfl ?_
                          refine e_Ok.getr (z := 9) rfl rfl rfl rfl (by rw [← hw29]; exact (e_up_ne _ _ (Or.inl (by omega))).trans ((l1f 0 2 (by unfold kLy; omega)).trans (Eq.trans (e_Has.eq hT rfl) (by omega)))) (by omega) ?_
                          refine e_Ok.run (t' := (141, [(5, (0, z35)), (4, (0, y)), (0, (1, 0)), (1, (0, a)), (2, (0, n)), (3, (0, r))], [(1, 0), (1, 9), (1, 262)], w29)) 1 rfl ?_
                          have h40 := (e_Has.get hT (c := 0) (k := 11) (lo := 0) (hi := 4) rfl (by decide))
                          refine e_Ok.getf (z := w 0 11) rfl rfl rfl rfl (by rw [← hw29]; exact (e_up_ne _ _ (Or.inl (by omega))).trans ((l1f 0 11 (by unfold kLy; omega)).trans rfl)) (by omega) ?_
                          refine e_Ok.run (t' := (145, [(5, (0, z35)), (4, (0, y)), (0, (1, 0)), (1, (0, a)), (2, (0, n)), (3, (0, r))], [(1, 0), (0, w 0 11), (1, 9), (1, 262)], w29)) 1 rfl ?_
                          refine e_Ok.getr (z := 250) rfl rfl rfl rfl (by rw [← hw29]; exact (e_up_ne _ _ (Or.inl (by omega))).trans ((l1f 0 6 (by unfold kLy; omega)).trans (Eq.trans (e_Has.eq hT rfl) (by omega)))) (by omega) ?_
                          refine e_Ok.run (t' := (151, [(5, (0, z35)), (4, (0, y)), (0, (1, 0)), (1, (0, a)), (2, (0, n)), (3, (0, r))], [(0, z35), (0, a), (1, 250), (0, w 0 11), (1, 9), (1, 262)], w29)) 2 rfl ?_
                          have hvv : ∀ j, 0 ≤ j → j < m → w29 (17 * a + j + 97) 7 = w29 263 j := fun j g1 g2 => by rw [v2 j g1 (by omega), e2 263 j (by omega)]; exact ((l1x (by omega)).2 j g1 (by omega)).symm
                          refine e_Ok.callV rfl (by omega) rfl rfl rfl rfl (e_Ok.out kAlk (c_100 (by omega) hT31 hL2 ga (by omega) hgg k2 hvv)) (fun r41 w42 h43 => ?_)
                          obtain ⟨⟨z44, rfl, s3f, s3T, s3r, s3k, s3v, s3a, s3b⟩, s3o⟩ := h43
                          have f45 : e_fr (kPq a m y) w w42 := e_fr.trans f30 (e_fr.mono s3f (fun c k q => by exact (by unfold kSr at q; unfold kPq; omega)))
                          have o3 : ∀ c k, e_out elay c k → w42 c k = w c k := fun c k g => (s3o c k g).trans (o2 c k g)
                          have v3 : ∀ j, 0 ≤ j → j ≤ 5 → w42 (17 * a + j + 97) 7 = w (17 * a + j + 97) 7 := fun j g1 g2 => (s3v j g1 g2).trans (v2 j g1 g2)
                          have a3 : ∀ b, 0 ≤ b → b ≤ 3 → aP w42 b := fun b g1 g2 => s3a b g1 g2 (a2 b g1 g2)
                          have p3 : w42 262 0 = y + 1 := (s3f _ _ (by unfold kSr; omega)).trans p2
                          show e_Ok 20 elay kcode eI (d + 1) 223 (154, [(5, (0, z35)), (4, (0, y)), (0, (1, 0)), (1, (0, a)), (2, (0, n)), (3, (0, r))], [(0, z44)], w42) _
                          refine e_Ok.if1 rfl (fun h46 => ?_) (fun h46 => ?_)
                          · replace h46 : (z44 : Int) ≠ 0 := h46
                            refine e_Ok.run (t' := (161, [(5, (0, z35)), (4, (0, y)), (0, (1, 0)), (1, (0, a)), (2, (0, n)), (3, (0, r))], [(1, 0)], w42)) 1 rfl ?_
                            refine e_Ok.getr (z := 262) rfl rfl rfl rfl ((s3f 0 7 (by unfold kSr; omega)).trans (by rw [← hw29]; exact (e_up_ne _ _ (Or.inl (by omega))).trans ((l1f 0 7 (by unfold kLy; omega)).trans (Eq.trans (e_Has.eq hT rfl) (by omega))))) (by omega) ?_
                            refine e_Ok.run (t' := (168, [(5, (0, z35)), (4, (0, y)), (0, (1, 0)), (1, (0, a)), (2, (0, n)), (3, (0, r))], [(0, z35), (0, y), (1, 262)], w42)) 2 rfl ?_
                            obtain ⟨t, hBF, hg1⟩ := s3b (by omega)
                            have hL3 : lyI w42 a n m := hL2.eq (fun c k g => s3f c k (by unfold kSr; omega))
                            have e53 : w42 265 = w29 265 := funext (fun k => s3f 265 k (by unfold kSr; omega))
                            have e33 : w42 262 3 = w29 262 3 := s3f _ _ (by unfold kSr; omega)
                            rw [← e53, ← e33] at hBF
                            have hgg3 := hgg; rw [← e53] at hgg3
                            refine e_Ok.callV rfl (by omega) rfl rfl rfl rfl (e_Ok.out kAlk (c_105 (by omega) s3T hL3 ga (y := y) (g := z35) (by omega) hgg3 hBF hg1)) (fun r47 w48 h49 => ?_)
                            obtain ⟨⟨rfl, k4f, k4T, k4d, k4p⟩, k4o⟩ := h49
                            have f50 : e_fr (kPq a m y) w w48 := e_fr.trans f45 (e_fr.mono k4f (fun c k q => by exact (by unfold kKp at q; unfold kPq; omega)))
                            have o4 : ∀ c k, e_out elay c k → w48 c k = w c k := fun c k g => (k4o c k g).trans (o3 c k g)
                            have v4 : ∀ j, 0 ≤ j → j ≤ 5 → w48 (17 * a + j + 97) 7 = w (17 * a + j + 97) 7 := fun j g1 g2 => (k4f _ _ (by unfold kKp; omega)).trans (v3 j g1 g2)
                            have h4 : e_fr (fun c _ => 262 ≤ c ∧ c ≤ 271) w42 w48 := k4f.mono (fun c k g => by unfold kKp at g; omega)
                            have a4 : ∀ b, 0 ≤ b → b ≤ 3 → aP w48 b := fun b g1 g2 => aP.hi ⟨g1, g2⟩ h4 s3T k4T (a3 b g1 g2)
                            have p4 : w48 262 0 = y + 1 := (k4f _ _ (by unfold kKp; omega)).trans p3
                            show e_Ok 20 elay kcode eI (d + 1) 223 (171, [(5, (0, z35)), (4, (0, y)), (0, (1, 0)), (1, (0, a)), (2, (0, n)), (3, (0, r))], [], w48) _
                            refine e_Ok.run (t' := (178, [(5, (0, z35)), (4, (0, y)), (0, (1, 0)), (1, (0, a)), (2, (0, n)), (3, (0, r))], [(0, 0), (0, y), (0, a), (0, 10), (1, 0)], w48)) 5 rfl ?_
                            have hK4 := kB.pl hK hT k4T ga hm hy f50 o4 v4 a4 (by rw [p4]; omega)
                            have hO4 : w48 0 13 = 1 := (f50 _ _ (by unfold kPq; omega)).trans (by omega)
                            have e84 : w48 (17 * a + 86) 8 = m := (f50 _ _ (by unfold kPq; omega)).trans hm
                            have hR4 : rwC w48 10 a y 0 := rwC.k10 ⟨ga, by omega, by rw [f50 _ _ (by unfold kPq; omega)]; exact hst, by rw [e84]; exact k4d, by rw [e84]; exact k4p.eq (fun _ _ _ _ => rfl) (fun _ _ _ => ⟨rfl, rfl⟩) (fun j g1 g2 => by rw [v4 j g1 (by omega), s3f 263 j (by unfold kSr; omega), e2 263 j (by omega)]; exact ((l1x (by omega)).2 j g1 (by omega)).symm)⟩
                            refine e_Ok.callV rfl (by omega) rfl rfl rfl rfl (c_255_r (by omega) k4T hK4 hO4 (by omega) (by omega) (by omega) (by omega) (by decide) hR4 (fun _ => by rw [p4]; omega)) (fun r51 w52 h53 => ?_)
                            obtain ⟨z54, rfl, n5x⟩ := h53
                            show e_Ok 20 elay kcode eI (d + 1) 223 (181, [(5, (0, z35)), (4, (0, y)), (0, (1, 0)), (1, (0, a)), (2, (0, n)), (3, (0, r))], [(0, z54)], w52) _
                            refine e_Ok.rets rfl rfl ?_
                            have e4 : w48 0 12 = w 0 12 := f50 _ _ (by unfold kPq; omega)
                            rcases n5x with ⟨g, -, -⟩ | ⟨g0, g⟩
                            · exact ⟨_, rfl, Or.inl (by rw [g]; exact e4)⟩
                            · exact ⟨_, rfl, Or.inr ⟨by omega, by omega⟩⟩
                          · replace h46 : (z44 : Int) = 0 := by have q : ¬ ((z44 : Int) ≠ 0) := h46; omega
                            refine e_Ok.run (t' := (159, [(5, (0, z35)), (4, (0, y)), (0, (1, 0)), (1, (0, a)), (2, (0, n)), (3, (0, r))], [(0, (-2))], w42)) 1 rfl ?_
                            refine e_Ok.rets rfl rfl ?_
                            exact ⟨_, rfl, Or.inl (f45 _ _ (by unfold kPq; omega))⟩
                    · replace h28 : (y : Int) ≥ 60 := by have q : ¬ ((y : Int) < 60) := h28; omega
                      refine e_Ok.run (t' := (85, [(0, (1, 0)), (1, (0, a)), (2, (0, n)), (3, (0, r))], [(0, (-3))], w23)) 1 rfl ?_
                      refine e_Ok.rets rfl rfl ?_
                      exact ⟨_, rfl, Or.inl (f26 _ _ (by unfold kPq; omega))⟩
                · replace h21 : (w (17 * a + 86) 11 : Int) ≠ 0 := by have q : ¬ ((w (17 * a + 86) 11 : Int) = 0) := h21; omega
                  refine e_Ok.run (t' := (52, [(0, (1, 0)), (1, (0, a)), (2, (0, n)), (3, (0, r))], [(0, (-2))], w)) 1 rfl ?_
                  refine e_Ok.rets rfl rfl ?_
                  exact ⟨_, rfl, Or.inl rfl⟩
            · replace h18 : (1 : Int) = 0 := by have q : ¬ ((1 : Int) ≠ 0) := h18; omega
              exfalso; omega
          · show e_Ok 20 elay kcode eI (d + 1) 223 (26, [(0, (1, 0)), (1, (0, a)), (2, (0, n)), (3, (0, r))], [(0, 0)], w) _
            refine e_Ok.if1 rfl (fun h55 => ?_) (fun h55 => ?_)
            · replace h55 : (0 : Int) ≠ 0 := h55
              exfalso; omega
            · replace h55 : (0 : Int) = 0 := by have q : ¬ ((0 : Int) ≠ 0) := h55; omega
              refine e_Ok.run (t' := (30, [(0, (1, 0)), (1, (0, a)), (2, (0, n)), (3, (0, r))], [(0, (-1))], w)) 1 rfl ?_
              refine e_Ok.rets rfl rfl ?_
              exact ⟨_, rfl, Or.inl rfl⟩
      · show e_Ok 20 elay kcode eI (d + 1) 223 (15, [(0, (1, 0)), (1, (0, a)), (2, (0, n)), (3, (0, r))], [(0, 0)], w) _
        refine e_Ok.if1 rfl (fun h56 => ?_) (fun h56 => ?_)
        · replace h56 : (0 : Int) = 0 := h56
          refine e_Ok.run (t' := (30, [(0, (1, 0)), (1, (0, a)), (2, (0, n)), (3, (0, r))], [(0, (-1))], w)) 1 rfl ?_
          refine e_Ok.rets rfl rfl ?_
          exact ⟨_, rfl, Or.inl rfl⟩
        · replace h56 : (0 : Int) ≠ 0 := by have q : ¬ ((0 : Int) = 0) := h56; omega
          exfalso; omega
  · show e_Ok 20 elay kcode eI (d + 1) 223 (5, [(0, (1, 0)), (1, (0, a)), (2, (0, n)), (3, (0, r))], [(0, 0)], w) _
    refine e_Ok.if1 rfl (fun h57 => ?_) (fun h57 => ?_)
    · replace h57 : (0 : Int) = 0 := h57
      refine e_Ok.run (t' := (30, [(0, (1, 0)), (1, (0, a)), (2, (0, n)), (3, (0, r))], [(0, (-1))], w)) 1 rfl ?_
      refine e_Ok.rets rfl rfl ?_
      exact ⟨_, rfl, Or.inl rfl⟩
    · replace h57 : (0 : Int) ≠ 0 := by have q : ¬ ((0 : Int) = 0) := h57; omega
      exfalso; omega
set_option maxHeartbeats 4000000 in
theorem c_212_r {d : Nat} (hd : 28 ≤ d) {w : eW} (hT : e_Has kTy w) (hO : 0 ≤ w 0 13 ∧ w 0 13 ≤ 1) {OP OD CL : Int → Int → Int} (hc : w 0 13 = 0 → cfI w OP OD CL) (hAll : ∀ c k, 0 ≤ c → c ≤ 274 → kn1 (w c k)) (h62 : 0 ≤ w 262 0 ∧ w 262 0 ≤ 60) : e_Ok 20 elay kcode eI d 212 (0, [(0, (1, 0))], [], w) (fun r w' => ∃ z : Int, r = [(0, z)] ∧ (w 0 13 = 0 → w' 0 12 = 0)) := by
  obtain ⟨d, rfl⟩ : ∃ e, d = e + 1 := ⟨d - 1, by omega⟩
  have hw0 := e_Has.get hT (c := 0) (k := 11) (lo := 0) (hi := 4) rfl (by decide)
  refine e_Ok.run (t' := (1, [(0, (1, 0))], [(1, 0)], w)) 1 rfl ?_
  refine e_Ok.getf (z := w 0 13) rfl rfl rfl rfl rfl (by omega) ?_
  refine e_Ok.if1 rfl (fun h1 => ?_) (fun h1 => ?_)
  · replace h1 : (w 0 13 : Int) = 0 := h1
    refine e_Ok.run (t' := (12, [(0, (1, 0))], [(0, 1), (1, 0)], w)) 2 rfl ?_
    refine e_Ok.putb rfl rfl rfl rfl (by omega) ?_
    generalize hw2 : e_up w 0 13 1 = w2
    have f3 : e_fr kNo w w2 := e_fr.up (e_fr.refl w) hw2 (by unfold kNo kNw; omega)
    have hT4 : e_Has kTy w2 := e_Has.ups hT hw2 rfl
    refine e_Ok.run (t' := (17, [(0, (1, 0))], [(0, 0), (1, 0)], w2)) 2 rfl ?_
    refine e_Ok.putf rfl rfl rfl rfl ?_
    generalize hw5 : e_up w2 0 12 0 = w5
    have f6 : e_fr kNo w w5 := e_fr.up f3 hw5 (by unfold kNo kNw; omega)
    have hT7 : e_Has kTy w5 := e_Has.ups hT4 hw5 rfl
    refine e_Ok.run (t' := (21, [(0, (1, 0))], [(1, 0)], w5)) 1 rfl ?_
    have eB : ∀ c k, ¬ (c = 0 ∧ (k = 12 ∨ k = 13)) → w5 c k = w c k := fun c k g => by rw [← hw5, e_up_ne _ _ (by omega), ← hw2, e_up_ne _ _ (by omega)]
    have kB0 : ∀ c k, Kc c k → w5 c k = w c k := fun c k g => eB c k (fun g2 => by obtain ⟨rfl, rfl | rfl⟩ := g2; exact nKc12 g; exact nKc13 g)
    have hcb := (hc (by omega)).eq kB0 hT
    obtain ⟨s0, hb, hs1, hs2, hs3⟩ := bas.mk hT7 hcb
    have e12 : w5 0 12 = 0 := (by rw [← hw5]; exact e_up_eq _ _ _ _)
    have e13 : w5 0 13 = 1 := (by rw [← hw5]; exact (e_up_ne _ _ (Or.inr (by omega))).trans (by rw [← hw2]; exact e_up_eq _ _ _ _))
    refine e_Ok.callV rfl (by omega) rfl rfl rfl rfl (e_Ok.and ((hb w5 (fun _ _ _ => rfl) hT7).dp (by omega)) (c_252 (by omega) hT7 hcb.1 hcb.2.2.2.1)) (fun r8 w9 h10 => ?_)
    obtain ⟨⟨rfl, qf, qT, qo, qx, qa⟩, -, -, -, -, qr⟩ := h10
    have f11 : e_fr kNo w w9 := e_fr.trans f6 (e_fr.mono qf (fun c k q => by exact Or.inl q))
    show e_Ok 20 elay kcode eI (d + 1) 212 (24, [(0, (1, 0))], [], w9) _
    refine e_Ok.run (t' := (25, [(0, (1, 0))], [(1, 0)], w9)) 1 rfl ?_
    have h12 := (e_Has.get hT (c := 0) (k := 11) (lo := 0) (hi := 4) rfl (by decide))
    refine e_Ok.getf (z := w 0 11) rfl rfl rfl rfl ((qf 0 11 (by unfold kNw; omega)).trans (by rw [← hw5]; exact (e_up_ne _ _ (Or.inr (by omega))).trans (by rw [← hw2]; exact (e_up_ne _ _ (Or.inr (by omega))).trans rfl))) (by omega) ?_
    refine e_Ok.rets rfl rfl ?_
    exact ⟨_, rfl, fun _ => (qf _ _ (by unfold kNw; omega)).trans e12⟩
  · replace h1 : (w 0 13 : Int) ≠ 0 := by have q : ¬ ((w 0 13 : Int) = 0) := h1; omega
    refine e_Ok.run (t' := (9, [(0, (1, 0))], [(0, (-2))], w)) 1 rfl ?_
    refine e_Ok.rets rfl rfl ?_
    exact ⟨_, rfl, fun g => by omega⟩
end
