noncomputable section
/-! the class: open -/
theorem nt0 (k : Int) (h : (kTy 0 k).1 ≤ (kTy 0 k).2) : (kTy 0 k).1 = (kTy 0 k).2 ∨ (k = 11) := by
  by_cases g : k < 0
  · exact absurd (show (1 : Int) ≤ 0 from by
      have e : kTy 0 k = (1, 0) := by unfold kTy kTyO; rw [if_neg (by decide)]; show (if k < 0 then _ else _) = _; rw [if_pos g]
      rw [e] at h; exact h) (by decide)
  · obtain ⟨n, rfl⟩ : ∃ n : Nat, k = n := ⟨k.toNat, by omega⟩
    by_cases g2 : n < 15
    · have key : ∀ n : Nat, n < 15 → (kTy 0 (n : Int)).1 ≤ (kTy 0 (n : Int)).2 → ((kTy 0 (n : Int)).1 = (kTy 0 (n : Int)).2 ∨ ((n : Int) = 11)) := by decide +kernel
      exact key n g2 h
    · obtain ⟨j, rfl⟩ : ∃ j, n = j + 15 := ⟨n - 15, by omega⟩
      exact absurd (show (1 : Int) ≤ 0 from h) (by decide)
theorem nt1 (k : Int) (h : (kTy 1 k).1 ≤ (kTy 1 k).2) : (kTy 1 k).1 = (kTy 1 k).2 ∨ (False) := by
  by_cases g : k < 0
  · exact absurd (show (1 : Int) ≤ 0 from by
      have e : kTy 1 k = (1, 0) := by unfold kTy kTyO; rw [if_neg (by decide)]; show (if k < 0 then _ else _) = _; rw [if_pos g]
      rw [e] at h; exact h) (by decide)
  · obtain ⟨n, rfl⟩ : ∃ n : Nat, k = n := ⟨k.toNat, by omega⟩
    by_cases g2 : n < 17
    · have key : ∀ n : Nat, n < 17 → (kTy 1 (n : Int)).1 ≤ (kTy 1 (n : Int)).2 → ((kTy 1 (n : Int)).1 = (kTy 1 (n : Int)).2 ∨ (False)) := by decide +kernel
      exact key n g2 h
    · obtain ⟨j, rfl⟩ : ∃ j, n = j + 17 := ⟨n - 17, by omega⟩
      exact absurd (show (1 : Int) ≤ 0 from h) (by decide)
theorem nt262 (k : Int) (h : (kTy 262 k).1 ≤ (kTy 262 k).2) : (kTy 262 k).1 = (kTy 262 k).2 ∨ (False) := by
  by_cases g : k < 0
  · exact absurd (show (1 : Int) ≤ 0 from by
      have e : kTy 262 k = (1, 0) := by unfold kTy kTyO; rw [if_neg (by decide)]; show (if k < 0 then _ else _) = _; rw [if_pos g]
      rw [e] at h; exact h) (by decide)
  · obtain ⟨n, rfl⟩ : ∃ n : Nat, k = n := ⟨k.toNat, by omega⟩
    by_cases g2 : n < 13
    · have key : ∀ n : Nat, n < 13 → (kTy 262 (n : Int)).1 ≤ (kTy 262 (n : Int)).2 → ((kTy 262 (n : Int)).1 = (kTy 262 (n : Int)).2 ∨ (False)) := by decide +kernel
      exact key n g2 h
    · obtain ⟨j, rfl⟩ : ∃ j, n = j + 13 := ⟨n - 13, by omega⟩
      exact absurd (show (1 : Int) ≤ 0 from h) (by decide)
theorem typ_nx {c k : Int} (h : (kTy c k).1 ≤ (kTy c k).2) : ¬ isX c k := fun g => by
  have hr := kTy_rg h
  rcases g with ⟨g, g2⟩ | ⟨rfl, g1, g2⟩
  · rcases g with g | rfl | g | ⟨rfl, g⟩ | g | rfl | g
    · omega
    · rcases nt1 k h with q | q
      · exact g2 q
      · exact q
    · obtain rfl | rfl | rfl : c = 5 ∨ c = 6 ∨ c = 7 := by omega
      all_goals exact absurd (show (1 : Int) ≤ 0 from h) (by decide)
    · rcases nt0 k h with q | q
      · exact g2 q
      · omega
    · obtain rfl | g : c = 262 ∨ 263 ≤ c := by omega
      · rcases nt262 k h with q | q
        · exact g2 q
        · exact q
      · obtain rfl | rfl | rfl | rfl | rfl | rfl | rfl | rfl | rfl : c = 263 ∨ c = 264 ∨ c = 265 ∨ c = 266 ∨ c = 267 ∨ c = 268 ∨ c = 269 ∨ c = 270 ∨ c = 271 := by omega
        all_goals exact absurd (show (1 : Int) ≤ 0 from h) (by decide)
    · exact absurd (show (1 : Int) ≤ 0 from h) (by decide)
    · omega
  · obtain rfl | rfl | rfl | rfl : k = 13 ∨ k = 14 ∨ k = 15 ∨ k = 16 := by omega
    all_goals exact absurd (show (1 : Int) ≤ 0 from h) (by decide)
theorem isX.rg {c k : Int} (h : isX c k) : c < 2 ∨ (5 ≤ c ∧ c ≤ 7) ∨ 250 ≤ c := by
  rcases h with h | h
  · have := h.1; omega
  · omega
theorem isX.n0 {k : Int} (h : isX 0 k) : 12 ≤ k := by
  rcases h with h | h
  · have := h.1; omega
  · omega
theorem dC_nx {c k : Int} (g : dC c k) : ¬ isX c k := fun h => by
  have := h.rg
  unfold dC at g
  omega
/-- of a cell without ways, what pj leaves keeps all -/
theorem kI.pj0 {w s : eW} {OP OD CL : Int → Int → Int} {hh t0 : Int} (q : kI s OP OD CL hh t0) (hz : ∀ a, 0 ≤ a → a ≤ 3 → s (17 * a + 86) 17 = -1 ∧ s (17 * a + 86) 18 = -1) (hb : ∀ j, pj w s 85 j = s 85 j) : kI (pj w s) OP OD CL hh t0 := by
  have e : ∀ c k, ¬ isX c k → pj w s c k = s c k := fun c k g => pj_n g
  have f : e_fr isX s (pj w s) := e
  have hB := q.bel
  have hC := q.cd
  obtain ⟨q1, q2, q3, q4, q5, q6, q7, q8, q9⟩ := q
  have n0 : ∀ c k, 2 ≤ c → c ≤ 4 ∨ (8 ≤ c ∧ c ≤ 249) → ¬ isX c k := fun c k g1 g2 h => by have := h.rg; omega
  refine ⟨fun c k hl => by rw [e c k (typ_nx hl)]; exact q1 c k hl, fun a g1 g2 => ?_, q3.fr f (fun c k g1 g2 => n0 c k (by omega) (by omega)) (fun k => ⟨n0 _ k (by omega) (by omega), n0 _ k (by omega) (by omega)⟩) ⟨n0 _ _ (by omega) (by omega), n0 _ _ (by omega) (by omega)⟩ hB.2, q4.fr f (fun k => ⟨n0 _ k (by omega) (by omega), n0 _ k (by omega) (by omega)⟩), q5.fr f (n0 _ _ (by omega) (by omega)) (fun k => n0 _ k (by omega) (by omega)), fun g a g1 g2 g9 => ?_, q7.eq (fun c k g => e c k (dC_nx g)), fun j g1 g2 g3 => by rw [hb]; exact q8 j g1 g2 g3, fun t g1 g2 => (q9 t g1 g2).eq ⟨g1, g2⟩ q1 hC (fun c k g => ?_)⟩
  · have hn := (kn_joints q1 ⟨g1, g2⟩).2
    obtain ⟨p1, p2, p3, p4, p5, p6⟩ := q2 a g1 g2
    have ea : ∀ c k, 17 * a + 86 ≤ c → c ≤ 17 * a + 102 → pj w s c k = s c k := fun c k h1 h2 => e c k (n0 c k (by omega) (by omega))
    refine ⟨p1.eq (fun c k g => ea c k (by omega) (by omega)), p2.eq (fun c k g => ea c k (by omega) (by omega)), ?_, p4.eq hn (fun c k g => ea c k (by omega) (by omega)), p5.eq (fun c k g => e c k (n0 c k (by omega) (by omega))), ?_⟩
    · rw [ea _ 8 (by omega) (by omega), ea _ 11 (by omega) (by omega)]
      exact p3.eq hn (fun c k g3 g4 _ _ => ea c k (by omega) (by omega))
    · obtain ⟨z1, z2⟩ := hz a g1 g2
      unfold aW
      rw [ea _ 17 (by omega) (by omega), ea _ 18 (by omega) (by omega), z1, z2]
      exact ⟨fun g => absurd g (by decide), fun g => absurd g (by decide), fun g => absurd g (by decide)⟩
  · rw [e 74 3 (n0 _ _ (by omega) (by omega))] at g
    rw [e 0 11 (fun h => by have := h.n0; omega)] at g9
    rw [e _ _ (n0 _ _ (by omega) (by omega))]
    exact q6 g a g1 g2 g9
  · rcases g with g | g
    · exact e c k (n0 c k (by unfold dT at g; omega) (by unfold dT at g; omega))
    · exact e c k (dC_nx g)
theorem nKc13 : ¬ Kc 0 13 := fun h => by
  rcases h.2 with h | h | h
  · exact h (by unfold kNh; omega)
  · exact absurd h (by decide : ¬ (1 : Int) = 0)
  · have z := h.2.2 0 11 15 rfl
    omega
def kNo (c k : Int) : Prop := kNw c k ∨ (c = 0 ∧ (k = 12 ∨ k = 13))
set_option maxHeartbeats 4000000 in
theorem c_212 {d : Nat} (hd : 28 ≤ d) {w : eW} (hT : e_Has kTy w) (hO : 0 ≤ w 0 13 ∧ w 0 13 ≤ 1) {OP OD CL : Int → Int → Int} (hc : w 0 13 = 0 → cfI w OP OD CL) (hAll : ∀ c k, 0 ≤ c → c ≤ 274 → kn1 (w c k)) (h62 : 0 ≤ w 262 0 ∧ w 262 0 ≤ 60) : e_Ok 20 elay kcode eI d 212 (0, [(0, (1, 0))], [], w) (fun r w' => ∃ z : Int, r = [(0, z)] ∧ e_Has kTy w' ∧ ((w 0 13 = 1 ∧ w' = w) ∨ (w 0 13 = 0 ∧ e_fr kNo w w' ∧ w' 0 13 = 1 ∧ z = w 0 11 ∧ ∃ S, kB w' OP OD CL S))) := by
  obtain ⟨d, rfl⟩ : ∃ e, d = e + 1 := ⟨d - 1, by omega⟩
  have hw0 := e_Has.get hT (c := 0) (k := 11) (lo := 0) (hi := 4) rfl (by decide)
  refine e_Ok.run (t' := (1, [(0, (1, 0))], [(1, 0)], w)) 1 rfl ?_
  refine e_Ok.getf (z := w 0 13) rfl (el_o rfl) rfl rfl rfl (by omega) ?_
  refine e_Ok.if1 rfl (fun h1 => ?_) (fun h1 => ?_)
  · replace h1 : (w 0 13 : Int) = 0 := h1
    refine e_Ok.run (t' := (12, [(0, (1, 0))], [(0, 1), (1, 0)], w)) 2 rfl ?_
    refine e_Ok.putb rfl (el_o rfl) rfl rfl (by omega) ?_
    generalize hw2 : e_up w 0 13 1 = w2
    have f3 : e_fr kNo w w2 := e_fr.up (e_fr.refl w) hw2 (by unfold kNo kNw; omega)
    have hT4 : e_Has kTy w2 := e_Has.ups hT hw2 rfl
    refine e_Ok.run (t' := (17, [(0, (1, 0))], [(0, 0), (1, 0)], w2)) 2 rfl ?_
    refine e_Ok.putf rfl (el_o rfl) rfl rfl ?_
    generalize hw5 : e_up w2 0 12 0 = w5
    have f6 : e_fr kNo w w5 := e_fr.up f3 hw5 (by unfold kNo kNw; omega)
    have hT7 : e_Has kTy w5 := e_Has.ups hT4 hw5 rfl
    refine e_Ok.run (t' := (21, [(0, (1, 0))], [(1, 0)], w5)) 1 rfl ?_
    have eB : ∀ c k, ¬ (c = 0 ∧ (k = 12 ∨ k = 13)) → w5 c k = w c k := fun c k g => by rw [← hw5, e_up_ne _ _ (by omega), ← hw2, e_up_ne _ _ (by omega)]
    have kB0 : ∀ c k, Kc c k → w5 c k = w c k := fun c k g => eB c k (fun g2 => by obtain ⟨rfl, rfl | rfl⟩ := g2; exact nKc12 g; exact nKc13 g)
    have hcb := (hc (by omega)).eq kB0 hT
    obtain ⟨s0, hb, hs1, hs2, hs3⟩ := bas.mk hT7 hcb
    have e12 : w5 0 12 = 0 := (by rw [← hw5]; exact e_up_eq _ _ _ _)
    have e13 : w5 0 13 = 1 := (by rw [← hw5]; exact (e_up_ne _ _ (Or.inr (by omega))).trans (by rw [← hw2]; exact e_up_eq _ _ _ _))
    refine e_Ok.callV rfl (by omega) rfl rfl rfl rfl (e_Ok.and ((hb w5 (fun _ _ _ => rfl) hT7).dp (by omega)) (c_252 (by omega) hT7 hcb.1 hcb.2.2.2.1)) (fun r8 w9 h10 => ?_)
    obtain ⟨⟨rfl, qf, qT, qo, qx, qa⟩, -, -, -, -, qr⟩ := h10
    have f11 : e_fr kNo w w9 := e_fr.trans f6 (e_fr.mono qf (fun c k q => by exact Or.inl q))
    show e_Ok 20 elay kcode eI (d + 1) 212 (24, [(0, (1, 0))], [], w9) _
    refine e_Ok.run (t' := (25, [(0, (1, 0))], [(1, 0)], w9)) 1 rfl ?_
    have h12 := (e_Has.get hT (c := 0) (k := 11) (lo := 0) (hi := 4) rfl (by decide))
    refine e_Ok.getf (z := w 0 11) rfl (el_o rfl) rfl rfl ((qf 0 11 (by unfold kNw; omega)).trans (by rw [← hw5]; exact (e_up_ne _ _ (Or.inr (by omega))).trans (by rw [← hw2]; exact (e_up_ne _ _ (Or.inr (by omega))).trans rfl))) (by omega) ?_
    refine e_Ok.rets rfl rfl ?_
    have hK9 : ∀ c k, Kc c k → w9 c k = w5 c k := Kc.of (qf.mono (fun c k g => Or.inl g)) hT7 qT qo
    have hz : ∀ a, 0 ≤ a → a ≤ 3 → s0 (17 * a + 86) 17 = -1 ∧ s0 (17 * a + 86) 18 = -1 := fun a g1 g2 => by have z := (qr.1 a g1 g2).1.1; rw [kq_A (k := 17) hs1.1 qx ⟨g1, g2⟩ (by omega), kq_A (k := 18) hs1.1 qx ⟨g1, g2⟩ (by omega)] at z; omega
    have r12 : w9 0 12 = 0 := (qf _ _ (by unfold kNw; omega)).trans e12
    have p62 : w9 262 0 = w 262 0 := (qf _ _ (by unfold kNw; omega)).trans (eB _ _ (by omega))
    have hkB : kB w9 OP OD CL (fun _ => s0) := ⟨⟨by omega, by omega⟩, ⟨fun c k g => by rw [hK9 c k g, kB0 c k g]; exact hAll c k g.1.1 g.1.2, qa⟩, hb.eq hK9, qx.rx, fun i g1 g2 => ⟨⟨0, by omega, kI.pj0 hs1 hz (fun j => pj_n (fun h => by have := h.rg; omega))⟩, by show s0 74 1 ≤ 16 * i + 900 * s0 74 0; omega⟩, fun i g1 g2 => by omega⟩
    exact ⟨_, rfl, qT, Or.inr ⟨by omega, f11, (qf _ _ (by unfold kNw; omega)).trans e13, by omega, _, hkB⟩⟩
  · replace h1 : (w 0 13 : Int) ≠ 0 := by have q : ¬ ((w 0 13 : Int) = 0) := h1; omega
    refine e_Ok.run (t' := (9, [(0, (1, 0))], [(0, (-2))], w)) 1 rfl ?_
    refine e_Ok.rets rfl rfl ?_
    exact ⟨_, rfl, hT, Or.inl ⟨by omega, rfl⟩⟩
theorem c_239 {d : Nat} (hd : 25 ≤ d) {w : eW} (hl : lkK w) {a : Int} (g_a : (-2147483648) ≤ a ∧ a ≤ 2147483647) {b : Int} (g_b : (-2147483648) ≤ b ∧ b ≤ 2147483647) : e_Ok 20 elay kcode eI d 239 (0, [(0, (1, 0)), (1, (0, a)), (2, (0, b))], [], w) (fun r w' => ∃ z : Int, r = [(0, z)] ∧ e_fr kTc w w' ∧ e_Has kTy w') := by
  obtain ⟨d, rfl⟩ : ∃ e, d = e + 1 := ⟨d - 1, by omega⟩
  obtain ⟨hT, hAll, hC, hW, ka, hF⟩ := hl
  have hw0 := e_Has.get hT (c := 0) (k := 11) (lo := 0) (hi := 4) rfl (by decide)
  refine e_Ok.run (t' := (2, [(0, (1, 0)), (1, (0, a)), (2, (0, b))], [(0, a), (1, 0)], w)) 2 rfl ?_
  refine e_Ok.callV rfl (by omega) rfl rfl rfl rfl (c_246 (by omega) hT (by omega)) (fun r1 w2 h3 => ?_)
  obtain ⟨z4, rfl, rfl, q5⟩ := h3
  obtain ⟨rfl, q5⟩ | ⟨rfl, q5⟩ := q5
  · show e_Ok 20 elay kcode eI (d + 1) 239 (5, [(0, (1, 0)), (1, (0, a)), (2, (0, b))], [(0, 1)], w) _
    refine e_Ok.if1 rfl (fun h6 => ?_) (fun h6 => ?_)
    · replace h6 : (1 : Int) = 0 := h6
      exfalso; omega
    · replace h6 : (1 : Int) ≠ 0 := by have q : ¬ ((1 : Int) = 0) := h6; omega
      refine e_Ok.run (t' := (13, [(0, (1, 0)), (1, (0, a)), (2, (0, b))], [(0, 2000), (0, 0), (0, b)], w)) 3 rfl ?_
      refine e_Ok.callS rfl (by omega) rfl rfl (c_242 (by omega) (by omega) (by omega)) (fun r7 w8 h9 => ?_)
      obtain ⟨z10, rfl, rfl, q11⟩ := h9
      obtain ⟨rfl, q11⟩ | ⟨rfl, q11⟩ := q11
      · show e_Ok 20 elay kcode eI (d + 1) 239 (16, [(0, (1, 0)), (1, (0, a)), (2, (0, b))], [(0, 1)], w) _
        refine e_Ok.if1 rfl (fun h12 => ?_) (fun h12 => ?_)
        · replace h12 : (1 : Int) ≠ 0 := h12
          refine e_Ok.run (t' := (22, [(0, (1, 0)), (1, (0, a)), (2, (0, b))], [(1, 0)], w)) 1 rfl ?_
          refine e_Ok.getr (z := 250) rfl (el_o rfl) rfl rfl (Eq.trans (e_Has.eq hT rfl) (by omega)) (by omega) ?_
          refine e_Ok.run (t' := (26, [(0, (1, 0)), (1, (0, a)), (2, (0, b))], [(1, 0), (1, 250)], w)) 1 rfl ?_
          refine e_Ok.getr (z := 9) rfl (el_o rfl) rfl rfl (Eq.trans (e_Has.eq hT rfl) (by omega)) (by omega) ?_
          refine e_Ok.run (t' := (30, [(0, (1, 0)), (1, (0, a)), (2, (0, b))], [(1, 0), (1, 9), (1, 250)], w)) 1 rfl ?_
          have h13 := (e_Has.get hT (c := 0) (k := 11) (lo := 0) (hi := 4) rfl (by decide))
          refine e_Ok.getf (z := w 0 11) rfl (el_o rfl) rfl rfl rfl (by omega) ?_
          refine e_Ok.run (t' := (36, [(0, (1, 0)), (1, (0, a)), (2, (0, b))], [(0, b), (0, 0), (0, a), (0, w 0 11), (1, 9), (1, 250)], w)) 3 rfl ?_
          refine e_Ok.callV rfl (by omega) rfl rfl rfl rfl (c_171 (by omega) hT (by omega) (by omega) (by omega) (by omega) ka) (fun r14 w15 h16 => ?_)
          obtain ⟨z17, rfl, q18f, q18T, q18r⟩ := h16
          show e_Ok 20 elay kcode eI (d + 1) 239 (39, [(0, (1, 0)), (1, (0, a)), (2, (0, b))], [(0, z17)], w15) _
          refine e_Ok.if1 rfl (fun h19 => ?_) (fun h19 => ?_)
          · replace h19 : (z17 : Int) = 0 := h19
            refine e_Ok.run (t' := (47, [(0, (1, 0)), (1, (0, a)), (2, (0, b))], [(0, 0)], w15)) 1 rfl ?_
            refine e_Ok.rets rfl rfl ?_
            exact ⟨_, rfl, q18f, q18T⟩
          · replace h19 : (z17 : Int) ≠ 0 := by have q : ¬ ((z17 : Int) = 0) := h19; omega
            refine e_Ok.run (t' := (47, [(0, (1, 0)), (1, (0, a)), (2, (0, b))], [(0, 1)], w15)) 2 rfl ?_
            refine e_Ok.rets rfl rfl ?_
            exact ⟨_, rfl, q18f, q18T⟩
        · replace h12 : (1 : Int) = 0 := by have q : ¬ ((1 : Int) ≠ 0) := h12; omega
          exfalso; omega
      · show e_Ok 20 elay kcode eI (d + 1) 239 (16, [(0, (1, 0)), (1, (0, a)), (2, (0, b))], [(0, 0)], w) _
        refine e_Ok.if1 rfl (fun h20 => ?_) (fun h20 => ?_)
        · replace h20 : (0 : Int) ≠ 0 := h20
          exfalso; omega
        · replace h20 : (0 : Int) = 0 := by have q : ¬ ((0 : Int) ≠ 0) := h20; omega
          refine e_Ok.run (t' := (20, [(0, (1, 0)), (1, (0, a)), (2, (0, b))], [(0, (-1))], w)) 1 rfl ?_
          refine e_Ok.rets rfl rfl ?_
          exact ⟨_, rfl, e_fr.refl w, hT⟩
  · show e_Ok 20 elay kcode eI (d + 1) 239 (5, [(0, (1, 0)), (1, (0, a)), (2, (0, b))], [(0, 0)], w) _
    refine e_Ok.if1 rfl (fun h21 => ?_) (fun h21 => ?_)
    · replace h21 : (0 : Int) = 0 := h21
      refine e_Ok.run (t' := (20, [(0, (1, 0)), (1, (0, a)), (2, (0, b))], [(0, (-1))], w)) 1 rfl ?_
      refine e_Ok.rets rfl rfl ?_
      exact ⟨_, rfl, e_fr.refl w, hT⟩
    · replace h21 : (0 : Int) ≠ 0 := by have q : ¬ ((0 : Int) = 0) := h21; omega
      exfalso; omega
end
