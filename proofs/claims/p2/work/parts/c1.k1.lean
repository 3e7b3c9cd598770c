noncomputable section
/-! the class: the tape -/
def kTp (c k : Int) : Prop := (c = 1 ∧ k = 0) ∨ c = 5
theorem c_118 {d : Nat} {w : eW} (hT : e_Has kTy w) {a : Int} (ha : -2147483648 ≤ a ∧ a ≤ 2147483647) (hl : 0 ≤ w 1 0 ∧ w 1 0 ≤ 3996) : e_Ok 20 elay ecode eI d 118 (0, [(0, (1, 1)), (1, (0, a))], [], w) (fun r w' => r = [] ∧ e_fr kTp w w' ∧ e_Has kTy w' ∧ w' 1 0 = w 1 0 + 4) := by
  refine e_Ok.run (t' := (3, [(2, (0, 24)), (0, (1, 1)), (1, (0, a))], [], w)) 2 rfl ?_
  have hL1 : ∀ (nn : Nat) (y2 : Int) (v1 : eW), e_fr kTp w v1 ∧ e_Has kTy v1 ∧ ((8 * (v1 1 0 - w 1 0) = 24 - y2 ∧ -8 ≤ y2 ∧ y2 ≤ 24)) → y2 + 8 < nn → e_Ok 20 elay ecode eI d 118 (3, [(0, (1, 1)), (1, (0, a)), (2, (0, y2))], [], v1) (fun r w' => r = [] ∧ e_fr kTp w w' ∧ e_Has kTy w' ∧ w' 1 0 = w 1 0 + 4) := by
    intro nn
    induction nn with
    | zero => intro y2 v1 hj hm; obtain ⟨j3, j4, j5⟩ := hj; exfalso; omega
    | succ nn ih2 =>
      intro y2 v1 hj hm
      obtain ⟨j3, j4, j5⟩ := hj
      refine e_Ok.run (t' := (4, [(0, (1, 1)), (1, (0, a)), (2, (0, y2))], [(0, y2)], v1)) 1 rfl ?_
      refine e_Ok.if1 rfl (fun h6 => ?_) (fun h6 => ?_)
      · replace h6 : (y2 : Int) < 0 := h6
        refine e_Ok.rets rfl rfl ?_
        exact ⟨rfl, j3, j4, by omega⟩
      · replace h6 : (y2 : Int) ≥ 0 := by have q : ¬ ((y2 : Int) < 0) := h6; omega
        refine e_Ok.run (t' := (8, [(0, (1, 1)), (1, (0, a)), (2, (0, y2))], [(1, 1)], v1)) 1 rfl ?_
        refine e_Ok.getf (z := v1 1 0) rfl rfl rfl rfl rfl (by omega) ?_
        refine e_Ok.run (t' := (14, [(0, (1, 1)), (1, (0, a)), (2, (0, y2))], [(0, 4000), (0, v1 1 0)], v1)) 1 rfl ?_
        refine e_Ok.if2 rfl (fun h7 => ?_) (fun h7 => ?_)
        · replace h7 : (v1 1 0 : Int) ≥ 4000 := h7
          refine e_Ok.rets rfl rfl ?_
          exact ⟨rfl, j3, j4, by omega⟩
        · replace h7 : (v1 1 0 : Int) < 4000 := by have q : ¬ ((v1 1 0 : Int) ≥ 4000) := h7; omega
          refine e_Ok.run (t' := (18, [(0, (1, 1)), (1, (0, a)), (2, (0, y2))], [(1, 1)], v1)) 1 rfl ?_
          refine e_Ok.getr (z := 5) rfl rfl rfl rfl ((j3 1 4 (by unfold kTp; omega)).trans (e_Has.eq hT rfl)) (by omega) ?_
          refine e_Ok.run (t' := (22, [(0, (1, 1)), (1, (0, a)), (2, (0, y2))], [(1, 1), (1, 5)], v1)) 1 rfl ?_
          refine e_Ok.getf (z := v1 1 0) rfl rfl rfl rfl rfl (by omega) ?_
          refine e_Ok.run (t' := (27, [(0, (1, 1)), (1, (0, a)), (2, (0, y2))], [(0, y2), (0, a), (0, v1 1 0), (1, 5)], v1)) 2 rfl ?_
          refine e_Ok.any rfl (eB_any _ _) (fun z8 z8a z8b => ?_)
          refine e_Ok.i2b rfl (fun z9 hz9 => ?_)
          obtain ⟨z10, hz10, z10r⟩ := e_nar_2 z9
          refine e_Ok.ast rfl rfl rfl hz10 (by omega) ?_
          generalize hw11 : e_up v1 5 (v1 1 0) z10 = w11
          have f12 : e_fr kTp w w11 := e_fr.up j3 hw11 (by unfold kTp; omega)
          have hT13 : e_Has kTy w11 := e_Has.upr j4 hw11 rfl (by omega)
          refine e_Ok.run (t' := (32, [(0, (1, 1)), (1, (0, a)), (2, (0, y2))], [(1, 1), (1, 1)], w11)) 2 rfl ?_
          refine e_Ok.getf (z := v1 1 0) rfl rfl rfl rfl (by rw [← hw11]; exact (e_up_ne _ _ (Or.inl (by omega))).trans rfl) (by omega) ?_
          refine e_Ok.run (t' := (36, [(0, (1, 1)), (1, (0, a)), (2, (0, y2))], [(0, 1), (0, v1 1 0), (1, 1)], w11)) 1 rfl ?_
          refine e_Ok.add (z := v1 1 0 + 1) rfl (by omega) (by omega) ?_
          refine e_Ok.putf rfl rfl rfl rfl ?_
          generalize hw14 : e_up w11 1 0 (v1 1 0 + 1) = w14
          have f15 : e_fr kTp w w14 := e_fr.up f12 hw14 (by unfold kTp; omega)
          have hT16 : e_Has kTy w14 := e_Has.upr hT13 hw14 rfl (by omega)
          refine e_Ok.inc (z := y2 - 8) rfl rfl (by omega) (by omega) ?_
          show e_Ok 20 elay ecode eI d 118 (43, [(2, (0, y2 - 8)), (0, (1, 1)), (1, (0, a))], [], w14) _
          refine e_Ok.run (t' := (3, [(2, (0, y2 - 8)), (0, (1, 1)), (1, (0, a))], [], w14)) 1 rfl ?_
          refine e_Ok.sub eAlk (e_sub_of rfl ?_) (ih2 (y2 - 8) w14 ⟨f15, hT16, (by have e1 : w14 1 0 = v1 1 0 + 1 := (by rw [← hw14]; exact e_up_eq _ _ _ _); omega)⟩ (by omega))
          exact ⟨rfl, rfl, rfl, trivial⟩
  refine e_Ok.sub eAlk (e_sub_of rfl ?_) (hL1 (33 + 1 : Int).toNat 24 w ⟨(e_fr.refl w), hT, by omega⟩ (by omega))
  exact ⟨rfl, rfl, rfl, trivial⟩
theorem c_190 {d : Nat} (hd : 22 ≤ d) {w : eW} (hT : e_Has kTy w) (hl : 0 ≤ w 1 0 ∧ w 1 0 ≤ 4000) {p1 p2 p3 p4 p5 : Int} (g1 : -2147483648 ≤ p1 ∧ p1 ≤ 2147483647) (g2 : -2147483648 ≤ p2 ∧ p2 ≤ 2147483647) (g3 : -2147483648 ≤ p3 ∧ p3 ≤ 2147483647) (g4 : -2147483648 ≤ p4 ∧ p4 ≤ 2147483647) (g5 : -2147483648 ≤ p5 ∧ p5 ≤ 2147483647) : e_Ok 20 elay ecode eI d 190 (0, [(0, (1, 0)), (1, (0, p1)), (2, (0, p2)), (3, (0, p3)), (4, (0, p4)), (5, (0, p5))], [], w) (fun r w' => ∃ z : Int, r = [(0, z)] ∧ e_fr kTp w w' ∧ e_Has kTy w' ∧ ((w 1 0 ≤ 3980 ∧ z = w 1 0 + 20 ∧ w' 1 0 = w 1 0 + 20) ∨ (3980 < w 1 0 ∧ z = -3 ∧ w' 1 0 = w 1 0))) := by
  obtain ⟨d, rfl⟩ : ∃ e, d = e + 1 := ⟨d - 1, by omega⟩
  refine e_Ok.run (t' := (1, [(0, (1, 0)), (1, (0, p1)), (2, (0, p2)), (3, (0, p3)), (4, (0, p4)), (5, (0, p5))], [(1, 0)], w)) 1 rfl ?_
  refine e_Ok.getr (z := 1) rfl rfl rfl rfl (e_Has.eq hT rfl) (by omega) ?_
  refine e_Ok.getf (z := w 1 0) rfl rfl rfl rfl rfl (by omega) ?_
  refine e_Ok.run (t' := (10, [(0, (1, 0)), (1, (0, p1)), (2, (0, p2)), (3, (0, p3)), (4, (0, p4)), (5, (0, p5))], [(0, 3980), (0, w 1 0)], w)) 1 rfl ?_
  refine e_Ok.if2 rfl (fun h1 => ?_) (fun h1 => ?_)
  · replace h1 : (w 1 0 : Int) ≤ 3980 := h1
    refine e_Ok.run (t' := (17, [(0, (1, 0)), (1, (0, p1)), (2, (0, p2)), (3, (0, p3)), (4, (0, p4)), (5, (0, p5))], [(1, 0)], w)) 1 rfl ?_
    refine e_Ok.getr (z := 1) rfl rfl rfl rfl (e_Has.eq hT rfl) (by omega) ?_
    refine e_Ok.run (t' := (21, [(0, (1, 0)), (1, (0, p1)), (2, (0, p2)), (3, (0, p3)), (4, (0, p4)), (5, (0, p5))], [(0, p1), (1, 1)], w)) 1 rfl ?_
    refine e_Ok.callV rfl (by omega) rfl rfl rfl rfl (c_118 hT (by omega) (by omega)) (fun r2 w3 h4 => ?_)
    obtain ⟨rfl, q5, q5T, q5e⟩ := h4
    have f6 : e_fr kTp w w3 := e_fr.trans (e_fr.refl w) q5
    show e_Ok 20 elay ecode eI (d + 1) 190 (24, [(0, (1, 0)), (1, (0, p1)), (2, (0, p2)), (3, (0, p3)), (4, (0, p4)), (5, (0, p5))], [], w3) _
    refine e_Ok.run (t' := (25, [(0, (1, 0)), (1, (0, p1)), (2, (0, p2)), (3, (0, p3)), (4, (0, p4)), (5, (0, p5))], [(1, 0)], w3)) 1 rfl ?_
    refine e_Ok.getr (z := 1) rfl rfl rfl rfl (e_Has.eq q5T rfl) (by omega) ?_
    refine e_Ok.run (t' := (29, [(0, (1, 0)), (1, (0, p1)), (2, (0, p2)), (3, (0, p3)), (4, (0, p4)), (5, (0, p5))], [(0, p2), (1, 1)], w3)) 1 rfl ?_
    refine e_Ok.callV rfl (by omega) rfl rfl rfl rfl (c_118 q5T (by omega) (by omega)) (fun r7 w8 h9 => ?_)
    obtain ⟨rfl, q10, q10T, q10e⟩ := h9
    have f11 : e_fr kTp w w8 := e_fr.trans f6 q10
    show e_Ok 20 elay ecode eI (d + 1) 190 (32, [(0, (1, 0)), (1, (0, p1)), (2, (0, p2)), (3, (0, p3)), (4, (0, p4)), (5, (0, p5))], [], w8) _
    refine e_Ok.run (t' := (33, [(0, (1, 0)), (1, (0, p1)), (2, (0, p2)), (3, (0, p3)), (4, (0, p4)), (5, (0, p5))], [(1, 0)], w8)) 1 rfl ?_
    refine e_Ok.getr (z := 1) rfl rfl rfl rfl (e_Has.eq q10T rfl) (by omega) ?_
    refine e_Ok.run (t' := (37, [(0, (1, 0)), (1, (0, p1)), (2, (0, p2)), (3, (0, p3)), (4, (0, p4)), (5, (0, p5))], [(0, p3), (1, 1)], w8)) 1 rfl ?_
    refine e_Ok.callV rfl (by omega) rfl rfl rfl rfl (c_118 q10T (by omega) (by omega)) (fun r12 w13 h14 => ?_)
    obtain ⟨rfl, q15, q15T, q15e⟩ := h14
    have f16 : e_fr kTp w w13 := e_fr.trans f11 q15
    show e_Ok 20 elay ecode eI (d + 1) 190 (40, [(0, (1, 0)), (1, (0, p1)), (2, (0, p2)), (3, (0, p3)), (4, (0, p4)), (5, (0, p5))], [], w13) _
    refine e_Ok.run (t' := (41, [(0, (1, 0)), (1, (0, p1)), (2, (0, p2)), (3, (0, p3)), (4, (0, p4)), (5, (0, p5))], [(1, 0)], w13)) 1 rfl ?_
    refine e_Ok.getr (z := 1) rfl rfl rfl rfl (e_Has.eq q15T rfl) (by omega) ?_
    refine e_Ok.run (t' := (46, [(0, (1, 0)), (1, (0, p1)), (2, (0, p2)), (3, (0, p3)), (4, (0, p4)), (5, (0, p5))], [(0, p4), (1, 1)], w13)) 1 rfl ?_
    refine e_Ok.callV rfl (by omega) rfl rfl rfl rfl (c_118 q15T (by omega) (by omega)) (fun r17 w18 h19 => ?_)
    obtain ⟨rfl, q20, q20T, q20e⟩ := h19
    have f21 : e_fr kTp w w18 := e_fr.trans f16 q20
    show e_Ok 20 elay ecode eI (d + 1) 190 (49, [(0, (1, 0)), (1, (0, p1)), (2, (0, p2)), (3, (0, p3)), (4, (0, p4)), (5, (0, p5))], [], w18) _
    refine e_Ok.run (t' := (50, [(0, (1, 0)), (1, (0, p1)), (2, (0, p2)), (3, (0, p3)), (4, (0, p4)), (5, (0, p5))], [(1, 0)], w18)) 1 rfl ?_
    refine e_Ok.getr (z := 1) rfl rfl rfl rfl (e_Has.eq q20T rfl) (by omega) ?_
    refine e_Ok.run (t' := (55, [(0, (1, 0)), (1, (0, p1)), (2, (0, p2)), (3, (0, p3)), (4, (0, p4)), (5, (0, p5))], [(0, p5), (1, 1)], w18)) 1 rfl ?_
    refine e_Ok.callV rfl (by omega) rfl rfl rfl rfl (c_118 q20T (by omega) (by omega)) (fun r22 w23 h24 => ?_)
    obtain ⟨rfl, q25, q25T, q25e⟩ := h24
    have f26 : e_fr kTp w w23 := e_fr.trans f21 q25
    show e_Ok 20 elay ecode eI (d + 1) 190 (58, [(0, (1, 0)), (1, (0, p1)), (2, (0, p2)), (3, (0, p3)), (4, (0, p4)), (5, (0, p5))], [], w23) _
    refine e_Ok.run (t' := (59, [(0, (1, 0)), (1, (0, p1)), (2, (0, p2)), (3, (0, p3)), (4, (0, p4)), (5, (0, p5))], [(1, 0)], w23)) 1 rfl ?_
    refine e_Ok.getr (z := 1) rfl rfl rfl rfl (e_Has.eq q25T rfl) (by omega) ?_
    refine e_Ok.getf (z := w23 1 0) rfl rfl rfl rfl rfl (by omega) ?_
    refine e_Ok.rets rfl rfl ?_
    exact ⟨_, rfl, f26, q25T, Or.inl ⟨by omega, by omega, by omega⟩⟩
  · replace h1 : (w 1 0 : Int) > 3980 := by have q : ¬ ((w 1 0 : Int) ≤ 3980) := h1; omega
    refine e_Ok.run (t' := (15, [(0, (1, 0)), (1, (0, p1)), (2, (0, p2)), (3, (0, p3)), (4, (0, p4)), (5, (0, p5))], [(0, (-3))], w)) 1 rfl ?_
    refine e_Ok.rets rfl rfl ?_
    exact ⟨_, rfl, e_fr.refl w, hT, Or.inr ⟨by omega, rfl, rfl⟩⟩
theorem c_242 {d : Nat} {w : eW} {v lo hi : Int} (g1 : -2147483648 ≤ v ∧ v ≤ 2147483647) (g2 : -2147483648 ≤ lo ∧ lo ≤ 2147483647) (g3 : -2147483648 ≤ hi ∧ hi ≤ 2147483647) : e_Ok 20 elay ecode eI d 242 (0, [(0, (0, v)), (1, (0, lo)), (2, (0, hi))], [], w) (fun r w' => ∃ z : Int, r = [(0, z)] ∧ w = w' ∧ ((z = 1 ∧ lo ≤ v ∧ v ≤ hi) ∨ (z = 0 ∧ (v < lo ∨ hi < v)))) := by
  refine e_Ok.run (t' := (2, [(0, (0, v)), (1, (0, lo)), (2, (0, hi))], [(0, v), (0, lo)], w)) 2 rfl ?_
  refine e_Ok.if2 rfl (fun h1 => ?_) (fun h1 => ?_)
  · replace h1 : (lo : Int) > v := h1
    refine e_Ok.run (t' := (15, [(0, (0, v)), (1, (0, lo)), (2, (0, hi))], [(0, 0)], w)) 1 rfl ?_
    refine e_Ok.rets rfl rfl ?_
    exact ⟨_, rfl, rfl, Or.inr ⟨rfl, by omega⟩⟩
  · replace h1 : (lo : Int) ≤ v := by have q : ¬ ((lo : Int) > v) := h1; omega
    refine e_Ok.run (t' := (7, [(0, (0, v)), (1, (0, lo)), (2, (0, hi))], [(0, hi), (0, v)], w)) 2 rfl ?_
    refine e_Ok.if2 rfl (fun h2 => ?_) (fun h2 => ?_)
    · replace h2 : (v : Int) > hi := h2
      refine e_Ok.run (t' := (15, [(0, (0, v)), (1, (0, lo)), (2, (0, hi))], [(0, 0)], w)) 1 rfl ?_
      refine e_Ok.rets rfl rfl ?_
      exact ⟨_, rfl, rfl, Or.inr ⟨rfl, by omega⟩⟩
    · replace h2 : (v : Int) ≤ hi := by have q : ¬ ((v : Int) > hi) := h2; omega
      refine e_Ok.run (t' := (15, [(0, (0, v)), (1, (0, lo)), (2, (0, hi))], [(0, 1)], w)) 2 rfl ?_
      refine e_Ok.rets rfl rfl ?_
      exact ⟨_, rfl, rfl, Or.inl ⟨rfl, by omega, by omega⟩⟩
theorem c_191 {d : Nat} (hd : 22 ≤ d) {w : eW} (hT : e_Has kTy w) (hl : 0 ≤ w 1 0 ∧ w 1 0 ≤ 4000) {a : Int} (g1 : -2147483648 ≤ a ∧ a ≤ 2147483647) : e_Ok 20 elay ecode eI d 191 (0, [(0, (1, 0)), (1, (0, a))], [], w) (fun r w' => ∃ z : Int, r = [(0, z)] ∧ e_fr kTp w w' ∧ e_Has kTy w' ∧ ((0 ≤ a ∧ a ≤ w 1 0 ∧ z = w 1 0 - a ∧ w' 1 0 = w 1 0 - a) ∨ ((a < 0 ∨ w 1 0 < a) ∧ z = -1 ∧ w' 1 0 = w 1 0))) := by
  obtain ⟨d, rfl⟩ : ∃ e, d = e + 1 := ⟨d - 1, by omega⟩
  refine e_Ok.run (t' := (3, [(0, (1, 0)), (1, (0, a))], [(1, 0), (0, 0), (0, a)], w)) 3 rfl ?_
  refine e_Ok.getr (z := 1) rfl rfl rfl rfl (e_Has.eq hT rfl) (by omega) ?_
  refine e_Ok.getf (z := w 1 0) rfl rfl rfl rfl rfl (by omega) ?_
  refine e_Ok.callS rfl (by omega) rfl rfl (c_242 (by omega) (by omega) (by omega)) (fun r1 w2 h3 => ?_)
  obtain ⟨z4, rfl, rfl, q5⟩ := h3
  obtain ⟨rfl, q5⟩ | ⟨rfl, q5⟩ := q5
  · show e_Ok 20 elay ecode eI (d + 1) 191 (12, [(0, (1, 0)), (1, (0, a))], [(0, 1)], w) _
    refine e_Ok.if1 rfl (fun h6 => ?_) (fun h6 => ?_)
    · replace h6 : (1 : Int) ≠ 0 := h6
      refine e_Ok.run (t' := (18, [(0, (1, 0)), (1, (0, a))], [(1, 0)], w)) 1 rfl ?_
      refine e_Ok.getr (z := 1) rfl rfl rfl rfl (e_Has.eq hT rfl) (by omega) ?_
      refine e_Ok.run (t' := (22, [(0, (1, 0)), (1, (0, a))], [(1, 1), (1, 1)], w)) 1 rfl ?_
      refine e_Ok.getf (z := w 1 0) rfl rfl rfl rfl rfl (by omega) ?_
      refine e_Ok.run (t' := (26, [(0, (1, 0)), (1, (0, a))], [(0, a), (0, w 1 0), (1, 1)], w)) 1 rfl ?_
      refine e_Ok.sub' (z := w 1 0 - a) rfl (by omega) (by omega) ?_
      refine e_Ok.putf rfl rfl rfl rfl ?_
      generalize hw7 : e_up w 1 0 (w 1 0 - a) = w7
      have f8 : e_fr kTp w w7 := e_fr.up (e_fr.refl w) hw7 (by unfold kTp; omega)
      have hT9 : e_Has kTy w7 := e_Has.upr hT hw7 rfl (by omega)
      refine e_Ok.run (t' := (31, [(0, (1, 0)), (1, (0, a))], [(1, 0)], w7)) 1 rfl ?_
      refine e_Ok.getr (z := 1) rfl rfl rfl rfl (by rw [← hw7]; exact (e_up_ne _ _ (Or.inl (by omega))).trans (e_Has.eq hT rfl)) (by omega) ?_
      refine e_Ok.getf (z := w 1 0 - a) rfl rfl rfl rfl (by rw [← hw7]; exact e_up_eq _ _ _ _) (by omega) ?_
      refine e_Ok.rets rfl rfl ?_
      have e0 : w7 1 0 = w 1 0 - a := (by rw [← hw7]; exact e_up_eq _ _ _ _)
      exact ⟨_, rfl, f8, hT9, Or.inl ⟨by omega, by omega, by omega, by omega⟩⟩
    · replace h6 : (1 : Int) = 0 := by have q : ¬ ((1 : Int) ≠ 0) := h6; omega
      exfalso; omega
  · show e_Ok 20 elay ecode eI (d + 1) 191 (12, [(0, (1, 0)), (1, (0, a))], [(0, 0)], w) _
    refine e_Ok.if1 rfl (fun h10 => ?_) (fun h10 => ?_)
    · replace h10 : (0 : Int) ≠ 0 := h10
      exfalso; omega
    · replace h10 : (0 : Int) = 0 := by have q : ¬ ((0 : Int) ≠ 0) := h10; omega
      refine e_Ok.run (t' := (16, [(0, (1, 0)), (1, (0, a))], [(0, (-1))], w)) 1 rfl ?_
      refine e_Ok.rets rfl rfl ?_
      exact ⟨_, rfl, e_fr.refl w, hT, Or.inr ⟨by omega, rfl, rfl⟩⟩
end
