-- part 65
section
noncomputable section
/-! how far a joint goes until it rests: d, d - g, d - 2 g .. as far as above 0, together -/
def rW (g d : Int) : Int := (d + g - 1) / g * d - g * ((d + g - 1) / g * ((d + g - 1) / g - 1) / 2)
theorem rW_small {g d : Int} (hg : 1 ≤ g) (h0 : 0 ≤ d) (h1 : d ≤ g) : rW g d = d := by
  unfold rW
  by_cases e : d = 0
  · subst e
    rw [show (0 : Int) + g - 1 = g - 1 by omega, Int.ediv_eq_zero_of_lt (by omega) (by omega)]
    simp
  · have : (d + g - 1) / g = 1 := by
      rw [show d + g - 1 = (d - 1) + 1 * g by omega, Int.add_mul_ediv_right _ _ (by omega), Int.ediv_eq_zero_of_lt (by omega) (by omega)]
      rfl
    rw [this]
    simp
theorem rW_tri (m : Int) : (m + 1) * (m + 1 - 1) / 2 = m * (m - 1) / 2 + m := by
  have e : (m + 1) * (m + 1 - 1) = m * (m - 1) + m * 2 := by
    rw [show m + 1 - 1 = m by omega, Int.add_mul, Int.mul_sub]
    omega
  rw [e, Int.add_mul_ediv_right _ _ (by omega)]
theorem rW_step {g d : Int} (hg : 1 ≤ g) (h : g < d) : rW g d = d + rW g (d - g) := by
  unfold rW
  have e : (d + g - 1) / g = (d - g + g - 1) / g + 1 := by
    rw [show d + g - 1 = (d - g + g - 1) + 1 * g by omega, Int.add_mul_ediv_right _ _ (by omega)]
  rw [e]
  generalize (d - g + g - 1) / g = m
  have e2 : m * (d - g) = m * d - m * g := Int.mul_sub m d g
  have e3 : g * (m * (m - 1) / 2 + m) = g * (m * (m - 1) / 2) + m * g := by rw [Int.mul_add, Int.mul_comm g m]
  have e4 : (m + 1) * d = m * d + d := by rw [Int.add_mul, Int.one_mul]
  rw [rW_tri, e2, e3, e4]
  omega
theorem rW_ge {g : Int} (hg : 1 ≤ g) : ∀ (n : Nat) (d : Int), d ≤ n → 0 ≤ d → d ≤ rW g d := by
  intro n
  induction n with
  | zero => intro d h1 h2; rw [rW_small hg h2 (by omega)]; exact Int.le_refl d
  | succ n ih =>
    intro d h1 h2
    by_cases h : d ≤ g
    · rw [rW_small hg h2 h]; exact Int.le_refl d
    · have := ih (d - g) (by omega) (by omega)
      rw [rW_step hg (by omega)]
      omega
theorem rW_le {g d : Int} (hg : 1 ≤ g) (h : 0 ≤ d) : d ≤ rW g d := rW_ge hg d.toNat d (by omega) h
/-- the joint a, j goes as its limits allow: with the step s at the value v, within lo .. hi; 1: to the goal -/
def joOk (st v s goal lo hi g : Int) : Prop :=
  (lo ≤ v ∧ v ≤ hi) ∧ (st = 0 → s = 0) ∧ (st = 1 → (lo ≤ goal ∧ goal ≤ hi) ∧ (0 ≤ s → 0 < s → rW g s - s ≤ goal - v) ∧ (s < 0 → rW g (-s) + s ≤ v - goal)) ∧ (st = 2 → (0 ≤ s → v + (rW g s - s) ≤ hi) ∧ (s ≤ 0 → lo ≤ v - (rW g (-s) + s)))
/-- one tick of a move: the step d is the greatest that still comes to rest at the goal -/
theorem joOk.go1 {v s goal lo hi g d : Int} (hg : 1 ≤ g) (h : joOk 1 v s goal lo hi g) (hd : (0 ≤ d ∧ (d = 0 ∨ rW g d ≤ goal - v)) ∨ (d ≤ 0 ∧ (d = 0 ∨ rW g (-d) ≤ v - goal))) : joOk 1 (v + d) d goal lo hi g := by
  obtain ⟨h1, -, h3, -⟩ := h
  obtain ⟨h4, -, -⟩ := h3 rfl
  refine ⟨?_, by omega, fun _ => ⟨h4, fun q1 q2 => ?_, fun q => ?_⟩, by omega⟩
  · rcases hd with ⟨k1, k2 | k2⟩ | ⟨k1, k2 | k2⟩
    · omega
    · have := rW_le hg k1; omega
    · omega
    · have := rW_le hg (show 0 ≤ -d by omega); omega
  · rcases hd with ⟨k1, k2 | k2⟩ | ⟨k1, k2 | k2⟩ <;> omega
  · rcases hd with ⟨k1, k2 | k2⟩ | ⟨k1, k2 | k2⟩ <;> omega
/-- a move is broken: it brakes -/
theorem joOk.brake {v s goal lo hi g : Int} (hg : 1 ≤ g) (h : joOk 1 v s goal lo hi g) : joOk 2 v s goal lo hi g := by
  obtain ⟨h1, -, h3, -⟩ := h
  obtain ⟨h4, h5, h6⟩ := h3 rfl
  refine ⟨h1, by omega, by omega, fun _ => ⟨fun q => ?_, fun q => ?_⟩⟩
  · by_cases e : s = 0
    · rw [e, rW_small hg (by omega) (by omega)]; omega
    · have := h5 q (by omega); omega
  · by_cases e : s = 0
    · rw [e, show -(0 : Int) = 0 by omega, rW_small hg (by omega) (by omega)]; omega
    · have := h6 (by omega); omega
/-- one tick of braking -/
theorem joOk.slow {v s goal lo hi g d : Int} (hg : 1 ≤ g) (h : joOk 2 v s goal lo hi g) (hd : (g < s ∧ d = s - g) ∨ (s < -g ∧ d = s + g) ∨ (-g ≤ s ∧ s ≤ g ∧ d = 0)) : joOk 2 (v + d) d goal lo hi g := by
  obtain ⟨h1, -, -, h3⟩ := h
  obtain ⟨h5, h6⟩ := h3 rfl
  have z0 : rW g 0 = 0 := rW_small hg (by omega) (by omega)
  rcases hd with ⟨k1, k2⟩ | ⟨k1, k2⟩ | ⟨k1, k2, k3⟩
  · have e := rW_step hg k1
    have q := h5 (by omega)
    have l := rW_le hg (show 0 ≤ s - g by omega)
    rw [← k2] at e l
    refine ⟨by omega, by omega, by omega, fun _ => ⟨fun _ => by omega, fun q2 => by omega⟩⟩
  · have e := rW_step hg (show g < -s by omega)
    have q := h6 (by omega)
    have l := rW_le hg (show 0 ≤ -s - g by omega)
    rw [show -s - g = -d by omega] at e l
    refine ⟨by omega, by omega, by omega, fun _ => ⟨fun q2 => by omega, fun _ => by omega⟩⟩
  · subst k3
    refine ⟨by omega, by omega, by omega, fun _ => ⟨fun _ => by rw [z0]; omega, fun _ => by rw [show -(0 : Int) = 0 by omega, z0]; omega⟩⟩
theorem rW_bd {g d : Int} (hg : 1 ≤ g ∧ g ≤ 2000) (hd : 0 ≤ d ∧ d ≤ 2000) (z : Int) (hz : z = (d + g - 1) / g) : (0 ≤ z ∧ z ≤ 2000) ∧ (0 ≤ z * d ∧ z * d ≤ 4000000) ∧ (0 ≤ z * (z - 1) ∧ z * (z - 1) ≤ 4000000) ∧ ∀ q, q = z * (z - 1) / 2 → (0 ≤ q ∧ q ≤ 2000000) ∧ (0 ≤ g * q ∧ g * q ≤ 4000000000) ∧ rW g d = z * d - g * q := by
  have h1 : 0 ≤ z := by rw [hz]; exact Int.ediv_nonneg (by omega) (by omega)
  have h2 : z ≤ 2000 := by
    have : z < 2001 := by
      rw [hz]
      refine Int.ediv_lt_of_lt_mul (by omega) ?_
      have := Int.mul_le_mul_of_nonneg_left (show 1 ≤ g from hg.1) (show (0 : Int) ≤ 2001 by decide)
      by_cases e : d = 0
      · omega
      · have h3 : 2000 * 1 ≤ 2000 * g := Int.mul_le_mul_of_nonneg_left hg.1 (by decide)
        omega
    omega
  have m1 : z * d ≤ 2000 * 2000 := Int.mul_le_mul h2 hd.2 hd.1 (by decide)
  have m0 : 0 ≤ z * d := Int.mul_nonneg h1 hd.1
  have n0 : 0 ≤ z * (z - 1) := by
    by_cases e : z = 0
    · rw [e]; decide
    · exact Int.mul_nonneg h1 (by omega)
  have n1 : z * (z - 1) ≤ 4000000 := by
    by_cases e : z = 0
    · rw [e]; decide
    · have : z * (z - 1) ≤ 2000 * 2000 := Int.mul_le_mul h2 (by omega) (by omega) (by decide)
      omega
  refine ⟨⟨h1, h2⟩, ⟨m0, by omega⟩, ⟨n0, n1⟩, fun q hq => ?_⟩
  have q0 : 0 ≤ q := by omega
  have q1 : q ≤ 2000000 := by omega
  have g1 : g * q ≤ 2000 * 2000000 := Int.mul_le_mul hg.2 q1 q0 (by decide)
  have g0 : 0 ≤ g * q := Int.mul_nonneg (by omega) q0
  refine ⟨⟨q0, q1⟩, ⟨g0, by omega⟩, ?_⟩
  unfold rW
  rw [← hz, ← hq]
section E65
variable {fd : Nat} {lay : List eY} {code : Nat → Nat → eE} {I : Nat → xM} {d M nx a b p : Nat} {l : eL} {r : List eV} {w : eW} {Q : List eV → eW → Prop}
theorem e_Ok.ldivn {x y : Int} (h : ∀ z, z = x / y → e_Ok fd lay code I d M (nx, l, (4, z) :: r, w) Q) (hc : code M p = (0, ei_binL eG_div nx, a, b)) (hx : 0 ≤ x ∧ x ≤ 9223372036854775807) (hy : 0 < y) : e_Ok fd lay code I d M (p, l, (4, y) :: (4, x) :: r, w) Q := by
  refine e_Ok.step hc ?_ (h _ rfl)
  have e : eG_div x y = some (4, x / y) := by
    unfold eG_div
    rw [decide_eq_false (by omega), Int.tdiv_eq_ediv_of_nonneg hx.1]
    have h1 : 0 ≤ x / y := Int.ediv_nonneg hx.1 (by omega)
    have h2 : x / y ≤ x := Int.ediv_le_self y hx.1
    rw [e64_id (by omega) (by omega)]
    rfl
  show (match eG_div x y with | some z => _ | none => none) = _
  rw [e]
end E65
end
end
-- part 66
section
noncomputable section
theorem c_386 {d : Nat} {w : eW} {f s v g : Int} (hf : 0 ≤ f ∧ f ≤ 200000) (hg : 1 ≤ g ∧ g ≤ 2000) (hs : -g ≤ s ∧ s ≤ 2000) (hv : 1 ≤ v ∧ v ≤ 2000) : e_Ok 20 elay ecode eI d 386 (0, [(0, (0, f)), (1, (0, s)), (2, (0, v)), (3, (0, g))], [], w) (fun r w' => ∃ z : Int, r = [(0, z)] ∧ w = w' ∧ (0 ≤ z ∧ z ≤ 2000) ∧ (z = 0 ∨ rW g z ≤ f)) := by
  refine e_Ok.ps2 (x := (0, g)) (y := (0, s)) (q := 2) 2 rfl ?_
  refine e_Ok.add (z := s + g) rfl rfl (by omega) ?_
  refine e_Ok.ps1 (x := (0, v)) (q := 4) 1 rfl ?_
  refine e_Ok.if2 rfl (fun h1 => ?_) (fun h1 => ?_)
  · replace h1 : (s + g : Int) ≥ v := h1
    refine e_Ok.run (t' := (18, [(4, (0, v)), (0, (0, f)), (1, (0, s)), (2, (0, v)), (3, (0, g))], [(0, v)], w)) 3 rfl ?_
    refine e_Ok.if1 rfl (fun h2 => ?_) (fun h2 => ?_)
    · replace h2 : (v : Int) > 0 := h2
      refine e_Ok.run (t' := (27, [(5, (0, 0)), (4, (0, v)), (0, (0, f)), (1, (0, s)), (2, (0, v)), (3, (0, g))], [], w)) 2 rfl ?_
      have hL3 : ∀ (nn : Nat) (y4 : Int) (y5 : Int), (0 ≤ y5 ∧ y5 ≤ y4 ∧ y4 ≤ 2000) ∧ (y5 = 0 ∨ rW g y5 ≤ f) → y4 - y5 < nn → e_Ok 20 elay ecode eI d 386 (27, [(0, (0, f)), (3, (0, g)), (4, (0, y4)), (5, (0, y5))], [], w) (fun r w' => ∃ z : Int, r = [(0, z)] ∧ w = w' ∧ (0 ≤ z ∧ z ≤ 2000) ∧ (z = 0 ∨ rW g z ≤ f)) := by
        intro nn
        induction nn with
        | zero => intro y4 y5 hj hm; obtain ⟨j5, j6⟩ := hj; exfalso; omega
        | succ nn ih4 =>
          intro y4 y5 hj hm
          obtain ⟨j5, j6⟩ := hj
          refine e_Ok.run (t' := (31, [(0, (0, f)), (3, (0, g)), (4, (0, y4)), (5, (0, y5))], [(0, y4), (0, y5)], w)) 2 rfl ?_
          refine e_Ok.if2 rfl (fun h7 => ?_) (fun h7 => ?_)
          · replace h7 : (y5 : Int) ≥ y4 := h7
            refine e_Ok.ps1 (x := (0, y5)) (q := 101) 1 rfl ?_
            refine e_Ok.rets rfl rfl ?_
            exact ⟨_, rfl, rfl, by omega, by omega⟩
          · replace h7 : (y5 : Int) < y4 := Int.not_le.mp (show ¬ ((y5 : Int) ≥ y4) from h7)
            refine e_Ok.ps2 (x := (0, y4)) (y := (0, y5)) (q := 38) 2 rfl ?_
            refine e_Ok.add (z := y5 + y4) rfl rfl (by omega) ?_
            refine e_Ok.ps1 (x := (0, 1)) (q := 40) 1 rfl ?_
            refine e_Ok.add (z := y5 + y4 + 1) rfl rfl (by omega) ?_
            refine e_Ok.ps1 (x := (0, 2)) (q := 42) 1 rfl ?_
            refine e_Ok.divn (fun z8 hz8 => ?_) rfl (by omega) (by omega)
            replace hz8 : z8 = (y5 + y4 + 1) / 2 := hz8
            have z8r : 1 ≤ z8 ∧ z8 ≤ 2000 := by omega
            refine e_Ok.run (t' := (48, [(6, (0, z8)), (0, (0, f)), (3, (0, g)), (4, (0, y4)), (5, (0, y5))], [(0, g), (0, z8)], w)) 3 rfl ?_
            refine e_Ok.add (z := z8 + g) rfl rfl (by omega) ?_
            refine e_Ok.ps1 (x := (0, 1)) (q := 50) 1 rfl ?_
            refine e_Ok.sub' (z := z8 + g - 1) rfl rfl (by omega) ?_
            refine e_Ok.ps1 (x := (0, g)) (q := 52) 1 rfl ?_
            refine e_Ok.divn (fun z9 hz9 => ?_) rfl (by omega) (by omega)
            replace hz9 : z9 = (z8 + g - 1) / g := hz9
            refine e_Ok.run (t' := (54, [(6, (0, z8)), (0, (0, f)), (3, (0, g)), (4, (0, y4)), (5, (0, y5))], [(4, z9)], w)) 1 rfl ?_
            have hb := rW_bd (g := g) (d := z8) (by omega) (by omega) z9 hz9
            refine e_Ok.run (t' := (61, [(7, (4, z9)), (6, (0, z8)), (0, (0, f)), (3, (0, g)), (4, (0, y4)), (5, (0, y5))], [(4, z8), (4, z9)], w)) 4 rfl ?_
            refine e_Ok.mulL (z := z9 * z8) rfl (by omega) (by omega) ?_
            refine e_Ok.ps4 (x := (4, 1)) (y := (4, z9)) (z := (4, z9)) (u := (4, g)) (q := 69) 5 rfl ?_
            refine e_Ok.subL (z := z9 - 1) rfl (by omega) (by omega) ?_
            refine e_Ok.mulL (z := z9 * (z9 - 1)) rfl (by omega) (by omega) ?_
            refine e_Ok.ps1 (x := (4, 2)) (q := 74) 1 rfl ?_
            refine e_Ok.ldivn (fun x13 hx13 => ?_) rfl (by omega) (by omega)
            replace hx13 : x13 = (z9 * (z9 - 1)) / 2 := hx13
            have hb2 := hb.2.2.2 x13 hx13
            refine e_Ok.mulL (z := g * x13) rfl (by omega) (by omega) ?_
            refine e_Ok.subL (z := z9 * z8 - g * x13) rfl (by omega) (by omega) ?_
            refine e_Ok.ps1 (x := (4, f)) (q := 79) 2 rfl ?_
            refine e_Ok.lcmp rfl (fun z16 z16a z16b z16c => ?_)
            refine e_Ok.if1 rfl (fun h17 => ?_) (fun h17 => ?_)
            · replace h17 : (z16 : Int) > 0 := h17
              refine e_Ok.ps2 (x := (0, 1)) (y := (0, z8)) (q := 93) 2 rfl ?_
              refine e_Ok.sub' (z := z8 - 1) rfl rfl (by omega) ?_
              refine e_Ok.run (t' := (27, [(4, (0, z8 - 1)), (7, (4, z9)), (6, (0, z8)), (0, (0, f)), (3, (0, g)), (5, (0, y5))], [], w)) 2 rfl ?_
              refine e_Ok.sub eAlk (e_sub_of rfl ?_) (ih4 (z8 - 1) y5 ⟨by omega, by omega⟩ (by omega))
              exact ⟨rfl, rfl, rfl, rfl, trivial⟩
            · replace h17 : (z16 : Int) ≤ 0 := Int.not_lt.mp (show ¬ ((z16 : Int) > 0) from h17)
              refine e_Ok.run (t' := (27, [(5, (0, z8)), (7, (4, z9)), (6, (0, z8)), (0, (0, f)), (3, (0, g)), (4, (0, y4))], [], w)) 4 rfl ?_
              refine e_Ok.sub eAlk (e_sub_of rfl ?_) (ih4 y4 z8 ⟨by omega, by omega⟩ (by omega))
              exact ⟨rfl, rfl, rfl, rfl, trivial⟩
      refine e_Ok.sub eAlk (e_sub_of rfl ?_) (hL3 (2000 + 1 : Int).toNat v 0 ⟨by omega, by omega⟩ (by omega))
      exact ⟨rfl, rfl, rfl, rfl, trivial⟩
    · replace h2 : (v : Int) ≤ 0 := Int.not_lt.mp (show ¬ ((v : Int) > 0) from h2)
      exfalso; omega
  · replace h1 : (s + g : Int) < v := Int.not_le.mp (show ¬ ((s + g : Int) ≥ v) from h1)
    refine e_Ok.ps2 (x := (0, g)) (y := (0, s)) (q := 9) 2 rfl ?_
    refine e_Ok.add (z := s + g) rfl rfl (by omega) ?_
    refine e_Ok.run (t' := (18, [(4, (0, s + g)), (0, (0, f)), (1, (0, s)), (2, (0, v)), (3, (0, g))], [(0, s + g)], w)) 3 rfl ?_
    refine e_Ok.if1 rfl (fun h18 => ?_) (fun h18 => ?_)
    · replace h18 : (s + g : Int) > 0 := h18
      refine e_Ok.run (t' := (27, [(5, (0, 0)), (4, (0, s + g)), (0, (0, f)), (1, (0, s)), (2, (0, v)), (3, (0, g))], [], w)) 2 rfl ?_
      have hL19 : ∀ (nn : Nat) (y4 : Int) (y5 : Int), (0 ≤ y5 ∧ y5 ≤ y4 ∧ y4 ≤ 2000) ∧ (y5 = 0 ∨ rW g y5 ≤ f) → y4 - y5 < nn → e_Ok 20 elay ecode eI d 386 (27, [(0, (0, f)), (3, (0, g)), (4, (0, y4)), (5, (0, y5))], [], w) (fun r w' => ∃ z : Int, r = [(0, z)] ∧ w = w' ∧ (0 ≤ z ∧ z ≤ 2000) ∧ (z = 0 ∨ rW g z ≤ f)) := by
        intro nn
        induction nn with
        | zero => intro y4 y5 hj hm; obtain ⟨j21, j22⟩ := hj; exfalso; omega
        | succ nn ih20 =>
          intro y4 y5 hj hm
          obtain ⟨j21, j22⟩ := hj
          refine e_Ok.run (t' := (31, [(0, (0, f)), (3, (0, g)), (4, (0, y4)), (5, (0, y5))], [(0, y4), (0, y5)], w)) 2 rfl ?_
          refine e_Ok.if2 rfl (fun h23 => ?_) (fun h23 => ?_)
          · replace h23 : (y5 : Int) ≥ y4 := h23
            refine e_Ok.ps1 (x := (0, y5)) (q := 101) 1 rfl ?_
            refine e_Ok.rets rfl rfl ?_
            exact ⟨_, rfl, rfl, by omega, by omega⟩
          · replace h23 : (y5 : Int) < y4 := Int.not_le.mp (show ¬ ((y5 : Int) ≥ y4) from h23)
            refine e_Ok.ps2 (x := (0, y4)) (y := (0, y5)) (q := 38) 2 rfl ?_
            refine e_Ok.add (z := y5 + y4) rfl rfl (by omega) ?_
            refine e_Ok.ps1 (x := (0, 1)) (q := 40) 1 rfl ?_
            refine e_Ok.add (z := y5 + y4 + 1) rfl rfl (by omega) ?_
            refine e_Ok.ps1 (x := (0, 2)) (q := 42) 1 rfl ?_
            refine e_Ok.divn (fun z24 hz24 => ?_) rfl (by omega) (by omega)
            replace hz24 : z24 = (y5 + y4 + 1) / 2 := hz24
            have z24r : 1 ≤ z24 ∧ z24 ≤ 2000 := by omega
            refine e_Ok.run (t' := (48, [(6, (0, z24)), (0, (0, f)), (3, (0, g)), (4, (0, y4)), (5, (0, y5))], [(0, g), (0, z24)], w)) 3 rfl ?_
            refine e_Ok.add (z := z24 + g) rfl rfl (by omega) ?_
            refine e_Ok.ps1 (x := (0, 1)) (q := 50) 1 rfl ?_
            refine e_Ok.sub' (z := z24 + g - 1) rfl rfl (by omega) ?_
            refine e_Ok.ps1 (x := (0, g)) (q := 52) 1 rfl ?_
            refine e_Ok.divn (fun z25 hz25 => ?_) rfl (by omega) (by omega)
            replace hz25 : z25 = (z24 + g - 1) / g := hz25
            refine e_Ok.run (t' := (54, [(6, (0, z24)), (0, (0, f)), (3, (0, g)), (4, (0, y4)), (5, (0, y5))], [(4, z25)], w)) 1 rfl ?_
            have hb := rW_bd (g := g) (d := z24) (by omega) (by omega) z25 hz25
            refine e_Ok.run (t' := (61, [(7, (4, z25)), (6, (0, z24)), (0, (0, f)), (3, (0, g)), (4, (0, y4)), (5, (0, y5))], [(4, z24), (4, z25)], w)) 4 rfl ?_
            refine e_Ok.mulL (z := z25 * z24) rfl (by omega) (by omega) ?_
            refine e_Ok.ps4 (x := (4, 1)) (y := (4, z25)) (z := (4, z25)) (u := (4, g)) (q := 69) 5 rfl ?_
            refine e_Ok.subL (z := z25 - 1) rfl (by omega) (by omega) ?_
            refine e_Ok.mulL (z := z25 * (z25 - 1)) rfl (by omega) (by omega) ?_
            refine e_Ok.ps1 (x := (4, 2)) (q := 74) 1 rfl ?_
            refine e_Ok.ldivn (fun x29 hx29 => ?_) rfl (by omega) (by omega)
            replace hx29 : x29 = (z25 * (z25 - 1)) / 2 := hx29
            have hb2 := hb.2.2.2 x29 hx29
            refine e_Ok.mulL (z := g * x29) rfl (by omega) (by omega) ?_
            refine e_Ok.subL (z := z25 * z24 - g * x29) rfl (by omega) (by omega) ?_
            refine e_Ok.ps1 (x := (4, f)) (q := 79) 2 rfl ?_
            refine e_Ok.lcmp rfl (fun z32 z32a z32b z32c => ?_)
            refine e_Ok.if1 rfl (fun h33 => ?_) (fun h33 => ?_)
            · replace h33 : (z32 : Int) > 0 := h33
              refine e_Ok.ps2 (x := (0, 1)) (y := (0, z24)) (q := 93) 2 rfl ?_
              refine e_Ok.sub' (z := z24 - 1) rfl rfl (by omega) ?_
              refine e_Ok.run (t' := (27, [(4, (0, z24 - 1)), (7, (4, z25)), (6, (0, z24)), (0, (0, f)), (3, (0, g)), (5, (0, y5))], [], w)) 2 rfl ?_
              refine e_Ok.sub eAlk (e_sub_of rfl ?_) (ih20 (z24 - 1) y5 ⟨by omega, by omega⟩ (by omega))
              exact ⟨rfl, rfl, rfl, rfl, trivial⟩
            · replace h33 : (z32 : Int) ≤ 0 := Int.not_lt.mp (show ¬ ((z32 : Int) > 0) from h33)
              refine e_Ok.run (t' := (27, [(5, (0, z24)), (7, (4, z25)), (6, (0, z24)), (0, (0, f)), (3, (0, g)), (4, (0, y4))], [], w)) 4 rfl ?_
              refine e_Ok.sub eAlk (e_sub_of rfl ?_) (ih20 y4 z24 ⟨by omega, by omega⟩ (by omega))
              exact ⟨rfl, rfl, rfl, rfl, trivial⟩
      refine e_Ok.sub eAlk (e_sub_of rfl ?_) (hL19 (2000 + 1 : Int).toNat (s + g) 0 ⟨by omega, by omega⟩ (by omega))
      exact ⟨rfl, rfl, rfl, rfl, trivial⟩
    · replace h18 : (s + g : Int) ≤ 0 := Int.not_lt.mp (show ¬ ((s + g : Int) > 0) from h18)
      refine e_Ok.ps1 (x := (0, s + g)) (q := 23) 1 rfl ?_
      refine e_Ok.rets rfl rfl ?_
      exact ⟨_, rfl, rfl, by omega, by omega⟩
end
end
-- part 66b
section
noncomputable section
theorem fw_bd {g v h e u : Int} (hg : 1 ≤ g ∧ g ≤ 2000) (hv : 1 ≤ v ∧ v ≤ 2000) (hh : 0 ≤ h ∧ h ≤ 200000) (hu : u = v / g) (he : 0 ≤ e ∧ e ≤ u ∧ e ≤ h) : (0 ≤ g * e ∧ g * e ≤ 2000) ∧ (0 ≤ (g * e) * (e + 1) ∧ (g * e) * (e + 1) ≤ 4002000) ∧ (0 ≤ (2 * h - 2 * e) * v ∧ (2 * h - 2 * e) * v ≤ 800000000) ∧ (0 ≤ g * (h + 1) ∧ g * (h + 1) ≤ 400002000) ∧ 2 * h ≤ (g * e) * (e + 1) + (2 * h - 2 * e) * v ∧ 1 ≤ g * (h + 1) := by
  have h1 : g * u ≤ v := by rw [hu, Int.mul_comm]; exact Int.ediv_mul_le v (by omega)
  have h2 : g * e ≤ g * u := Int.mul_le_mul_of_nonneg_left he.2.1 (by omega)
  have h3 : 0 ≤ g * e := Int.mul_nonneg (by omega) he.1
  have h4 : 1 * e ≤ g * e := Int.mul_le_mul_of_nonneg_right hg.1 he.1
  have h5 : (g * e) * (e + 1) ≤ 2000 * 2001 := Int.mul_le_mul (by omega) (by omega) (by omega) (by decide)
  have h6 : 0 ≤ (g * e) * (e + 1) := Int.mul_nonneg h3 (by omega)
  have h7 : 0 ≤ (2 * h - 2 * e) * v := Int.mul_nonneg (by omega) (by omega)
  have h8 : (2 * h - 2 * e) * v ≤ 400000 * 2000 := Int.mul_le_mul (by omega) hv.2 (by omega) (by decide)
  have h9 : (2 * h - 2 * e) * 1 ≤ (2 * h - 2 * e) * v := Int.mul_le_mul_of_nonneg_left hv.1 (by omega)
  have h10 : g * (h + 1) ≤ 2000 * 200001 := Int.mul_le_mul hg.2 (by omega) (by omega) (by decide)
  have h11 : 1 * (h + 1) ≤ g * (h + 1) := Int.mul_le_mul_of_nonneg_right hg.1 (by omega)
  have h12 : 2 * e ≤ (g * e) * (e + 1) := by
    by_cases e0 : e = 0
    · rw [e0]; simp
    · have : (g * e) * 2 ≤ (g * e) * (e + 1) := Int.mul_le_mul_of_nonneg_left (by omega) h3
      omega
  omega
end
end
-- part 67
section
noncomputable section
def mCf (w : eW) : Prop := ∀ a j, 0 ≤ a → a ≤ 3 → 0 ≤ j → j < w 286 a → 1 ≤ w 290 (6 * a + j) ∧ 1 ≤ w 291 (6 * a + j)
def mBe (a c k : Int) : Prop := c = 276 ∧ (k = 36 * a + 16 ∨ k = 36 * a + 24 ∨ k = 36 * a + 25 ∨ k = 36 * a + 27)
theorem c_382 {d : Nat} {w : eW} {f v g : Int} (hf : 0 ≤ f ∧ f ≤ 200000) (hv : 1 ≤ v ∧ v ≤ 2000) (hg : 1 ≤ g ∧ g ≤ 2000) : e_Ok 20 elay ecode eI d 382 (0, [(0, (0, f)), (1, (0, v)), (2, (0, g))], [], w) (fun r w' => ∃ z : Int, r = [(0, z)] ∧ w = w' ∧ 0 ≤ z ∧ z ≤ 200001) := by
  refine e_Ok.run (t' := (5, [(4, (4, 0)), (3, (0, 0)), (0, (0, f)), (1, (0, v)), (2, (0, g))], [], w)) 4 rfl ?_
  have hL1 : ∀ (nn : Nat) (y3 : Int) (y4 : Int), 0 ≤ y3 ∧ y3 ≤ y4 ∧ y3 ≤ f + 1 ∧ y4 ≤ 2000000000 → f + 1 - y3 < nn → e_Ok 20 elay ecode eI d 382 (5, [(0, (0, f)), (1, (0, v)), (2, (0, g)), (3, (0, y3)), (4, (4, y4))], [], w) (fun r w' => ∃ z : Int, r = [(0, z)] ∧ w = w' ∧ 0 ≤ z ∧ z ≤ 200001) := by
    intro nn
    induction nn with
    | zero => intro y3 y4 hj hm; obtain j3 := hj; exfalso; omega
    | succ nn ih2 =>
      intro y3 y4 hj hm
      obtain j3 := hj
      refine e_Ok.run (t' := (9, [(0, (0, f)), (1, (0, v)), (2, (0, g)), (3, (0, y3)), (4, (4, y4))], [(4, f), (4, y4)], w)) 3 rfl ?_
      refine e_Ok.lcmp rfl (fun z4 z4a z4b z4c => ?_)
      refine e_Ok.if1 rfl (fun h5 => ?_) (fun h5 => ?_)
      · replace h5 : (z4 : Int) ≥ 0 := h5
        refine e_Ok.ps1 (x := (0, y3)) (q := 113) 1 rfl ?_
        refine e_Ok.rets rfl rfl ?_
        exact ⟨_, rfl, rfl, by omega, by omega⟩
      · replace h5 : (z4 : Int) < 0 := Int.not_le.mp (show ¬ ((z4 : Int) ≥ 0) from h5)
        refine e_Ok.inc (z := y3 + 1) rfl rfl (by first | with_reducible rfl | omega) (by omega) ?_
        show e_Ok 20 elay ecode eI d 382 (16, [(3, (0, y3 + 1)), (0, (0, f)), (1, (0, v)), (2, (0, g)), (4, (4, y4))], [], w) _
        refine e_Ok.ps2 (x := (0, 2)) (y := (0, y3 + 1)) (q := 18) 2 rfl ?_
        refine e_Ok.divn (fun z6 hz6 => ?_) rfl (by omega) (by omega)
        replace hz6 : z6 = (y3 + 1) / 2 := hz6
        have z6r : 0 ≤ z6 ∧ z6 ≤ 100001 := by omega
        refine e_Ok.run (t' := (23, [(6, (0, z6)), (3, (0, y3 + 1)), (0, (0, f)), (1, (0, v)), (2, (0, g)), (4, (4, y4))], [(0, g), (0, v)], w)) 3 rfl ?_
        refine e_Ok.divn (fun z7 hz7 => ?_) rfl (by omega) (by omega)
        replace hz7 : z7 = v / g := hz7
        refine e_Ok.run (t' := (26, [(7, (0, z7)), (6, (0, z6)), (3, (0, y3 + 1)), (0, (0, f)), (1, (0, v)), (2, (0, g)), (4, (4, y4))], [], w)) 1 rfl ?_
        have hu0 : 0 ≤ z7 := by rw [hz7]; exact Int.ediv_nonneg (by omega) (by omega)
        refine e_Ok.ps2 (x := (0, z7)) (y := (0, z6)) (q := 30) 2 rfl ?_
        refine e_Ok.if2 rfl (fun h8 => ?_) (fun h8 => ?_)
        · replace h8 : (z6 : Int) ≥ z7 := h8
          refine e_Ok.run (t' := (42, [(8, (0, z7)), (7, (0, z7)), (6, (0, z6)), (3, (0, y3 + 1)), (0, (0, f)), (1, (0, v)), (2, (0, g)), (4, (4, y4))], [], w)) 2 rfl ?_
          have hb := fw_bd (g := g) (v := v) (h := z6) (e := z7) (u := z7) (by omega) (by omega) (by omega) hz7 (by omega)
          have hxx : (2 * z6 - 2 * z7) * v = (2 * z6 - 2 * z7) * v := by rw [show (2 * z6 - 2 * z7 : Int) = 2 * z6 - 2 * z7 by omega]
          refine e_Ok.ps2 (x := (4, z7)) (y := (4, g)) (q := 47) 4 rfl ?_
          refine e_Ok.mulL (z := g * z7) rfl (by omega) (by omega) ?_
          refine e_Ok.ps2 (x := (0, 1)) (y := (0, z7)) (q := 51) 2 rfl ?_
          refine e_Ok.add (z := z7 + 1) rfl rfl (by omega) ?_
          refine e_Ok.run (t' := (53, [(8, (0, z7)), (7, (0, z7)), (6, (0, z6)), (3, (0, y3 + 1)), (0, (0, f)), (1, (0, v)), (2, (0, g)), (4, (4, y4))], [(4, z7 + 1), (4, g * z7)], w)) 1 rfl ?_
          refine e_Ok.mulL (z := (g * z7) * (z7 + 1)) rfl (by omega) (by omega) ?_
          refine e_Ok.ps3 (x := (0, z7)) (y := (0, z6)) (z := (4, 2)) (q := 61) 3 rfl ?_
          refine e_Ok.sub' (z := z6 - z7) rfl rfl (by omega) ?_
          refine e_Ok.run (t' := (63, [(8, (0, z7)), (7, (0, z7)), (6, (0, z6)), (3, (0, y3 + 1)), (0, (0, f)), (1, (0, v)), (2, (0, g)), (4, (4, y4))], [(4, z6 - z7), (4, 2), (4, (g * z7) * (z7 + 1))], w)) 1 rfl ?_
          refine e_Ok.mulL (z := 2 * z6 - 2 * z7) rfl (by omega) (by omega) ?_
          refine e_Ok.ps1 (x := (4, v)) (q := 66) 2 rfl ?_
          refine e_Ok.mulL (z := (2 * z6 - 2 * z7) * v) rfl (by omega) (by omega) ?_
          refine e_Ok.addL (z := (g * z7) * (z7 + 1) + (2 * z6 - 2 * z7) * v) rfl (by omega) (by omega) ?_
          refine e_Ok.run (t' := (72, [(4, (4, (g * z7) * (z7 + 1) + (2 * z6 - 2 * z7) * v)), (8, (0, z7)), (7, (0, z7)), (6, (0, z6)), (3, (0, y3 + 1)), (0, (0, f)), (1, (0, v)), (2, (0, g))], [(0, 2), (0, y3 + 1)], w)) 3 rfl ?_
          refine e_Ok.remn (fun z14 hz14 => ?_) rfl (by omega) (by omega)
          replace hz14 : z14 = (y3 + 1) % 2 := hz14
          have z14r : 0 ≤ z14 ∧ z14 ≤ 1 := by omega
          refine e_Ok.ps1 (x := (0, 1)) (q := 74) 1 rfl ?_
          refine e_Ok.if2 rfl (fun h15 => ?_) (fun h15 => ?_)
          · replace h15 : (z14 : Int) ≠ 1 := h15
            refine e_Ok.ps0 (q := 5) 1 rfl ?_
            refine e_Ok.sub eAlk (e_sub_of rfl ?_) (ih2 (y3 + 1) ((g * z7) * (z7 + 1) + (2 * z6 - 2 * z7) * v) (by omega) (by omega))
            exact ⟨rfl, rfl, rfl, rfl, rfl, trivial⟩
          · replace h15 : (z14 : Int) = 1 := Classical.not_not.mp (show ¬ ((z14 : Int) ≠ 1) from h15)
            refine e_Ok.ps4 (x := (0, 1)) (y := (0, z6)) (z := (4, g)) (u := (4, (g * z7) * (z7 + 1) + (2 * z6 - 2 * z7) * v)) (q := 84) 5 rfl ?_
            refine e_Ok.add (z := z6 + 1) rfl rfl (by omega) ?_
            refine e_Ok.run (t' := (86, [(4, (4, (g * z7) * (z7 + 1) + (2 * z6 - 2 * z7) * v)), (8, (0, z7)), (7, (0, z7)), (6, (0, z6)), (3, (0, y3 + 1)), (0, (0, f)), (1, (0, v)), (2, (0, g))], [(4, z6 + 1), (4, g), (4, (g * z7) * (z7 + 1) + (2 * z6 - 2 * z7) * v)], w)) 1 rfl ?_
            refine e_Ok.mulL (z := g * (z6 + 1)) rfl (by omega) (by omega) ?_
            refine e_Ok.ps1 (x := (4, v)) (q := 89) 2 rfl ?_
            refine e_Ok.lcmp rfl (fun z17 z17a z17b z17c => ?_)
            refine e_Ok.if1 rfl (fun h18 => ?_) (fun h18 => ?_)
            · replace h18 : (z17 : Int) ≥ 0 := h18
              refine e_Ok.ps1 (x := (4, v)) (q := 106) 2 rfl ?_
              refine e_Ok.addL (z := (g * z7) * (z7 + 1) + (2 * z6 - 2 * z7) * v + v) rfl (by omega) (by omega) ?_
              refine e_Ok.run (t' := (5, [(4, (4, (g * z7) * (z7 + 1) + (2 * z6 - 2 * z7) * v + v)), (8, (0, z7)), (7, (0, z7)), (6, (0, z6)), (3, (0, y3 + 1)), (0, (0, f)), (1, (0, v)), (2, (0, g))], [], w)) 2 rfl ?_
              refine e_Ok.sub eAlk (e_sub_of rfl ?_) (ih2 (y3 + 1) ((g * z7) * (z7 + 1) + (2 * z6 - 2 * z7) * v + v) (by omega) (by omega))
              exact ⟨rfl, rfl, rfl, rfl, rfl, trivial⟩
            · replace h18 : (z17 : Int) < 0 := Int.not_le.mp (show ¬ ((z17 : Int) ≥ 0) from h18)
              refine e_Ok.ps3 (x := (0, 1)) (y := (0, z6)) (z := (4, g)) (q := 98) 4 rfl ?_
              refine e_Ok.add (z := z6 + 1) rfl rfl (by omega) ?_
              refine e_Ok.run (t' := (100, [(4, (4, (g * z7) * (z7 + 1) + (2 * z6 - 2 * z7) * v)), (8, (0, z7)), (7, (0, z7)), (6, (0, z6)), (3, (0, y3 + 1)), (0, (0, f)), (1, (0, v)), (2, (0, g))], [(4, z6 + 1), (4, g), (4, (g * z7) * (z7 + 1) + (2 * z6 - 2 * z7) * v)], w)) 1 rfl ?_
              refine e_Ok.mulL (z := g * (z6 + 1)) rfl (by omega) (by omega) ?_
              refine e_Ok.ps0 (q := 106) 1 rfl ?_
              refine e_Ok.addL (z := (g * z7) * (z7 + 1) + (2 * z6 - 2 * z7) * v + g * (z6 + 1)) rfl (by omega) (by omega) ?_
              refine e_Ok.run (t' := (5, [(4, (4, (g * z7) * (z7 + 1) + (2 * z6 - 2 * z7) * v + g * (z6 + 1))), (8, (0, z7)), (7, (0, z7)), (6, (0, z6)), (3, (0, y3 + 1)), (0, (0, f)), (1, (0, v)), (2, (0, g))], [], w)) 2 rfl ?_
              refine e_Ok.sub eAlk (e_sub_of rfl ?_) (ih2 (y3 + 1) ((g * z7) * (z7 + 1) + (2 * z6 - 2 * z7) * v + g * (z6 + 1)) (by omega) (by omega))
              exact ⟨rfl, rfl, rfl, rfl, rfl, trivial⟩
        · replace h8 : (z6 : Int) < z7 := Int.not_le.mp (show ¬ ((z6 : Int) ≥ z7) from h8)
          refine e_Ok.run (t' := (42, [(8, (0, z6)), (7, (0, z7)), (6, (0, z6)), (3, (0, y3 + 1)), (0, (0, f)), (1, (0, v)), (2, (0, g)), (4, (4, y4))], [], w)) 3 rfl ?_
          have hb := fw_bd (g := g) (v := v) (h := z6) (e := z6) (u := z7) (by omega) (by omega) (by omega) hz7 (by omega)
          have hxx : (0) * v = (2 * z6 - 2 * z6) * v := by rw [show (0 : Int) = 2 * z6 - 2 * z6 by omega]
          refine e_Ok.ps2 (x := (4, z6)) (y := (4, g)) (q := 47) 4 rfl ?_
          refine e_Ok.mulL (z := g * z6) rfl (by omega) (by omega) ?_
          refine e_Ok.ps2 (x := (0, 1)) (y := (0, z6)) (q := 51) 2 rfl ?_
          refine e_Ok.add (z := z6 + 1) rfl rfl (by omega) ?_
          refine e_Ok.run (t' := (53, [(8, (0, z6)), (7, (0, z7)), (6, (0, z6)), (3, (0, y3 + 1)), (0, (0, f)), (1, (0, v)), (2, (0, g)), (4, (4, y4))], [(4, z6 + 1), (4, g * z6)], w)) 1 rfl ?_
          refine e_Ok.mulL (z := (g * z6) * (z6 + 1)) rfl (by omega) (by omega) ?_
          refine e_Ok.ps3 (x := (0, z6)) (y := (0, z6)) (z := (4, 2)) (q := 61) 3 rfl ?_
          refine e_Ok.sub' (z := 0) rfl (by omega) (by omega) ?_
          refine e_Ok.run (t' := (63, [(8, (0, z6)), (7, (0, z7)), (6, (0, z6)), (3, (0, y3 + 1)), (0, (0, f)), (1, (0, v)), (2, (0, g)), (4, (4, y4))], [(4, 0), (4, 2), (4, (g * z6) * (z6 + 1))], w)) 1 rfl ?_
          refine e_Ok.mulL (z := 0) rfl (by omega) (by omega) ?_
          refine e_Ok.ps1 (x := (4, v)) (q := 66) 2 rfl ?_
          refine e_Ok.mulL (z := 0) rfl (by omega) (by omega) ?_
          refine e_Ok.addL (z := (g * z6) * (z6 + 1)) rfl (by omega) (by omega) ?_
          refine e_Ok.run (t' := (72, [(4, (4, (g * z6) * (z6 + 1))), (8, (0, z6)), (7, (0, z7)), (6, (0, z6)), (3, (0, y3 + 1)), (0, (0, f)), (1, (0, v)), (2, (0, g))], [(0, 2), (0, y3 + 1)], w)) 3 rfl ?_
          refine e_Ok.remn (fun z27 hz27 => ?_) rfl (by omega) (by omega)
          replace hz27 : z27 = (y3 + 1) % 2 := hz27
          have z27r : 0 ≤ z27 ∧ z27 ≤ 1 := by omega
          refine e_Ok.ps1 (x := (0, 1)) (q := 74) 1 rfl ?_
          refine e_Ok.if2 rfl (fun h28 => ?_) (fun h28 => ?_)
          · replace h28 : (z27 : Int) ≠ 1 := h28
            refine e_Ok.ps0 (q := 5) 1 rfl ?_
            refine e_Ok.sub eAlk (e_sub_of rfl ?_) (ih2 (y3 + 1) ((g * z6) * (z6 + 1)) (by omega) (by omega))
            exact ⟨rfl, rfl, rfl, rfl, rfl, trivial⟩
          · replace h28 : (z27 : Int) = 1 := Classical.not_not.mp (show ¬ ((z27 : Int) ≠ 1) from h28)
            refine e_Ok.ps4 (x := (0, 1)) (y := (0, z6)) (z := (4, g)) (u := (4, (g * z6) * (z6 + 1))) (q := 84) 5 rfl ?_
            refine e_Ok.add (z := z6 + 1) rfl rfl (by omega) ?_
            refine e_Ok.run (t' := (86, [(4, (4, (g * z6) * (z6 + 1))), (8, (0, z6)), (7, (0, z7)), (6, (0, z6)), (3, (0, y3 + 1)), (0, (0, f)), (1, (0, v)), (2, (0, g))], [(4, z6 + 1), (4, g), (4, (g * z6) * (z6 + 1))], w)) 1 rfl ?_
            refine e_Ok.mulL (z := g * (z6 + 1)) rfl (by omega) (by omega) ?_
            refine e_Ok.ps1 (x := (4, v)) (q := 89) 2 rfl ?_
            refine e_Ok.lcmp rfl (fun z30 z30a z30b z30c => ?_)
            refine e_Ok.if1 rfl (fun h31 => ?_) (fun h31 => ?_)
            · replace h31 : (z30 : Int) ≥ 0 := h31
              refine e_Ok.ps1 (x := (4, v)) (q := 106) 2 rfl ?_
              refine e_Ok.addL (z := (g * z6) * (z6 + 1) + v) rfl (by omega) (by omega) ?_
              refine e_Ok.run (t' := (5, [(4, (4, (g * z6) * (z6 + 1) + v)), (8, (0, z6)), (7, (0, z7)), (6, (0, z6)), (3, (0, y3 + 1)), (0, (0, f)), (1, (0, v)), (2, (0, g))], [], w)) 2 rfl ?_
              refine e_Ok.sub eAlk (e_sub_of rfl ?_) (ih2 (y3 + 1) ((g * z6) * (z6 + 1) + v) (by omega) (by omega))
              exact ⟨rfl, rfl, rfl, rfl, rfl, trivial⟩
            · replace h31 : (z30 : Int) < 0 := Int.not_le.mp (show ¬ ((z30 : Int) ≥ 0) from h31)
              refine e_Ok.ps3 (x := (0, 1)) (y := (0, z6)) (z := (4, g)) (q := 98) 4 rfl ?_
              refine e_Ok.add (z := z6 + 1) rfl rfl (by omega) ?_
              refine e_Ok.run (t' := (100, [(4, (4, (g * z6) * (z6 + 1))), (8, (0, z6)), (7, (0, z7)), (6, (0, z6)), (3, (0, y3 + 1)), (0, (0, f)), (1, (0, v)), (2, (0, g))], [(4, z6 + 1), (4, g), (4, (g * z6) * (z6 + 1))], w)) 1 rfl ?_
              refine e_Ok.mulL (z := g * (z6 + 1)) rfl (by omega) (by omega) ?_
              refine e_Ok.ps0 (q := 106) 1 rfl ?_
              refine e_Ok.addL (z := (g * z6) * (z6 + 1) + g * (z6 + 1)) rfl (by omega) (by omega) ?_
              refine e_Ok.run (t' := (5, [(4, (4, (g * z6) * (z6 + 1) + g * (z6 + 1))), (8, (0, z6)), (7, (0, z7)), (6, (0, z6)), (3, (0, y3 + 1)), (0, (0, f)), (1, (0, v)), (2, (0, g))], [], w)) 2 rfl ?_
              refine e_Ok.sub eAlk (e_sub_of rfl ?_) (ih2 (y3 + 1) ((g * z6) * (z6 + 1) + g * (z6 + 1)) (by omega) (by omega))
              exact ⟨rfl, rfl, rfl, rfl, rfl, trivial⟩
  refine e_Ok.sub eAlk (e_sub_of rfl ?_) (hL1 (f + 1 + 1 : Int).toNat 0 0 (by omega) (by omega))
  exact ⟨rfl, rfl, rfl, rfl, rfl, trivial⟩
theorem no_67_0 {a : Int} {k : Int} : ¬ mBe a 275 k := by unfold mBe; omega
theorem no_67_1 {a : Int} {k : Int} : ¬ mBe a 286 k := by unfold mBe; omega
theorem no_67_2 {a : Int} {k : Int} : ¬ mBe a 290 k := by unfold mBe; omega
theorem no_67_3 {a : Int} {k : Int} : ¬ mBe a 291 k := by unfold mBe; omega
theorem c_381 {d : Nat} (hd : 21 ≤ d) {w : eW} (hT : e_Has mTy w) (hCf : mCf w) {a : Int} (ha : 0 ≤ a ∧ a ≤ 3) : e_Ok 20 elay ecode eI d 381 (0, [(0, (1, 275)), (1, (0, a))], [], w) (fun r w' => r = [] ∧ e_fr (mBe a) w w' ∧ e_Has mTy w' ∧ w' 276 (36 * a + 16) = 1) := by
  obtain ⟨d, rfl⟩ : ∃ e, d = e + 1 := ⟨d - 1, by omega⟩
  have hja := (e_Has.get hT (c := 286) (k := a) (lo := 0) (hi := 6) (mt_o rfl) (by decide))
  refine e_Ok.ps1 (x := (0, a)) (q := 1) 1 rfl ?_
  refine e_Ok.callS rfl (e_dq hd rfl) rfl rfl (c_268 (by omega)) (fun r1 w2 h3 => ?_)
  obtain ⟨rfl, rfl⟩ := h3
  refine e_Ok.nrm (q := 4) (st' := [(0, 36 * a + 16)]) rfl rfl ?_
  refine e_Ok.run (t' := (6, [(2, (0, 36 * a + 16)), (0, (1, 275)), (1, (0, a))], [(1, 275)], w)) 2 rfl ?_
  refine e_Ok.getr (z := 276) rfl (el_o rfl) rfl (ef_o rfl) (e_Has.eq hT (mt_o rfl)) ⟨by decide, by decide⟩ ?_
  refine e_Ok.ps2 (x := (0, 0)) (y := (0, 36 * a + 16)) (q := 11) 2 rfl ?_
  refine e_Ok.add (z := 36 * a + 16) rfl (e_adl (by decide)) (by omega) ?_
  refine e_Ok.ps1 (x := (0, 1)) (q := 13) 1 rfl ?_
  refine e_Ok.ast rfl (el_o rfl) rfl rfl (by omega) ?_
  generalize hw4 : e_up w 276 (36 * a + 16) 1 = w4
  have hT6 : e_Has mTy w4 := e_Has.upr hT hw4 (nR_STATE (a := a) (by omega)) (by omega)
  refine e_Ok.ps1 (x := (1, 275)) (q := 15) 1 rfl ?_
  refine e_Ok.getr (z := 276) rfl (el_o rfl) rfl (ef_o rfl) (e_uq hw4 (Or.inl (by decide)) (e_Has.eq hT (mt_o rfl))) ⟨by decide, by decide⟩ ?_
  refine e_Ok.ps2 (x := (0, 8)) (y := (0, 36 * a + 16)) (q := 21) 2 rfl ?_
  refine e_Ok.add (z := 36 * a + 24) rfl (e_adl (by decide)) (by omega) ?_
  refine e_Ok.ps1 (x := (0, 0)) (q := 23) 1 rfl ?_
  refine e_Ok.ast rfl (el_o rfl) rfl rfl (by omega) ?_
  generalize hw7 : e_up w4 276 (36 * a + 24) 0 = w7
  have hT9 : e_Has mTy w7 := e_Has.upr hT6 hw7 (nR_TICKS (a := a) (by omega)) (by omega)
  refine e_Ok.ps1 (x := (1, 275)) (q := 25) 1 rfl ?_
  refine e_Ok.getr (z := 276) rfl (el_o rfl) rfl (ef_o rfl) (e_uq hw7 (Or.inl (by decide)) (e_uq hw4 (Or.inl (by decide)) (e_Has.eq hT (mt_o rfl)))) ⟨by decide, by decide⟩ ?_
  refine e_Ok.ps2 (x := (0, 9)) (y := (0, 36 * a + 16)) (q := 31) 2 rfl ?_
  refine e_Ok.add (z := 36 * a + 25) rfl (e_adl (by decide)) (by omega) ?_
  refine e_Ok.ps1 (x := (0, (-1))) (q := 33) 1 rfl ?_
  refine e_Ok.ast rfl (el_o rfl) rfl rfl (by omega) ?_
  generalize hw10 : e_up w7 276 (36 * a + 25) (-1) = w10
  have hT12 : e_Has mTy w10 := e_Has.upr hT9 hw10 (nR_MOVER (a := a) (by omega)) (by omega)
  refine e_Ok.run (t' := (39, [(4, (0, 0)), (3, (0, 0)), (2, (0, 36 * a + 16)), (0, (1, 275)), (1, (0, a))], [], w10)) 4 rfl ?_
  have hL13 : ∀ (nn : Nat) (y3 : Int) (y4 : Int) (v1 : eW), e_fr (mBe a) w v1 ∧ e_Has mTy v1 ∧ (0 ≤ y3 ∧ y3 ≤ 200001 ∧ 0 ≤ y4 ∧ y4 ≤ 6) ∧ v1 276 (36 * a + 16) = 1 → 7 - y4 < nn → e_Ok 20 elay ecode eI (d + 1) 381 (39, [(0, (1, 275)), (1, (0, a)), (2, (0, 36 * a + 16)), (3, (0, y3)), (4, (0, y4))], [], v1) (fun r w' => r = [] ∧ e_fr (mBe a) w w' ∧ e_Has mTy w' ∧ w' 276 (36 * a + 16) = 1) := by
    intro nn
    induction nn with
    | zero => intro y3 y4 v1 hj hm; obtain ⟨j15, j16, j17, j18⟩ := hj; exfalso; omega
    | succ nn ih14 =>
      intro y3 y4 v1 hj hm
      obtain ⟨j15, j16, j17, j18⟩ := hj
      refine e_Ok.run (t' := (42, [(0, (1, 275)), (1, (0, a)), (2, (0, 36 * a + 16)), (3, (0, y3)), (4, (0, y4))], [(1, 275), (0, y4)], v1)) 2 rfl ?_
      refine e_Ok.getr (z := 286) rfl (el_o rfl) rfl (ef_o rfl) ((j15 275 15 (by first | exact no_67_0 | (unfold mBe; omega))).trans (e_Has.eq hT (mt_o rfl))) ⟨by decide, by decide⟩ ?_
      refine e_Ok.ps1 (x := (0, a)) (q := 46) 1 rfl ?_
      have h19 := (e_Has.get hT (c := 286) (k := a) (lo := 0) (hi := 6) (mt_o rfl) (by decide))
      refine e_Ok.ald (z := w 286 a) rfl (el_o rfl) rfl (by omega) ((j15 286 a (by first | exact no_67_1 | (unfold mBe; omega))).trans rfl) (e_bq h19 (by decide) (by decide)) ?_
      refine e_Ok.if2 rfl (fun h20 => ?_) (fun h20 => ?_)
      · replace h20 : (y4 : Int) ≥ w 286 a := h20
        refine e_Ok.ps1 (x := (1, 275)) (q := 139) 1 rfl ?_
        refine e_Ok.getr (z := 276) rfl (el_o rfl) rfl (ef_o rfl) ((j15 275 0 (by first | exact no_67_0 | (unfold mBe; omega))).trans (e_Has.eq hT (mt_o rfl))) ⟨by decide, by decide⟩ ?_
        refine e_Ok.ps2 (x := (0, 11)) (y := (0, 36 * a + 16)) (q := 145) 2 rfl ?_
        refine e_Ok.add (z := 36 * a + 27) rfl (e_adl (by decide)) (by omega) ?_
        refine e_Ok.ps1 (x := (0, y3)) (q := 147) 1 rfl ?_
        refine e_Ok.ast rfl (el_o rfl) rfl rfl (by omega) ?_
        generalize hw21 : e_up v1 276 (36 * a + 27) y3 = w21
        have hT23 : e_Has mTy w21 := e_Has.upr j16 hw21 (nR_FEWEST (a := a) (by omega)) (by omega)
        refine e_Ok.rets rfl rfl ?_
        exact ⟨rfl, (show e_fr (mBe a) w w21 from e_fr.up j15 hw21 (by first | exact ⟨rfl, Or.inr (Or.inr (Or.inr (by omega)))⟩ | (unfold mBe; omega))), hT23, (Eq.trans (e_uq hw21 (Or.inr (by omega)) rfl) j18)⟩
      · replace h20 : (y4 : Int) < w 286 a := Int.not_le.mp (show ¬ ((y4 : Int) ≥ w 286 a) from h20)
        refine e_Ok.ps1 (x := (1, 275)) (q := 51) 1 rfl ?_
        refine e_Ok.getr (z := 276) rfl (el_o rfl) rfl (ef_o rfl) ((j15 275 0 (by first | exact no_67_0 | (unfold mBe; omega))).trans (e_Has.eq hT (mt_o rfl))) ⟨by decide, by decide⟩ ?_
        refine e_Ok.ps2 (x := (0, 28)) (y := (0, 36 * a + 16)) (q := 57) 2 rfl ?_
        refine e_Ok.add (z := 36 * a + 44) rfl (e_adl (by decide)) (by omega) ?_
        refine e_Ok.ps1 (x := (0, y4)) (q := 60) 1 rfl ?_
        refine e_Ok.add (z := 36 * a + y4 + 44) rfl (by omega) (by omega) ?_
        have h24 := (e_Has.get hT (c := 276) (k := 36 * a + y4 + 44) (lo := (-100000)) (hi := 100000) (nR_GOAL (a := a) (j := y4) (by omega) (by omega)) (by decide))
        refine e_Ok.ald (z := w 276 (36 * a + y4 + 44)) rfl (el_o rfl) rfl (by omega) ((j15 276 (36 * a + y4 + 44) (by unfold mBe; omega)).trans rfl) (e_bq h24 (by decide) (by decide)) ?_
        refine e_Ok.ps1 (x := (1, 275)) (q := 63) 1 rfl ?_
        refine e_Ok.getr (z := 276) rfl (el_o rfl) rfl (ef_o rfl) ((j15 275 0 (by first | exact no_67_0 | (unfold mBe; omega))).trans (e_Has.eq hT (mt_o rfl))) ⟨by decide, by decide⟩ ?_
        refine e_Ok.ps2 (x := (0, 16)) (y := (0, 36 * a + 16)) (q := 69) 2 rfl ?_
        refine e_Ok.add (z := 36 * a + 32) rfl (e_adl (by decide)) (by omega) ?_
        refine e_Ok.ps1 (x := (0, y4)) (q := 72) 1 rfl ?_
        refine e_Ok.add (z := 36 * a + y4 + 32) rfl (by omega) (by omega) ?_
        have h25 := (e_Has.get hT (c := 276) (k := 36 * a + y4 + 32) (lo := (-100000)) (hi := 100000) (nR_VALUE (a := a) (j := y4) (by omega) (by omega)) (by decide))
        refine e_Ok.ald (z := w 276 (36 * a + y4 + 32)) rfl (el_o rfl) rfl (by omega) ((j15 276 (36 * a + y4 + 32) (by unfold mBe; omega)).trans rfl) (e_bq h25 (by decide) (by decide)) ?_
        refine e_Ok.sub' (z := w 276 (36 * a + y4 + 44) - w 276 (36 * a + y4 + 32)) rfl rfl (by omega) ?_
        refine e_Ok.run (t' := (79, [(5, (0, w 276 (36 * a + y4 + 44) - w 276 (36 * a + y4 + 32))), (0, (1, 275)), (1, (0, a)), (2, (0, 36 * a + 16)), (3, (0, y3)), (4, (0, y4))], [(0, w 276 (36 * a + y4 + 44) - w 276 (36 * a + y4 + 32))], v1)) 2 rfl ?_
        refine e_Ok.if1 rfl (fun h26 => ?_) (fun h26 => ?_)
        · replace h26 : (w 276 (36 * a + y4 + 44) - w 276 (36 * a + y4 + 32) : Int) ≥ 0 := h26
          refine e_Ok.ps1 (x := (0, w 276 (36 * a + y4 + 44) - w 276 (36 * a + y4 + 32))) (q := 90) 1 rfl ?_
          have hcf := hCf a y4 (by omega) (by omega) (by omega) (by omega)
          have hb290 := e_Has.get hT (c := 290) (k := 6 * a + y4) (lo := 0) (hi := 2000) (mt_o rfl) (by decide)
          have hb291 := e_Has.get hT (c := 291) (k := 6 * a + y4) (lo := 0) (hi := 2000) (mt_o rfl) (by decide)
          refine e_Ok.ps1 (x := (1, 275)) (q := 91) 1 rfl ?_
          refine e_Ok.getr (z := 290) rfl (el_o rfl) rfl (ef_o rfl) ((j15 275 19 (by first | exact no_67_0 | (unfold mBe; omega))).trans (e_Has.eq hT (mt_o rfl))) ⟨by decide, by decide⟩ ?_
          refine e_Ok.ps2 (x := (0, a)) (y := (0, 6)) (q := 97) 2 rfl ?_
          refine e_Ok.mul (z := 6 * a) rfl rfl (by omega) ?_
          refine e_Ok.ps1 (x := (0, y4)) (q := 100) 1 rfl ?_
          refine e_Ok.add (z := 6 * a + y4) rfl rfl (by omega) ?_
          refine e_Ok.ald (z := w 290 (6 * a + y4)) rfl (el_o rfl) rfl (by omega) ((j15 290 (6 * a + y4) (by first | exact no_67_2 | (unfold mBe; omega))).trans rfl) (by omega) ?_
          refine e_Ok.ps1 (x := (1, 275)) (q := 103) 1 rfl ?_
          refine e_Ok.getr (z := 291) rfl (el_o rfl) rfl (ef_o rfl) ((j15 275 20 (by first | exact no_67_0 | (unfold mBe; omega))).trans (e_Has.eq hT (mt_o rfl))) ⟨by decide, by decide⟩ ?_
          refine e_Ok.ps2 (x := (0, a)) (y := (0, 6)) (q := 109) 2 rfl ?_
          refine e_Ok.mul (z := 6 * a) rfl rfl (by omega) ?_
          refine e_Ok.ps1 (x := (0, y4)) (q := 112) 1 rfl ?_
          refine e_Ok.add (z := 6 * a + y4) rfl rfl (by omega) ?_
          refine e_Ok.ald (z := w 291 (6 * a + y4)) rfl (el_o rfl) rfl (by omega) ((j15 291 (6 * a + y4) (by first | exact no_67_3 | (unfold mBe; omega))).trans rfl) (by omega) ?_
          refine e_Ok.callS rfl (e_dq hd rfl) rfl rfl (c_382 (by omega) (by omega) (by omega)) (fun r27 w28 h29 => ?_)
          obtain ⟨z30, rfl, rfl, q31a, q31b⟩ := h29
          refine e_Ok.nrm (q := 117) (st' := [(0, z30)]) rfl rfl ?_
          refine e_Ok.run (t' := (122, [(6, (0, z30)), (5, (0, w 276 (36 * a + y4 + 44) - w 276 (36 * a + y4 + 32))), (0, (1, 275)), (1, (0, a)), (2, (0, 36 * a + 16)), (3, (0, y3)), (4, (0, y4))], [(0, y3), (0, z30)], v1)) 3 rfl ?_
          refine e_Ok.if2 rfl (fun h32 => ?_) (fun h32 => ?_)
          · replace h32 : (z30 : Int) ≤ y3 := h32
            refine e_Ok.run (t' := (132, [(3, (0, y3)), (6, (0, z30)), (5, (0, w 276 (36 * a + y4 + 44) - w 276 (36 * a + y4 + 32))), (0, (1, 275)), (1, (0, a)), (2, (0, 36 * a + 16)), (4, (0, y4))], [], v1)) 2 rfl ?_
            refine e_Ok.inc (z := y4 + 1) rfl rfl (by first | with_reducible rfl | omega) (by omega) ?_
            show e_Ok 20 elay ecode eI (d + 1) 381 (135, [(4, (0, y4 + 1)), (3, (0, y3)), (6, (0, z30)), (5, (0, w 276 (36 * a + y4 + 44) - w 276 (36 * a + y4 + 32))), (0, (1, 275)), (1, (0, a)), (2, (0, 36 * a + 16))], [], v1) _
            refine e_Ok.ps0 (q := 39) 1 rfl ?_
            refine e_Ok.sub eAlk (e_sub_of rfl ?_) (ih14 y3 (y4 + 1) v1 ⟨j15, j16, by omega, j18⟩ (by omega))
            exact ⟨rfl, rfl, rfl, rfl, rfl, trivial⟩
          · replace h32 : (z30 : Int) > y3 := Int.not_le.mp (show ¬ ((z30 : Int) ≤ y3) from h32)
            refine e_Ok.run (t' := (132, [(3, (0, z30)), (6, (0, z30)), (5, (0, w 276 (36 * a + y4 + 44) - w 276 (36 * a + y4 + 32))), (0, (1, 275)), (1, (0, a)), (2, (0, 36 * a + 16)), (4, (0, y4))], [], v1)) 3 rfl ?_
            refine e_Ok.inc (z := y4 + 1) rfl rfl (by first | with_reducible rfl | omega) (by omega) ?_
            show e_Ok 20 elay ecode eI (d + 1) 381 (135, [(4, (0, y4 + 1)), (3, (0, z30)), (6, (0, z30)), (5, (0, w 276 (36 * a + y4 + 44) - w 276 (36 * a + y4 + 32))), (0, (1, 275)), (1, (0, a)), (2, (0, 36 * a + 16))], [], v1) _
            refine e_Ok.ps0 (q := 39) 1 rfl ?_
            refine e_Ok.sub eAlk (e_sub_of rfl ?_) (ih14 z30 (y4 + 1) v1 ⟨j15, j16, by omega, j18⟩ (by omega))
            exact ⟨rfl, rfl, rfl, rfl, rfl, trivial⟩
        · replace h26 : (w 276 (36 * a + y4 + 44) - w 276 (36 * a + y4 + 32) : Int) < 0 := Int.not_le.mp (show ¬ ((w 276 (36 * a + y4 + 44) - w 276 (36 * a + y4 + 32) : Int) ≥ 0) from h26)
          refine e_Ok.ps1 (x := (0, w 276 (36 * a + y4 + 44) - w 276 (36 * a + y4 + 32))) (q := 84) 1 rfl ?_
          refine e_Ok.neg (z := -w 276 (36 * a + y4 + 44) + w 276 (36 * a + y4 + 32)) rfl (by omega) (by omega) ?_
          refine e_Ok.ps0 (q := 90) 1 rfl ?_
          have hcf := hCf a y4 (by omega) (by omega) (by omega) (by omega)
          have hb290 := e_Has.get hT (c := 290) (k := 6 * a + y4) (lo := 0) (hi := 2000) (mt_o rfl) (by decide)
          have hb291 := e_Has.get hT (c := 291) (k := 6 * a + y4) (lo := 0) (hi := 2000) (mt_o rfl) (by decide)
          refine e_Ok.ps1 (x := (1, 275)) (q := 91) 1 rfl ?_
          refine e_Ok.getr (z := 290) rfl (el_o rfl) rfl (ef_o rfl) ((j15 275 19 (by first | exact no_67_0 | (unfold mBe; omega))).trans (e_Has.eq hT (mt_o rfl))) ⟨by decide, by decide⟩ ?_
          refine e_Ok.ps2 (x := (0, a)) (y := (0, 6)) (q := 97) 2 rfl ?_
          refine e_Ok.mul (z := 6 * a) rfl rfl (by omega) ?_
          refine e_Ok.ps1 (x := (0, y4)) (q := 100) 1 rfl ?_
          refine e_Ok.add (z := 6 * a + y4) rfl rfl (by omega) ?_
          refine e_Ok.ald (z := w 290 (6 * a + y4)) rfl (el_o rfl) rfl (by omega) ((j15 290 (6 * a + y4) (by first | exact no_67_2 | (unfold mBe; omega))).trans rfl) (by omega) ?_
          refine e_Ok.ps1 (x := (1, 275)) (q := 103) 1 rfl ?_
          refine e_Ok.getr (z := 291) rfl (el_o rfl) rfl (ef_o rfl) ((j15 275 20 (by first | exact no_67_0 | (unfold mBe; omega))).trans (e_Has.eq hT (mt_o rfl))) ⟨by decide, by decide⟩ ?_
          refine e_Ok.ps2 (x := (0, a)) (y := (0, 6)) (q := 109) 2 rfl ?_
          refine e_Ok.mul (z := 6 * a) rfl rfl (by omega) ?_
          refine e_Ok.ps1 (x := (0, y4)) (q := 112) 1 rfl ?_
          refine e_Ok.add (z := 6 * a + y4) rfl rfl (by omega) ?_
          refine e_Ok.ald (z := w 291 (6 * a + y4)) rfl (el_o rfl) rfl (by omega) ((j15 291 (6 * a + y4) (by first | exact no_67_3 | (unfold mBe; omega))).trans rfl) (by omega) ?_
          refine e_Ok.callS rfl (e_dq hd rfl) rfl rfl (c_382 (by omega) (by omega) (by omega)) (fun r33 w34 h35 => ?_)
          obtain ⟨z36, rfl, rfl, q37a, q37b⟩ := h35
          refine e_Ok.nrm (q := 117) (st' := [(0, z36)]) rfl rfl ?_
          refine e_Ok.run (t' := (122, [(6, (0, z36)), (5, (0, w 276 (36 * a + y4 + 44) - w 276 (36 * a + y4 + 32))), (0, (1, 275)), (1, (0, a)), (2, (0, 36 * a + 16)), (3, (0, y3)), (4, (0, y4))], [(0, y3), (0, z36)], v1)) 3 rfl ?_
          refine e_Ok.if2 rfl (fun h38 => ?_) (fun h38 => ?_)
          · replace h38 : (z36 : Int) ≤ y3 := h38
            refine e_Ok.run (t' := (132, [(3, (0, y3)), (6, (0, z36)), (5, (0, w 276 (36 * a + y4 + 44) - w 276 (36 * a + y4 + 32))), (0, (1, 275)), (1, (0, a)), (2, (0, 36 * a + 16)), (4, (0, y4))], [], v1)) 2 rfl ?_
            refine e_Ok.inc (z := y4 + 1) rfl rfl (by first | with_reducible rfl | omega) (by omega) ?_
            show e_Ok 20 elay ecode eI (d + 1) 381 (135, [(4, (0, y4 + 1)), (3, (0, y3)), (6, (0, z36)), (5, (0, w 276 (36 * a + y4 + 44) - w 276 (36 * a + y4 + 32))), (0, (1, 275)), (1, (0, a)), (2, (0, 36 * a + 16))], [], v1) _
            refine e_Ok.ps0 (q := 39) 1 rfl ?_
            refine e_Ok.sub eAlk (e_sub_of rfl ?_) (ih14 y3 (y4 + 1) v1 ⟨j15, j16, by omega, j18⟩ (by omega))
            exact ⟨rfl, rfl, rfl, rfl, rfl, trivial⟩
          · replace h38 : (z36 : Int) > y3 := Int.not_le.mp (show ¬ ((z36 : Int) ≤ y3) from h38)
            refine e_Ok.run (t' := (132, [(3, (0, z36)), (6, (0, z36)), (5, (0, w 276 (36 * a + y4 + 44) - w 276 (36 * a + y4 + 32))), (0, (1, 275)), (1, (0, a)), (2, (0, 36 * a + 16)), (4, (0, y4))], [], v1)) 3 rfl ?_
            refine e_Ok.inc (z := y4 + 1) rfl rfl (by first | with_reducible rfl | omega) (by omega) ?_
            show e_Ok 20 elay ecode eI (d + 1) 381 (135, [(4, (0, y4 + 1)), (3, (0, z36)), (6, (0, z36)), (5, (0, w 276 (36 * a + y4 + 44) - w 276 (36 * a + y4 + 32))), (0, (1, 275)), (1, (0, a)), (2, (0, 36 * a + 16))], [], v1) _
            refine e_Ok.ps0 (q := 39) 1 rfl ?_
            refine e_Ok.sub eAlk (e_sub_of rfl ?_) (ih14 z36 (y4 + 1) v1 ⟨j15, j16, by omega, j18⟩ (by omega))
            exact ⟨rfl, rfl, rfl, rfl, rfl, trivial⟩
  refine e_Ok.sub eAlk (e_sub_of rfl ?_) (hL13 (7 + 1 : Int).toNat 0 0 w10 ⟨(show e_fr (mBe a) w w10 from e_fr.up (show e_fr (mBe a) w w7 from e_fr.up (show e_fr (mBe a) w w4 from e_fr.up (e_fr.refl w) hw4 (by first | exact ⟨rfl, Or.inl (by omega)⟩ | (unfold mBe; omega))) hw7 (by first | exact ⟨rfl, Or.inr (Or.inl (by omega))⟩ | (unfold mBe; omega))) hw10 (by first | exact ⟨rfl, Or.inr (Or.inr (Or.inl (by omega)))⟩ | (unfold mBe; omega))), hT12, by omega, (e_uq hw10 (Or.inr (by omega)) (e_uq hw7 (Or.inr (by omega)) (e_ue hw4)))⟩ (by omega))
  exact ⟨rfl, rfl, rfl, rfl, rfl, trivial⟩
end
end
-- part 68
section
noncomputable section
theorem e_Has.task0 {w w' : eW} {t f : Int} (h : e_Has mTy w) (ht : 0 ≤ t ∧ t ≤ 15) (hf : 0 ≤ f ∧ f ≤ 19) (hw : e_up w 276 (1260 * t + f + 416) 0 = w') : e_Has mTy w' := by
  refine h.up hw (fun _ => ?_)
  have e : mTy 276 (1260 * t + f + 416) = nTask f := by
    show nowR _ = _
    unfold nowR
    rw [if_neg (by omega), if_neg (by omega), if_neg (by omega), if_neg (by omega), if_neg (by omega), if_pos (by omega), show (1260 * t + f + 416 - 416) % 1260 = f by omega]
  rw [e]
  unfold nTask
  rw [if_pos (by omega)]
  have hs : ∀ x : Int, 0 ≤ x ∧ x ≤ 19 → x = 0 ∨ x = 1 ∨ x = 2 ∨ x = 3 ∨ x = 4 ∨ x = 5 ∨ x = 6 ∨ x = 7 ∨ x = 8 ∨ x = 9 ∨ x = 10 ∨ x = 11 ∨ x = 12 ∨ x = 13 ∨ x = 14 ∨ x = 15 ∨ x = 16 ∨ x = 17 ∨ x = 18 ∨ x = 19 := fun x h => by omega
  rcases hs f hf with h | h | h | h | h | h | h | h | h | h | h | h | h | h | h | h | h | h | h | h <;> subst h <;> decide
def mNt (z c k : Int) : Prop := c = 276 ∧ 1260 * z + 416 ≤ k ∧ k ≤ 1260 * z + 437
end
end
-- part 69
section
noncomputable section
theorem no_69_0 {z : Int} {k : Int} : ¬ mNt z 275 k := by unfold mNt; omega
theorem no_69_1 {z : Int} {k : Int} : ¬ mNt z 337 k := by unfold mNt; omega
set_option maxHeartbeats 4000000 in
theorem c_359 {d : Nat} (hd : 21 ≤ d) {w : eW} (hT : e_Has mTy w) {a q : Int} (ha : 0 ≤ a ∧ a ≤ 3) (hq : 0 ≤ q ∧ q ≤ 31) (hent : 0 ≤ w 337 (32 * a + q) ∧ w 337 (32 * a + q) ≤ 9999) (htm : w 276 0 ≤ 6000) : e_Ok 20 elay ecode eI d 359 (0, [(0, (1, 275)), (1, (0, a)), (2, (0, q))], [], w) (fun r w' => ∃ z : Int, r = [(0, z)] ∧ ((z = -1 ∧ w = w') ∨ ((0 ≤ z ∧ z ≤ 15) ∧ (w 276 (1260 * z + 416) = 0 ∨ w 276 (1260 * z + 416) = 6) ∧ e_fr (mNt z) w w' ∧ e_Has mTy w' ∧ w' 276 (1260 * z + 416) = 1 ∧ w' 276 (1260 * z + 417) = a ∧ w' 276 (1260 * z + 424) = -1 ∧ w' 276 (1260 * z + 428) = 1 ∧ w' 276 (1260 * z + 429) = 0 ∧ w' 276 (1260 * z + 436) = w 337 (32 * a + q) ∧ w' 276 (1260 * z + 437) = 0))) := by
  obtain ⟨d, rfl⟩ : ∃ e, d = e + 1 := ⟨d - 1, by omega⟩
  have ht0 := e_Has.get hT (c := 276) (k := 0) (lo := 0) (hi := 6000) (mt_o rfl) (by decide)
  refine e_Ok.run (t' := (2, [(3, (0, 0)), (0, (1, 275)), (1, (0, a)), (2, (0, q))], [], w)) 2 rfl ?_
  have hL1 : ∀ (nn : Nat) (y3 : Int), 0 ≤ y3 ∧ y3 ≤ 16 → 17 - y3 < nn → e_Ok 20 elay ecode eI (d + 1) 359 (2, [(0, (1, 275)), (1, (0, a)), (2, (0, q)), (3, (0, y3))], [], w) (fun r w' => ∃ z : Int, r = [(0, z)] ∧ ((z = -1 ∧ w = w') ∨ ((0 ≤ z ∧ z ≤ 15) ∧ (w 276 (1260 * z + 416) = 0 ∨ w 276 (1260 * z + 416) = 6) ∧ e_fr (mNt z) w w' ∧ e_Has mTy w' ∧ w' 276 (1260 * z + 416) = 1 ∧ w' 276 (1260 * z + 417) = a ∧ w' 276 (1260 * z + 424) = -1 ∧ w' 276 (1260 * z + 428) = 1 ∧ w' 276 (1260 * z + 429) = 0 ∧ w' 276 (1260 * z + 436) = w 337 (32 * a + q) ∧ w' 276 (1260 * z + 437) = 0))) := by
    intro nn
    induction nn with
    | zero => intro y3 hj hm; obtain j3 := hj; exfalso; omega
    | succ nn ih2 =>
      intro y3 hj hm
      obtain j3 := hj
      refine e_Ok.run (t' := (5, [(0, (1, 275)), (1, (0, a)), (2, (0, q)), (3, (0, y3))], [(0, 16), (0, y3)], w)) 2 rfl ?_
      refine e_Ok.if2 rfl (fun h4 => ?_) (fun h4 => ?_)
      · replace h4 : (y3 : Int) ≥ 16 := h4
        refine e_Ok.ps2 (x := (0, 16)) (y := (0, y3)) (q := 43) 2 rfl ?_
        refine e_Ok.if2 rfl (fun h5 => ?_) (fun h5 => ?_)
        · replace h5 : (y3 : Int) ≠ 16 := h5
          exfalso; omega
        · replace h5 : (y3 : Int) = 16 := Classical.not_not.mp (show ¬ ((y3 : Int) ≠ 16) from h5)
          refine e_Ok.ps1 (x := (0, (-1))) (q := 47) 1 rfl ?_
          refine e_Ok.rets rfl rfl ?_
          exact ⟨_, rfl, Or.inl ⟨rfl, rfl⟩⟩
      · replace h4 : (y3 : Int) < 16 := Int.not_le.mp (show ¬ ((y3 : Int) ≥ 16) from h4)
        refine e_Ok.ps1 (x := (1, 275)) (q := 9) 1 rfl ?_
        refine e_Ok.getr (z := 276) rfl (el_o rfl) rfl (ef_o rfl) (e_Has.eq hT (mt_o rfl)) ⟨by decide, by decide⟩ ?_
        refine e_Ok.ps1 (x := (0, y3)) (q := 13) 1 rfl ?_
        refine e_Ok.callS rfl (e_dq hd rfl) rfl rfl (c_269 (by omega)) (fun r6 w7 h8 => ?_)
        obtain ⟨rfl, rfl⟩ := h8
        refine e_Ok.nrm (q := 16) (st' := [(0, 1260 * y3 + 416), (1, 276)]) rfl rfl ?_
        have h9 := (e_Has.get hT (c := 276) (k := 1260 * y3 + 416) (lo := 0) (hi := 7) (nR_TSTATE (t := y3) (by omega)) (by decide))
        refine e_Ok.ald (z := w 276 (1260 * y3 + 416)) rfl (el_o rfl) rfl (by omega) rfl (e_bq h9 (by decide) (by decide)) ?_
        refine e_Ok.if1 rfl (fun h10 => ?_) (fun h10 => ?_)
        · replace h10 : (w 276 (1260 * y3 + 416) : Int) = 0 := h10
          refine e_Ok.ps2 (x := (0, 16)) (y := (0, y3)) (q := 43) 2 rfl ?_
          refine e_Ok.if2 rfl (fun h11 => ?_) (fun h11 => ?_)
          · replace h11 : (y3 : Int) ≠ 16 := h11
            refine e_Ok.ps1 (x := (0, y3)) (q := 49) 1 rfl ?_
            refine e_Ok.callS rfl (e_dq hd rfl) rfl rfl (c_269 (by omega)) (fun r12 w13 h14 => ?_)
            obtain ⟨rfl, rfl⟩ := h14
            refine e_Ok.nrm (q := 52) (st' := [(0, 1260 * y3 + 416)]) rfl rfl ?_
            refine e_Ok.run (t' := (57, [(5, (0, 0)), (4, (0, 1260 * y3 + 416)), (0, (1, 275)), (1, (0, a)), (2, (0, q)), (3, (0, y3))], [], w)) 3 rfl ?_
            have hL15 : ∀ (nn : Nat) (y5 : Int) (v2 : eW), e_fr (mNt y3) w v2 ∧ e_Has mTy v2 ∧ (0 ≤ y5 ∧ y5 ≤ 20) ∧ (∀ j, 0 ≤ j → j < y5 → v2 276 (1260 * y3 + j + 416) = 0) → 21 - y5 < nn → e_Ok 20 elay ecode eI (d + 1) 359 (57, [(0, (1, 275)), (1, (0, a)), (2, (0, q)), (3, (0, y3)), (4, (0, 1260 * y3 + 416)), (5, (0, y5))], [], v2) (fun r w' => ∃ z : Int, r = [(0, z)] ∧ ((z = -1 ∧ w = w') ∨ ((0 ≤ z ∧ z ≤ 15) ∧ (w 276 (1260 * z + 416) = 0 ∨ w 276 (1260 * z + 416) = 6) ∧ e_fr (mNt z) w w' ∧ e_Has mTy w' ∧ w' 276 (1260 * z + 416) = 1 ∧ w' 276 (1260 * z + 417) = a ∧ w' 276 (1260 * z + 424) = -1 ∧ w' 276 (1260 * z + 428) = 1 ∧ w' 276 (1260 * z + 429) = 0 ∧ w' 276 (1260 * z + 436) = w 337 (32 * a + q) ∧ w' 276 (1260 * z + 437) = 0))) := by
              intro nn
              induction nn with
              | zero => intro y5 v2 hj hm; obtain ⟨j17, j18, j19, j20⟩ := hj; exfalso; omega
              | succ nn ih16 =>
                intro y5 v2 hj hm
                obtain ⟨j17, j18, j19, j20⟩ := hj
                refine e_Ok.run (t' := (61, [(0, (1, 275)), (1, (0, a)), (2, (0, q)), (3, (0, y3)), (4, (0, 1260 * y3 + 416)), (5, (0, y5))], [(0, 20), (0, y5)], v2)) 2 rfl ?_
                refine e_Ok.if2 rfl (fun h21 => ?_) (fun h21 => ?_)
                · replace h21 : (y5 : Int) ≥ 20 := h21
                  refine e_Ok.ps1 (x := (1, 275)) (q := 82) 1 rfl ?_
                  refine e_Ok.getr (z := 276) rfl (el_o rfl) rfl (ef_o rfl) ((j17 275 0 (by first | exact no_69_0 | (unfold mNt; omega))).trans (e_Has.eq hT (mt_o rfl))) ⟨by decide, by decide⟩ ?_
                  refine e_Ok.ps2 (x := (0, 1)) (y := (0, 1260 * y3 + 416)) (q := 88) 2 rfl ?_
                  refine e_Ok.ast rfl (el_o rfl) rfl rfl (by omega) ?_
                  generalize hw22 : e_up v2 276 (1260 * y3 + 416) 1 = w22
                  have hT24 : e_Has mTy w22 := e_Has.upr j18 hw22 (nR_TSTATE (t := y3) (by omega)) (by omega)
                  refine e_Ok.ps1 (x := (1, 275)) (q := 90) 1 rfl ?_
                  refine e_Ok.getr (z := 276) rfl (el_o rfl) rfl (ef_o rfl) (e_uq hw22 (Or.inl (by decide)) ((j17 275 0 (by first | exact no_69_0 | (unfold mNt; omega))).trans (e_Has.eq hT (mt_o rfl)))) ⟨by decide, by decide⟩ ?_
                  refine e_Ok.ps2 (x := (0, 1)) (y := (0, 1260 * y3 + 416)) (q := 96) 2 rfl ?_
                  refine e_Ok.add (z := 1260 * y3 + 417) rfl (e_adl (by decide)) (by omega) ?_
                  refine e_Ok.ps1 (x := (0, a)) (q := 98) 1 rfl ?_
                  refine e_Ok.ast rfl (el_o rfl) rfl rfl (by omega) ?_
                  generalize hw25 : e_up w22 276 (1260 * y3 + 417) a = w25
                  have hT27 : e_Has mTy w25 := e_Has.upr hT24 hw25 (nR_TASK_ARM (t := y3) (by omega)) (by omega)
                  refine e_Ok.ps1 (x := (1, 275)) (q := 100) 1 rfl ?_
                  refine e_Ok.getr (z := 276) rfl (el_o rfl) rfl (ef_o rfl) (e_uq hw25 (Or.inl (by decide)) (e_uq hw22 (Or.inl (by decide)) ((j17 275 0 (by first | exact no_69_0 | (unfold mNt; omega))).trans (e_Has.eq hT (mt_o rfl))))) ⟨by decide, by decide⟩ ?_
                  refine e_Ok.ps2 (x := (0, 8)) (y := (0, 1260 * y3 + 416)) (q := 107) 2 rfl ?_
                  refine e_Ok.add (z := 1260 * y3 + 424) rfl (e_adl (by decide)) (by omega) ?_
                  refine e_Ok.ps1 (x := (0, (-1))) (q := 109) 1 rfl ?_
                  refine e_Ok.ast rfl (el_o rfl) rfl rfl (by omega) ?_
                  generalize hw28 : e_up w25 276 (1260 * y3 + 424) (-1) = w28
                  have hT30 : e_Has mTy w28 := e_Has.upr hT27 hw28 (nR_WATCHED (t := y3) (by omega)) (by omega)
                  refine e_Ok.ps1 (x := (1, 275)) (q := 111) 1 rfl ?_
                  refine e_Ok.getr (z := 276) rfl (el_o rfl) rfl (ef_o rfl) (e_uq hw28 (Or.inl (by decide)) (e_uq hw25 (Or.inl (by decide)) (e_uq hw22 (Or.inl (by decide)) ((j17 275 0 (by first | exact no_69_0 | (unfold mNt; omega))).trans (e_Has.eq hT (mt_o rfl)))))) ⟨by decide, by decide⟩ ?_
                  refine e_Ok.ps2 (x := (0, 11)) (y := (0, 1260 * y3 + 416)) (q := 118) 2 rfl ?_
                  refine e_Ok.add (z := 1260 * y3 + 427) rfl (e_adl (by decide)) (by omega) ?_
                  refine e_Ok.ps1 (x := (1, 275)) (q := 120) 1 rfl ?_
                  refine e_Ok.getr (z := 276) rfl (el_o rfl) rfl (ef_o rfl) (e_uq hw28 (Or.inl (by decide)) (e_uq hw25 (Or.inl (by decide)) (e_uq hw22 (Or.inl (by decide)) ((j17 275 0 (by first | exact no_69_0 | (unfold mNt; omega))).trans (e_Has.eq hT (mt_o rfl)))))) ⟨by decide, by decide⟩ ?_
                  refine e_Ok.ps1 (x := (0, 0)) (q := 124) 1 rfl ?_
                  refine e_Ok.ald (z := w 276 0) rfl (el_o rfl) rfl (by omega) (e_uq hw28 (Or.inr (by omega)) (e_uq hw25 (Or.inr (by omega)) (e_uq hw22 (Or.inr (by omega)) ((j17 276 0 (by unfold mNt; omega)).trans rfl)))) (by omega) ?_
                  refine e_Ok.ps1 (x := (0, 1)) (q := 126) 1 rfl ?_
                  refine e_Ok.add (z := w 276 0 + 1) rfl rfl (by omega) ?_
                  refine e_Ok.ast rfl (el_o rfl) rfl rfl (by omega) ?_
                  generalize hw31 : e_up w28 276 (1260 * y3 + 427) (w 276 0 + 1) = w31
                  have hT33 : e_Has mTy w31 := e_Has.upr hT30 hw31 (nR_ACTS (t := y3) (by omega)) (by omega)
                  refine e_Ok.ps1 (x := (1, 275)) (q := 129) 1 rfl ?_
                  refine e_Ok.getr (z := 276) rfl (el_o rfl) rfl (ef_o rfl) (e_uq hw31 (Or.inl (by decide)) (e_uq hw28 (Or.inl (by decide)) (e_uq hw25 (Or.inl (by decide)) (e_uq hw22 (Or.inl (by decide)) ((j17 275 0 (by first | exact no_69_0 | (unfold mNt; omega))).trans (e_Has.eq hT (mt_o rfl))))))) ⟨by decide, by decide⟩ ?_
                  refine e_Ok.ps2 (x := (0, 12)) (y := (0, 1260 * y3 + 416)) (q := 136) 2 rfl ?_
                  refine e_Ok.add (z := 1260 * y3 + 428) rfl (e_adl (by decide)) (by omega) ?_
                  refine e_Ok.ps1 (x := (0, 1)) (q := 138) 1 rfl ?_
                  refine e_Ok.ast rfl (el_o rfl) rfl rfl (by omega) ?_
                  generalize hw34 : e_up w31 276 (1260 * y3 + 428) 1 = w34
                  have hT36 : e_Has mTy w34 := e_Has.upr hT33 hw34 (nR_FRAMES (t := y3) (by omega)) (by omega)
                  refine e_Ok.ps1 (x := (1, 275)) (q := 140) 1 rfl ?_
                  refine e_Ok.getr (z := 276) rfl (el_o rfl) rfl (ef_o rfl) (e_uq hw34 (Or.inl (by decide)) (e_uq hw31 (Or.inl (by decide)) (e_uq hw28 (Or.inl (by decide)) (e_uq hw25 (Or.inl (by decide)) (e_uq hw22 (Or.inl (by decide)) ((j17 275 0 (by first | exact no_69_0 | (unfold mNt; omega))).trans (e_Has.eq hT (mt_o rfl)))))))) ⟨by decide, by decide⟩ ?_
                  refine e_Ok.ps2 (x := (0, 20)) (y := (0, 1260 * y3 + 416)) (q := 147) 2 rfl ?_
                  refine e_Ok.add (z := 1260 * y3 + 436) rfl (e_adl (by decide)) (by omega) ?_
                  refine e_Ok.ps1 (x := (1, 275)) (q := 149) 1 rfl ?_
                  refine e_Ok.getr (z := 337) rfl (el_o rfl) rfl (ef_o rfl) (e_uq hw34 (Or.inl (by decide)) (e_uq hw31 (Or.inl (by decide)) (e_uq hw28 (Or.inl (by decide)) (e_uq hw25 (Or.inl (by decide)) (e_uq hw22 (Or.inl (by decide)) ((j17 275 74 (by first | exact no_69_0 | (unfold mNt; omega))).trans (e_Has.eq hT (mt_o rfl)))))))) ⟨by decide, by decide⟩ ?_
                  refine e_Ok.ps2 (x := (0, a)) (y := (0, 32)) (q := 155) 2 rfl ?_
                  refine e_Ok.mul (z := 32 * a) rfl rfl (by omega) ?_
                  refine e_Ok.ps1 (x := (0, q)) (q := 157) 1 rfl ?_
                  refine e_Ok.add (z := 32 * a + q) rfl rfl (by omega) ?_
                  refine e_Ok.ald (z := w 337 (32 * a + q)) rfl (el_o rfl) rfl (by omega) (e_uq hw34 (Or.inl (by decide)) (e_uq hw31 (Or.inl (by decide)) (e_uq hw28 (Or.inl (by decide)) (e_uq hw25 (Or.inl (by decide)) (e_uq hw22 (Or.inl (by decide)) ((j17 337 (32 * a + q) (by first | exact no_69_1 | (unfold mNt; omega))).trans rfl)))))) (by omega) ?_
                  refine e_Ok.ast rfl (el_o rfl) rfl rfl (by omega) ?_
                  generalize hw37 : e_up w34 276 (1260 * y3 + 436) (w 337 (32 * a + q)) = w37
                  have hT39 : e_Has mTy w37 := e_Has.upr hT36 hw37 (nR_FRg y3 0 (by omega) (by omega) (by omega)) (by omega)
                  refine e_Ok.ps1 (x := (1, 275)) (q := 161) 1 rfl ?_
                  refine e_Ok.getr (z := 276) rfl (el_o rfl) rfl (ef_o rfl) (e_uq hw37 (Or.inl (by decide)) (e_uq hw34 (Or.inl (by decide)) (e_uq hw31 (Or.inl (by decide)) (e_uq hw28 (Or.inl (by decide)) (e_uq hw25 (Or.inl (by decide)) (e_uq hw22 (Or.inl (by decide)) ((j17 275 0 (by first | exact no_69_0 | (unfold mNt; omega))).trans (e_Has.eq hT (mt_o rfl))))))))) ⟨by decide, by decide⟩ ?_
                  refine e_Ok.ps2 (x := (0, 20)) (y := (0, 1260 * y3 + 416)) (q := 168) 2 rfl ?_
                  refine e_Ok.add (z := 1260 * y3 + 436) rfl (e_adl (by decide)) (by omega) ?_
                  refine e_Ok.ps1 (x := (0, 1)) (q := 170) 1 rfl ?_
                  refine e_Ok.add (z := 1260 * y3 + 437) rfl (e_adl (by decide)) (by omega) ?_
                  refine e_Ok.ps1 (x := (0, 0)) (q := 172) 1 rfl ?_
                  refine e_Ok.ast rfl (el_o rfl) rfl rfl (by omega) ?_
                  generalize hw40 : e_up w37 276 (1260 * y3 + 437) 0 = w40
                  have hT42 : e_Has mTy w40 := e_Has.upr hT39 hw40 (nR_FRWg y3 0 (by omega) (by omega) (by omega)) (by omega)
                  refine e_Ok.ps1 (x := (0, y3)) (q := 174) 1 rfl ?_
                  refine e_Ok.rets rfl rfl ?_
                  exact ⟨_, rfl, Or.inr ⟨by omega, by omega, (show e_fr (mNt y3) w w40 from e_fr.up (show e_fr (mNt y3) w w37 from e_fr.up (show e_fr (mNt y3) w w34 from e_fr.up (show e_fr (mNt y3) w w31 from e_fr.up (show e_fr (mNt y3) w w28 from e_fr.up (show e_fr (mNt y3) w w25 from e_fr.up (show e_fr (mNt y3) w w22 from e_fr.up j17 hw22 (by first | exact ⟨rfl, ⟨(by omega), (by omega)⟩⟩ | (unfold mNt; omega))) hw25 (by first | exact ⟨rfl, ⟨(by omega), (by omega)⟩⟩ | (unfold mNt; omega))) hw28 (by first | exact ⟨rfl, ⟨(by omega), (by omega)⟩⟩ | (unfold mNt; omega))) hw31 (by first | exact ⟨rfl, ⟨(by omega), (by omega)⟩⟩ | (unfold mNt; omega))) hw34 (by first | exact ⟨rfl, ⟨(by omega), (by omega)⟩⟩ | (unfold mNt; omega))) hw37 (by first | exact ⟨rfl, ⟨(by omega), (by omega)⟩⟩ | (unfold mNt; omega))) hw40 (by first | exact ⟨rfl, ⟨(by omega), (by omega)⟩⟩ | (unfold mNt; omega))), hT42, (e_uq hw40 (Or.inr (by omega)) (e_uq hw37 (Or.inr (by omega)) (e_uq hw34 (Or.inr (by omega)) (e_uq hw31 (Or.inr (by omega)) (e_uq hw28 (Or.inr (by omega)) (e_uq hw25 (Or.inr (by omega)) (e_ue hw22))))))), (e_uq hw40 (Or.inr (by omega)) (e_uq hw37 (Or.inr (by omega)) (e_uq hw34 (Or.inr (by omega)) (e_uq hw31 (Or.inr (by omega)) (e_uq hw28 (Or.inr (by omega)) (e_ue hw25)))))), (e_uq hw40 (Or.inr (by omega)) (e_uq hw37 (Or.inr (by omega)) (e_uq hw34 (Or.inr (by omega)) (e_uq hw31 (Or.inr (by omega)) (e_ue hw28))))), (e_uq hw40 (Or.inr (by omega)) (e_uq hw37 (Or.inr (by omega)) (e_ue hw34))), (Eq.trans (show w40 276 (1260 * y3 + 429) = v2 276 (1260 * y3 + 429) from (e_uq hw40 (Or.inr (by omega)) (e_uq hw37 (Or.inr (by omega)) (e_uq hw34 (Or.inr (by omega)) (e_uq hw31 (Or.inr (by omega)) (e_uq hw28 (Or.inr (by omega)) (e_uq hw25 (Or.inr (by omega)) (e_uq hw22 (Or.inr (by omega)) rfl)))))))) (by have q := j20 13 (by omega) (by omega); rwa [show 1260 * y3 + 13 + 416 = 1260 * y3 + 429 by omega] at q)), (e_uq hw40 (Or.inr (by omega)) (e_ue hw37)), (e_ue hw40)⟩⟩
                · replace h21 : (y5 : Int) < 20 := Int.not_le.mp (show ¬ ((y5 : Int) ≥ 20) from h21)
                  refine e_Ok.ps1 (x := (1, 275)) (q := 65) 1 rfl ?_
                  refine e_Ok.getr (z := 276) rfl (el_o rfl) rfl (ef_o rfl) ((j17 275 0 (by first | exact no_69_0 | (unfold mNt; omega))).trans (e_Has.eq hT (mt_o rfl))) ⟨by decide, by decide⟩ ?_
                  refine e_Ok.ps2 (x := (0, y5)) (y := (0, 1260 * y3 + 416)) (q := 72) 2 rfl ?_
                  refine e_Ok.add (z := 1260 * y3 + y5 + 416) rfl (by omega) (by omega) ?_
                  refine e_Ok.ps1 (x := (0, 0)) (q := 74) 1 rfl ?_
                  refine e_Ok.ast rfl (el_o rfl) rfl rfl (by omega) ?_
                  generalize hw43 : e_up v2 276 (1260 * y3 + y5 + 416) 0 = w43
                  have hT45 : e_Has mTy w43 := e_Has.task0 j18 (by omega) (by omega) hw43
                  refine e_Ok.inc (z := y5 + 1) rfl rfl (by first | with_reducible rfl | omega) (by omega) ?_
                  show e_Ok 20 elay ecode eI (d + 1) 359 (78, [(5, (0, y5 + 1)), (0, (1, 275)), (1, (0, a)), (2, (0, q)), (3, (0, y3)), (4, (0, 1260 * y3 + 416))], [], w43) _
                  refine e_Ok.ps0 (q := 57) 1 rfl ?_
                  refine e_Ok.sub eAlk (e_sub_of rfl ?_) (ih16 (y5 + 1) w43 ⟨(show e_fr (mNt y3) w w43 from e_fr.up j17 hw43 (by unfold mNt; omega)), hT45, by omega, (fun j g1 g2 => Decidable.byCases (p := j = y5) (fun e => by rw [e, ← hw43]; exact e_up_eq _ _ _ _) (fun e => Eq.trans (e_un hw43 (Or.inr (by omega))) (j20 j g1 (by omega))))⟩ (by omega))
                  exact ⟨rfl, rfl, rfl, rfl, rfl, rfl, trivial⟩
            refine e_Ok.sub eAlk (e_sub_of rfl ?_) (hL15 (21 + 1 : Int).toNat 0 w ⟨(e_fr.refl w), hT, by omega, (fun j g1 g2 => by omega)⟩ (by omega))
            exact ⟨rfl, rfl, rfl, rfl, rfl, rfl, trivial⟩
          · replace h11 : (y3 : Int) = 16 := Classical.not_not.mp (show ¬ ((y3 : Int) ≠ 16) from h11)
            exfalso; omega
        · replace h10 : (w 276 (1260 * y3 + 416) : Int) ≠ 0 := (show ¬ ((w 276 (1260 * y3 + 416) : Int) = 0) from h10)
          refine e_Ok.ps1 (x := (1, 275)) (q := 21) 1 rfl ?_
          refine e_Ok.getr (z := 276) rfl (el_o rfl) rfl (ef_o rfl) (e_Has.eq hT (mt_o rfl)) ⟨by decide, by decide⟩ ?_
          refine e_Ok.ps1 (x := (0, y3)) (q := 25) 1 rfl ?_
          refine e_Ok.callS rfl (e_dq hd rfl) rfl rfl (c_269 (by omega)) (fun r46 w47 h48 => ?_)
          obtain ⟨rfl, rfl⟩ := h48
          refine e_Ok.nrm (q := 28) (st' := [(0, 1260 * y3 + 416), (1, 276)]) rfl rfl ?_
          refine e_Ok.ald (z := w 276 (1260 * y3 + 416)) rfl (el_o rfl) rfl (by omega) rfl (by omega) ?_
          refine e_Ok.ps1 (x := (0, 6)) (q := 31) 1 rfl ?_
          refine e_Ok.if2 rfl (fun h49 => ?_) (fun h49 => ?_)
          · replace h49 : (w 276 (1260 * y3 + 416) : Int) = 6 := h49
            refine e_Ok.ps2 (x := (0, 16)) (y := (0, y3)) (q := 43) 2 rfl ?_
            refine e_Ok.if2 rfl (fun h50 => ?_) (fun h50 => ?_)
            · replace h50 : (y3 : Int) ≠ 16 := h50
              refine e_Ok.ps1 (x := (0, y3)) (q := 49) 1 rfl ?_
              refine e_Ok.callS rfl (e_dq hd rfl) rfl rfl (c_269 (by omega)) (fun r51 w52 h53 => ?_)
              obtain ⟨rfl, rfl⟩ := h53
              refine e_Ok.nrm (q := 52) (st' := [(0, 1260 * y3 + 416)]) rfl rfl ?_
              refine e_Ok.run (t' := (57, [(5, (0, 0)), (4, (0, 1260 * y3 + 416)), (0, (1, 275)), (1, (0, a)), (2, (0, q)), (3, (0, y3))], [], w)) 3 rfl ?_
              have hL54 : ∀ (nn : Nat) (y5 : Int) (v2 : eW), e_fr (mNt y3) w v2 ∧ e_Has mTy v2 ∧ (0 ≤ y5 ∧ y5 ≤ 20) ∧ (∀ j, 0 ≤ j → j < y5 → v2 276 (1260 * y3 + j + 416) = 0) → 21 - y5 < nn → e_Ok 20 elay ecode eI (d + 1) 359 (57, [(0, (1, 275)), (1, (0, a)), (2, (0, q)), (3, (0, y3)), (4, (0, 1260 * y3 + 416)), (5, (0, y5))], [], v2) (fun r w' => ∃ z : Int, r = [(0, z)] ∧ ((z = -1 ∧ w = w') ∨ ((0 ≤ z ∧ z ≤ 15) ∧ (w 276 (1260 * z + 416) = 0 ∨ w 276 (1260 * z + 416) = 6) ∧ e_fr (mNt z) w w' ∧ e_Has mTy w' ∧ w' 276 (1260 * z + 416) = 1 ∧ w' 276 (1260 * z + 417) = a ∧ w' 276 (1260 * z + 424) = -1 ∧ w' 276 (1260 * z + 428) = 1 ∧ w' 276 (1260 * z + 429) = 0 ∧ w' 276 (1260 * z + 436) = w 337 (32 * a + q) ∧ w' 276 (1260 * z + 437) = 0))) := by
                intro nn
                induction nn with
                | zero => intro y5 v2 hj hm; obtain ⟨j56, j57, j58, j59⟩ := hj; exfalso; omega
                | succ nn ih55 =>
                  intro y5 v2 hj hm
                  obtain ⟨j56, j57, j58, j59⟩ := hj
                  refine e_Ok.run (t' := (61, [(0, (1, 275)), (1, (0, a)), (2, (0, q)), (3, (0, y3)), (4, (0, 1260 * y3 + 416)), (5, (0, y5))], [(0, 20), (0, y5)], v2)) 2 rfl ?_
                  refine e_Ok.if2 rfl (fun h60 => ?_) (fun h60 => ?_)
                  · replace h60 : (y5 : Int) ≥ 20 := h60
                    refine e_Ok.ps1 (x := (1, 275)) (q := 82) 1 rfl ?_
                    refine e_Ok.getr (z := 276) rfl (el_o rfl) rfl (ef_o rfl) ((j56 275 0 (by first | exact no_69_0 | (unfold mNt; omega))).trans (e_Has.eq hT (mt_o rfl))) ⟨by decide, by decide⟩ ?_
                    refine e_Ok.ps2 (x := (0, 1)) (y := (0, 1260 * y3 + 416)) (q := 88) 2 rfl ?_
                    refine e_Ok.ast rfl (el_o rfl) rfl rfl (by omega) ?_
                    generalize hw61 : e_up v2 276 (1260 * y3 + 416) 1 = w61
                    have hT63 : e_Has mTy w61 := e_Has.upr j57 hw61 (nR_TSTATE (t := y3) (by omega)) (by omega)
                    refine e_Ok.ps1 (x := (1, 275)) (q := 90) 1 rfl ?_
                    refine e_Ok.getr (z := 276) rfl (el_o rfl) rfl (ef_o rfl) (e_uq hw61 (Or.inl (by decide)) ((j56 275 0 (by first | exact no_69_0 | (unfold mNt; omega))).trans (e_Has.eq hT (mt_o rfl)))) ⟨by decide, by decide⟩ ?_
                    refine e_Ok.ps2 (x := (0, 1)) (y := (0, 1260 * y3 + 416)) (q := 96) 2 rfl ?_
                    refine e_Ok.add (z := 1260 * y3 + 417) rfl (e_adl (by decide)) (by omega) ?_
                    refine e_Ok.ps1 (x := (0, a)) (q := 98) 1 rfl ?_
                    refine e_Ok.ast rfl (el_o rfl) rfl rfl (by omega) ?_
                    generalize hw64 : e_up w61 276 (1260 * y3 + 417) a = w64
                    have hT66 : e_Has mTy w64 := e_Has.upr hT63 hw64 (nR_TASK_ARM (t := y3) (by omega)) (by omega)
                    refine e_Ok.ps1 (x := (1, 275)) (q := 100) 1 rfl ?_
                    refine e_Ok.getr (z := 276) rfl (el_o rfl) rfl (ef_o rfl) (e_uq hw64 (Or.inl (by decide)) (e_uq hw61 (Or.inl (by decide)) ((j56 275 0 (by first | exact no_69_0 | (unfold mNt; omega))).trans (e_Has.eq hT (mt_o rfl))))) ⟨by decide, by decide⟩ ?_
                    refine e_Ok.ps2 (x := (0, 8)) (y := (0, 1260 * y3 + 416)) (q := 107) 2 rfl ?_
                    refine e_Ok.add (z := 1260 * y3 + 424) rfl (e_adl (by decide)) (by omega) ?_
                    refine e_Ok.ps1 (x := (0, (-1))) (q := 109) 1 rfl ?_
                    refine e_Ok.ast rfl (el_o rfl) rfl rfl (by omega) ?_
                    generalize hw67 : e_up w64 276 (1260 * y3 + 424) (-1) = w67
                    have hT69 : e_Has mTy w67 := e_Has.upr hT66 hw67 (nR_WATCHED (t := y3) (by omega)) (by omega)
                    refine e_Ok.ps1 (x := (1, 275)) (q := 111) 1 rfl ?_
                    refine e_Ok.getr (z := 276) rfl (el_o rfl) rfl (ef_o rfl) (e_uq hw67 (Or.inl (by decide)) (e_uq hw64 (Or.inl (by decide)) (e_uq hw61 (Or.inl (by decide)) ((j56 275 0 (by first | exact no_69_0 | (unfold mNt; omega))).trans (e_Has.eq hT (mt_o rfl)))))) ⟨by decide, by decide⟩ ?_
                    refine e_Ok.ps2 (x := (0, 11)) (y := (0, 1260 * y3 + 416)) (q := 118) 2 rfl ?_
                    refine e_Ok.add (z := 1260 * y3 + 427) rfl (e_adl (by decide)) (by omega) ?_
                    refine e_Ok.ps1 (x := (1, 275)) (q := 120) 1 rfl ?_
                    refine e_Ok.getr (z := 276) rfl (el_o rfl) rfl (ef_o rfl) (e_uq hw67 (Or.inl (by decide)) (e_uq hw64 (Or.inl (by decide)) (e_uq hw61 (Or.inl (by decide)) ((j56 275 0 (by first | exact no_69_0 | (unfold mNt; omega))).trans (e_Has.eq hT (mt_o rfl)))))) ⟨by decide, by decide⟩ ?_
                    refine e_Ok.ps1 (x := (0, 0)) (q := 124) 1 rfl ?_
                    refine e_Ok.ald (z := w 276 0) rfl (el_o rfl) rfl (by omega) (e_uq hw67 (Or.inr (by omega)) (e_uq hw64 (Or.inr (by omega)) (e_uq hw61 (Or.inr (by omega)) ((j56 276 0 (by unfold mNt; omega)).trans rfl)))) (by omega) ?_
                    refine e_Ok.ps1 (x := (0, 1)) (q := 126) 1 rfl ?_
                    refine e_Ok.add (z := w 276 0 + 1) rfl rfl (by omega) ?_
                    refine e_Ok.ast rfl (el_o rfl) rfl rfl (by omega) ?_
                    generalize hw70 : e_up w67 276 (1260 * y3 + 427) (w 276 0 + 1) = w70
                    have hT72 : e_Has mTy w70 := e_Has.upr hT69 hw70 (nR_ACTS (t := y3) (by omega)) (by omega)
                    refine e_Ok.ps1 (x := (1, 275)) (q := 129) 1 rfl ?_
                    refine e_Ok.getr (z := 276) rfl (el_o rfl) rfl (ef_o rfl) (e_uq hw70 (Or.inl (by decide)) (e_uq hw67 (Or.inl (by decide)) (e_uq hw64 (Or.inl (by decide)) (e_uq hw61 (Or.inl (by decide)) ((j56 275 0 (by first | exact no_69_0 | (unfold mNt; omega))).trans (e_Has.eq hT (mt_o rfl))))))) ⟨by decide, by decide⟩ ?_
                    refine e_Ok.ps2 (x := (0, 12)) (y := (0, 1260 * y3 + 416)) (q := 136) 2 rfl ?_
                    refine e_Ok.add (z := 1260 * y3 + 428) rfl (e_adl (by decide)) (by omega) ?_
                    refine e_Ok.ps1 (x := (0, 1)) (q := 138) 1 rfl ?_
                    refine e_Ok.ast rfl (el_o rfl) rfl rfl (by omega) ?_
                    generalize hw73 : e_up w70 276 (1260 * y3 + 428) 1 = w73
                    have hT75 : e_Has mTy w73 := e_Has.upr hT72 hw73 (nR_FRAMES (t := y3) (by omega)) (by omega)
                    refine e_Ok.ps1 (x := (1, 275)) (q := 140) 1 rfl ?_
                    refine e_Ok.getr (z := 276) rfl (el_o rfl) rfl (ef_o rfl) (e_uq hw73 (Or.inl (by decide)) (e_uq hw70 (Or.inl (by decide)) (e_uq hw67 (Or.inl (by decide)) (e_uq hw64 (Or.inl (by decide)) (e_uq hw61 (Or.inl (by decide)) ((j56 275 0 (by first | exact no_69_0 | (unfold mNt; omega))).trans (e_Has.eq hT (mt_o rfl)))))))) ⟨by decide, by decide⟩ ?_
                    refine e_Ok.ps2 (x := (0, 20)) (y := (0, 1260 * y3 + 416)) (q := 147) 2 rfl ?_
                    refine e_Ok.add (z := 1260 * y3 + 436) rfl (e_adl (by decide)) (by omega) ?_
                    refine e_Ok.ps1 (x := (1, 275)) (q := 149) 1 rfl ?_
                    refine e_Ok.getr (z := 337) rfl (el_o rfl) rfl (ef_o rfl) (e_uq hw73 (Or.inl (by decide)) (e_uq hw70 (Or.inl (by decide)) (e_uq hw67 (Or.inl (by decide)) (e_uq hw64 (Or.inl (by decide)) (e_uq hw61 (Or.inl (by decide)) ((j56 275 74 (by first | exact no_69_0 | (unfold mNt; omega))).trans (e_Has.eq hT (mt_o rfl)))))))) ⟨by decide, by decide⟩ ?_
                    refine e_Ok.ps2 (x := (0, a)) (y := (0, 32)) (q := 155) 2 rfl ?_
                    refine e_Ok.mul (z := 32 * a) rfl rfl (by omega) ?_
                    refine e_Ok.ps1 (x := (0, q)) (q := 157) 1 rfl ?_
                    refine e_Ok.add (z := 32 * a + q) rfl rfl (by omega) ?_
                    refine e_Ok.ald (z := w 337 (32 * a + q)) rfl (el_o rfl) rfl (by omega) (e_uq hw73 (Or.inl (by decide)) (e_uq hw70 (Or.inl (by decide)) (e_uq hw67 (Or.inl (by decide)) (e_uq hw64 (Or.inl (by decide)) (e_uq hw61 (Or.inl (by decide)) ((j56 337 (32 * a + q) (by first | exact no_69_1 | (unfold mNt; omega))).trans rfl)))))) (by omega) ?_
                    refine e_Ok.ast rfl (el_o rfl) rfl rfl (by omega) ?_
                    generalize hw76 : e_up w73 276 (1260 * y3 + 436) (w 337 (32 * a + q)) = w76
                    have hT78 : e_Has mTy w76 := e_Has.upr hT75 hw76 (nR_FRg y3 0 (by omega) (by omega) (by omega)) (by omega)
                    refine e_Ok.ps1 (x := (1, 275)) (q := 161) 1 rfl ?_
                    refine e_Ok.getr (z := 276) rfl (el_o rfl) rfl (ef_o rfl) (e_uq hw76 (Or.inl (by decide)) (e_uq hw73 (Or.inl (by decide)) (e_uq hw70 (Or.inl (by decide)) (e_uq hw67 (Or.inl (by decide)) (e_uq hw64 (Or.inl (by decide)) (e_uq hw61 (Or.inl (by decide)) ((j56 275 0 (by first | exact no_69_0 | (unfold mNt; omega))).trans (e_Has.eq hT (mt_o rfl))))))))) ⟨by decide, by decide⟩ ?_
                    refine e_Ok.ps2 (x := (0, 20)) (y := (0, 1260 * y3 + 416)) (q := 168) 2 rfl ?_
                    refine e_Ok.add (z := 1260 * y3 + 436) rfl (e_adl (by decide)) (by omega) ?_
                    refine e_Ok.ps1 (x := (0, 1)) (q := 170) 1 rfl ?_
                    refine e_Ok.add (z := 1260 * y3 + 437) rfl (e_adl (by decide)) (by omega) ?_
                    refine e_Ok.ps1 (x := (0, 0)) (q := 172) 1 rfl ?_
                    refine e_Ok.ast rfl (el_o rfl) rfl rfl (by omega) ?_
                    generalize hw79 : e_up w76 276 (1260 * y3 + 437) 0 = w79
                    have hT81 : e_Has mTy w79 := e_Has.upr hT78 hw79 (nR_FRWg y3 0 (by omega) (by omega) (by omega)) (by omega)
                    refine e_Ok.ps1 (x := (0, y3)) (q := 174) 1 rfl ?_
                    refine e_Ok.rets rfl rfl ?_
                    exact ⟨_, rfl, Or.inr ⟨by omega, by omega, (show e_fr (mNt y3) w w79 from e_fr.up (show e_fr (mNt y3) w w76 from e_fr.up (show e_fr (mNt y3) w w73 from e_fr.up (show e_fr (mNt y3) w w70 from e_fr.up (show e_fr (mNt y3) w w67 from e_fr.up (show e_fr (mNt y3) w w64 from e_fr.up (show e_fr (mNt y3) w w61 from e_fr.up j56 hw61 (by first | exact ⟨rfl, ⟨(by omega), (by omega)⟩⟩ | (unfold mNt; omega))) hw64 (by first | exact ⟨rfl, ⟨(by omega), (by omega)⟩⟩ | (unfold mNt; omega))) hw67 (by first | exact ⟨rfl, ⟨(by omega), (by omega)⟩⟩ | (unfold mNt; omega))) hw70 (by first | exact ⟨rfl, ⟨(by omega), (by omega)⟩⟩ | (unfold mNt; omega))) hw73 (by first | exact ⟨rfl, ⟨(by omega), (by omega)⟩⟩ | (unfold mNt; omega))) hw76 (by first | exact ⟨rfl, ⟨(by omega), (by omega)⟩⟩ | (unfold mNt; omega))) hw79 (by first | exact ⟨rfl, ⟨(by omega), (by omega)⟩⟩ | (unfold mNt; omega))), hT81, (e_uq hw79 (Or.inr (by omega)) (e_uq hw76 (Or.inr (by omega)) (e_uq hw73 (Or.inr (by omega)) (e_uq hw70 (Or.inr (by omega)) (e_uq hw67 (Or.inr (by omega)) (e_uq hw64 (Or.inr (by omega)) (e_ue hw61))))))), (e_uq hw79 (Or.inr (by omega)) (e_uq hw76 (Or.inr (by omega)) (e_uq hw73 (Or.inr (by omega)) (e_uq hw70 (Or.inr (by omega)) (e_uq hw67 (Or.inr (by omega)) (e_ue hw64)))))), (e_uq hw79 (Or.inr (by omega)) (e_uq hw76 (Or.inr (by omega)) (e_uq hw73 (Or.inr (by omega)) (e_uq hw70 (Or.inr (by omega)) (e_ue hw67))))), (e_uq hw79 (Or.inr (by omega)) (e_uq hw76 (Or.inr (by omega)) (e_ue hw73))), (Eq.trans (show w79 276 (1260 * y3 + 429) = v2 276 (1260 * y3 + 429) from (e_uq hw79 (Or.inr (by omega)) (e_uq hw76 (Or.inr (by omega)) (e_uq hw73 (Or.inr (by omega)) (e_uq hw70 (Or.inr (by omega)) (e_uq hw67 (Or.inr (by omega)) (e_uq hw64 (Or.inr (by omega)) (e_uq hw61 (Or.inr (by omega)) rfl)))))))) (by have q := j59 13 (by omega) (by omega); rwa [show 1260 * y3 + 13 + 416 = 1260 * y3 + 429 by omega] at q)), (e_uq hw79 (Or.inr (by omega)) (e_ue hw76)), (e_ue hw79)⟩⟩
                  · replace h60 : (y5 : Int) < 20 := Int.not_le.mp (show ¬ ((y5 : Int) ≥ 20) from h60)
                    refine e_Ok.ps1 (x := (1, 275)) (q := 65) 1 rfl ?_
                    refine e_Ok.getr (z := 276) rfl (el_o rfl) rfl (ef_o rfl) ((j56 275 0 (by first | exact no_69_0 | (unfold mNt; omega))).trans (e_Has.eq hT (mt_o rfl))) ⟨by decide, by decide⟩ ?_
                    refine e_Ok.ps2 (x := (0, y5)) (y := (0, 1260 * y3 + 416)) (q := 72) 2 rfl ?_
                    refine e_Ok.add (z := 1260 * y3 + y5 + 416) rfl (by omega) (by omega) ?_
                    refine e_Ok.ps1 (x := (0, 0)) (q := 74) 1 rfl ?_
                    refine e_Ok.ast rfl (el_o rfl) rfl rfl (by omega) ?_
                    generalize hw82 : e_up v2 276 (1260 * y3 + y5 + 416) 0 = w82
                    have hT84 : e_Has mTy w82 := e_Has.task0 j57 (by omega) (by omega) hw82
                    refine e_Ok.inc (z := y5 + 1) rfl rfl (by first | with_reducible rfl | omega) (by omega) ?_
                    show e_Ok 20 elay ecode eI (d + 1) 359 (78, [(5, (0, y5 + 1)), (0, (1, 275)), (1, (0, a)), (2, (0, q)), (3, (0, y3)), (4, (0, 1260 * y3 + 416))], [], w82) _
                    refine e_Ok.ps0 (q := 57) 1 rfl ?_
                    refine e_Ok.sub eAlk (e_sub_of rfl ?_) (ih55 (y5 + 1) w82 ⟨(show e_fr (mNt y3) w w82 from e_fr.up j56 hw82 (by unfold mNt; omega)), hT84, by omega, (fun j g1 g2 => Decidable.byCases (p := j = y5) (fun e => by rw [e, ← hw82]; exact e_up_eq _ _ _ _) (fun e => Eq.trans (e_un hw82 (Or.inr (by omega))) (j59 j g1 (by omega))))⟩ (by omega))
                    exact ⟨rfl, rfl, rfl, rfl, rfl, rfl, trivial⟩
              refine e_Ok.sub eAlk (e_sub_of rfl ?_) (hL54 (21 + 1 : Int).toNat 0 w ⟨(e_fr.refl w), hT, by omega, (fun j g1 g2 => by omega)⟩ (by omega))
              exact ⟨rfl, rfl, rfl, rfl, rfl, rfl, trivial⟩
            · replace h50 : (y3 : Int) = 16 := Classical.not_not.mp (show ¬ ((y3 : Int) ≠ 16) from h50)
              exfalso; omega
          · replace h49 : (w 276 (1260 * y3 + 416) : Int) ≠ 6 := (show ¬ ((w 276 (1260 * y3 + 416) : Int) = 6) from h49)
            refine e_Ok.inc (z := y3 + 1) rfl rfl (by first | with_reducible rfl | omega) (by omega) ?_
            show e_Ok 20 elay ecode eI (d + 1) 359 (37, [(3, (0, y3 + 1)), (0, (1, 275)), (1, (0, a)), (2, (0, q))], [], w) _
            refine e_Ok.ps0 (q := 2) 1 rfl ?_
            refine e_Ok.sub eAlk (e_sub_of rfl ?_) (ih2 (y3 + 1) (by omega) (by omega))
            exact ⟨rfl, rfl, rfl, rfl, trivial⟩
  refine e_Ok.sub eAlk (e_sub_of rfl ?_) (hL1 (17 + 1 : Int).toNat 0 (by omega) (by omega))
  exact ⟨rfl, rfl, rfl, rfl, trivial⟩
end
end
-- part 70
section
noncomputable section
theorem nR_PARTg {e : Int} (p k : Int) (h : 0 ≤ p ∧ p ≤ 31) (hk : 1 ≤ k ∧ k ≤ 3) (he : e = 4 * p + k + 20576) : mTy 276 e = (-2147483648, 2147483647) := by rw [he]; exact nR_PART h hk
def mDr (c k : Int) : Prop := (c = 276 ∧ ((20576 ≤ k ∧ k ≤ 20703 ∧ k % 4 = 3) ∨ (160 ≤ k ∧ k ≤ 223) ∨ (352 ≤ k ∧ k ≤ 415))) ∨ c = 326 ∨ c = 327
theorem no_70_0 {k : Int} : ¬ mDr 275 k := by unfold mDr; omega
theorem no_70_1 {b : Int} (hb : 0 ≤ b ∧ b ≤ 3) : ¬ mDr 276 (33 * b + 20704) := by unfold mDr; omega
theorem no_70_2 {k : Int} : ¬ mDr 306 k := by unfold mDr; omega
theorem no_70_3 {k : Int} : ¬ mDr 304 k := by unfold mDr; omega
theorem no_70_4 {k : Int} : ¬ mDr 303 k := by unfold mDr; omega
theorem no_70_5 {k : Int} : ¬ mDr 307 k := by unfold mDr; omega
theorem no_70_6 {k : Int} : ¬ mDr 308 k := by unfold mDr; omega
theorem no_70_7 {k : Int} : ¬ mDr 309 k := by unfold mDr; omega
theorem su_70_10 {c k : Int} (q : mO c k) : mDr c k := by
  unfold mO at q
  rcases q with ⟨q, (⟨q, q⟩ | ⟨q, q⟩)⟩ | q | q
  · exact Or.inl ⟨(by omega), Or.inr (Or.inl ⟨(by omega), (by omega)⟩)⟩
  · exact Or.inl ⟨(by omega), Or.inr (Or.inr ⟨(by omega), (by omega)⟩)⟩
  · exact Or.inr (Or.inl (by omega))
  · exact Or.inr (Or.inr (by omega))
set_option maxHeartbeats 4000000 in
theorem c_398 {d : Nat} (hd : 25 ≤ d) {w : eW} (hT : e_Has mTy w) (hA : mAc w) {b : Int} (hb : 0 ≤ b ∧ b ≤ 3) : e_Ok 20 elay ecode eI d 398 (0, [(0, (1, 275)), (1, (0, b))], [], w) (fun r w' => r = [] ∧ e_fr mDr w w' ∧ e_Has mTy w') := by
  obtain ⟨d, rfl⟩ : ∃ e, d = e + 1 := ⟨d - 1, by omega⟩
  refine e_Ok.ps3 (x := (0, b)) (y := (0, 33)) (z := (0, 20704)) (q := 6) 3 rfl ?_
  refine e_Ok.mul (z := 33 * b) rfl rfl (by omega) ?_
  refine e_Ok.add (z := 33 * b + 20704) rfl (Int.add_comm _ _) (by omega) ?_
  refine e_Ok.run (t' := (14, [(4, (0, 1)), (3, (0, 0)), (2, (0, 33 * b + 20704)), (0, (1, 275)), (1, (0, b))], [], w)) 5 rfl ?_
  have hL1 : ∀ (nn : Nat) (y3 : Int) (y4 : Int) (v1 : eW), e_fr mDr w v1 ∧ e_Has mTy v1 ∧ (1 ≤ y4 ∧ y4 ≤ 33) → 34 - y4 < nn → e_Ok 20 elay ecode eI (d + 1) 398 (14, [(0, (1, 275)), (1, (0, b)), (2, (0, 33 * b + 20704)), (3, (0, y3)), (4, (0, y4))], [], v1) (fun r w' => r = [] ∧ e_fr mDr w w' ∧ e_Has mTy w') := by
    intro nn
    induction nn with
    | zero => intro y3 y4 v1 hj hm; obtain ⟨j3, j4, j5⟩ := hj; exfalso; omega
    | succ nn ih2 =>
      intro y3 y4 v1 hj hm
      obtain ⟨j3, j4, j5⟩ := hj
      refine e_Ok.run (t' := (17, [(0, (1, 275)), (1, (0, b)), (2, (0, 33 * b + 20704)), (3, (0, y3)), (4, (0, y4))], [(1, 275), (0, y4)], v1)) 2 rfl ?_
      refine e_Ok.getr (z := 276) rfl (el_o rfl) rfl (ef_o rfl) ((j3 275 0 no_70_0).trans (e_Has.eq hT (mt_o rfl))) ⟨by decide, by decide⟩ ?_
      refine e_Ok.ps1 (x := (0, 33 * b + 20704)) (q := 21) 1 rfl ?_
      have h6 := (e_Has.get hT (c := 276) (k := 33 * b + 20704) (lo := 0) (hi := 32) (nR_ORDER (b := b) (by omega)) (by decide))
      refine e_Ok.ald (z := w 276 (33 * b + 20704)) rfl (el_o rfl) rfl (by omega) ((j3 276 (33 * b + 20704) (by first | exact no_70_1 (by omega) | (unfold mDr; omega))).trans rfl) (e_bq h6 (by decide) (by decide)) ?_
      refine e_Ok.if2 rfl (fun h7 => ?_) (fun h7 => ?_)
      · replace h7 : (y4 : Int) > w 276 (33 * b + 20704) := h7
        refine e_Ok.ps1 (x := (1, 275)) (q := 213) 1 rfl ?_
        refine e_Ok.getr (z := 306) rfl (el_o rfl) rfl (ef_o rfl) ((j3 275 37 no_70_0).trans (e_Has.eq hT (mt_o rfl))) ⟨by decide, by decide⟩ ?_
        refine e_Ok.ps1 (x := (0, b)) (q := 217) 1 rfl ?_
        have h8 := (e_Has.get hT (c := 306) (k := b) (lo := (-1)) (hi := 63) (mt_o rfl) (by decide))
        refine e_Ok.ald (z := w 306 b) rfl (el_o rfl) rfl (by omega) ((j3 306 b no_70_2).trans rfl) (e_bq h8 (by decide) (by decide)) ?_
        refine e_Ok.if1 rfl (fun h9 => ?_) (fun h9 => ?_)
        · replace h9 : (w 306 b : Int) < 0 := h9
          refine e_Ok.rets rfl rfl ?_
          exact ⟨rfl, j3, j4⟩
        · replace h9 : (w 306 b : Int) ≥ 0 := Int.not_lt.mp (show ¬ ((w 306 b : Int) < 0) from h9)
          refine e_Ok.ps2 (x := (1, 275)) (y := (1, 275)) (q := 223) 2 rfl ?_
          refine e_Ok.getr (z := 306) rfl (el_o rfl) rfl (ef_o rfl) ((j3 275 37 no_70_0).trans (e_Has.eq hT (mt_o rfl))) ⟨by decide, by decide⟩ ?_
          refine e_Ok.ps1 (x := (0, b)) (q := 227) 1 rfl ?_
          refine e_Ok.ald (z := w 306 b) rfl (el_o rfl) rfl (by omega) ((j3 306 b no_70_2).trans rfl) (by omega) ?_
          refine e_Ok.ps1 (x := (0, y3)) (q := 229) 1 rfl ?_
          have hJ12 : ∀ m11 : Int, 0 ≤ m11 ∧ m11 ≤ 1 → e_Ok 20 elay ecode eI (d + 1) 398 (237, [(0, (1, 275)), (1, (0, b)), (2, (0, 33 * b + 20704)), (3, (0, y3)), (4, (0, y4))], [(0, m11), (0, w 306 b), (1, 275)], v1) (fun r w' => r = [] ∧ e_fr mDr w w' ∧ e_Has mTy w') := by
            intro m11 m11r
            refine e_Ok.callV rfl (e_dq hd rfl) rfl rfl rfl rfl (c_323 (e_dq hd rfl) j4 (mAc.fr' (fun k q => by revert q; unfold mDr; omega) j3 hA) (by omega) (by omega)) (fun r13 w14 h15 => ?_)
            obtain ⟨rfl, q16, q16T⟩ := h15
            show e_Ok 20 elay ecode eI (d + 1) 398 (240, [(0, (1, 275)), (1, (0, b)), (2, (0, 33 * b + 20704)), (3, (0, y3)), (4, (0, y4))], [], w14) _
            refine e_Ok.rets rfl rfl ?_
            exact ⟨rfl, (show e_fr mDr w w14 from e_fr.trans j3 (e_fr.mono q16 (fun c k q => su_70_10 q))), q16T⟩
          refine e_Ok.if1 rfl (fun h10 => ?_) (fun h10 => ?_)
          · exact e_Ok.run 1 rfl (hJ12 0 (by omega))
          · exact e_Ok.run 2 rfl (hJ12 1 (by omega))
      · replace h7 : (y4 : Int) ≤ w 276 (33 * b + 20704) := Int.not_lt.mp (show ¬ ((y4 : Int) > w 276 (33 * b + 20704)) from h7)
        refine e_Ok.ps1 (x := (1, 275)) (q := 26) 1 rfl ?_
        refine e_Ok.getr (z := 276) rfl (el_o rfl) rfl (ef_o rfl) ((j3 275 0 no_70_0).trans (e_Has.eq hT (mt_o rfl))) ⟨by decide, by decide⟩ ?_
        refine e_Ok.ps2 (x := (0, y4)) (y := (0, 33 * b + 20704)) (q := 32) 2 rfl ?_
        refine e_Ok.add (z := 33 * b + y4 + 20704) rfl (by omega) (by omega) ?_
        have h18 := (e_Has.get hT (c := 276) (k := 33 * b + y4 + 20704) (lo := 0) (hi := 31) (nR_ORD b (by omega) (by omega)) (by decide))
        refine e_Ok.ald (z := w 276 (33 * b + y4 + 20704)) rfl (el_o rfl) rfl (by omega) ((j3 276 (33 * b + y4 + 20704) (by unfold mDr; omega)).trans rfl) (e_bq h18 (by decide) (by decide)) ?_
        refine e_Ok.run (t' := (37, [(5, (0, w 276 (33 * b + y4 + 20704))), (0, (1, 275)), (1, (0, b)), (2, (0, 33 * b + 20704)), (3, (0, y3)), (4, (0, y4))], [(1, 275)], v1)) 2 rfl ?_
        refine e_Ok.getr (z := 276) rfl (el_o rfl) rfl (ef_o rfl) ((j3 275 0 no_70_0).trans (e_Has.eq hT (mt_o rfl))) ⟨by decide, by decide⟩ ?_
        refine e_Ok.ps1 (x := (0, w 276 (33 * b + y4 + 20704))) (q := 42) 1 rfl ?_
        refine e_Ok.callS rfl (e_dq hd rfl) rfl rfl (c_392 (by omega)) (fun r19 w20 h21 => ?_)
        obtain ⟨rfl, rfl⟩ := h21
        refine e_Ok.nrm (q := 45) (st' := [(0, 4 * w 276 (33 * b + y4 + 20704) + 20576), (1, 276)]) rfl rfl ?_
        refine e_Ok.ps1 (x := (0, 3)) (q := 46) 1 rfl ?_
        refine e_Ok.add (z := 4 * w 276 (33 * b + y4 + 20704) + 20579) rfl (e_adl (by decide)) (by omega) ?_
        have h22 := (e_Has.get j4 (c := 276) (k := 4 * w 276 (33 * b + y4 + 20704) + 20579) (lo := (-2147483648)) (hi := 2147483647) (nR_PART3 (p := w 276 (33 * b + y4 + 20704)) (by omega)) (by decide))
        refine e_Ok.ald (z := v1 276 (4 * w 276 (33 * b + y4 + 20704) + 20579)) rfl rfl rfl (by omega) rfl (e_bq h22 (by decide) (by decide)) ?_
        refine e_Ok.run (t' := (53, [(6, (0, v1 276 (4 * w 276 (33 * b + y4 + 20704) + 20579))), (5, (0, w 276 (33 * b + y4 + 20704))), (0, (1, 275)), (1, (0, b)), (2, (0, 33 * b + 20704)), (3, (0, y3)), (4, (0, y4))], [(1, 275), (0, v1 276 (4 * w 276 (33 * b + y4 + 20704) + 20579))], v1)) 3 rfl ?_
        refine e_Ok.getr (z := 304) rfl (el_o rfl) rfl (ef_o rfl) ((j3 275 35 no_70_0).trans (e_Has.eq hT (mt_o rfl))) ⟨by decide, by decide⟩ ?_
        refine e_Ok.ps1 (x := (0, b)) (q := 57) 1 rfl ?_
        have h23 := (e_Has.get hT (c := 304) (k := b) (lo := 0) (hi := 100) (mt_o rfl) (by decide))
        refine e_Ok.ald (z := w 304 b) rfl (el_o rfl) rfl (by omega) ((j3 304 b no_70_3).trans rfl) (e_bq h23 (by decide) (by decide)) ?_
        refine e_Ok.any rfl (eF_add_any _ _) (fun z24 z24a z24b => ?_)
        refine e_Ok.ps1 (x := (1, 275)) (q := 60) 1 rfl ?_
        refine e_Ok.getr (z := 303) rfl (el_o rfl) rfl (ef_o rfl) ((j3 275 34 no_70_0).trans (e_Has.eq hT (mt_o rfl))) ⟨by decide, by decide⟩ ?_
        refine e_Ok.ps1 (x := (0, b)) (q := 64) 1 rfl ?_
        have h25 := (e_Has.get hT (c := 303) (k := b) (lo := 0) (hi := 16000) (mt_o rfl) (by decide))
        refine e_Ok.ald (z := w 303 b) rfl (el_o rfl) rfl (by omega) ((j3 303 b no_70_4).trans rfl) (e_bq h25 (by decide) (by decide)) ?_
        refine e_Ok.if2 rfl (fun h26 => ?_) (fun h26 => ?_)
        · replace h26 : (z24 : Int) ≥ w 303 b := h26
          refine e_Ok.ps1 (x := (1, 275)) (q := 81) 1 rfl ?_
          refine e_Ok.getr (z := 303) rfl (el_o rfl) rfl (ef_o rfl) ((j3 275 34 no_70_0).trans (e_Has.eq hT (mt_o rfl))) ⟨by decide, by decide⟩ ?_
          refine e_Ok.ps1 (x := (0, b)) (q := 85) 1 rfl ?_
          refine e_Ok.ald (z := w 303 b) rfl (el_o rfl) rfl (by omega) ((j3 303 b no_70_4).trans rfl) (by omega) ?_
          refine e_Ok.run (t' := (91, [(7, (0, w 303 b)), (6, (0, v1 276 (4 * w 276 (33 * b + y4 + 20704) + 20579))), (5, (0, w 276 (33 * b + y4 + 20704))), (0, (1, 275)), (1, (0, b)), (2, (0, 33 * b + 20704)), (3, (0, y3)), (4, (0, y4))], [(0, 1), (0, y4)], v1)) 3 rfl ?_
          refine e_Ok.if2 rfl (fun h27 => ?_) (fun h27 => ?_)
          · replace h27 : (y4 : Int) ≤ 1 := h27
            refine e_Ok.ps2 (x := (0, v1 276 (4 * w 276 (33 * b + y4 + 20704) + 20579))) (y := (0, w 303 b)) (q := 157) 2 rfl ?_
            have hJ30 : ∀ m29 : Int, (-2147483648) ≤ m29 ∧ m29 ≤ 2147483647 → e_Ok 20 elay ecode eI (d + 1) 398 (167, [(7, (0, w 303 b)), (6, (0, v1 276 (4 * w 276 (33 * b + y4 + 20704) + 20579))), (5, (0, w 276 (33 * b + y4 + 20704))), (0, (1, 275)), (1, (0, b)), (2, (0, 33 * b + 20704)), (3, (0, y3)), (4, (0, y4))], [(0, m29)], v1) (fun r w' => r = [] ∧ e_fr mDr w w' ∧ e_Has mTy w') := by
              intro m29 m29r
              refine e_Ok.run (t' := (170, [(6, (0, m29)), (7, (0, w 303 b)), (5, (0, w 276 (33 * b + y4 + 20704))), (0, (1, 275)), (1, (0, b)), (2, (0, 33 * b + 20704)), (3, (0, y3)), (4, (0, y4))], [(1, 275)], v1)) 2 rfl ?_
              refine e_Ok.getr (z := 276) rfl (el_o rfl) rfl (ef_o rfl) ((j3 275 0 no_70_0).trans (e_Has.eq hT (mt_o rfl))) ⟨by decide, by decide⟩ ?_
              refine e_Ok.ps1 (x := (0, w 276 (33 * b + y4 + 20704))) (q := 175) 1 rfl ?_
              refine e_Ok.callS rfl (e_dq hd rfl) rfl rfl (c_392 (by omega)) (fun r31 w32 h33 => ?_)
              obtain ⟨rfl, rfl⟩ := h33
              refine e_Ok.nrm (q := 178) (st' := [(0, 4 * w 276 (33 * b + y4 + 20704) + 20576), (1, 276)]) rfl rfl ?_
              refine e_Ok.ps1 (x := (0, 3)) (q := 179) 1 rfl ?_
              refine e_Ok.add (z := 4 * w 276 (33 * b + y4 + 20704) + 20579) rfl (e_adl (by decide)) (by omega) ?_
              refine e_Ok.ps1 (x := (0, m29)) (q := 182) 1 rfl ?_
              refine e_Ok.ast rfl (el_o rfl) rfl rfl (by omega) ?_
              generalize hw34 : e_up v1 276 (4 * w 276 (33 * b + y4 + 20704) + 20579) m29 = w34
              have f35 : e_fr mDr w w34 := e_fr.up j3 hw34 (by unfold mDr; omega)
              have hT36 : e_Has mTy w34 := e_Has.upr j4 hw34 (nR_PART3 (p := w 276 (33 * b + y4 + 20704)) (by omega)) (by omega)
              refine e_Ok.ps3 (x := (1, 275)) (y := (4, m29)) (z := (0, y3)) (q := 188) 4 rfl ?_
              refine e_Ok.getr (z := 307) rfl (el_o rfl) rfl (ef_o rfl) (e_uq hw34 (Or.inl (by decide)) ((j3 275 38 no_70_0).trans (e_Has.eq hT (mt_o rfl)))) ⟨by decide, by decide⟩ ?_
              refine e_Ok.ps1 (x := (0, b)) (q := 192) 1 rfl ?_
              have h37 := (e_Has.get hT (c := 307) (k := b) (lo := (-2147483648)) (hi := 2147483647) (mt_o rfl) (by decide))
              refine e_Ok.ald (z := w 307 b) rfl (el_o rfl) rfl (by omega) (e_uq hw34 (Or.inl (by decide)) ((j3 307 b no_70_5).trans rfl)) (e_bq h37 (by decide) (by decide)) ?_
              refine e_Ok.run (t' := (195, [(6, (0, m29)), (7, (0, w 303 b)), (5, (0, w 276 (33 * b + y4 + 20704))), (0, (1, 275)), (1, (0, b)), (2, (0, 33 * b + 20704)), (3, (0, y3)), (4, (0, y4))], [(1, 275), (4, w 307 b), (4, m29), (0, y3)], w34)) 2 rfl ?_
              refine e_Ok.getr (z := 308) rfl (el_o rfl) rfl (ef_o rfl) (e_uq hw34 (Or.inl (by decide)) ((j3 275 39 no_70_0).trans (e_Has.eq hT (mt_o rfl)))) ⟨by decide, by decide⟩ ?_
              refine e_Ok.ps1 (x := (0, b)) (q := 199) 1 rfl ?_
              have h38 := (e_Has.get hT (c := 308) (k := b) (lo := (-2147483648)) (hi := 2147483647) (mt_o rfl) (by decide))
              refine e_Ok.ald (z := w 308 b) rfl (el_o rfl) rfl (by omega) (e_uq hw34 (Or.inl (by decide)) ((j3 308 b no_70_6).trans rfl)) (e_bq h38 (by decide) (by decide)) ?_
              refine e_Ok.run (t' := (201, [(6, (0, m29)), (7, (0, w 303 b)), (5, (0, w 276 (33 * b + y4 + 20704))), (0, (1, 275)), (1, (0, b)), (2, (0, 33 * b + 20704)), (3, (0, y3)), (4, (0, y4))], [(4, w 308 b), (4, w 307 b), (4, m29), (0, y3)], w34)) 1 rfl ?_
              refine e_Ok.callS rfl (e_dq hd rfl) rfl rfl (c_266) (fun r39 w40 h41 => ?_)
              obtain ⟨z42, rfl, rfl, q43⟩ := h41
              obtain ⟨rfl, q43⟩ | ⟨rfl, q43⟩ := q43
              · refine e_Ok.nrm (q := 204) (st' := [(0, 1), (0, y3)]) rfl rfl ?_
                refine e_Ok.any rfl (eB_any _ _) (fun z44 z44a z44b => ?_)
                refine e_Ok.run (t' := (206, [(3, (0, z44)), (6, (0, m29)), (7, (0, w 303 b)), (5, (0, w 276 (33 * b + y4 + 20704))), (0, (1, 275)), (1, (0, b)), (2, (0, 33 * b + 20704)), (4, (0, y4))], [], w34)) 1 rfl ?_
                refine e_Ok.inc (z := y4 + 1) rfl rfl (by first | with_reducible rfl | omega) (by omega) ?_
                show e_Ok 20 elay ecode eI (d + 1) 398 (209, [(4, (0, y4 + 1)), (3, (0, z44)), (6, (0, m29)), (7, (0, w 303 b)), (5, (0, w 276 (33 * b + y4 + 20704))), (0, (1, 275)), (1, (0, b)), (2, (0, 33 * b + 20704))], [], w34) _
                refine e_Ok.ps0 (q := 14) 1 rfl ?_
                refine e_Ok.sub eAlk (e_sub_of rfl ?_) (ih2 z44 (y4 + 1) w34 ⟨f35, hT36, by omega⟩ (by omega))
                exact ⟨rfl, rfl, rfl, rfl, rfl, trivial⟩
              · refine e_Ok.nrm (q := 204) (st' := [(0, 0), (0, y3)]) rfl rfl ?_
                refine e_Ok.any rfl (eB_any _ _) (fun z45 z45a z45b => ?_)
                refine e_Ok.run (t' := (206, [(3, (0, z45)), (6, (0, m29)), (7, (0, w 303 b)), (5, (0, w 276 (33 * b + y4 + 20704))), (0, (1, 275)), (1, (0, b)), (2, (0, 33 * b + 20704)), (4, (0, y4))], [], w34)) 1 rfl ?_
                refine e_Ok.inc (z := y4 + 1) rfl rfl (by first | with_reducible rfl | omega) (by omega) ?_
                show e_Ok 20 elay ecode eI (d + 1) 398 (209, [(4, (0, y4 + 1)), (3, (0, z45)), (6, (0, m29)), (7, (0, w 303 b)), (5, (0, w 276 (33 * b + y4 + 20704))), (0, (1, 275)), (1, (0, b)), (2, (0, 33 * b + 20704))], [], w34) _
                refine e_Ok.ps0 (q := 14) 1 rfl ?_
                refine e_Ok.sub eAlk (e_sub_of rfl ?_) (ih2 z45 (y4 + 1) w34 ⟨f35, hT36, by omega⟩ (by omega))
                exact ⟨rfl, rfl, rfl, rfl, rfl, trivial⟩
            refine e_Ok.if2 rfl (fun h28 => ?_) (fun h28 => ?_)
            · exact e_Ok.run 1 rfl (hJ30 (v1 276 (4 * w 276 (33 * b + y4 + 20704) + 20579)) (by omega))
            · exact e_Ok.run 2 rfl (hJ30 (w 303 b) (by omega))
          · replace h27 : (y4 : Int) > 1 := Int.not_le.mp (show ¬ ((y4 : Int) ≤ 1) from h27)
            refine e_Ok.ps1 (x := (1, 275)) (q := 95) 1 rfl ?_
            refine e_Ok.getr (z := 276) rfl (el_o rfl) rfl (ef_o rfl) ((j3 275 0 no_70_0).trans (e_Has.eq hT (mt_o rfl))) ⟨by decide, by decide⟩ ?_
            refine e_Ok.ps2 (x := (0, y4)) (y := (0, 33 * b + 20704)) (q := 101) 2 rfl ?_
            refine e_Ok.add (z := 33 * b + y4 + 20704) rfl (by omega) (by omega) ?_
            refine e_Ok.ps1 (x := (0, 1)) (q := 103) 1 rfl ?_
            refine e_Ok.sub' (z := 33 * b + y4 + 20703) rfl (by omega) (by omega) ?_
            have h46 := (e_Has.get hT (c := 276) (k := 33 * b + y4 + 20703) (lo := 0) (hi := 31) (nR_ORD b (by omega) (by omega)) (by decide))
            refine e_Ok.ald (z := w 276 (33 * b + y4 + 20703)) rfl (el_o rfl) rfl (by omega) ((j3 276 (33 * b + y4 + 20703) (by unfold mDr; omega)).trans rfl) (e_bq h46 (by decide) (by decide)) ?_
            refine e_Ok.run (t' := (108, [(8, (0, w 276 (33 * b + y4 + 20703))), (7, (0, w 303 b)), (6, (0, v1 276 (4 * w 276 (33 * b + y4 + 20704) + 20579))), (5, (0, w 276 (33 * b + y4 + 20704))), (0, (1, 275)), (1, (0, b)), (2, (0, 33 * b + 20704)), (3, (0, y3)), (4, (0, y4))], [(1, 275)], v1)) 2 rfl ?_
            refine e_Ok.getr (z := 276) rfl (el_o rfl) rfl (ef_o rfl) ((j3 275 0 no_70_0).trans (e_Has.eq hT (mt_o rfl))) ⟨by decide, by decide⟩ ?_
            refine e_Ok.ps1 (x := (0, w 276 (33 * b + y4 + 20703))) (q := 113) 1 rfl ?_
            refine e_Ok.callS rfl (e_dq hd rfl) rfl rfl (c_392 (by omega)) (fun r47 w48 h49 => ?_)
            obtain ⟨rfl, rfl⟩ := h49
            refine e_Ok.nrm (q := 116) (st' := [(0, 4 * w 276 (33 * b + y4 + 20703) + 20576), (1, 276)]) rfl rfl ?_
            refine e_Ok.ps1 (x := (0, 3)) (q := 117) 1 rfl ?_
            refine e_Ok.add (z := 4 * w 276 (33 * b + y4 + 20703) + 20579) rfl (e_adl (by decide)) (by omega) ?_
            have h50 := (e_Has.get j4 (c := 276) (k := 4 * w 276 (33 * b + y4 + 20703) + 20579) (lo := (-2147483648)) (hi := 2147483647) (nR_PART3 (p := w 276 (33 * b + y4 + 20703)) (by omega)) (by decide))
            refine e_Ok.ald (z := v1 276 (4 * w 276 (33 * b + y4 + 20703) + 20579)) rfl rfl rfl (by omega) rfl (e_bq h50 (by decide) (by decide)) ?_
            refine e_Ok.ps1 (x := (1, 275)) (q := 120) 1 rfl ?_
            refine e_Ok.getr (z := 309) rfl (el_o rfl) rfl (ef_o rfl) ((j3 275 41 no_70_0).trans (e_Has.eq hT (mt_o rfl))) ⟨by decide, by decide⟩ ?_
            refine e_Ok.ps1 (x := (0, w 276 (33 * b + y4 + 20703))) (q := 125) 1 rfl ?_
            have h51 := (e_Has.get hT (c := 309) (k := w 276 (33 * b + y4 + 20703)) (lo := 0) (hi := 800) rfl (by decide))
            refine e_Ok.ald (z := w 309 (w 276 (33 * b + y4 + 20703))) rfl rfl rfl (by omega) ((j3 309 (w 276 (33 * b + y4 + 20703)) no_70_7).trans rfl) (e_bq h51 (by decide) (by decide)) ?_
            refine e_Ok.any rfl (eF_sub_any _ _) (fun z52 z52a z52b => ?_)
            refine e_Ok.ps1 (x := (1, 275)) (q := 128) 1 rfl ?_
            refine e_Ok.getr (z := 309) rfl (el_o rfl) rfl (ef_o rfl) ((j3 275 41 no_70_0).trans (e_Has.eq hT (mt_o rfl))) ⟨by decide, by decide⟩ ?_
            refine e_Ok.ps1 (x := (0, w 276 (33 * b + y4 + 20704))) (q := 133) 1 rfl ?_
            have h53 := (e_Has.get hT (c := 309) (k := w 276 (33 * b + y4 + 20704)) (lo := 0) (hi := 800) rfl (by decide))
            refine e_Ok.ald (z := w 309 (w 276 (33 * b + y4 + 20704))) rfl rfl rfl (by omega) ((j3 309 (w 276 (33 * b + y4 + 20704)) no_70_7).trans rfl) (e_bq h53 (by decide) (by decide)) ?_
            refine e_Ok.any rfl (eF_sub_any _ _) (fun z54 z54a z54b => ?_)
            refine e_Ok.run (t' := (141, [(9, (0, z54)), (8, (0, w 276 (33 * b + y4 + 20703))), (7, (0, w 303 b)), (6, (0, v1 276 (4 * w 276 (33 * b + y4 + 20704) + 20579))), (5, (0, w 276 (33 * b + y4 + 20704))), (0, (1, 275)), (1, (0, b)), (2, (0, 33 * b + 20704)), (3, (0, y3)), (4, (0, y4))], [(0, w 303 b), (0, z54)], v1)) 3 rfl ?_
            have hJ57 : ∀ m56 : Int, (-2147483648) ≤ m56 ∧ m56 ≤ 2147483647 → e_Ok 20 elay ecode eI (d + 1) 398 (151, [(9, (0, z54)), (8, (0, w 276 (33 * b + y4 + 20703))), (7, (0, w 303 b)), (6, (0, v1 276 (4 * w 276 (33 * b + y4 + 20704) + 20579))), (5, (0, w 276 (33 * b + y4 + 20704))), (0, (1, 275)), (1, (0, b)), (2, (0, 33 * b + 20704)), (3, (0, y3)), (4, (0, y4))], [(0, m56)], v1) (fun r w' => r = [] ∧ e_fr mDr w w' ∧ e_Has mTy w') := by
              intro m56 m56r
              refine e_Ok.run (t' := (157, [(7, (0, m56)), (9, (0, z54)), (8, (0, w 276 (33 * b + y4 + 20703))), (6, (0, v1 276 (4 * w 276 (33 * b + y4 + 20704) + 20579))), (5, (0, w 276 (33 * b + y4 + 20704))), (0, (1, 275)), (1, (0, b)), (2, (0, 33 * b + 20704)), (3, (0, y3)), (4, (0, y4))], [(0, v1 276 (4 * w 276 (33 * b + y4 + 20704) + 20579)), (0, m56)], v1)) 3 rfl ?_
              have hJ60 : ∀ m59 : Int, (-2147483648) ≤ m59 ∧ m59 ≤ 2147483647 → e_Ok 20 elay ecode eI (d + 1) 398 (167, [(7, (0, m56)), (9, (0, z54)), (8, (0, w 276 (33 * b + y4 + 20703))), (6, (0, v1 276 (4 * w 276 (33 * b + y4 + 20704) + 20579))), (5, (0, w 276 (33 * b + y4 + 20704))), (0, (1, 275)), (1, (0, b)), (2, (0, 33 * b + 20704)), (3, (0, y3)), (4, (0, y4))], [(0, m59)], v1) (fun r w' => r = [] ∧ e_fr mDr w w' ∧ e_Has mTy w') := by
                intro m59 m59r
                refine e_Ok.run (t' := (170, [(6, (0, m59)), (7, (0, m56)), (9, (0, z54)), (8, (0, w 276 (33 * b + y4 + 20703))), (5, (0, w 276 (33 * b + y4 + 20704))), (0, (1, 275)), (1, (0, b)), (2, (0, 33 * b + 20704)), (3, (0, y3)), (4, (0, y4))], [(1, 275)], v1)) 2 rfl ?_
                refine e_Ok.getr (z := 276) rfl (el_o rfl) rfl (ef_o rfl) ((j3 275 0 no_70_0).trans (e_Has.eq hT (mt_o rfl))) ⟨by decide, by decide⟩ ?_
                refine e_Ok.ps1 (x := (0, w 276 (33 * b + y4 + 20704))) (q := 175) 1 rfl ?_
                refine e_Ok.callS rfl (e_dq hd rfl) rfl rfl (c_392 (by omega)) (fun r61 w62 h63 => ?_)
                obtain ⟨rfl, rfl⟩ := h63
                refine e_Ok.nrm (q := 178) (st' := [(0, 4 * w 276 (33 * b + y4 + 20704) + 20576), (1, 276)]) rfl rfl ?_
                refine e_Ok.ps1 (x := (0, 3)) (q := 179) 1 rfl ?_
                refine e_Ok.add (z := 4 * w 276 (33 * b + y4 + 20704) + 20579) rfl (e_adl (by decide)) (by omega) ?_
                refine e_Ok.ps1 (x := (0, m59)) (q := 182) 1 rfl ?_
                refine e_Ok.ast rfl (el_o rfl) rfl rfl (by omega) ?_
                generalize hw64 : e_up v1 276 (4 * w 276 (33 * b + y4 + 20704) + 20579) m59 = w64
                have f65 : e_fr mDr w w64 := e_fr.up j3 hw64 (by unfold mDr; omega)
                have hT66 : e_Has mTy w64 := e_Has.upr j4 hw64 (nR_PART3 (p := w 276 (33 * b + y4 + 20704)) (by omega)) (by omega)
                refine e_Ok.ps3 (x := (1, 275)) (y := (4, m59)) (z := (0, y3)) (q := 188) 4 rfl ?_
                refine e_Ok.getr (z := 307) rfl (el_o rfl) rfl (ef_o rfl) (e_uq hw64 (Or.inl (by decide)) ((j3 275 38 no_70_0).trans (e_Has.eq hT (mt_o rfl)))) ⟨by decide, by decide⟩ ?_
                refine e_Ok.ps1 (x := (0, b)) (q := 192) 1 rfl ?_
                have h67 := (e_Has.get hT (c := 307) (k := b) (lo := (-2147483648)) (hi := 2147483647) (mt_o rfl) (by decide))
                refine e_Ok.ald (z := w 307 b) rfl (el_o rfl) rfl (by omega) (e_uq hw64 (Or.inl (by decide)) ((j3 307 b no_70_5).trans rfl)) (e_bq h67 (by decide) (by decide)) ?_
                refine e_Ok.run (t' := (195, [(6, (0, m59)), (7, (0, m56)), (9, (0, z54)), (8, (0, w 276 (33 * b + y4 + 20703))), (5, (0, w 276 (33 * b + y4 + 20704))), (0, (1, 275)), (1, (0, b)), (2, (0, 33 * b + 20704)), (3, (0, y3)), (4, (0, y4))], [(1, 275), (4, w 307 b), (4, m59), (0, y3)], w64)) 2 rfl ?_
                refine e_Ok.getr (z := 308) rfl (el_o rfl) rfl (ef_o rfl) (e_uq hw64 (Or.inl (by decide)) ((j3 275 39 no_70_0).trans (e_Has.eq hT (mt_o rfl)))) ⟨by decide, by decide⟩ ?_
                refine e_Ok.ps1 (x := (0, b)) (q := 199) 1 rfl ?_
                have h68 := (e_Has.get hT (c := 308) (k := b) (lo := (-2147483648)) (hi := 2147483647) (mt_o rfl) (by decide))
                refine e_Ok.ald (z := w 308 b) rfl (el_o rfl) rfl (by omega) (e_uq hw64 (Or.inl (by decide)) ((j3 308 b no_70_6).trans rfl)) (e_bq h68 (by decide) (by decide)) ?_
                refine e_Ok.run (t' := (201, [(6, (0, m59)), (7, (0, m56)), (9, (0, z54)), (8, (0, w 276 (33 * b + y4 + 20703))), (5, (0, w 276 (33 * b + y4 + 20704))), (0, (1, 275)), (1, (0, b)), (2, (0, 33 * b + 20704)), (3, (0, y3)), (4, (0, y4))], [(4, w 308 b), (4, w 307 b), (4, m59), (0, y3)], w64)) 1 rfl ?_
                refine e_Ok.callS rfl (e_dq hd rfl) rfl rfl (c_266) (fun r69 w70 h71 => ?_)
                obtain ⟨z72, rfl, rfl, q73⟩ := h71
                obtain ⟨rfl, q73⟩ | ⟨rfl, q73⟩ := q73
                · refine e_Ok.nrm (q := 204) (st' := [(0, 1), (0, y3)]) rfl rfl ?_
                  refine e_Ok.any rfl (eB_any _ _) (fun z74 z74a z74b => ?_)
                  refine e_Ok.run (t' := (206, [(3, (0, z74)), (6, (0, m59)), (7, (0, m56)), (9, (0, z54)), (8, (0, w 276 (33 * b + y4 + 20703))), (5, (0, w 276 (33 * b + y4 + 20704))), (0, (1, 275)), (1, (0, b)), (2, (0, 33 * b + 20704)), (4, (0, y4))], [], w64)) 1 rfl ?_
                  refine e_Ok.inc (z := y4 + 1) rfl rfl (by first | with_reducible rfl | omega) (by omega) ?_
                  show e_Ok 20 elay ecode eI (d + 1) 398 (209, [(4, (0, y4 + 1)), (3, (0, z74)), (6, (0, m59)), (7, (0, m56)), (9, (0, z54)), (8, (0, w 276 (33 * b + y4 + 20703))), (5, (0, w 276 (33 * b + y4 + 20704))), (0, (1, 275)), (1, (0, b)), (2, (0, 33 * b + 20704))], [], w64) _
                  refine e_Ok.ps0 (q := 14) 1 rfl ?_
                  refine e_Ok.sub eAlk (e_sub_of rfl ?_) (ih2 z74 (y4 + 1) w64 ⟨f65, hT66, by omega⟩ (by omega))
                  exact ⟨rfl, rfl, rfl, rfl, rfl, trivial⟩
                · refine e_Ok.nrm (q := 204) (st' := [(0, 0), (0, y3)]) rfl rfl ?_
                  refine e_Ok.any rfl (eB_any _ _) (fun z75 z75a z75b => ?_)
                  refine e_Ok.run (t' := (206, [(3, (0, z75)), (6, (0, m59)), (7, (0, m56)), (9, (0, z54)), (8, (0, w 276 (33 * b + y4 + 20703))), (5, (0, w 276 (33 * b + y4 + 20704))), (0, (1, 275)), (1, (0, b)), (2, (0, 33 * b + 20704)), (4, (0, y4))], [], w64)) 1 rfl ?_
                  refine e_Ok.inc (z := y4 + 1) rfl rfl (by first | with_reducible rfl | omega) (by omega) ?_
                  show e_Ok 20 elay ecode eI (d + 1) 398 (209, [(4, (0, y4 + 1)), (3, (0, z75)), (6, (0, m59)), (7, (0, m56)), (9, (0, z54)), (8, (0, w 276 (33 * b + y4 + 20703))), (5, (0, w 276 (33 * b + y4 + 20704))), (0, (1, 275)), (1, (0, b)), (2, (0, 33 * b + 20704))], [], w64) _
                  refine e_Ok.ps0 (q := 14) 1 rfl ?_
                  refine e_Ok.sub eAlk (e_sub_of rfl ?_) (ih2 z75 (y4 + 1) w64 ⟨f65, hT66, by omega⟩ (by omega))
                  exact ⟨rfl, rfl, rfl, rfl, rfl, trivial⟩
              refine e_Ok.if2 rfl (fun h58 => ?_) (fun h58 => ?_)
              · exact e_Ok.run 1 rfl (hJ60 (v1 276 (4 * w 276 (33 * b + y4 + 20704) + 20579)) (by omega))
              · exact e_Ok.run 2 rfl (hJ60 m56 (by omega))
            refine e_Ok.if2 rfl (fun h55 => ?_) (fun h55 => ?_)
            · exact e_Ok.run 1 rfl (hJ57 (w 303 b) (by omega))
            · exact e_Ok.run 2 rfl (hJ57 z54 (by omega))
        · replace h26 : (z24 : Int) < w 303 b := Int.not_le.mp (show ¬ ((z24 : Int) ≥ w 303 b) from h26)
          refine e_Ok.ps2 (x := (1, 275)) (y := (0, v1 276 (4 * w 276 (33 * b + y4 + 20704) + 20579))) (q := 71) 2 rfl ?_
          refine e_Ok.getr (z := 304) rfl (el_o rfl) rfl (ef_o rfl) ((j3 275 35 no_70_0).trans (e_Has.eq hT (mt_o rfl))) ⟨by decide, by decide⟩ ?_
          refine e_Ok.ps1 (x := (0, b)) (q := 75) 1 rfl ?_
          refine e_Ok.ald (z := w 304 b) rfl (el_o rfl) rfl (by omega) ((j3 304 b no_70_3).trans rfl) (by omega) ?_
          refine e_Ok.any rfl (eF_add_any _ _) (fun z76 z76a z76b => ?_)
          refine e_Ok.run (t' := (91, [(7, (0, z76)), (6, (0, v1 276 (4 * w 276 (33 * b + y4 + 20704) + 20579))), (5, (0, w 276 (33 * b + y4 + 20704))), (0, (1, 275)), (1, (0, b)), (2, (0, 33 * b + 20704)), (3, (0, y3)), (4, (0, y4))], [(0, 1), (0, y4)], v1)) 4 rfl ?_
          refine e_Ok.if2 rfl (fun h77 => ?_) (fun h77 => ?_)
          · replace h77 : (y4 : Int) ≤ 1 := h77
            refine e_Ok.ps2 (x := (0, v1 276 (4 * w 276 (33 * b + y4 + 20704) + 20579))) (y := (0, z76)) (q := 157) 2 rfl ?_
            have hJ80 : ∀ m79 : Int, (-2147483648) ≤ m79 ∧ m79 ≤ 2147483647 → e_Ok 20 elay ecode eI (d + 1) 398 (167, [(7, (0, z76)), (6, (0, v1 276 (4 * w 276 (33 * b + y4 + 20704) + 20579))), (5, (0, w 276 (33 * b + y4 + 20704))), (0, (1, 275)), (1, (0, b)), (2, (0, 33 * b + 20704)), (3, (0, y3)), (4, (0, y4))], [(0, m79)], v1) (fun r w' => r = [] ∧ e_fr mDr w w' ∧ e_Has mTy w') := by
              intro m79 m79r
              refine e_Ok.run (t' := (170, [(6, (0, m79)), (7, (0, z76)), (5, (0, w 276 (33 * b + y4 + 20704))), (0, (1, 275)), (1, (0, b)), (2, (0, 33 * b + 20704)), (3, (0, y3)), (4, (0, y4))], [(1, 275)], v1)) 2 rfl ?_
              refine e_Ok.getr (z := 276) rfl (el_o rfl) rfl (ef_o rfl) ((j3 275 0 no_70_0).trans (e_Has.eq hT (mt_o rfl))) ⟨by decide, by decide⟩ ?_
              refine e_Ok.ps1 (x := (0, w 276 (33 * b + y4 + 20704))) (q := 175) 1 rfl ?_
              refine e_Ok.callS rfl (e_dq hd rfl) rfl rfl (c_392 (by omega)) (fun r81 w82 h83 => ?_)
              obtain ⟨rfl, rfl⟩ := h83
              refine e_Ok.nrm (q := 178) (st' := [(0, 4 * w 276 (33 * b + y4 + 20704) + 20576), (1, 276)]) rfl rfl ?_
              refine e_Ok.ps1 (x := (0, 3)) (q := 179) 1 rfl ?_
              refine e_Ok.add (z := 4 * w 276 (33 * b + y4 + 20704) + 20579) rfl (e_adl (by decide)) (by omega) ?_
              refine e_Ok.ps1 (x := (0, m79)) (q := 182) 1 rfl ?_
              refine e_Ok.ast rfl (el_o rfl) rfl rfl (by omega) ?_
              generalize hw84 : e_up v1 276 (4 * w 276 (33 * b + y4 + 20704) + 20579) m79 = w84
              have f85 : e_fr mDr w w84 := e_fr.up j3 hw84 (by unfold mDr; omega)
              have hT86 : e_Has mTy w84 := e_Has.upr j4 hw84 (nR_PART3 (p := w 276 (33 * b + y4 + 20704)) (by omega)) (by omega)
              refine e_Ok.ps3 (x := (1, 275)) (y := (4, m79)) (z := (0, y3)) (q := 188) 4 rfl ?_
              refine e_Ok.getr (z := 307) rfl (el_o rfl) rfl (ef_o rfl) (e_uq hw84 (Or.inl (by decide)) ((j3 275 38 no_70_0).trans (e_Has.eq hT (mt_o rfl)))) ⟨by decide, by decide⟩ ?_
              refine e_Ok.ps1 (x := (0, b)) (q := 192) 1 rfl ?_
              have h87 := (e_Has.get hT (c := 307) (k := b) (lo := (-2147483648)) (hi := 2147483647) (mt_o rfl) (by decide))
              refine e_Ok.ald (z := w 307 b) rfl (el_o rfl) rfl (by omega) (e_uq hw84 (Or.inl (by decide)) ((j3 307 b no_70_5).trans rfl)) (e_bq h87 (by decide) (by decide)) ?_
              refine e_Ok.run (t' := (195, [(6, (0, m79)), (7, (0, z76)), (5, (0, w 276 (33 * b + y4 + 20704))), (0, (1, 275)), (1, (0, b)), (2, (0, 33 * b + 20704)), (3, (0, y3)), (4, (0, y4))], [(1, 275), (4, w 307 b), (4, m79), (0, y3)], w84)) 2 rfl ?_
              refine e_Ok.getr (z := 308) rfl (el_o rfl) rfl (ef_o rfl) (e_uq hw84 (Or.inl (by decide)) ((j3 275 39 no_70_0).trans (e_Has.eq hT (mt_o rfl)))) ⟨by decide, by decide⟩ ?_
              refine e_Ok.ps1 (x := (0, b)) (q := 199) 1 rfl ?_
              have h88 := (e_Has.get hT (c := 308) (k := b) (lo := (-2147483648)) (hi := 2147483647) (mt_o rfl) (by decide))
              refine e_Ok.ald (z := w 308 b) rfl (el_o rfl) rfl (by omega) (e_uq hw84 (Or.inl (by decide)) ((j3 308 b no_70_6).trans rfl)) (e_bq h88 (by decide) (by decide)) ?_
              refine e_Ok.run (t' := (201, [(6, (0, m79)), (7, (0, z76)), (5, (0, w 276 (33 * b + y4 + 20704))), (0, (1, 275)), (1, (0, b)), (2, (0, 33 * b + 20704)), (3, (0, y3)), (4, (0, y4))], [(4, w 308 b), (4, w 307 b), (4, m79), (0, y3)], w84)) 1 rfl ?_
              refine e_Ok.callS rfl (e_dq hd rfl) rfl rfl (c_266) (fun r89 w90 h91 => ?_)
              obtain ⟨z92, rfl, rfl, q93⟩ := h91
              obtain ⟨rfl, q93⟩ | ⟨rfl, q93⟩ := q93
              · refine e_Ok.nrm (q := 204) (st' := [(0, 1), (0, y3)]) rfl rfl ?_
                refine e_Ok.any rfl (eB_any _ _) (fun z94 z94a z94b => ?_)
                refine e_Ok.run (t' := (206, [(3, (0, z94)), (6, (0, m79)), (7, (0, z76)), (5, (0, w 276 (33 * b + y4 + 20704))), (0, (1, 275)), (1, (0, b)), (2, (0, 33 * b + 20704)), (4, (0, y4))], [], w84)) 1 rfl ?_
                refine e_Ok.inc (z := y4 + 1) rfl rfl (by first | with_reducible rfl | omega) (by omega) ?_
                show e_Ok 20 elay ecode eI (d + 1) 398 (209, [(4, (0, y4 + 1)), (3, (0, z94)), (6, (0, m79)), (7, (0, z76)), (5, (0, w 276 (33 * b + y4 + 20704))), (0, (1, 275)), (1, (0, b)), (2, (0, 33 * b + 20704))], [], w84) _
                refine e_Ok.ps0 (q := 14) 1 rfl ?_
                refine e_Ok.sub eAlk (e_sub_of rfl ?_) (ih2 z94 (y4 + 1) w84 ⟨f85, hT86, by omega⟩ (by omega))
                exact ⟨rfl, rfl, rfl, rfl, rfl, trivial⟩
              · refine e_Ok.nrm (q := 204) (st' := [(0, 0), (0, y3)]) rfl rfl ?_
                refine e_Ok.any rfl (eB_any _ _) (fun z95 z95a z95b => ?_)
                refine e_Ok.run (t' := (206, [(3, (0, z95)), (6, (0, m79)), (7, (0, z76)), (5, (0, w 276 (33 * b + y4 + 20704))), (0, (1, 275)), (1, (0, b)), (2, (0, 33 * b + 20704)), (4, (0, y4))], [], w84)) 1 rfl ?_
                refine e_Ok.inc (z := y4 + 1) rfl rfl (by first | with_reducible rfl | omega) (by omega) ?_
                show e_Ok 20 elay ecode eI (d + 1) 398 (209, [(4, (0, y4 + 1)), (3, (0, z95)), (6, (0, m79)), (7, (0, z76)), (5, (0, w 276 (33 * b + y4 + 20704))), (0, (1, 275)), (1, (0, b)), (2, (0, 33 * b + 20704))], [], w84) _
                refine e_Ok.ps0 (q := 14) 1 rfl ?_
                refine e_Ok.sub eAlk (e_sub_of rfl ?_) (ih2 z95 (y4 + 1) w84 ⟨f85, hT86, by omega⟩ (by omega))
                exact ⟨rfl, rfl, rfl, rfl, rfl, trivial⟩
            refine e_Ok.if2 rfl (fun h78 => ?_) (fun h78 => ?_)
            · exact e_Ok.run 1 rfl (hJ80 (v1 276 (4 * w 276 (33 * b + y4 + 20704) + 20579)) (by omega))
            · exact e_Ok.run 2 rfl (hJ80 z76 (by omega))
          · replace h77 : (y4 : Int) > 1 := Int.not_le.mp (show ¬ ((y4 : Int) ≤ 1) from h77)
            refine e_Ok.ps1 (x := (1, 275)) (q := 95) 1 rfl ?_
            refine e_Ok.getr (z := 276) rfl (el_o rfl) rfl (ef_o rfl) ((j3 275 0 no_70_0).trans (e_Has.eq hT (mt_o rfl))) ⟨by decide, by decide⟩ ?_
            refine e_Ok.ps2 (x := (0, y4)) (y := (0, 33 * b + 20704)) (q := 101) 2 rfl ?_
            refine e_Ok.add (z := 33 * b + y4 + 20704) rfl (by omega) (by omega) ?_
            refine e_Ok.ps1 (x := (0, 1)) (q := 103) 1 rfl ?_
            refine e_Ok.sub' (z := 33 * b + y4 + 20703) rfl (by omega) (by omega) ?_
            have h96 := (e_Has.get hT (c := 276) (k := 33 * b + y4 + 20703) (lo := 0) (hi := 31) (nR_ORD b (by omega) (by omega)) (by decide))
            refine e_Ok.ald (z := w 276 (33 * b + y4 + 20703)) rfl (el_o rfl) rfl (by omega) ((j3 276 (33 * b + y4 + 20703) (by unfold mDr; omega)).trans rfl) (e_bq h96 (by decide) (by decide)) ?_
            refine e_Ok.run (t' := (108, [(8, (0, w 276 (33 * b + y4 + 20703))), (7, (0, z76)), (6, (0, v1 276 (4 * w 276 (33 * b + y4 + 20704) + 20579))), (5, (0, w 276 (33 * b + y4 + 20704))), (0, (1, 275)), (1, (0, b)), (2, (0, 33 * b + 20704)), (3, (0, y3)), (4, (0, y4))], [(1, 275)], v1)) 2 rfl ?_
            refine e_Ok.getr (z := 276) rfl (el_o rfl) rfl (ef_o rfl) ((j3 275 0 no_70_0).trans (e_Has.eq hT (mt_o rfl))) ⟨by decide, by decide⟩ ?_
            refine e_Ok.ps1 (x := (0, w 276 (33 * b + y4 + 20703))) (q := 113) 1 rfl ?_
            refine e_Ok.callS rfl (e_dq hd rfl) rfl rfl (c_392 (by omega)) (fun r97 w98 h99 => ?_)
            obtain ⟨rfl, rfl⟩ := h99
            refine e_Ok.nrm (q := 116) (st' := [(0, 4 * w 276 (33 * b + y4 + 20703) + 20576), (1, 276)]) rfl rfl ?_
            refine e_Ok.ps1 (x := (0, 3)) (q := 117) 1 rfl ?_
            refine e_Ok.add (z := 4 * w 276 (33 * b + y4 + 20703) + 20579) rfl (e_adl (by decide)) (by omega) ?_
            have h100 := (e_Has.get j4 (c := 276) (k := 4 * w 276 (33 * b + y4 + 20703) + 20579) (lo := (-2147483648)) (hi := 2147483647) (nR_PART3 (p := w 276 (33 * b + y4 + 20703)) (by omega)) (by decide))
            refine e_Ok.ald (z := v1 276 (4 * w 276 (33 * b + y4 + 20703) + 20579)) rfl rfl rfl (by omega) rfl (e_bq h100 (by decide) (by decide)) ?_
            refine e_Ok.ps1 (x := (1, 275)) (q := 120) 1 rfl ?_
            refine e_Ok.getr (z := 309) rfl (el_o rfl) rfl (ef_o rfl) ((j3 275 41 no_70_0).trans (e_Has.eq hT (mt_o rfl))) ⟨by decide, by decide⟩ ?_
            refine e_Ok.ps1 (x := (0, w 276 (33 * b + y4 + 20703))) (q := 125) 1 rfl ?_
            have h101 := (e_Has.get hT (c := 309) (k := w 276 (33 * b + y4 + 20703)) (lo := 0) (hi := 800) rfl (by decide))
            refine e_Ok.ald (z := w 309 (w 276 (33 * b + y4 + 20703))) rfl rfl rfl (by omega) ((j3 309 (w 276 (33 * b + y4 + 20703)) no_70_7).trans rfl) (e_bq h101 (by decide) (by decide)) ?_
            refine e_Ok.any rfl (eF_sub_any _ _) (fun z102 z102a z102b => ?_)
            refine e_Ok.ps1 (x := (1, 275)) (q := 128) 1 rfl ?_
            refine e_Ok.getr (z := 309) rfl (el_o rfl) rfl (ef_o rfl) ((j3 275 41 no_70_0).trans (e_Has.eq hT (mt_o rfl))) ⟨by decide, by decide⟩ ?_
            refine e_Ok.ps1 (x := (0, w 276 (33 * b + y4 + 20704))) (q := 133) 1 rfl ?_
            have h103 := (e_Has.get hT (c := 309) (k := w 276 (33 * b + y4 + 20704)) (lo := 0) (hi := 800) rfl (by decide))
            refine e_Ok.ald (z := w 309 (w 276 (33 * b + y4 + 20704))) rfl rfl rfl (by omega) ((j3 309 (w 276 (33 * b + y4 + 20704)) no_70_7).trans rfl) (e_bq h103 (by decide) (by decide)) ?_
            refine e_Ok.any rfl (eF_sub_any _ _) (fun z104 z104a z104b => ?_)
            refine e_Ok.run (t' := (141, [(9, (0, z104)), (8, (0, w 276 (33 * b + y4 + 20703))), (7, (0, z76)), (6, (0, v1 276 (4 * w 276 (33 * b + y4 + 20704) + 20579))), (5, (0, w 276 (33 * b + y4 + 20704))), (0, (1, 275)), (1, (0, b)), (2, (0, 33 * b + 20704)), (3, (0, y3)), (4, (0, y4))], [(0, z76), (0, z104)], v1)) 3 rfl ?_
            have hJ107 : ∀ m106 : Int, (-2147483648) ≤ m106 ∧ m106 ≤ 2147483647 → e_Ok 20 elay ecode eI (d + 1) 398 (151, [(9, (0, z104)), (8, (0, w 276 (33 * b + y4 + 20703))), (7, (0, z76)), (6, (0, v1 276 (4 * w 276 (33 * b + y4 + 20704) + 20579))), (5, (0, w 276 (33 * b + y4 + 20704))), (0, (1, 275)), (1, (0, b)), (2, (0, 33 * b + 20704)), (3, (0, y3)), (4, (0, y4))], [(0, m106)], v1) (fun r w' => r = [] ∧ e_fr mDr w w' ∧ e_Has mTy w') := by
              intro m106 m106r
              refine e_Ok.run (t' := (157, [(7, (0, m106)), (9, (0, z104)), (8, (0, w 276 (33 * b + y4 + 20703))), (6, (0, v1 276 (4 * w 276 (33 * b + y4 + 20704) + 20579))), (5, (0, w 276 (33 * b + y4 + 20704))), (0, (1, 275)), (1, (0, b)), (2, (0, 33 * b + 20704)), (3, (0, y3)), (4, (0, y4))], [(0, v1 276 (4 * w 276 (33 * b + y4 + 20704) + 20579)), (0, m106)], v1)) 3 rfl ?_
              have hJ110 : ∀ m109 : Int, (-2147483648) ≤ m109 ∧ m109 ≤ 2147483647 → e_Ok 20 elay ecode eI (d + 1) 398 (167, [(7, (0, m106)), (9, (0, z104)), (8, (0, w 276 (33 * b + y4 + 20703))), (6, (0, v1 276 (4 * w 276 (33 * b + y4 + 20704) + 20579))), (5, (0, w 276 (33 * b + y4 + 20704))), (0, (1, 275)), (1, (0, b)), (2, (0, 33 * b + 20704)), (3, (0, y3)), (4, (0, y4))], [(0, m109)], v1) (fun r w' => r = [] ∧ e_fr mDr w w' ∧ e_Has mTy w') := by
                intro m109 m109r
                refine e_Ok.run (t' := (170, [(6, (0, m109)), (7, (0, m106)), (9, (0, z104)), (8, (0, w 276 (33 * b + y4 + 20703))), (5, (0, w 276 (33 * b + y4 + 20704))), (0, (1, 275)), (1, (0, b)), (2, (0, 33 * b + 20704)), (3, (0, y3)), (4, (0, y4))], [(1, 275)], v1)) 2 rfl ?_
                refine e_Ok.getr (z := 276) rfl (el_o rfl) rfl (ef_o rfl) ((j3 275 0 no_70_0).trans (e_Has.eq hT (mt_o rfl))) ⟨by decide, by decide⟩ ?_
                refine e_Ok.ps1 (x := (0, w 276 (33 * b + y4 + 20704))) (q := 175) 1 rfl ?_
                refine e_Ok.callS rfl (e_dq hd rfl) rfl rfl (c_392 (by omega)) (fun r111 w112 h113 => ?_)
                obtain ⟨rfl, rfl⟩ := h113
                refine e_Ok.nrm (q := 178) (st' := [(0, 4 * w 276 (33 * b + y4 + 20704) + 20576), (1, 276)]) rfl rfl ?_
                refine e_Ok.ps1 (x := (0, 3)) (q := 179) 1 rfl ?_
                refine e_Ok.add (z := 4 * w 276 (33 * b + y4 + 20704) + 20579) rfl (e_adl (by decide)) (by omega) ?_
                refine e_Ok.ps1 (x := (0, m109)) (q := 182) 1 rfl ?_
                refine e_Ok.ast rfl (el_o rfl) rfl rfl (by omega) ?_
                generalize hw114 : e_up v1 276 (4 * w 276 (33 * b + y4 + 20704) + 20579) m109 = w114
                have f115 : e_fr mDr w w114 := e_fr.up j3 hw114 (by unfold mDr; omega)
                have hT116 : e_Has mTy w114 := e_Has.upr j4 hw114 (nR_PART3 (p := w 276 (33 * b + y4 + 20704)) (by omega)) (by omega)
                refine e_Ok.ps3 (x := (1, 275)) (y := (4, m109)) (z := (0, y3)) (q := 188) 4 rfl ?_
                refine e_Ok.getr (z := 307) rfl (el_o rfl) rfl (ef_o rfl) (e_uq hw114 (Or.inl (by decide)) ((j3 275 38 no_70_0).trans (e_Has.eq hT (mt_o rfl)))) ⟨by decide, by decide⟩ ?_
                refine e_Ok.ps1 (x := (0, b)) (q := 192) 1 rfl ?_
                have h117 := (e_Has.get hT (c := 307) (k := b) (lo := (-2147483648)) (hi := 2147483647) (mt_o rfl) (by decide))
                refine e_Ok.ald (z := w 307 b) rfl (el_o rfl) rfl (by omega) (e_uq hw114 (Or.inl (by decide)) ((j3 307 b no_70_5).trans rfl)) (e_bq h117 (by decide) (by decide)) ?_
                refine e_Ok.run (t' := (195, [(6, (0, m109)), (7, (0, m106)), (9, (0, z104)), (8, (0, w 276 (33 * b + y4 + 20703))), (5, (0, w 276 (33 * b + y4 + 20704))), (0, (1, 275)), (1, (0, b)), (2, (0, 33 * b + 20704)), (3, (0, y3)), (4, (0, y4))], [(1, 275), (4, w 307 b), (4, m109), (0, y3)], w114)) 2 rfl ?_
                refine e_Ok.getr (z := 308) rfl (el_o rfl) rfl (ef_o rfl) (e_uq hw114 (Or.inl (by decide)) ((j3 275 39 no_70_0).trans (e_Has.eq hT (mt_o rfl)))) ⟨by decide, by decide⟩ ?_
                refine e_Ok.ps1 (x := (0, b)) (q := 199) 1 rfl ?_
                have h118 := (e_Has.get hT (c := 308) (k := b) (lo := (-2147483648)) (hi := 2147483647) (mt_o rfl) (by decide))
                refine e_Ok.ald (z := w 308 b) rfl (el_o rfl) rfl (by omega) (e_uq hw114 (Or.inl (by decide)) ((j3 308 b no_70_6).trans rfl)) (e_bq h118 (by decide) (by decide)) ?_
                refine e_Ok.run (t' := (201, [(6, (0, m109)), (7, (0, m106)), (9, (0, z104)), (8, (0, w 276 (33 * b + y4 + 20703))), (5, (0, w 276 (33 * b + y4 + 20704))), (0, (1, 275)), (1, (0, b)), (2, (0, 33 * b + 20704)), (3, (0, y3)), (4, (0, y4))], [(4, w 308 b), (4, w 307 b), (4, m109), (0, y3)], w114)) 1 rfl ?_
                refine e_Ok.callS rfl (e_dq hd rfl) rfl rfl (c_266) (fun r119 w120 h121 => ?_)
                obtain ⟨z122, rfl, rfl, q123⟩ := h121
                obtain ⟨rfl, q123⟩ | ⟨rfl, q123⟩ := q123
                · refine e_Ok.nrm (q := 204) (st' := [(0, 1), (0, y3)]) rfl rfl ?_
                  refine e_Ok.any rfl (eB_any _ _) (fun z124 z124a z124b => ?_)
                  refine e_Ok.run (t' := (206, [(3, (0, z124)), (6, (0, m109)), (7, (0, m106)), (9, (0, z104)), (8, (0, w 276 (33 * b + y4 + 20703))), (5, (0, w 276 (33 * b + y4 + 20704))), (0, (1, 275)), (1, (0, b)), (2, (0, 33 * b + 20704)), (4, (0, y4))], [], w114)) 1 rfl ?_
                  refine e_Ok.inc (z := y4 + 1) rfl rfl (by first | with_reducible rfl | omega) (by omega) ?_
                  show e_Ok 20 elay ecode eI (d + 1) 398 (209, [(4, (0, y4 + 1)), (3, (0, z124)), (6, (0, m109)), (7, (0, m106)), (9, (0, z104)), (8, (0, w 276 (33 * b + y4 + 20703))), (5, (0, w 276 (33 * b + y4 + 20704))), (0, (1, 275)), (1, (0, b)), (2, (0, 33 * b + 20704))], [], w114) _
                  refine e_Ok.ps0 (q := 14) 1 rfl ?_
                  refine e_Ok.sub eAlk (e_sub_of rfl ?_) (ih2 z124 (y4 + 1) w114 ⟨f115, hT116, by omega⟩ (by omega))
                  exact ⟨rfl, rfl, rfl, rfl, rfl, trivial⟩
                · refine e_Ok.nrm (q := 204) (st' := [(0, 0), (0, y3)]) rfl rfl ?_
                  refine e_Ok.any rfl (eB_any _ _) (fun z125 z125a z125b => ?_)
                  refine e_Ok.run (t' := (206, [(3, (0, z125)), (6, (0, m109)), (7, (0, m106)), (9, (0, z104)), (8, (0, w 276 (33 * b + y4 + 20703))), (5, (0, w 276 (33 * b + y4 + 20704))), (0, (1, 275)), (1, (0, b)), (2, (0, 33 * b + 20704)), (4, (0, y4))], [], w114)) 1 rfl ?_
                  refine e_Ok.inc (z := y4 + 1) rfl rfl (by first | with_reducible rfl | omega) (by omega) ?_
                  show e_Ok 20 elay ecode eI (d + 1) 398 (209, [(4, (0, y4 + 1)), (3, (0, z125)), (6, (0, m109)), (7, (0, m106)), (9, (0, z104)), (8, (0, w 276 (33 * b + y4 + 20703))), (5, (0, w 276 (33 * b + y4 + 20704))), (0, (1, 275)), (1, (0, b)), (2, (0, 33 * b + 20704))], [], w114) _
                  refine e_Ok.ps0 (q := 14) 1 rfl ?_
                  refine e_Ok.sub eAlk (e_sub_of rfl ?_) (ih2 z125 (y4 + 1) w114 ⟨f115, hT116, by omega⟩ (by omega))
                  exact ⟨rfl, rfl, rfl, rfl, rfl, trivial⟩
              refine e_Ok.if2 rfl (fun h108 => ?_) (fun h108 => ?_)
              · exact e_Ok.run 1 rfl (hJ110 (v1 276 (4 * w 276 (33 * b + y4 + 20704) + 20579)) (by omega))
              · exact e_Ok.run 2 rfl (hJ110 m106 (by omega))
            refine e_Ok.if2 rfl (fun h105 => ?_) (fun h105 => ?_)
            · exact e_Ok.run 1 rfl (hJ107 z76 (by omega))
            · exact e_Ok.run 2 rfl (hJ107 z104 (by omega))
  refine e_Ok.sub eAlk (e_sub_of rfl ?_) (hL1 (34 + 1 : Int).toNat 0 1 w ⟨(e_fr.refl w), hT, by omega⟩ (by omega))
  exact ⟨rfl, rfl, rfl, rfl, rfl, trivial⟩
theorem no_70_8 {t : Int} {k : Int} : ¬ mPt t 275 k := by unfold mPt; omega
theorem no_70_9 {t : Int} {k : Int} : ¬ mPt t 286 k := by unfold mPt; omega
theorem su_70_11 {t : Int} {c k : Int} (q : mPt t c k) : mP c k := by
  unfold mPt at q
  rcases q with ⟨(q | q), ⟨q, q⟩⟩
  · exact Or.inl (by omega)
  · exact Or.inr (by omega)
theorem c_395 {d : Nat} (hd : 23 ≤ d) {w : eW} (hT : e_Has mTy w) {p x : Int} (hp : 0 ≤ p ∧ p ≤ 31) (hx : 0 ≤ x ∧ x ≤ 1) : e_Ok 20 elay ecode eI d 395 (0, [(0, (1, 275)), (1, (0, p)), (2, (0, x))], [], w) (fun r w' => ∃ z : Int, r = [(0, z)] ∧ e_fr mP w w' ∧ -2147483648 ≤ z ∧ z ≤ 2147483647) := by
  obtain ⟨d, rfl⟩ : ∃ e, d = e + 1 := ⟨d - 1, by omega⟩
  refine e_Ok.ps1 (x := (1, 275)) (q := 1) 1 rfl ?_
  refine e_Ok.getr (z := 276) rfl (el_o rfl) rfl (ef_o rfl) (e_Has.eq hT (mt_o rfl)) ⟨by decide, by decide⟩ ?_
  refine e_Ok.ps1 (x := (0, p)) (q := 5) 1 rfl ?_
  refine e_Ok.callS rfl (e_dq hd rfl) rfl rfl (c_392 (by omega)) (fun r1 w2 h3 => ?_)
  obtain ⟨rfl, rfl⟩ := h3
  refine e_Ok.nrm (q := 8) (st' := [(0, 4 * p + 20576), (1, 276)]) rfl rfl ?_
  have h4 := (e_Has.get hT (c := 276) (k := 4 * p + 20576) (lo := 0) (hi := 8) (nR_WHERE (p := p) (by omega)) (by decide))
  refine e_Ok.ald (z := w 276 (4 * p + 20576)) rfl (el_o rfl) rfl (by omega) rfl (e_bq h4 (by decide) (by decide)) ?_
  refine e_Ok.run (t' := (13, [(3, (0, w 276 (4 * p + 20576))), (0, (1, 275)), (1, (0, p)), (2, (0, x))], [(0, 8), (0, w 276 (4 * p + 20576))], w)) 3 rfl ?_
  refine e_Ok.if2 rfl (fun h5 => ?_) (fun h5 => ?_)
  · replace h5 : (w 276 (4 * p + 20576) : Int) ≠ 8 := h5
    refine e_Ok.ps2 (x := (0, 4)) (y := (0, w 276 (4 * p + 20576))) (q := 32) 2 rfl ?_
    refine e_Ok.if2 rfl (fun h6 => ?_) (fun h6 => ?_)
    · replace h6 : (w 276 (4 * p + 20576) : Int) < 4 := h6
      refine e_Ok.ps1 (x := (1, 275)) (q := 92) 1 rfl ?_
      refine e_Ok.getr (z := 302) rfl (el_o rfl) rfl (ef_o rfl) (e_Has.eq hT (mt_o rfl)) ⟨by decide, by decide⟩ ?_
      refine e_Ok.ps1 (x := (0, w 276 (4 * p + 20576))) (q := 96) 1 rfl ?_
      have h7 := (e_Has.get hT (c := 302) (k := w 276 (4 * p + 20576)) (lo := 0) (hi := 3) rfl (by decide))
      refine e_Ok.ald (z := w 302 (w 276 (4 * p + 20576))) rfl rfl rfl (by omega) rfl (e_bq h7 (by decide) (by decide)) ?_
      refine e_Ok.ps1 (x := (0, 2)) (q := 98) 1 rfl ?_
      refine e_Ok.remn (fun z8 hz8 => ?_) rfl (by omega) (by omega)
      replace hz8 : z8 = (w 302 (w 276 (4 * p + 20576))) % 2 := hz8
      have z8r : 0 ≤ z8 ∧ z8 ≤ 1 := by omega
      refine e_Ok.ps1 (x := (0, x)) (q := 100) 1 rfl ?_
      refine e_Ok.if2 rfl (fun h9 => ?_) (fun h9 => ?_)
      · replace h9 : (z8 : Int) = x := h9
        refine e_Ok.ps1 (x := (1, 275)) (q := 108) 1 rfl ?_
        refine e_Ok.getr (z := 302) rfl (el_o rfl) rfl (ef_o rfl) (e_Has.eq hT (mt_o rfl)) ⟨by decide, by decide⟩ ?_
        refine e_Ok.ps1 (x := (0, w 276 (4 * p + 20576))) (q := 112) 1 rfl ?_
        refine e_Ok.ald (z := w 302 (w 276 (4 * p + 20576))) rfl rfl rfl (by omega) rfl (by omega) ?_
        refine e_Ok.ps1 (x := (0, 2)) (q := 114) 1 rfl ?_
        refine e_Ok.if2 rfl (fun h10 => ?_) (fun h10 => ?_)
        · replace h10 : (w 302 (w 276 (4 * p + 20576)) : Int) ≥ 2 := h10
          refine e_Ok.ps1 (x := (1, 275)) (q := 132) 1 rfl ?_
          refine e_Ok.getr (z := 276) rfl (el_o rfl) rfl (ef_o rfl) (e_Has.eq hT (mt_o rfl)) ⟨by decide, by decide⟩ ?_
          refine e_Ok.ps1 (x := (0, p)) (q := 136) 1 rfl ?_
          refine e_Ok.callS rfl (e_dq hd rfl) rfl rfl (c_392 (by omega)) (fun r11 w12 h13 => ?_)
          obtain ⟨rfl, rfl⟩ := h13
          refine e_Ok.nrm (q := 139) (st' := [(0, 4 * p + 20576), (1, 276)]) rfl rfl ?_
          refine e_Ok.ps1 (x := (0, 3)) (q := 140) 1 rfl ?_
          refine e_Ok.add (z := 4 * p + 20579) rfl (e_adl (by decide)) (by omega) ?_
          have h14 := (e_Has.get hT (c := 276) (k := 4 * p + 20579) (lo := (-2147483648)) (hi := 2147483647) (nR_PART3 (p := p) (by omega)) (by decide))
          refine e_Ok.ald (z := w 276 (4 * p + 20579)) rfl (el_o rfl) rfl (by omega) rfl (e_bq h14 (by decide) (by decide)) ?_
          refine e_Ok.anyU rfl (fun z15 z15a z15b => ?_)
          refine e_Ok.run (t' := (148, [(4, (0, z15)), (3, (0, w 276 (4 * p + 20576))), (0, (1, 275)), (1, (0, p)), (2, (0, x))], [(0, x), (0, z15)], w)) 3 rfl ?_
          refine e_Ok.if1 rfl (fun h16 => ?_) (fun h16 => ?_)
          · replace h16 : (x : Int) ≠ 0 := h16
            refine e_Ok.ps1 (x := (1, 275)) (q := 161) 1 rfl ?_
            refine e_Ok.getr (z := 301) rfl (el_o rfl) rfl (ef_o rfl) (e_Has.eq hT (mt_o rfl)) ⟨by decide, by decide⟩ ?_
            refine e_Ok.ps1 (x := (0, w 276 (4 * p + 20576))) (q := 165) 1 rfl ?_
            have h17 := (e_Has.get hT (c := 301) (k := w 276 (4 * p + 20576)) (lo := (-16000)) (hi := 16000) rfl (by decide))
            refine e_Ok.ald (z := w 301 (w 276 (4 * p + 20576))) rfl rfl rfl (by omega) rfl (e_bq h17 (by decide) (by decide)) ?_
            refine e_Ok.any rfl (eF_add_any _ _) (fun z18 z18a z18b => ?_)
            refine e_Ok.rets rfl rfl ?_
            exact ⟨_, rfl, (e_fr.refl w), by omega, by omega⟩
          · replace h16 : (x : Int) = 0 := Classical.not_not.mp (show ¬ ((x : Int) ≠ 0) from h16)
            refine e_Ok.ps1 (x := (1, 275)) (q := 152) 1 rfl ?_
            refine e_Ok.getr (z := 300) rfl (el_o rfl) rfl (ef_o rfl) (e_Has.eq hT (mt_o rfl)) ⟨by decide, by decide⟩ ?_
            refine e_Ok.ps1 (x := (0, w 276 (4 * p + 20576))) (q := 156) 1 rfl ?_
            have h19 := (e_Has.get hT (c := 300) (k := w 276 (4 * p + 20576)) (lo := (-16000)) (hi := 16000) rfl (by decide))
            refine e_Ok.ald (z := w 300 (w 276 (4 * p + 20576))) rfl rfl rfl (by omega) rfl (e_bq h19 (by decide) (by decide)) ?_
            refine e_Ok.ps0 (q := 166) 1 rfl ?_
            refine e_Ok.any rfl (eF_add_any _ _) (fun z20 z20a z20b => ?_)
            refine e_Ok.rets rfl rfl ?_
            exact ⟨_, rfl, (e_fr.refl w), by omega, by omega⟩
        · replace h10 : (w 302 (w 276 (4 * p + 20576)) : Int) < 2 := Int.not_le.mp (show ¬ ((w 302 (w 276 (4 * p + 20576)) : Int) ≥ 2) from h10)
          refine e_Ok.ps1 (x := (1, 275)) (q := 118) 1 rfl ?_
          refine e_Ok.getr (z := 276) rfl (el_o rfl) rfl (ef_o rfl) (e_Has.eq hT (mt_o rfl)) ⟨by decide, by decide⟩ ?_
          refine e_Ok.ps1 (x := (0, p)) (q := 122) 1 rfl ?_
          refine e_Ok.callS rfl (e_dq hd rfl) rfl rfl (c_392 (by omega)) (fun r21 w22 h23 => ?_)
          obtain ⟨rfl, rfl⟩ := h23
          refine e_Ok.nrm (q := 125) (st' := [(0, 4 * p + 20576), (1, 276)]) rfl rfl ?_
          refine e_Ok.ps1 (x := (0, 3)) (q := 126) 1 rfl ?_
          refine e_Ok.add (z := 4 * p + 20579) rfl (e_adl (by decide)) (by omega) ?_
          have h24 := (e_Has.get hT (c := 276) (k := 4 * p + 20579) (lo := (-2147483648)) (hi := 2147483647) (nR_PART3 (p := p) (by omega)) (by decide))
          refine e_Ok.ald (z := w 276 (4 * p + 20579)) rfl (el_o rfl) rfl (by omega) rfl (e_bq h24 (by decide) (by decide)) ?_
          refine e_Ok.run (t' := (148, [(4, (0, w 276 (4 * p + 20579))), (3, (0, w 276 (4 * p + 20576))), (0, (1, 275)), (1, (0, p)), (2, (0, x))], [(0, x), (0, w 276 (4 * p + 20579))], w)) 4 rfl ?_
          refine e_Ok.if1 rfl (fun h25 => ?_) (fun h25 => ?_)
          · replace h25 : (x : Int) ≠ 0 := h25
            refine e_Ok.ps1 (x := (1, 275)) (q := 161) 1 rfl ?_
            refine e_Ok.getr (z := 301) rfl (el_o rfl) rfl (ef_o rfl) (e_Has.eq hT (mt_o rfl)) ⟨by decide, by decide⟩ ?_
            refine e_Ok.ps1 (x := (0, w 276 (4 * p + 20576))) (q := 165) 1 rfl ?_
            have h26 := (e_Has.get hT (c := 301) (k := w 276 (4 * p + 20576)) (lo := (-16000)) (hi := 16000) rfl (by decide))
            refine e_Ok.ald (z := w 301 (w 276 (4 * p + 20576))) rfl rfl rfl (by omega) rfl (e_bq h26 (by decide) (by decide)) ?_
            refine e_Ok.any rfl (eF_add_any _ _) (fun z27 z27a z27b => ?_)
            refine e_Ok.rets rfl rfl ?_
            exact ⟨_, rfl, (e_fr.refl w), by omega, by omega⟩
          · replace h25 : (x : Int) = 0 := Classical.not_not.mp (show ¬ ((x : Int) ≠ 0) from h25)
            refine e_Ok.ps1 (x := (1, 275)) (q := 152) 1 rfl ?_
            refine e_Ok.getr (z := 300) rfl (el_o rfl) rfl (ef_o rfl) (e_Has.eq hT (mt_o rfl)) ⟨by decide, by decide⟩ ?_
            refine e_Ok.ps1 (x := (0, w 276 (4 * p + 20576))) (q := 156) 1 rfl ?_
            have h28 := (e_Has.get hT (c := 300) (k := w 276 (4 * p + 20576)) (lo := (-16000)) (hi := 16000) rfl (by decide))
            refine e_Ok.ald (z := w 300 (w 276 (4 * p + 20576))) rfl rfl rfl (by omega) rfl (e_bq h28 (by decide) (by decide)) ?_
            refine e_Ok.ps0 (q := 166) 1 rfl ?_
            refine e_Ok.any rfl (eF_add_any _ _) (fun z29 z29a z29b => ?_)
            refine e_Ok.rets rfl rfl ?_
            exact ⟨_, rfl, (e_fr.refl w), by omega, by omega⟩
      · replace h9 : (z8 : Int) ≠ x := (show ¬ ((z8 : Int) = x) from h9)
        refine e_Ok.run (t' := (148, [(4, (0, 0)), (3, (0, w 276 (4 * p + 20576))), (0, (1, 275)), (1, (0, p)), (2, (0, x))], [(0, x), (0, 0)], w)) 5 rfl ?_
        refine e_Ok.if1 rfl (fun h30 => ?_) (fun h30 => ?_)
        · replace h30 : (x : Int) ≠ 0 := h30
          refine e_Ok.ps1 (x := (1, 275)) (q := 161) 1 rfl ?_
          refine e_Ok.getr (z := 301) rfl (el_o rfl) rfl (ef_o rfl) (e_Has.eq hT (mt_o rfl)) ⟨by decide, by decide⟩ ?_
          refine e_Ok.ps1 (x := (0, w 276 (4 * p + 20576))) (q := 165) 1 rfl ?_
          have h31 := (e_Has.get hT (c := 301) (k := w 276 (4 * p + 20576)) (lo := (-16000)) (hi := 16000) rfl (by decide))
          refine e_Ok.ald (z := w 301 (w 276 (4 * p + 20576))) rfl rfl rfl (by omega) rfl (e_bq h31 (by decide) (by decide)) ?_
          refine e_Ok.add (z := w 301 (w 276 (4 * p + 20576))) rfl (by omega) (by omega) ?_
          refine e_Ok.rets rfl rfl ?_
          exact ⟨_, rfl, (e_fr.refl w), by omega, by omega⟩
        · replace h30 : (x : Int) = 0 := Classical.not_not.mp (show ¬ ((x : Int) ≠ 0) from h30)
          refine e_Ok.ps1 (x := (1, 275)) (q := 152) 1 rfl ?_
          refine e_Ok.getr (z := 300) rfl (el_o rfl) rfl (ef_o rfl) (e_Has.eq hT (mt_o rfl)) ⟨by decide, by decide⟩ ?_
          refine e_Ok.ps1 (x := (0, w 276 (4 * p + 20576))) (q := 156) 1 rfl ?_
          have h32 := (e_Has.get hT (c := 300) (k := w 276 (4 * p + 20576)) (lo := (-16000)) (hi := 16000) rfl (by decide))
          refine e_Ok.ald (z := w 300 (w 276 (4 * p + 20576))) rfl rfl rfl (by omega) rfl (e_bq h32 (by decide) (by decide)) ?_
          refine e_Ok.ps0 (q := 166) 1 rfl ?_
          refine e_Ok.add (z := w 300 (w 276 (4 * p + 20576))) rfl (by omega) (by omega) ?_
          refine e_Ok.rets rfl rfl ?_
          exact ⟨_, rfl, (e_fr.refl w), by omega, by omega⟩
    · replace h6 : (w 276 (4 * p + 20576) : Int) ≥ 4 := Int.not_lt.mp (show ¬ ((w 276 (4 * p + 20576) : Int) < 4) from h6)
      refine e_Ok.ps3 (x := (0, 4)) (y := (0, w 276 (4 * p + 20576))) (z := (1, 275)) (q := 38) 3 rfl ?_
      refine e_Ok.sub' (z := w 276 (4 * p + 20576) - 4) rfl rfl (by omega) ?_
      refine e_Ok.ps1 (x := (0, 0)) (q := 40) 1 rfl ?_
      refine e_Ok.callV rfl (e_dq hd rfl) rfl rfl rfl rfl (c_301_0 (e_dq hd rfl) hT (by omega)) (fun r33 w34 h35 => ?_)
      obtain ⟨rfl, q36, q36k⟩ := h35
      have f37 : e_fr mP w w34 := e_fr.trans (e_fr.refl w) (e_fr.mono q36 (fun c k q => by first | exact su_70_11 q | (unfold mPt at q; unfold mP; omega)))
      refine e_Ok.nrm (q := 43) (st' := []) rfl rfl ?_
      refine e_Ok.ps1 (x := (0, x)) (q := 44) 1 rfl ?_
      refine e_Ok.if1 rfl (fun h38 => ?_) (fun h38 => ?_)
      · replace h38 : (x : Int) ≠ 0 := h38
        refine e_Ok.ps1 (x := (1, 275)) (q := 71) 1 rfl ?_
        refine e_Ok.getr (z := 322) rfl (el_o rfl) rfl (ef_o rfl) ((q36 275 56 (by first | exact no_70_8 | (unfold mPt; omega))).trans (e_Has.eq hT (mt_o rfl))) ⟨by decide, by decide⟩ ?_
        refine e_Ok.ps3 (x := (0, 4)) (y := (0, w 276 (4 * p + 20576))) (z := (0, 7)) (q := 78) 3 rfl ?_
        refine e_Ok.sub' (z := w 276 (4 * p + 20576) - 4) rfl rfl (by omega) ?_
        refine e_Ok.mul (z := 7 * w 276 (4 * p + 20576) - 28) rfl (by omega) (by omega) ?_
        refine e_Ok.ps1 (x := (1, 275)) (q := 81) 1 rfl ?_
        refine e_Ok.getr (z := 286) rfl (el_o rfl) rfl (ef_o rfl) ((q36 275 15 (by first | exact no_70_8 | (unfold mPt; omega))).trans (e_Has.eq hT (mt_o rfl))) ⟨by decide, by decide⟩ ?_
        refine e_Ok.ps2 (x := (0, 4)) (y := (0, w 276 (4 * p + 20576))) (q := 86) 2 rfl ?_
        refine e_Ok.sub' (z := w 276 (4 * p + 20576) - 4) rfl rfl (by omega) ?_
        have h39 := (e_Has.get hT (c := 286) (k := w 276 (4 * p + 20576) - 4) (lo := 0) (hi := 6) rfl (by decide))
        refine e_Ok.ald (z := w 286 (w 276 (4 * p + 20576) - 4)) rfl rfl rfl (by omega) ((q36 286 (w 276 (4 * p + 20576) - 4) (by first | exact no_70_9 | (unfold mPt; omega))).trans rfl) (e_bq h39 (by decide) (by decide)) ?_
        refine e_Ok.add (z := 7 * w 276 (4 * p + 20576) + w 286 (w 276 (4 * p + 20576) - 4) - 28) rfl (by omega) (by omega) ?_
        have h40 := (q36k.2 (7 * w 276 (4 * p + 20576) + w 286 (w 276 (4 * p + 20576) - 4) - 28) (by omega) (by omega))
        refine e_Ok.ald (z := w34 322 (7 * w 276 (4 * p + 20576) + w 286 (w 276 (4 * p + 20576) - 4) - 28)) rfl rfl rfl (by omega) rfl (by omega) ?_
        refine e_Ok.rets rfl rfl ?_
        exact ⟨_, rfl, f37, by omega, by omega⟩
      · replace h38 : (x : Int) = 0 := Classical.not_not.mp (show ¬ ((x : Int) ≠ 0) from h38)
        refine e_Ok.ps1 (x := (1, 275)) (q := 48) 1 rfl ?_
        refine e_Ok.getr (z := 321) rfl (el_o rfl) rfl (ef_o rfl) ((q36 275 55 (by first | exact no_70_8 | (unfold mPt; omega))).trans (e_Has.eq hT (mt_o rfl))) ⟨by decide, by decide⟩ ?_
        refine e_Ok.ps3 (x := (0, 4)) (y := (0, w 276 (4 * p + 20576))) (z := (0, 7)) (q := 55) 3 rfl ?_
        refine e_Ok.sub' (z := w 276 (4 * p + 20576) - 4) rfl rfl (by omega) ?_
        refine e_Ok.mul (z := 7 * w 276 (4 * p + 20576) - 28) rfl (by omega) (by omega) ?_
        refine e_Ok.ps1 (x := (1, 275)) (q := 58) 1 rfl ?_
        refine e_Ok.getr (z := 286) rfl (el_o rfl) rfl (ef_o rfl) ((q36 275 15 (by first | exact no_70_8 | (unfold mPt; omega))).trans (e_Has.eq hT (mt_o rfl))) ⟨by decide, by decide⟩ ?_
        refine e_Ok.ps2 (x := (0, 4)) (y := (0, w 276 (4 * p + 20576))) (q := 63) 2 rfl ?_
        refine e_Ok.sub' (z := w 276 (4 * p + 20576) - 4) rfl rfl (by omega) ?_
        have h41 := (e_Has.get hT (c := 286) (k := w 276 (4 * p + 20576) - 4) (lo := 0) (hi := 6) rfl (by decide))
        refine e_Ok.ald (z := w 286 (w 276 (4 * p + 20576) - 4)) rfl rfl rfl (by omega) ((q36 286 (w 276 (4 * p + 20576) - 4) (by first | exact no_70_9 | (unfold mPt; omega))).trans rfl) (e_bq h41 (by decide) (by decide)) ?_
        refine e_Ok.add (z := 7 * w 276 (4 * p + 20576) + w 286 (w 276 (4 * p + 20576) - 4) - 28) rfl (by omega) (by omega) ?_
        have h42 := (q36k.1 (7 * w 276 (4 * p + 20576) + w 286 (w 276 (4 * p + 20576) - 4) - 28) (by omega) (by omega))
        refine e_Ok.ald (z := w34 321 (7 * w 276 (4 * p + 20576) + w 286 (w 276 (4 * p + 20576) - 4) - 28)) rfl rfl rfl (by omega) rfl (by omega) ?_
        refine e_Ok.ps0 (q := 90) 1 rfl ?_
        refine e_Ok.rets rfl rfl ?_
        exact ⟨_, rfl, f37, by omega, by omega⟩
  · replace h5 : (w 276 (4 * p + 20576) : Int) = 8 := Classical.not_not.mp (show ¬ ((w 276 (4 * p + 20576) : Int) ≠ 8) from h5)
    refine e_Ok.ps1 (x := (1, 275)) (q := 17) 1 rfl ?_
    refine e_Ok.getr (z := 276) rfl (el_o rfl) rfl (ef_o rfl) (e_Has.eq hT (mt_o rfl)) ⟨by decide, by decide⟩ ?_
    refine e_Ok.ps1 (x := (0, p)) (q := 21) 1 rfl ?_
    refine e_Ok.callS rfl (e_dq hd rfl) rfl rfl (c_392 (by omega)) (fun r43 w44 h45 => ?_)
    obtain ⟨rfl, rfl⟩ := h45
    refine e_Ok.nrm (q := 24) (st' := [(0, 4 * p + 20576), (1, 276)]) rfl rfl ?_
    refine e_Ok.ps1 (x := (0, 1)) (q := 25) 1 rfl ?_
    refine e_Ok.add (z := 4 * p + 20577) rfl (e_adl (by decide)) (by omega) ?_
    refine e_Ok.ps1 (x := (0, x)) (q := 27) 1 rfl ?_
    refine e_Ok.add (z := 4 * p + x + 20577) rfl (by omega) (by omega) ?_
    have h46 := (e_Has.get hT (c := 276) (k := 4 * p + x + 20577) (lo := (-2147483648)) (hi := 2147483647) (nR_PARTg p (x + 1) (by omega) (by omega) (by omega)) (by decide))
    refine e_Ok.ald (z := w 276 (4 * p + x + 20577)) rfl (el_o rfl) rfl (by omega) rfl (e_bq h46 (by decide) (by decide)) ?_
    refine e_Ok.rets rfl rfl ?_
    exact ⟨_, rfl, (e_fr.refl w), by omega, by omega⟩
end
end
-- part 71
section
noncomputable section
theorem c_437 {d : Nat} (hd : 23 ≤ d) {w : eW} (hT : e_Has mTy w) (hH : e_Has hTy w) : e_Ok 20 elay ecode eI d 437 (0, [(0, (1, 275))], [], w) (fun r w' => ∃ z : Int, r = [(0, z)] ∧ w = w') := by
  refine e_Ok.ps1 (x := (1, 275)) (q := 1) 1 rfl ?_
  refine e_Ok.getr (z := 276) rfl (el_o rfl) rfl (ef_o rfl) (e_Has.eq hT (mt_o rfl)) ⟨by decide, by decide⟩ ?_
  refine e_Ok.ps1 (x := (0, 0)) (q := 5) 1 rfl ?_
  have h1 := (e_Has.get hT (c := 276) (k := 0) (lo := 0) (hi := 6000) (mt_o rfl) (by decide))
  refine e_Ok.ald (z := w 276 0) rfl (el_o rfl) rfl (by omega) rfl (e_bq h1 (by decide) (by decide)) ?_
  refine e_Ok.rets rfl rfl ?_
  exact ⟨_, rfl, rfl⟩
theorem c_448 {d : Nat} (hd : 23 ≤ d) {w : eW} (hT : e_Has mTy w) (hH : e_Has hTy w) : e_Ok 20 elay ecode eI d 448 (0, [(0, (1, 275))], [], w) (fun r w' => ∃ z : Int, r = [(0, z)] ∧ w = w') := by
  refine e_Ok.ps1 (x := (1, 275)) (q := 1) 1 rfl ?_
  refine e_Ok.getr (z := 276) rfl (el_o rfl) rfl (ef_o rfl) (e_Has.eq hT (mt_o rfl)) ⟨by decide, by decide⟩ ?_
  refine e_Ok.ps1 (x := (0, 5)) (q := 5) 1 rfl ?_
  have h1 := (e_Has.get hT (c := 276) (k := 5) (lo := 0) (hi := 2147483647) (mt_o rfl) (by decide))
  refine e_Ok.ald (z := w 276 5) rfl (el_o rfl) rfl (by omega) rfl (e_bq h1 (by decide) (by decide)) ?_
  refine e_Ok.rets rfl rfl ?_
  exact ⟨_, rfl, rfl⟩
theorem c_445 {d : Nat} (hd : 23 ≤ d) {w : eW} (hT : e_Has mTy w) (hH : e_Has hTy w) {p1 : Int} (g1 : (-2147483648) ≤ p1 ∧ p1 ≤ 2147483647) : e_Ok 20 elay ecode eI d 445 (0, [(0, (1, 275)), (1, (0, p1))], [], w) (fun r w' => ∃ z : Int, r = [(0, z)] ∧ w = w') := by
  obtain ⟨d, rfl⟩ : ∃ e, d = e + 1 := ⟨d - 1, by omega⟩
  refine e_Ok.ps3 (x := (4, 7)) (y := (4, 0)) (z := (4, p1)) (q := 6) 4 rfl ?_
  refine e_Ok.callS rfl (e_dq hd rfl) rfl rfl (c_266) (fun r1 w2 h3 => ?_)
  obtain ⟨z4, rfl, rfl, q5⟩ := h3
  obtain ⟨rfl, q5⟩ | ⟨rfl, q5⟩ := q5
  · refine e_Ok.nrm (q := 9) (st' := [(0, 1)]) rfl rfl ?_
    refine e_Ok.if1 rfl (fun h6 => ?_) (fun h6 => ?_)
    · replace h6 : (1 : Int) = 0 := h6
      exfalso; omega
    · replace h6 : (1 : Int) ≠ 0 := (show ¬ ((1 : Int) = 0) from h6)
      refine e_Ok.ps1 (x := (1, 275)) (q := 13) 1 rfl ?_
      refine e_Ok.getr (z := 276) rfl (el_o rfl) rfl (ef_o rfl) (e_Has.eq hT (mt_o rfl)) ⟨by decide, by decide⟩ ?_
      refine e_Ok.ps2 (x := (0, p1)) (y := (0, 20868)) (q := 20) 2 rfl ?_
      refine e_Ok.add (z := p1 + 20868) rfl (Int.add_comm _ _) (by omega) ?_
      have h7 := (e_Has.get hT (c := 276) (k := p1 + 20868) (lo := (-1)) (hi := 15) (nR_LOCK (l := p1) (by omega)) (by decide))
      refine e_Ok.ald (z := w 276 (p1 + 20868)) rfl (el_o rfl) rfl (by omega) rfl (e_bq h7 (by decide) (by decide)) ?_
      refine e_Ok.ps0 (q := 26) 1 rfl ?_
      refine e_Ok.rets rfl rfl ?_
      exact ⟨_, rfl, rfl⟩
  · refine e_Ok.nrm (q := 9) (st' := [(0, 0)]) rfl rfl ?_
    refine e_Ok.if1 rfl (fun h8 => ?_) (fun h8 => ?_)
    · replace h8 : (0 : Int) = 0 := h8
      refine e_Ok.ps1 (x := (0, (-1))) (q := 26) 1 rfl ?_
      refine e_Ok.rets rfl rfl ?_
      exact ⟨_, rfl, rfl⟩
    · replace h8 : (0 : Int) ≠ 0 := (show ¬ ((0 : Int) = 0) from h8)
      exfalso; omega
theorem c_439 {d : Nat} (hd : 23 ≤ d) {w : eW} (hT : e_Has mTy w) (hH : e_Has hTy w) {p1 p2 : Int} (g1 : (-2147483648) ≤ p1 ∧ p1 ≤ 2147483647) (g2 : (-2147483648) ≤ p2 ∧ p2 ≤ 2147483647) : e_Ok 20 elay ecode eI d 439 (0, [(0, (1, 275)), (1, (0, p1)), (2, (0, p2))], [], w) (fun r w' => ∃ z : Int, r = [(0, z)] ∧ w = w') := by
  obtain ⟨d, rfl⟩ : ∃ e, d = e + 1 := ⟨d - 1, by omega⟩
  refine e_Ok.ps3 (x := (0, p2)) (y := (0, p1)) (z := (1, 275)) (q := 3) 3 rfl ?_
  refine e_Ok.callV rfl (e_dq hd rfl) rfl rfl rfl rfl (c_271 (e_dq hd rfl) hT) (fun r1 w2 h3 => ?_)
  obtain ⟨z4, rfl, rfl, q5⟩ := h3
  have h6 := e_Has.get hT (c := 275) (k := 10) (lo := 0) (hi := 4) (mt_o rfl) (by decide)
  have h7 := e_Has.get hT (c := 286) (k := p1) (lo := 0) (hi := 6) (mt_o rfl) (by decide)
  obtain ⟨rfl, q5⟩ | ⟨rfl, q5⟩ := q5
  · refine e_Ok.nrm (q := 6) (st' := [(0, 1)]) rfl rfl ?_
    refine e_Ok.if1 rfl (fun h8 => ?_) (fun h8 => ?_)
    · replace h8 : (1 : Int) = 0 := h8
      exfalso; omega
    · replace h8 : (1 : Int) ≠ 0 := (show ¬ ((1 : Int) = 0) from h8)
      refine e_Ok.ps1 (x := (1, 275)) (q := 10) 1 rfl ?_
      refine e_Ok.getr (z := 276) rfl (el_o rfl) rfl (ef_o rfl) (e_Has.eq hT (mt_o rfl)) ⟨by decide, by decide⟩ ?_
      refine e_Ok.ps1 (x := (0, p1)) (q := 14) 1 rfl ?_
      refine e_Ok.callS rfl (e_dq hd rfl) rfl rfl (c_268 (by omega)) (fun r9 w10 h11 => ?_)
      obtain ⟨rfl, rfl⟩ := h11
      refine e_Ok.nrm (q := 17) (st' := [(0, 36 * p1 + 16), (1, 276)]) rfl rfl ?_
      refine e_Ok.ps1 (x := (0, 16)) (q := 19) 1 rfl ?_
      refine e_Ok.add (z := 36 * p1 + 32) rfl (e_adl (by decide)) (by omega) ?_
      refine e_Ok.ps1 (x := (0, p2)) (q := 21) 1 rfl ?_
      refine e_Ok.add (z := 36 * p1 + p2 + 32) rfl (by omega) (by omega) ?_
      have h12 := (e_Has.get hT (c := 276) (k := 36 * p1 + p2 + 32) (lo := (-100000)) (hi := 100000) (nR_VALUE (a := p1) (j := p2) (by omega) (by omega)) (by decide))
      refine e_Ok.ald (z := w 276 (36 * p1 + p2 + 32)) rfl (el_o rfl) rfl (by omega) rfl (e_bq h12 (by decide) (by decide)) ?_
      refine e_Ok.ps0 (q := 27) 1 rfl ?_
      refine e_Ok.rets rfl rfl ?_
      exact ⟨_, rfl, rfl⟩
  · refine e_Ok.nrm (q := 6) (st' := [(0, 0)]) rfl rfl ?_
    refine e_Ok.if1 rfl (fun h13 => ?_) (fun h13 => ?_)
    · replace h13 : (0 : Int) = 0 := h13
      refine e_Ok.ps1 (x := (0, (-1))) (q := 27) 1 rfl ?_
      refine e_Ok.rets rfl rfl ?_
      exact ⟨_, rfl, rfl⟩
    · replace h13 : (0 : Int) ≠ 0 := (show ¬ ((0 : Int) = 0) from h13)
      exfalso; omega
theorem c_443 {d : Nat} (hd : 23 ≤ d) {w : eW} (hT : e_Has mTy w) (hH : e_Has hTy w) {p1 p2 : Int} (g1 : (-2147483648) ≤ p1 ∧ p1 ≤ 2147483647) (g2 : (-2147483648) ≤ p2 ∧ p2 ≤ 2147483647) : e_Ok 20 elay ecode eI d 443 (0, [(0, (1, 275)), (1, (0, p1)), (2, (0, p2))], [], w) (fun r w' => ∃ z : Int, r = [(0, z)] ∧ w = w') := by
  obtain ⟨d, rfl⟩ : ∃ e, d = e + 1 := ⟨d - 1, by omega⟩
  refine e_Ok.ps2 (x := (0, p1)) (y := (1, 275)) (q := 2) 2 rfl ?_
  refine e_Ok.callV rfl (e_dq hd rfl) rfl rfl rfl rfl (c_270 (e_dq hd rfl) hT) (fun r1 w2 h3 => ?_)
  have h4 := e_Has.get hT (c := 275) (k := 10) (lo := 0) (hi := 4) (mt_o rfl) (by decide)
  obtain ⟨z5, rfl, rfl, q6⟩ := h3
  obtain ⟨rfl, q6⟩ | ⟨rfl, q6⟩ := q6
  · refine e_Ok.nrm (q := 5) (st' := [(0, 1)]) rfl rfl ?_
    refine e_Ok.if1 rfl (fun h7 => ?_) (fun h7 => ?_)
    · replace h7 : (1 : Int) = 0 := h7
      exfalso; omega
    · replace h7 : (1 : Int) ≠ 0 := (show ¬ ((1 : Int) = 0) from h7)
      refine e_Ok.ps3 (x := (1, 275)) (y := (4, 0)) (z := (4, p2)) (q := 12) 4 rfl ?_
      refine e_Ok.getr (z := 339) rfl (el_o rfl) rfl (ef_o rfl) (e_Has.eq hT (mt_o rfl)) ⟨by decide, by decide⟩ ?_
      refine e_Ok.ps1 (x := (0, p1)) (q := 16) 1 rfl ?_
      have h8 := (e_Has.get hT (c := 339) (k := p1) (lo := 0) (hi := 32) (mt_o rfl) (by decide))
      refine e_Ok.ald (z := w 339 p1) rfl (el_o rfl) rfl (by omega) rfl (e_bq h8 (by decide) (by decide)) ?_
      refine e_Ok.ps1 (x := (0, 1)) (q := 18) 1 rfl ?_
      refine e_Ok.sub' (z := w 339 p1 - 1) rfl rfl (by omega) ?_
      refine e_Ok.run (t' := (20, [(0, (1, 275)), (1, (0, p1)), (2, (0, p2))], [(4, w 339 p1 - 1), (4, 0), (4, p2)], w)) 1 rfl ?_
      refine e_Ok.callS rfl (e_dq hd rfl) rfl rfl (c_266) (fun r9 w10 h11 => ?_)
      obtain ⟨z12, rfl, rfl, q13⟩ := h11
      obtain ⟨rfl, q13⟩ | ⟨rfl, q13⟩ := q13
      · refine e_Ok.nrm (q := 23) (st' := [(0, 1)]) rfl rfl ?_
        refine e_Ok.if1 rfl (fun h14 => ?_) (fun h14 => ?_)
        · replace h14 : (1 : Int) = 0 := h14
          exfalso; omega
        · replace h14 : (1 : Int) ≠ 0 := (show ¬ ((1 : Int) = 0) from h14)
          refine e_Ok.ps1 (x := (1, 275)) (q := 27) 1 rfl ?_
          refine e_Ok.getr (z := 276) rfl (el_o rfl) rfl (ef_o rfl) (e_Has.eq hT (mt_o rfl)) ⟨by decide, by decide⟩ ?_
          refine e_Ok.ps3 (x := (0, p1)) (y := (0, 32)) (z := (0, 20932)) (q := 36) 3 rfl ?_
          refine e_Ok.mul (z := 32 * p1) rfl rfl (by omega) ?_
          refine e_Ok.add (z := 32 * p1 + 20932) rfl (Int.add_comm _ _) (by omega) ?_
          refine e_Ok.ps1 (x := (0, p2)) (q := 39) 1 rfl ?_
          refine e_Ok.add (z := 32 * p1 + p2 + 20932) rfl (by omega) (by omega) ?_
          have h15 := (e_Has.get hT (c := 276) (k := 32 * p1 + p2 + 20932) (lo := (-2147483648)) (hi := 2147483647) (nR_mid (by omega)) (by decide))
          refine e_Ok.ald (z := w 276 (32 * p1 + p2 + 20932)) rfl (el_o rfl) rfl (by omega) rfl (e_bq h15 (by decide) (by decide)) ?_
          refine e_Ok.ps0 (q := 45) 1 rfl ?_
          refine e_Ok.rets rfl rfl ?_
          exact ⟨_, rfl, rfl⟩
      · refine e_Ok.nrm (q := 23) (st' := [(0, 0)]) rfl rfl ?_
        refine e_Ok.if1 rfl (fun h16 => ?_) (fun h16 => ?_)
        · replace h16 : (0 : Int) = 0 := h16
          refine e_Ok.ps1 (x := (0, (-1))) (q := 45) 1 rfl ?_
          refine e_Ok.rets rfl rfl ?_
          exact ⟨_, rfl, rfl⟩
        · replace h16 : (0 : Int) ≠ 0 := (show ¬ ((0 : Int) = 0) from h16)
          exfalso; omega
  · refine e_Ok.nrm (q := 5) (st' := [(0, 0)]) rfl rfl ?_
    refine e_Ok.if1 rfl (fun h17 => ?_) (fun h17 => ?_)
    · replace h17 : (0 : Int) = 0 := h17
      refine e_Ok.ps1 (x := (0, (-1))) (q := 45) 1 rfl ?_
      refine e_Ok.rets rfl rfl ?_
      exact ⟨_, rfl, rfl⟩
    · replace h17 : (0 : Int) ≠ 0 := (show ¬ ((0 : Int) = 0) from h17)
      exfalso; omega
theorem c_438 {d : Nat} (hd : 23 ≤ d) {w : eW} (hT : e_Has mTy w) (hH : e_Has hTy w) {p1 p2 : Int} (g1 : (-2147483648) ≤ p1 ∧ p1 ≤ 2147483647) (g2 : (-2147483648) ≤ p2 ∧ p2 ≤ 2147483647) : e_Ok 20 elay ecode eI d 438 (0, [(0, (1, 275)), (1, (0, p1)), (2, (0, p2))], [], w) (fun r w' => ∃ z : Int, r = [(0, z)] ∧ w = w') := by
  obtain ⟨d, rfl⟩ : ∃ e, d = e + 1 := ⟨d - 1, by omega⟩
  refine e_Ok.ps2 (x := (0, p1)) (y := (1, 275)) (q := 2) 2 rfl ?_
  refine e_Ok.callV rfl (e_dq hd rfl) rfl rfl rfl rfl (c_270 (e_dq hd rfl) hT) (fun r1 w2 h3 => ?_)
  have h4 := e_Has.get hT (c := 275) (k := 10) (lo := 0) (hi := 4) (mt_o rfl) (by decide)
  obtain ⟨z5, rfl, rfl, q6⟩ := h3
  obtain ⟨rfl, q6⟩ | ⟨rfl, q6⟩ := q6
  · refine e_Ok.nrm (q := 5) (st' := [(0, 1)]) rfl rfl ?_
    refine e_Ok.if1 rfl (fun h7 => ?_) (fun h7 => ?_)
    · replace h7 : (1 : Int) = 0 := h7
      exfalso; omega
    · replace h7 : (1 : Int) ≠ 0 := (show ¬ ((1 : Int) = 0) from h7)
      refine e_Ok.ps3 (x := (4, 7)) (y := (4, 0)) (z := (4, p2)) (q := 14) 4 rfl ?_
      refine e_Ok.callS rfl (e_dq hd rfl) rfl rfl (c_266) (fun r8 w9 h10 => ?_)
      obtain ⟨z11, rfl, rfl, q12⟩ := h10
      obtain ⟨rfl, q12⟩ | ⟨rfl, q12⟩ := q12
      · refine e_Ok.nrm (q := 17) (st' := [(0, 1)]) rfl rfl ?_
        refine e_Ok.if1 rfl (fun h13 => ?_) (fun h13 => ?_)
        · replace h13 : (1 : Int) ≠ 0 := h13
          refine e_Ok.ps1 (x := (0, p1)) (q := 23) 1 rfl ?_
          refine e_Ok.callS rfl (e_dq hd rfl) rfl rfl (c_268 (by omega)) (fun r14 w15 h16 => ?_)
          obtain ⟨rfl, rfl⟩ := h16
          refine e_Ok.nrm (q := 26) (st' := [(0, 36 * p1 + 16)]) rfl rfl ?_
          refine e_Ok.run (t' := (28, [(3, (0, 36 * p1 + 16)), (0, (1, 275)), (1, (0, p1)), (2, (0, p2))], [(0, p2)], w)) 2 rfl ?_
          have hs18 : ∀ x : Int, 0 ≤ x ∧ x ≤ 7 → (x = 0) ∨ (x = 1) ∨ (x = 2) ∨ (x = 3) ∨ (x = 4) ∨ (x = 5) ∨ (x = 6) ∨ (x = 7) := fun x h => by omega
          obtain h17 | h17 | h17 | h17 | h17 | h17 | h17 | h17 := hs18 (p2) (by omega)
          · refine e_Ok.sw (tg := 72) rfl (by rw [h17]; rfl) ?_
            refine e_Ok.run (t' := (73, [(3, (0, 36 * p1 + 16)), (0, (1, 275)), (1, (0, p1)), (2, (0, p2))], [(1, 275)], w)) 1 rfl ?_
            refine e_Ok.getr (z := 276) rfl (el_o rfl) rfl (ef_o rfl) (e_Has.eq hT (mt_o rfl)) ⟨by decide, by decide⟩ ?_
            refine e_Ok.ps2 (x := (0, 0)) (y := (0, 36 * p1 + 16)) (q := 78) 2 rfl ?_
            refine e_Ok.add (z := 36 * p1 + 16) rfl (e_adl (by decide)) (by omega) ?_
            have h19 := (e_Has.get hT (c := 276) (k := 36 * p1 + 16) (lo := 0) (hi := 2) (nR_STATE (a := p1) (by omega)) (by decide))
            refine e_Ok.ald (z := w 276 (36 * p1 + 16)) rfl (el_o rfl) rfl (by omega) rfl (e_bq h19 (by decide) (by decide)) ?_
            refine e_Ok.rets rfl rfl ?_
            exact ⟨_, rfl, rfl⟩
          · refine e_Ok.sw (tg := 81) rfl (by rw [h17]; rfl) ?_
            refine e_Ok.run (t' := (82, [(3, (0, 36 * p1 + 16)), (0, (1, 275)), (1, (0, p1)), (2, (0, p2))], [(1, 275)], w)) 1 rfl ?_
            refine e_Ok.getr (z := 286) rfl (el_o rfl) rfl (ef_o rfl) (e_Has.eq hT (mt_o rfl)) ⟨by decide, by decide⟩ ?_
            refine e_Ok.ps1 (x := (0, p1)) (q := 86) 1 rfl ?_
            have h20 := (e_Has.get hT (c := 286) (k := p1) (lo := 0) (hi := 6) (mt_o rfl) (by decide))
            refine e_Ok.ald (z := w 286 p1) rfl (el_o rfl) rfl (by omega) rfl (e_bq h20 (by decide) (by decide)) ?_
            refine e_Ok.rets rfl rfl ?_
            exact ⟨_, rfl, rfl⟩
          · refine e_Ok.sw (tg := 88) rfl (by rw [h17]; rfl) ?_
            refine e_Ok.run (t' := (89, [(3, (0, 36 * p1 + 16)), (0, (1, 275)), (1, (0, p1)), (2, (0, p2))], [(1, 275)], w)) 1 rfl ?_
            refine e_Ok.getr (z := 276) rfl (el_o rfl) rfl (ef_o rfl) (e_Has.eq hT (mt_o rfl)) ⟨by decide, by decide⟩ ?_
            refine e_Ok.ps2 (x := (0, 1)) (y := (0, 36 * p1 + 16)) (q := 94) 2 rfl ?_
            refine e_Ok.add (z := 36 * p1 + 17) rfl (e_adl (by decide)) (by omega) ?_
            have h21 := (e_Has.get hT (c := 276) (k := 36 * p1 + 17) (lo := (-1)) (hi := 31) (nR_HOLDS (a := p1) (by omega)) (by decide))
            refine e_Ok.ald (z := w 276 (36 * p1 + 17)) rfl (el_o rfl) rfl (by omega) rfl (e_bq h21 (by decide) (by decide)) ?_
            refine e_Ok.rets rfl rfl ?_
            exact ⟨_, rfl, rfl⟩
          · refine e_Ok.sw (tg := 97) rfl (by rw [h17]; rfl) ?_
            refine e_Ok.run (t' := (98, [(3, (0, 36 * p1 + 16)), (0, (1, 275)), (1, (0, p1)), (2, (0, p2))], [(1, 275)], w)) 1 rfl ?_
            refine e_Ok.getr (z := 276) rfl (el_o rfl) rfl (ef_o rfl) (e_Has.eq hT (mt_o rfl)) ⟨by decide, by decide⟩ ?_
            refine e_Ok.ps2 (x := (0, 2)) (y := (0, 36 * p1 + 16)) (q := 103) 2 rfl ?_
            refine e_Ok.add (z := 36 * p1 + 18) rfl (e_adl (by decide)) (by omega) ?_
            have h22 := (e_Has.get hT (c := 276) (k := 36 * p1 + 18) (lo := (-1)) (hi := 15) (nR_STUCK (a := p1) (by omega)) (by decide))
            refine e_Ok.ald (z := w 276 (36 * p1 + 18)) rfl (el_o rfl) rfl (by omega) rfl (e_bq h22 (by decide) (by decide)) ?_
            refine e_Ok.rets rfl rfl ?_
            exact ⟨_, rfl, rfl⟩
          · refine e_Ok.sw (tg := 106) rfl (by rw [h17]; rfl) ?_
            refine e_Ok.run (t' := (107, [(3, (0, 36 * p1 + 16)), (0, (1, 275)), (1, (0, p1)), (2, (0, p2))], [(1, 275)], w)) 1 rfl ?_
            refine e_Ok.getr (z := 338) rfl (el_o rfl) rfl (ef_o rfl) (e_Has.eq hT (mt_o rfl)) ⟨by decide, by decide⟩ ?_
            refine e_Ok.ps1 (x := (0, p1)) (q := 111) 1 rfl ?_
            have h23 := (e_Has.get hT (c := 338) (k := p1) (lo := 0) (hi := 32) (mt_o rfl) (by decide))
            refine e_Ok.ald (z := w 338 p1) rfl (el_o rfl) rfl (by omega) rfl (e_bq h23 (by decide) (by decide)) ?_
            refine e_Ok.rets rfl rfl ?_
            exact ⟨_, rfl, rfl⟩
          · refine e_Ok.sw (tg := 113) rfl (by rw [h17]; rfl) ?_
            refine e_Ok.run (t' := (114, [(3, (0, 36 * p1 + 16)), (0, (1, 275)), (1, (0, p1)), (2, (0, p2))], [(1, 275)], w)) 1 rfl ?_
            refine e_Ok.getr (z := 276) rfl (el_o rfl) rfl (ef_o rfl) (e_Has.eq hT (mt_o rfl)) ⟨by decide, by decide⟩ ?_
            refine e_Ok.ps2 (x := (0, 3)) (y := (0, 36 * p1 + 16)) (q := 119) 2 rfl ?_
            refine e_Ok.add (z := 36 * p1 + 19) rfl (e_adl (by decide)) (by omega) ?_
            have h24 := (e_Has.get hT (c := 276) (k := 36 * p1 + 19) (lo := (-1)) (hi := 999) (nR_WAY_SIZE (a := p1) (by omega)) (by decide))
            refine e_Ok.ald (z := w 276 (36 * p1 + 19)) rfl (el_o rfl) rfl (by omega) rfl (e_bq h24 (by decide) (by decide)) ?_
            refine e_Ok.rets rfl rfl ?_
            exact ⟨_, rfl, rfl⟩
          · refine e_Ok.sw (tg := 122) rfl (by rw [h17]; rfl) ?_
            refine e_Ok.run (t' := (123, [(3, (0, 36 * p1 + 16)), (0, (1, 275)), (1, (0, p1)), (2, (0, p2))], [(1, 275)], w)) 1 rfl ?_
            refine e_Ok.getr (z := 276) rfl (el_o rfl) rfl (ef_o rfl) (e_Has.eq hT (mt_o rfl)) ⟨by decide, by decide⟩ ?_
            refine e_Ok.ps2 (x := (0, 4)) (y := (0, 36 * p1 + 16)) (q := 128) 2 rfl ?_
            refine e_Ok.add (z := 36 * p1 + 20) rfl (e_adl (by decide)) (by omega) ?_
            have h25 := (e_Has.get hT (c := 276) (k := 36 * p1 + 20) (lo := 0) (hi := 1) (nR_FRESH (a := p1) (by omega)) (by decide))
            refine e_Ok.ald (z := w 276 (36 * p1 + 20)) rfl (el_o rfl) rfl (by omega) rfl (e_bq h25 (by decide) (by decide)) ?_
            refine e_Ok.rets rfl rfl ?_
            exact ⟨_, rfl, rfl⟩
          · refine e_Ok.sw (tg := 131) rfl (by rw [h17]; rfl) ?_
            refine e_Ok.run (t' := (132, [(3, (0, 36 * p1 + 16)), (0, (1, 275)), (1, (0, p1)), (2, (0, p2))], [(1, 275)], w)) 1 rfl ?_
            refine e_Ok.getr (z := 276) rfl (el_o rfl) rfl (ef_o rfl) (e_Has.eq hT (mt_o rfl)) ⟨by decide, by decide⟩ ?_
            refine e_Ok.ps2 (x := (0, 6)) (y := (0, 36 * p1 + 16)) (q := 138) 2 rfl ?_
            refine e_Ok.add (z := 36 * p1 + 22) rfl (e_adl (by decide)) (by omega) ?_
            have h26 := (e_Has.get hT (c := 276) (k := 36 * p1 + 22) (lo := 0) (hi := 1) (nR_TRAVELS (a := p1) (by omega)) (by decide))
            refine e_Ok.ald (z := w 276 (36 * p1 + 22)) rfl (el_o rfl) rfl (by omega) rfl (e_bq h26 (by decide) (by decide)) ?_
            refine e_Ok.rets rfl rfl ?_
            exact ⟨_, rfl, rfl⟩
        · replace h13 : (1 : Int) = 0 := Classical.not_not.mp (show ¬ ((1 : Int) ≠ 0) from h13)
          exfalso; omega
      · refine e_Ok.nrm (q := 17) (st' := [(0, 0)]) rfl rfl ?_
        refine e_Ok.if1 rfl (fun h27 => ?_) (fun h27 => ?_)
        · replace h27 : (0 : Int) ≠ 0 := h27
          exfalso; omega
        · replace h27 : (0 : Int) = 0 := Classical.not_not.mp (show ¬ ((0 : Int) ≠ 0) from h27)
          refine e_Ok.ps1 (x := (0, (-1))) (q := 21) 1 rfl ?_
          refine e_Ok.rets rfl rfl ?_
          exact ⟨_, rfl, rfl⟩
  · refine e_Ok.nrm (q := 5) (st' := [(0, 0)]) rfl rfl ?_
    refine e_Ok.if1 rfl (fun h28 => ?_) (fun h28 => ?_)
    · replace h28 : (0 : Int) = 0 := h28
      refine e_Ok.ps1 (x := (0, (-1))) (q := 21) 1 rfl ?_
      refine e_Ok.rets rfl rfl ?_
      exact ⟨_, rfl, rfl⟩
    · replace h28 : (0 : Int) ≠ 0 := (show ¬ ((0 : Int) = 0) from h28)
      exfalso; omega
theorem c_441 {d : Nat} (hd : 23 ≤ d) {w : eW} (hT : e_Has mTy w) (hH : e_Has hTy w) {p1 p2 : Int} (g1 : (-2147483648) ≤ p1 ∧ p1 ≤ 2147483647) (g2 : (-2147483648) ≤ p2 ∧ p2 ≤ 2147483647) : e_Ok 20 elay ecode eI d 441 (0, [(0, (1, 275)), (1, (0, p1)), (2, (0, p2))], [], w) (fun r w' => ∃ z : Int, r = [(0, z)] ∧ w = w') := by
  obtain ⟨d, rfl⟩ : ∃ e, d = e + 1 := ⟨d - 1, by omega⟩
  refine e_Ok.ps2 (x := (0, p1)) (y := (1, 275)) (q := 2) 2 rfl ?_
  refine e_Ok.callV rfl (e_dq hd rfl) rfl rfl rfl rfl (c_270 (e_dq hd rfl) hT) (fun r1 w2 h3 => ?_)
  have h4 := e_Has.get hT (c := 275) (k := 10) (lo := 0) (hi := 4) (mt_o rfl) (by decide)
  obtain ⟨z5, rfl, rfl, q6⟩ := h3
  obtain ⟨rfl, q6⟩ | ⟨rfl, q6⟩ := q6
  · refine e_Ok.nrm (q := 5) (st' := [(0, 1)]) rfl rfl ?_
    refine e_Ok.if1 rfl (fun h7 => ?_) (fun h7 => ?_)
    · replace h7 : (1 : Int) = 0 := h7
      exfalso; omega
    · replace h7 : (1 : Int) ≠ 0 := (show ¬ ((1 : Int) = 0) from h7)
      refine e_Ok.ps3 (x := (1, 275)) (y := (4, 0)) (z := (4, p2)) (q := 12) 4 rfl ?_
      refine e_Ok.getr (z := 276) rfl (el_o rfl) rfl (ef_o rfl) (e_Has.eq hT (mt_o rfl)) ⟨by decide, by decide⟩ ?_
      refine e_Ok.ps1 (x := (0, p1)) (q := 16) 1 rfl ?_
      refine e_Ok.callS rfl (e_dq hd rfl) rfl rfl (c_268 (by omega)) (fun r8 w9 h10 => ?_)
      obtain ⟨rfl, rfl⟩ := h10
      refine e_Ok.nrm (q := 19) (st' := [(0, 36 * p1 + 16), (1, 276), (4, 0), (4, p2)]) rfl rfl ?_
      refine e_Ok.ps1 (x := (0, 3)) (q := 20) 1 rfl ?_
      refine e_Ok.add (z := 36 * p1 + 19) rfl (e_adl (by decide)) (by omega) ?_
      have h11 := (e_Has.get hT (c := 276) (k := 36 * p1 + 19) (lo := (-1)) (hi := 999) (nR_WAY_SIZE (a := p1) (by omega)) (by decide))
      refine e_Ok.ald (z := w 276 (36 * p1 + 19)) rfl (el_o rfl) rfl (by omega) rfl (e_bq h11 (by decide) (by decide)) ?_
      refine e_Ok.ps1 (x := (0, 1)) (q := 23) 1 rfl ?_
      refine e_Ok.sub' (z := w 276 (36 * p1 + 19) - 1) rfl rfl (by omega) ?_
      refine e_Ok.run (t' := (25, [(0, (1, 275)), (1, (0, p1)), (2, (0, p2))], [(4, w 276 (36 * p1 + 19) - 1), (4, 0), (4, p2)], w)) 1 rfl ?_
      refine e_Ok.callS rfl (e_dq hd rfl) rfl rfl (c_266) (fun r12 w13 h14 => ?_)
      obtain ⟨z15, rfl, rfl, q16⟩ := h14
      obtain ⟨rfl, q16⟩ | ⟨rfl, q16⟩ := q16
      · refine e_Ok.nrm (q := 28) (st' := [(0, 1)]) rfl rfl ?_
        refine e_Ok.if1 rfl (fun h17 => ?_) (fun h17 => ?_)
        · replace h17 : (1 : Int) = 0 := h17
          exfalso; omega
        · replace h17 : (1 : Int) ≠ 0 := (show ¬ ((1 : Int) = 0) from h17)
          refine e_Ok.ps1 (x := (1, 275)) (q := 32) 1 rfl ?_
          refine e_Ok.getr (z := 276) rfl (el_o rfl) rfl (ef_o rfl) (e_Has.eq hT (mt_o rfl)) ⟨by decide, by decide⟩ ?_
          refine e_Ok.ps3 (x := (0, p1)) (y := (0, 1000)) (z := (0, 21060)) (q := 42) 3 rfl ?_
          refine e_Ok.mul (z := 1000 * p1) rfl rfl (by omega) ?_
          refine e_Ok.add (z := 1000 * p1 + 21060) rfl (Int.add_comm _ _) (by omega) ?_
          refine e_Ok.ps1 (x := (0, p2)) (q := 45) 1 rfl ?_
          refine e_Ok.add (z := 1000 * p1 + p2 + 21060) rfl (by omega) (by omega) ?_
          have h18 := (e_Has.get hT (c := 276) (k := 1000 * p1 + p2 + 21060) (lo := 0) (hi := 11) (nR_WAY (by omega)) (by decide))
          refine e_Ok.ald (z := w 276 (1000 * p1 + p2 + 21060)) rfl (el_o rfl) rfl (by omega) rfl (e_bq h18 (by decide) (by decide)) ?_
          refine e_Ok.ps0 (q := 51) 1 rfl ?_
          refine e_Ok.rets rfl rfl ?_
          exact ⟨_, rfl, rfl⟩
      · refine e_Ok.nrm (q := 28) (st' := [(0, 0)]) rfl rfl ?_
        refine e_Ok.if1 rfl (fun h19 => ?_) (fun h19 => ?_)
        · replace h19 : (0 : Int) = 0 := h19
          refine e_Ok.ps1 (x := (0, (-1))) (q := 51) 1 rfl ?_
          refine e_Ok.rets rfl rfl ?_
          exact ⟨_, rfl, rfl⟩
        · replace h19 : (0 : Int) ≠ 0 := (show ¬ ((0 : Int) = 0) from h19)
          exfalso; omega
  · refine e_Ok.nrm (q := 5) (st' := [(0, 0)]) rfl rfl ?_
    refine e_Ok.if1 rfl (fun h20 => ?_) (fun h20 => ?_)
    · replace h20 : (0 : Int) = 0 := h20
      refine e_Ok.ps1 (x := (0, (-1))) (q := 51) 1 rfl ?_
      refine e_Ok.rets rfl rfl ?_
      exact ⟨_, rfl, rfl⟩
    · replace h20 : (0 : Int) ≠ 0 := (show ¬ ((0 : Int) = 0) from h20)
      exfalso; omega
theorem c_449 {d : Nat} (hd : 23 ≤ d) {w : eW} (hT : e_Has mTy w) (hH : e_Has hTy w) {p1 p2 : Int} (g1 : (-2147483648) ≤ p1 ∧ p1 ≤ 2147483647) (g2 : (-2147483648) ≤ p2 ∧ p2 ≤ 2147483647) : e_Ok 20 elay ecode eI d 449 (0, [(0, (1, 275)), (1, (0, p1)), (2, (0, p2))], [], w) (fun r w' => ∃ z : Int, r = [(0, z)] ∧ w = w') := by
  obtain ⟨d, rfl⟩ : ∃ e, d = e + 1 := ⟨d - 1, by omega⟩
  refine e_Ok.ps3 (x := (1, 275)) (y := (4, 0)) (z := (4, p1)) (q := 4) 4 rfl ?_
  refine e_Ok.getr (z := 276) rfl (el_o rfl) rfl (ef_o rfl) (e_Has.eq hT (mt_o rfl)) ⟨by decide, by decide⟩ ?_
  refine e_Ok.ps1 (x := (0, 5)) (q := 8) 1 rfl ?_
  have h1 := (e_Has.get hT (c := 276) (k := 5) (lo := 0) (hi := 2147483647) (mt_o rfl) (by decide))
  refine e_Ok.ald (z := w 276 5) rfl (el_o rfl) rfl (by omega) rfl (e_bq h1 (by decide) (by decide)) ?_
  refine e_Ok.ps1 (x := (0, 2000)) (q := 12) 1 rfl ?_
  refine e_Ok.if2 rfl (fun h2 => ?_) (fun h2 => ?_)
  · replace h2 : (w 276 5 : Int) ≥ 2000 := h2
    refine e_Ok.ps2 (x := (0, 1)) (y := (0, 2000)) (q := 28) 2 rfl ?_
    refine e_Ok.sub' (z := 1999) rfl (by decide) (by omega) ?_
    refine e_Ok.run (t' := (30, [(0, (1, 275)), (1, (0, p1)), (2, (0, p2))], [(4, 1999), (4, 0), (4, p1)], w)) 1 rfl ?_
    refine e_Ok.callS rfl (e_dq hd rfl) rfl rfl (c_266) (fun r3 w4 h5 => ?_)
    obtain ⟨z6, rfl, rfl, q7⟩ := h5
    obtain ⟨rfl, q7⟩ | ⟨rfl, q7⟩ := q7
    · refine e_Ok.nrm (q := 33) (st' := [(0, 1)]) rfl rfl ?_
      refine e_Ok.if1 rfl (fun h8 => ?_) (fun h8 => ?_)
      · replace h8 : (1 : Int) = 0 := h8
        exfalso; omega
      · replace h8 : (1 : Int) ≠ 0 := (show ¬ ((1 : Int) = 0) from h8)
        refine e_Ok.ps3 (x := (4, 3)) (y := (4, 0)) (z := (4, p2)) (q := 42) 4 rfl ?_
        refine e_Ok.callS rfl (e_dq hd rfl) rfl rfl (c_266) (fun r9 w10 h11 => ?_)
        obtain ⟨z12, rfl, rfl, q13⟩ := h11
        obtain ⟨rfl, q13⟩ | ⟨rfl, q13⟩ := q13
        · refine e_Ok.nrm (q := 45) (st' := [(0, 1)]) rfl rfl ?_
          refine e_Ok.if1 rfl (fun h14 => ?_) (fun h14 => ?_)
          · replace h14 : (1 : Int) = 0 := h14
            exfalso; omega
          · replace h14 : (1 : Int) ≠ 0 := (show ¬ ((1 : Int) = 0) from h14)
            refine e_Ok.ps1 (x := (1, 275)) (q := 49) 1 rfl ?_
            refine e_Ok.getr (z := 276) rfl (el_o rfl) rfl (ef_o rfl) (e_Has.eq hT (mt_o rfl)) ⟨by decide, by decide⟩ ?_
            refine e_Ok.ps3 (x := (0, p1)) (y := (0, 4)) (z := (0, 25060)) (q := 57) 3 rfl ?_
            refine e_Ok.mul (z := 4 * p1) rfl rfl (by omega) ?_
            refine e_Ok.add (z := 4 * p1 + 25060) rfl (Int.add_comm _ _) (by omega) ?_
            refine e_Ok.ps1 (x := (0, p2)) (q := 60) 1 rfl ?_
            refine e_Ok.add (z := 4 * p1 + p2 + 25060) rfl (by omega) (by omega) ?_
            have h15 := (e_Has.get hT (c := 276) (k := 4 * p1 + p2 + 25060) (lo := (-2147483648)) (hi := 2147483647) (nR_EV (by omega)) (by decide))
            refine e_Ok.ald (z := w 276 (4 * p1 + p2 + 25060)) rfl (el_o rfl) rfl (by omega) rfl (e_bq h15 (by decide) (by decide)) ?_
            refine e_Ok.ps0 (q := 66) 1 rfl ?_
            refine e_Ok.rets rfl rfl ?_
            exact ⟨_, rfl, rfl⟩
        · refine e_Ok.nrm (q := 45) (st' := [(0, 0)]) rfl rfl ?_
          refine e_Ok.if1 rfl (fun h16 => ?_) (fun h16 => ?_)
          · replace h16 : (0 : Int) = 0 := h16
            refine e_Ok.ps1 (x := (0, (-1))) (q := 66) 1 rfl ?_
            refine e_Ok.rets rfl rfl ?_
            exact ⟨_, rfl, rfl⟩
          · replace h16 : (0 : Int) ≠ 0 := (show ¬ ((0 : Int) = 0) from h16)
            exfalso; omega
    · refine e_Ok.nrm (q := 33) (st' := [(0, 0)]) rfl rfl ?_
      refine e_Ok.if1 rfl (fun h17 => ?_) (fun h17 => ?_)
      · replace h17 : (0 : Int) = 0 := h17
        refine e_Ok.ps1 (x := (0, (-1))) (q := 66) 1 rfl ?_
        refine e_Ok.rets rfl rfl ?_
        exact ⟨_, rfl, rfl⟩
      · replace h17 : (0 : Int) ≠ 0 := (show ¬ ((0 : Int) = 0) from h17)
        exfalso; omega
  · replace h2 : (w 276 5 : Int) < 2000 := Int.not_le.mp (show ¬ ((w 276 5 : Int) ≥ 2000) from h2)
    refine e_Ok.ps1 (x := (1, 275)) (q := 16) 1 rfl ?_
    refine e_Ok.getr (z := 276) rfl (el_o rfl) rfl (ef_o rfl) (e_Has.eq hT (mt_o rfl)) ⟨by decide, by decide⟩ ?_
    refine e_Ok.ps1 (x := (0, 5)) (q := 20) 1 rfl ?_
    refine e_Ok.ald (z := w 276 5) rfl (el_o rfl) rfl (by omega) rfl (by omega) ?_
    refine e_Ok.ps1 (x := (0, 1)) (q := 28) 2 rfl ?_
    refine e_Ok.sub' (z := w 276 5 - 1) rfl rfl (by omega) ?_
    refine e_Ok.run (t' := (30, [(0, (1, 275)), (1, (0, p1)), (2, (0, p2))], [(4, w 276 5 - 1), (4, 0), (4, p1)], w)) 1 rfl ?_
    refine e_Ok.callS rfl (e_dq hd rfl) rfl rfl (c_266) (fun r18 w19 h20 => ?_)
    obtain ⟨z21, rfl, rfl, q22⟩ := h20
    obtain ⟨rfl, q22⟩ | ⟨rfl, q22⟩ := q22
    · refine e_Ok.nrm (q := 33) (st' := [(0, 1)]) rfl rfl ?_
      refine e_Ok.if1 rfl (fun h23 => ?_) (fun h23 => ?_)
      · replace h23 : (1 : Int) = 0 := h23
        exfalso; omega
      · replace h23 : (1 : Int) ≠ 0 := (show ¬ ((1 : Int) = 0) from h23)
        refine e_Ok.ps3 (x := (4, 3)) (y := (4, 0)) (z := (4, p2)) (q := 42) 4 rfl ?_
        refine e_Ok.callS rfl (e_dq hd rfl) rfl rfl (c_266) (fun r24 w25 h26 => ?_)
        obtain ⟨z27, rfl, rfl, q28⟩ := h26
        obtain ⟨rfl, q28⟩ | ⟨rfl, q28⟩ := q28
        · refine e_Ok.nrm (q := 45) (st' := [(0, 1)]) rfl rfl ?_
          refine e_Ok.if1 rfl (fun h29 => ?_) (fun h29 => ?_)
          · replace h29 : (1 : Int) = 0 := h29
            exfalso; omega
          · replace h29 : (1 : Int) ≠ 0 := (show ¬ ((1 : Int) = 0) from h29)
            refine e_Ok.ps1 (x := (1, 275)) (q := 49) 1 rfl ?_
            refine e_Ok.getr (z := 276) rfl (el_o rfl) rfl (ef_o rfl) (e_Has.eq hT (mt_o rfl)) ⟨by decide, by decide⟩ ?_
            refine e_Ok.ps3 (x := (0, p1)) (y := (0, 4)) (z := (0, 25060)) (q := 57) 3 rfl ?_
            refine e_Ok.mul (z := 4 * p1) rfl rfl (by omega) ?_
            refine e_Ok.add (z := 4 * p1 + 25060) rfl (Int.add_comm _ _) (by omega) ?_
            refine e_Ok.ps1 (x := (0, p2)) (q := 60) 1 rfl ?_
            refine e_Ok.add (z := 4 * p1 + p2 + 25060) rfl (by omega) (by omega) ?_
            have h30 := (e_Has.get hT (c := 276) (k := 4 * p1 + p2 + 25060) (lo := (-2147483648)) (hi := 2147483647) (nR_EV (by omega)) (by decide))
            refine e_Ok.ald (z := w 276 (4 * p1 + p2 + 25060)) rfl (el_o rfl) rfl (by omega) rfl (e_bq h30 (by decide) (by decide)) ?_
            refine e_Ok.ps0 (q := 66) 1 rfl ?_
            refine e_Ok.rets rfl rfl ?_
            exact ⟨_, rfl, rfl⟩
        · refine e_Ok.nrm (q := 45) (st' := [(0, 0)]) rfl rfl ?_
          refine e_Ok.if1 rfl (fun h31 => ?_) (fun h31 => ?_)
          · replace h31 : (0 : Int) = 0 := h31
            refine e_Ok.ps1 (x := (0, (-1))) (q := 66) 1 rfl ?_
            refine e_Ok.rets rfl rfl ?_
            exact ⟨_, rfl, rfl⟩
          · replace h31 : (0 : Int) ≠ 0 := (show ¬ ((0 : Int) = 0) from h31)
            exfalso; omega
    · refine e_Ok.nrm (q := 33) (st' := [(0, 0)]) rfl rfl ?_
      refine e_Ok.if1 rfl (fun h32 => ?_) (fun h32 => ?_)
      · replace h32 : (0 : Int) = 0 := h32
        refine e_Ok.ps1 (x := (0, (-1))) (q := 66) 1 rfl ?_
        refine e_Ok.rets rfl rfl ?_
        exact ⟨_, rfl, rfl⟩
      · replace h32 : (0 : Int) ≠ 0 := (show ¬ ((0 : Int) = 0) from h32)
        exfalso; omega
theorem c_451 {d : Nat} (hd : 23 ≤ d) {w : eW} (hT : e_Has mTy w) (hH : e_Has hTy w) {p1 : Int} (g1 : (-2147483648) ≤ p1 ∧ p1 ≤ 2147483647) : e_Ok 20 elay ecode eI d 451 (0, [(0, (1, 275)), (1, (0, p1))], [], w) (fun r w' => ∃ z : Int, r = [(0, z)] ∧ w = w') := by
  obtain ⟨d, rfl⟩ : ∃ e, d = e + 1 := ⟨d - 1, by omega⟩
  refine e_Ok.ps3 (x := (4, 3)) (y := (4, 0)) (z := (4, p1)) (q := 6) 4 rfl ?_
  refine e_Ok.callS rfl (e_dq hd rfl) rfl rfl (c_266) (fun r1 w2 h3 => ?_)
  obtain ⟨z4, rfl, rfl, q5⟩ := h3
  obtain ⟨rfl, q5⟩ | ⟨rfl, q5⟩ := q5
  · refine e_Ok.nrm (q := 9) (st' := [(0, 1)]) rfl rfl ?_
    refine e_Ok.if1 rfl (fun h6 => ?_) (fun h6 => ?_)
    · replace h6 : (1 : Int) = 0 := h6
      exfalso; omega
    · replace h6 : (1 : Int) ≠ 0 := (show ¬ ((1 : Int) = 0) from h6)
      refine e_Ok.ps1 (x := (1, 275)) (q := 13) 1 rfl ?_
      refine e_Ok.getr (z := 280) rfl (el_o rfl) rfl (ef_o rfl) (e_Has.eq hT (mt_o rfl)) ⟨by decide, by decide⟩ ?_
      refine e_Ok.ps1 (x := (0, p1)) (q := 17) 1 rfl ?_
      have h7 := (e_Has.get hH (c := 280) (k := p1) (lo := (-2147483648)) (hi := 2147483647) rfl (by decide))
      refine e_Ok.ald (z := w 280 p1) rfl (el_o rfl) rfl (by omega) rfl (e_bq h7 (by decide) (by decide)) ?_
      refine e_Ok.ps0 (q := 22) 1 rfl ?_
      refine e_Ok.rets rfl rfl ?_
      exact ⟨_, rfl, rfl⟩
  · refine e_Ok.nrm (q := 9) (st' := [(0, 0)]) rfl rfl ?_
    refine e_Ok.if1 rfl (fun h8 => ?_) (fun h8 => ?_)
    · replace h8 : (0 : Int) = 0 := h8
      refine e_Ok.ps1 (x := (0, (-1))) (q := 22) 1 rfl ?_
      refine e_Ok.rets rfl rfl ?_
      exact ⟨_, rfl, rfl⟩
    · replace h8 : (0 : Int) ≠ 0 := (show ¬ ((0 : Int) = 0) from h8)
      exfalso; omega
theorem c_444 {d : Nat} (hd : 23 ≤ d) {w : eW} (hT : e_Has mTy w) (hH : e_Has hTy w) {p1 p2 : Int} (g1 : (-2147483648) ≤ p1 ∧ p1 ≤ 2147483647) (g2 : (-2147483648) ≤ p2 ∧ p2 ≤ 2147483647) (hA : mAc w) : e_Ok 20 elay ecode eI d 444 (0, [(0, (1, 275)), (1, (0, p1)), (2, (0, p2))], [], w) (fun r w' => ∃ z : Int, r = [(0, z)] ∧ e_fr mQ w w') := by
  obtain ⟨d, rfl⟩ : ∃ e, d = e + 1 := ⟨d - 1, by omega⟩
  refine e_Ok.ps2 (x := (0, p1)) (y := (1, 275)) (q := 2) 2 rfl ?_
  refine e_Ok.callV rfl (e_dq hd rfl) rfl rfl rfl rfl (c_424 (e_dq hd rfl)) (fun r1 w2 h3 => ?_)
  obtain ⟨z4, rfl, rfl, q5⟩ := h3
  obtain ⟨rfl, q5⟩ | ⟨rfl, q5⟩ := q5
  · refine e_Ok.nrm (q := 5) (st' := [(0, 1)]) rfl rfl ?_
    refine e_Ok.if1 rfl (fun h6 => ?_) (fun h6 => ?_)
    · replace h6 : (1 : Int) = 0 := h6
      exfalso; omega
    · replace h6 : (1 : Int) ≠ 0 := (show ¬ ((1 : Int) = 0) from h6)
      refine e_Ok.ps3 (x := (4, 2)) (y := (4, 0)) (z := (4, p2)) (q := 14) 4 rfl ?_
      refine e_Ok.callS rfl (e_dq hd rfl) rfl rfl (c_266) (fun r7 w8 h9 => ?_)
      obtain ⟨z10, rfl, rfl, q11⟩ := h9
      obtain ⟨rfl, q11⟩ | ⟨rfl, q11⟩ := q11
      · refine e_Ok.nrm (q := 17) (st' := [(0, 1)]) rfl rfl ?_
        refine e_Ok.if1 rfl (fun h12 => ?_) (fun h12 => ?_)
        · replace h12 : (1 : Int) ≠ 0 := h12
          refine e_Ok.ps1 (x := (0, p2)) (q := 23) 1 rfl ?_
          refine e_Ok.if1 rfl (fun h13 => ?_) (fun h13 => ?_)
          · replace h13 : (p2 : Int) ≠ 0 := h13
            refine e_Ok.ps2 (x := (0, 1)) (y := (0, p2)) (q := 36) 2 rfl ?_
            refine e_Ok.if2 rfl (fun h14 => ?_) (fun h14 => ?_)
            · replace h14 : (p2 : Int) ≠ 1 := h14
              refine e_Ok.ps1 (x := (1, 275)) (q := 53) 1 rfl ?_
              refine e_Ok.getr (z := 276) rfl (el_o rfl) rfl (ef_o rfl) (e_Has.eq hT (mt_o rfl)) ⟨by decide, by decide⟩ ?_
              refine e_Ok.ps2 (x := (0, p1)) (y := (0, 352)) (q := 60) 2 rfl ?_
              refine e_Ok.add (z := p1 + 352) rfl (Int.add_comm _ _) (by omega) ?_
              have h15 := (e_Has.get hT (c := 276) (k := p1 + 352) (lo := (-2147483648)) (hi := 2147483647) (nR_RISES (p := p1) (by omega)) (by decide))
              refine e_Ok.ald (z := w 276 (p1 + 352)) rfl (el_o rfl) rfl (by omega) rfl (e_bq h15 (by decide) (by decide)) ?_
              refine e_Ok.rets rfl rfl ?_
              exact ⟨_, rfl, (e_fr.refl w)⟩
            · replace h14 : (p2 : Int) = 1 := Classical.not_not.mp (show ¬ ((p2 : Int) ≠ 1) from h14)
              refine e_Ok.ps1 (x := (1, 275)) (q := 40) 1 rfl ?_
              refine e_Ok.getr (z := 276) rfl (el_o rfl) rfl (ef_o rfl) (e_Has.eq hT (mt_o rfl)) ⟨by decide, by decide⟩ ?_
              refine e_Ok.ps2 (x := (0, p1)) (y := (0, 160)) (q := 47) 2 rfl ?_
              refine e_Ok.add (z := p1 + 160) rfl (Int.add_comm _ _) (by omega) ?_
              have h16 := (e_Has.get hT (c := 276) (k := p1 + 160) (lo := (-2147483648)) (hi := 2147483647) (nR_OWN (p := p1) (by omega)) (by decide))
              refine e_Ok.ald (z := w 276 (p1 + 160)) rfl (el_o rfl) rfl (by omega) rfl (e_bq h16 (by decide) (by decide)) ?_
              refine e_Ok.ps0 (q := 62) 1 rfl ?_
              refine e_Ok.rets rfl rfl ?_
              exact ⟨_, rfl, (e_fr.refl w)⟩
          · replace h13 : (p2 : Int) = 0 := Classical.not_not.mp (show ¬ ((p2 : Int) ≠ 0) from h13)
            refine e_Ok.ps2 (x := (0, p1)) (y := (1, 275)) (q := 28) 2 rfl ?_
            refine e_Ok.callV rfl (e_dq hd rfl) rfl rfl rfl rfl (c_320 hT hA (by omega)) (fun r17 w18 h19 => ?_)
            obtain ⟨z20, rfl, q21, q21a, q21b⟩ := h19
            refine e_Ok.nrm (q := 31) (st' := [(0, z20)]) rfl rfl ?_
            refine e_Ok.ps0 (q := 62) 1 rfl ?_
            refine e_Ok.rets rfl rfl ?_
            exact ⟨_, rfl, (show e_fr mQ w w18 from e_fr.trans (e_fr.refl w) (e_fr.mono q21 (fun c k q => by exact q)))⟩
        · replace h12 : (1 : Int) = 0 := Classical.not_not.mp (show ¬ ((1 : Int) ≠ 0) from h12)
          exfalso; omega
      · refine e_Ok.nrm (q := 17) (st' := [(0, 0)]) rfl rfl ?_
        refine e_Ok.if1 rfl (fun h23 => ?_) (fun h23 => ?_)
        · replace h23 : (0 : Int) ≠ 0 := h23
          exfalso; omega
        · replace h23 : (0 : Int) = 0 := Classical.not_not.mp (show ¬ ((0 : Int) ≠ 0) from h23)
          refine e_Ok.ps1 (x := (0, (-1))) (q := 21) 1 rfl ?_
          refine e_Ok.rets rfl rfl ?_
          exact ⟨_, rfl, (e_fr.refl w)⟩
  · refine e_Ok.nrm (q := 5) (st' := [(0, 0)]) rfl rfl ?_
    refine e_Ok.if1 rfl (fun h24 => ?_) (fun h24 => ?_)
    · replace h24 : (0 : Int) = 0 := h24
      refine e_Ok.ps1 (x := (0, (-1))) (q := 21) 1 rfl ?_
      refine e_Ok.rets rfl rfl ?_
      exact ⟨_, rfl, (e_fr.refl w)⟩
    · replace h24 : (0 : Int) ≠ 0 := (show ¬ ((0 : Int) = 0) from h24)
      exfalso; omega
end
end
-- part 72
section
noncomputable section
def mPL (c k : Int) : Prop := c = 321 ∨ c = 322 ∨ c = 324 ∨ c = 325 ∨ (c = 275 ∧ 58 ≤ k ∧ k ≤ 60)
theorem no_72_0 {t : Int} {k : Int} : ¬ mPt t 275 k := by unfold mPt; omega
theorem su_72_3 {t : Int} {c k : Int} (q : mPt t c k) : mP c k := by
  unfold mPt at q
  rcases q with ⟨(q | q), ⟨q, q⟩⟩
  · exact Or.inl (by omega)
  · exact Or.inr (by omega)
theorem c_440 {d : Nat} (hd : 24 ≤ d) {w : eW} (hT : e_Has mTy w) (hH : e_Has hTy w) {p1 p2 p3 : Int} (g1 : (-2147483648) ≤ p1 ∧ p1 ≤ 2147483647) (g2 : (-2147483648) ≤ p2 ∧ p2 ≤ 2147483647) (g3 : (-2147483648) ≤ p3 ∧ p3 ≤ 2147483647) : e_Ok 20 elay ecode eI d 440 (0, [(0, (1, 275)), (1, (0, p1)), (2, (0, p2)), (3, (0, p3))], [], w) (fun r w' => ∃ z : Int, r = [(0, z)] ∧ e_fr mP w w') := by
  obtain ⟨d, rfl⟩ : ∃ e, d = e + 1 := ⟨d - 1, by omega⟩
  refine e_Ok.ps2 (x := (0, p1)) (y := (1, 275)) (q := 2) 2 rfl ?_
  refine e_Ok.callV rfl (e_dq hd rfl) rfl rfl rfl rfl (c_270 (e_dq hd rfl) hT) (fun r1 w2 h3 => ?_)
  have h4 := e_Has.get hT (c := 275) (k := 10) (lo := 0) (hi := 4) (mt_o rfl) (by decide)
  obtain ⟨z5, rfl, rfl, q6⟩ := h3
  obtain ⟨rfl, q6⟩ | ⟨rfl, q6⟩ := q6
  · refine e_Ok.nrm (q := 5) (st' := [(0, 1)]) rfl rfl ?_
    refine e_Ok.if1 rfl (fun h7 => ?_) (fun h7 => ?_)
    · replace h7 : (1 : Int) = 0 := h7
      exfalso; omega
    · replace h7 : (1 : Int) ≠ 0 := (show ¬ ((1 : Int) = 0) from h7)
      refine e_Ok.ps3 (x := (1, 275)) (y := (4, 0)) (z := (4, p2)) (q := 12) 4 rfl ?_
      refine e_Ok.getr (z := 286) rfl (el_o rfl) rfl (ef_o rfl) (e_Has.eq hT (mt_o rfl)) ⟨by decide, by decide⟩ ?_
      refine e_Ok.ps1 (x := (0, p1)) (q := 16) 1 rfl ?_
      have h8 := (e_Has.get hT (c := 286) (k := p1) (lo := 0) (hi := 6) (mt_o rfl) (by decide))
      refine e_Ok.ald (z := w 286 p1) rfl (el_o rfl) rfl (by omega) rfl (e_bq h8 (by decide) (by decide)) ?_
      refine e_Ok.run (t' := (18, [(0, (1, 275)), (1, (0, p1)), (2, (0, p2)), (3, (0, p3))], [(4, w 286 p1), (4, 0), (4, p2)], w)) 1 rfl ?_
      refine e_Ok.callS rfl (e_dq hd rfl) rfl rfl (c_266) (fun r9 w10 h11 => ?_)
      obtain ⟨z12, rfl, rfl, q13⟩ := h11
      obtain ⟨rfl, q13⟩ | ⟨rfl, q13⟩ := q13
      · refine e_Ok.nrm (q := 21) (st' := [(0, 1)]) rfl rfl ?_
        refine e_Ok.if1 rfl (fun h14 => ?_) (fun h14 => ?_)
        · replace h14 : (1 : Int) = 0 := h14
          exfalso; omega
        · replace h14 : (1 : Int) ≠ 0 := (show ¬ ((1 : Int) = 0) from h14)
          refine e_Ok.ps3 (x := (4, 1)) (y := (4, 0)) (z := (4, p3)) (q := 28) 4 rfl ?_
          refine e_Ok.callS rfl (e_dq hd rfl) rfl rfl (c_266) (fun r15 w16 h17 => ?_)
          obtain ⟨z18, rfl, rfl, q19⟩ := h17
          obtain ⟨rfl, q19⟩ | ⟨rfl, q19⟩ := q19
          · refine e_Ok.nrm (q := 31) (st' := [(0, 1)]) rfl rfl ?_
            refine e_Ok.if1 rfl (fun h20 => ?_) (fun h20 => ?_)
            · replace h20 : (1 : Int) ≠ 0 := h20
              refine e_Ok.ps3 (x := (0, 0)) (y := (0, p1)) (z := (1, 275)) (q := 39) 3 rfl ?_
              refine e_Ok.callV rfl (e_dq hd rfl) rfl rfl rfl rfl (c_301_0 (e_dq hd rfl) hT (by omega)) (fun r21 w22 h23 => ?_)
              obtain ⟨rfl, q24, q24k⟩ := h23
              have f25 : e_fr mP w w22 := e_fr.trans (e_fr.refl w) (e_fr.mono q24 (fun c k q => by first | exact su_72_3 q | (unfold mPt at q; unfold mP; omega)))
              refine e_Ok.nrm (q := 42) (st' := []) rfl rfl ?_
              refine e_Ok.ps1 (x := (0, p3)) (q := 43) 1 rfl ?_
              refine e_Ok.if1 rfl (fun h26 => ?_) (fun h26 => ?_)
              · replace h26 : (p3 : Int) ≠ 0 := h26
                refine e_Ok.ps1 (x := (1, 275)) (q := 61) 1 rfl ?_
                refine e_Ok.getr (z := 322) rfl (el_o rfl) rfl (ef_o rfl) ((q24 275 56 (by first | exact no_72_0 | (unfold mPt; omega))).trans (e_Has.eq hT (mt_o rfl))) ⟨by decide, by decide⟩ ?_
                refine e_Ok.ps2 (x := (0, p1)) (y := (0, 7)) (q := 67) 2 rfl ?_
                refine e_Ok.mul (z := 7 * p1) rfl rfl (by omega) ?_
                refine e_Ok.ps1 (x := (0, p2)) (q := 69) 1 rfl ?_
                refine e_Ok.add (z := 7 * p1 + p2) rfl rfl (by omega) ?_
                have h27 := (q24k.2 (7 * p1 + p2) (by omega) (by omega))
                refine e_Ok.ald (z := w22 322 (7 * p1 + p2)) rfl (el_o rfl) rfl (by omega) rfl (by omega) ?_
                refine e_Ok.rets rfl rfl ?_
                exact ⟨_, rfl, f25⟩
              · replace h26 : (p3 : Int) = 0 := Classical.not_not.mp (show ¬ ((p3 : Int) ≠ 0) from h26)
                refine e_Ok.ps1 (x := (1, 275)) (q := 47) 1 rfl ?_
                refine e_Ok.getr (z := 321) rfl (el_o rfl) rfl (ef_o rfl) ((q24 275 55 (by first | exact no_72_0 | (unfold mPt; omega))).trans (e_Has.eq hT (mt_o rfl))) ⟨by decide, by decide⟩ ?_
                refine e_Ok.ps2 (x := (0, p1)) (y := (0, 7)) (q := 53) 2 rfl ?_
                refine e_Ok.mul (z := 7 * p1) rfl rfl (by omega) ?_
                refine e_Ok.ps1 (x := (0, p2)) (q := 55) 1 rfl ?_
                refine e_Ok.add (z := 7 * p1 + p2) rfl rfl (by omega) ?_
                have h28 := (q24k.1 (7 * p1 + p2) (by omega) (by omega))
                refine e_Ok.ald (z := w22 321 (7 * p1 + p2)) rfl (el_o rfl) rfl (by omega) rfl (by omega) ?_
                refine e_Ok.ps0 (q := 71) 1 rfl ?_
                refine e_Ok.rets rfl rfl ?_
                exact ⟨_, rfl, f25⟩
            · replace h20 : (1 : Int) = 0 := Classical.not_not.mp (show ¬ ((1 : Int) ≠ 0) from h20)
              exfalso; omega
          · refine e_Ok.nrm (q := 31) (st' := [(0, 0)]) rfl rfl ?_
            refine e_Ok.if1 rfl (fun h29 => ?_) (fun h29 => ?_)
            · replace h29 : (0 : Int) ≠ 0 := h29
              exfalso; omega
            · replace h29 : (0 : Int) = 0 := Classical.not_not.mp (show ¬ ((0 : Int) ≠ 0) from h29)
              refine e_Ok.ps1 (x := (0, (-1))) (q := 35) 1 rfl ?_
              refine e_Ok.rets rfl rfl ?_
              exact ⟨_, rfl, (e_fr.refl w)⟩
      · refine e_Ok.nrm (q := 21) (st' := [(0, 0)]) rfl rfl ?_
        refine e_Ok.if1 rfl (fun h30 => ?_) (fun h30 => ?_)
        · replace h30 : (0 : Int) = 0 := h30
          refine e_Ok.ps1 (x := (0, (-1))) (q := 35) 1 rfl ?_
          refine e_Ok.rets rfl rfl ?_
          exact ⟨_, rfl, (e_fr.refl w)⟩
        · replace h30 : (0 : Int) ≠ 0 := (show ¬ ((0 : Int) = 0) from h30)
          exfalso; omega
  · refine e_Ok.nrm (q := 5) (st' := [(0, 0)]) rfl rfl ?_
    refine e_Ok.if1 rfl (fun h31 => ?_) (fun h31 => ?_)
    · replace h31 : (0 : Int) = 0 := h31
      refine e_Ok.ps1 (x := (0, (-1))) (q := 35) 1 rfl ?_
      refine e_Ok.rets rfl rfl ?_
      exact ⟨_, rfl, (e_fr.refl w)⟩
    · replace h31 : (0 : Int) ≠ 0 := (show ¬ ((0 : Int) = 0) from h31)
      exfalso; omega
theorem no_72_1 {k : Int} : ¬ mP 286 k := by unfold mP; omega
theorem no_72_2 {k : Int} : ¬ mP 275 k := by unfold mP; omega
theorem su_72_4 {c k : Int} (q : mP c k) : mPL c k := by
  unfold mP at q
  rcases q with q | q
  · exact Or.inl (by omega)
  · exact Or.inr (Or.inl (by omega))
theorem su_72_5 {c k : Int} (q : mL c k) : mPL c k := by
  unfold mL at q
  rcases q with ⟨q, ⟨q, q⟩⟩ | q | q
  · exact Or.inr (Or.inr (Or.inr (Or.inr ⟨(by omega), ⟨(by omega), (by omega)⟩⟩)))
  · exact Or.inr (Or.inr (Or.inl (by omega)))
  · exact Or.inr (Or.inr (Or.inr (Or.inl (by omega))))
theorem c_318 {d : Nat} (hd : 27 ≤ d) {w : eW} (hT : e_Has mTy w) (hH : e_Has hTy w) {p1 p2 : Int} (g1 : (-2147483648) ≤ p1 ∧ p1 ≤ 2147483647) (g2 : (-2147483648) ≤ p2 ∧ p2 ≤ 2147483647) : e_Ok 20 elay ecode eI d 318 (0, [(0, (1, 275)), (1, (0, p1)), (2, (0, p2))], [], w) (fun r w' => ∃ z : Int, r = [(0, z)] ∧ e_fr mPL w w') := by
  obtain ⟨d, rfl⟩ : ∃ e, d = e + 1 := ⟨d - 1, by omega⟩
  refine e_Ok.ps2 (x := (0, p1)) (y := (1, 275)) (q := 2) 2 rfl ?_
  refine e_Ok.callV rfl (e_dq hd rfl) rfl rfl rfl rfl (c_270 (e_dq hd rfl) hT) (fun r1 w2 h3 => ?_)
  have h4 := e_Has.get hT (c := 275) (k := 10) (lo := 0) (hi := 4) (mt_o rfl) (by decide)
  obtain ⟨z5, rfl, rfl, q6⟩ := h3
  obtain ⟨rfl, q6⟩ | ⟨rfl, q6⟩ := q6
  · refine e_Ok.nrm (q := 5) (st' := [(0, 1)]) rfl rfl ?_
    refine e_Ok.if1 rfl (fun h7 => ?_) (fun h7 => ?_)
    · replace h7 : (1 : Int) = 0 := h7
      exfalso; omega
    · replace h7 : (1 : Int) ≠ 0 := (show ¬ ((1 : Int) = 0) from h7)
      refine e_Ok.ps3 (x := (4, 2000)) (y := (4, 0)) (z := (4, p2)) (q := 14) 4 rfl ?_
      refine e_Ok.callS rfl (e_dq hd rfl) rfl rfl (c_266) (fun r8 w9 h10 => ?_)
      obtain ⟨z11, rfl, rfl, q12⟩ := h10
      obtain ⟨rfl, q12⟩ | ⟨rfl, q12⟩ := q12
      · refine e_Ok.nrm (q := 17) (st' := [(0, 1)]) rfl rfl ?_
        refine e_Ok.if1 rfl (fun h13 => ?_) (fun h13 => ?_)
        · replace h13 : (1 : Int) ≠ 0 := h13
          refine e_Ok.ps1 (x := (1, 275)) (q := 23) 1 rfl ?_
          refine e_Ok.callV rfl (e_dq hd rfl) rfl rfl rfl rfl (c_302 (e_dq hd rfl) hT) (fun r14 w15 h16 => ?_)
          obtain ⟨rfl, q17, q17k⟩ := h16
          have lj : ∀ b, w15 286 b = w 286 b := fun b => q17 286 b no_72_1
          have la : w15 275 10 = w 275 10 := q17 275 10 no_72_2
          have kall : ∀ b, 0 ≤ b → b < w15 275 10 → e_pk2 w15 (7 * b) (w15 286 b) := fun b g1 g2 => by rw [lj]; exact q17k b g1 (by omega)
          refine e_Ok.nrm (q := 26) (st' := []) rfl rfl ?_
          refine e_Ok.ps4 (x := (0, p1)) (y := (0, 7)) (z := (0, p1)) (u := (1, 275)) (q := 31) 4 rfl ?_
          refine e_Ok.mul (z := 7 * p1) rfl rfl (by omega) ?_
          refine e_Ok.ps1 (x := (0, p2)) (q := 33) 1 rfl ?_
          refine e_Ok.callV rfl (e_dq hd rfl) rfl rfl rfl rfl (c_317 (e_dq hd rfl) (mT_P q17 hT) (by omega) (by omega) (kall p1 (by omega) (by omega)).1 (kall p1 (by omega) (by omega)).2 kall) (fun r19 w20 h21 => ?_)
          obtain ⟨z22, rfl, q23, q23a, q23b⟩ := h21
          have f24 : e_fr mPL w w20 := e_fr.trans (show e_fr mPL w w15 from e_fr.trans (e_fr.refl w) (e_fr.mono q17 (fun c k q => su_72_4 q))) (e_fr.mono q23 (fun c k q => su_72_5 q))
          refine e_Ok.nrm (q := 36) (st' := [(0, z22)]) rfl rfl ?_
          refine e_Ok.if1 rfl (fun h25 => ?_) (fun h25 => ?_)
          · replace h25 : (z22 : Int) = 0 := h25
            refine e_Ok.ps1 (x := (0, 0)) (q := 44) 1 rfl ?_
            refine e_Ok.rets rfl rfl ?_
            exact ⟨_, rfl, f24⟩
          · replace h25 : (z22 : Int) ≠ 0 := (show ¬ ((z22 : Int) = 0) from h25)
            refine e_Ok.ps1 (x := (0, 1)) (q := 44) 2 rfl ?_
            refine e_Ok.rets rfl rfl ?_
            exact ⟨_, rfl, f24⟩
        · replace h13 : (1 : Int) = 0 := Classical.not_not.mp (show ¬ ((1 : Int) ≠ 0) from h13)
          exfalso; omega
      · refine e_Ok.nrm (q := 17) (st' := [(0, 0)]) rfl rfl ?_
        refine e_Ok.if1 rfl (fun h26 => ?_) (fun h26 => ?_)
        · replace h26 : (0 : Int) ≠ 0 := h26
          exfalso; omega
        · replace h26 : (0 : Int) = 0 := Classical.not_not.mp (show ¬ ((0 : Int) ≠ 0) from h26)
          refine e_Ok.ps1 (x := (0, (-1))) (q := 21) 1 rfl ?_
          refine e_Ok.rets rfl rfl ?_
          exact ⟨_, rfl, (e_fr.refl w)⟩
  · refine e_Ok.nrm (q := 5) (st' := [(0, 0)]) rfl rfl ?_
    refine e_Ok.if1 rfl (fun h27 => ?_) (fun h27 => ?_)
    · replace h27 : (0 : Int) = 0 := h27
      refine e_Ok.ps1 (x := (0, (-1))) (q := 21) 1 rfl ?_
      refine e_Ok.rets rfl rfl ?_
      exact ⟨_, rfl, (e_fr.refl w)⟩
    · replace h27 : (0 : Int) ≠ 0 := (show ¬ ((0 : Int) = 0) from h27)
      exfalso; omega
theorem c_422 {d : Nat} (hd : 23 ≤ d) {w : eW} (hT : e_Has mTy w) (hH : e_Has hTy w) : e_Ok 20 elay ecode eI d 422 (0, [(0, (1, 275))], [], w) (fun r w' => ∃ z : Int, r = [(0, z)] ∧ w = w') := by
  refine e_Ok.ps1 (x := (1, 275)) (q := 1) 1 rfl ?_
  have h1 := (e_Has.get hH (c := 275) (k := 5) (lo := 0) (hi := 2000) rfl (by decide))
  refine e_Ok.getf (z := w 275 5) rfl (el_o rfl) rfl (ef_o rfl) rfl (e_bq h1 (by decide) (by decide)) ?_
  refine e_Ok.ps1 (x := (0, 2000)) (q := 7) 1 rfl ?_
  refine e_Ok.if2 rfl (fun h2 => ?_) (fun h2 => ?_)
  · replace h2 : (w 275 5 : Int) ≠ 2000 := h2
    refine e_Ok.ps1 (x := (0, 0)) (q := 22) 1 rfl ?_
    refine e_Ok.rets rfl rfl ?_
    exact ⟨_, rfl, rfl⟩
  · replace h2 : (w 275 5 : Int) = 2000 := Classical.not_not.mp (show ¬ ((w 275 5 : Int) ≠ 2000) from h2)
    refine e_Ok.ps1 (x := (1, 275)) (q := 11) 1 rfl ?_
    have h3 := (e_Has.get hH (c := 275) (k := 6) (lo := 0) (hi := 1) rfl (by decide))
    refine e_Ok.getf (z := w 275 6) rfl (el_o rfl) rfl (ef_o rfl) rfl (e_bq h3 (by decide) (by decide)) ?_
    refine e_Ok.if1 rfl (fun h4 => ?_) (fun h4 => ?_)
    · replace h4 : (w 275 6 : Int) ≠ 0 := h4
      refine e_Ok.ps1 (x := (0, 0)) (q := 22) 1 rfl ?_
      refine e_Ok.rets rfl rfl ?_
      exact ⟨_, rfl, rfl⟩
    · replace h4 : (w 275 6 : Int) = 0 := Classical.not_not.mp (show ¬ ((w 275 6 : Int) ≠ 0) from h4)
      refine e_Ok.ps1 (x := (0, 1)) (q := 22) 2 rfl ?_
      refine e_Ok.rets rfl rfl ?_
      exact ⟨_, rfl, rfl⟩
end
end
