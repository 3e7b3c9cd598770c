noncomputable section
/-! how far a joint goes until it rests: d, d - g, d - 2 g .. as far as above 0, together -/
def rW (g d : Int) : Int := (d + g - 1) / g * d - g * ((d + g - 1) / g * ((d + g - 1) / g - 1) / 2)
theorem rW_small {g d : Int} (hg : 1 ≤ g) (h0 : 0 ≤ d) (h1 : d ≤ g) : rW g d = d := by
  unfold rW
  by_cases e : d = 0
  · subst e
    rw [show (0 : Int) + g - 1 = g - 1 by omega, Int.ediv_eq_zero_of_lt (by omega) (by omega)]
    simp
  · have : (d + g - 1) / g = 1 := by
      rw [show d + g - 1 = (d - 1) + 1 * g by omega, Int.add_mul_ediv_right _ _ (by omega), Int.ediv_eq_zero_of_lt (by omega) (by omega)]
      rfl
    rw [this]
    simp
theorem rW_tri (m : Int) : (m + 1) * (m + 1 - 1) / 2 = m * (m - 1) / 2 + m := by
  have e : (m + 1) * (m + 1 - 1) = m * (m - 1) + m * 2 := by
    rw [show m + 1 - 1 = m by omega, Int.add_mul, Int.mul_sub]
    omega
  rw [e, Int.add_mul_ediv_right _ _ (by omega)]
theorem rW_step {g d : Int} (hg : 1 ≤ g) (h : g < d) : rW g d = d + rW g (d - g) := by
  unfold rW
  have e : (d + g - 1) / g = (d - g + g - 1) / g + 1 := by
    rw [show d + g - 1 = (d - g + g - 1) + 1 * g by omega, Int.add_mul_ediv_right _ _ (by omega)]
  rw [e]
  generalize (d - g + g - 1) / g = m
  have e2 : m * (d - g) = m * d - m * g := Int.mul_sub m d g
  have e3 : g * (m * (m - 1) / 2 + m) = g * (m * (m - 1) / 2) + m * g := by rw [Int.mul_add, Int.mul_comm g m]
  have e4 : (m + 1) * d = m * d + d := by rw [Int.add_mul, Int.one_mul]
  rw [rW_tri, e2, e3, e4]
  omega
theorem rW_ge {g : Int} (hg : 1 ≤ g) : ∀ (n : Nat) (d : Int), d ≤ n → 0 ≤ d → d ≤ rW g d := by
  intro n
  induction n with
  | zero => intro d h1 h2; rw [rW_small hg h2 (by omega)]; exact Int.le_refl d
  | succ n ih =>
    intro d h1 h2
    by_cases h : d ≤ g
    · rw [rW_small hg h2 h]; exact Int.le_refl d
    · have := ih (d - g) (by omega) (by omega)
      rw [rW_step hg (by omega)]
      omega
theorem rW_le {g d : Int} (hg : 1 ≤ g) (h : 0 ≤ d) : d ≤ rW g d := rW_ge hg d.toNat d (by omega) h
/-- the joint a, j goes as its limits allow: with the step s at the value v, within lo .. hi; 1: to the goal -/
def joOk (st v s goal lo hi g : Int) : Prop :=
  (lo ≤ v ∧ v ≤ hi) ∧ (st = 0 → s = 0) ∧ (st = 1 → (lo ≤ goal ∧ goal ≤ hi) ∧ (0 ≤ s → 0 < s → rW g s - s ≤ goal - v) ∧ (s < 0 → rW g (-s) + s ≤ v - goal)) ∧ (st = 2 → (0 ≤ s → v + (rW g s - s) ≤ hi) ∧ (s ≤ 0 → lo ≤ v - (rW g (-s) + s)))
/-- one tick of a move: the step d is the greatest that still comes to rest at the goal -/
theorem joOk.go1 {v s goal lo hi g d : Int} (hg : 1 ≤ g) (h : joOk 1 v s goal lo hi g) (hd : (0 ≤ d ∧ (d = 0 ∨ rW g d ≤ goal - v)) ∨ (d ≤ 0 ∧ (d = 0 ∨ rW g (-d) ≤ v - goal))) : joOk 1 (v + d) d goal lo hi g := by
  obtain ⟨h1, -, h3, -⟩ := h
  obtain ⟨h4, -, -⟩ := h3 rfl
  refine ⟨?_, by omega, fun _ => ⟨h4, fun q1 q2 => ?_, fun q => ?_⟩, by omega⟩
  · rcases hd with ⟨k1, k2 | k2⟩ | ⟨k1, k2 | k2⟩
    · omega
    · have := rW_le hg k1; omega
    · omega
    · have := rW_le hg (show 0 ≤ -d by omega); omega
  · rcases hd with ⟨k1, k2 | k2⟩ | ⟨k1, k2 | k2⟩ <;> omega
  · rcases hd with ⟨k1, k2 | k2⟩ | ⟨k1, k2 | k2⟩ <;> omega
/-- a move is broken: it brakes -/
theorem joOk.brake {v s goal lo hi g : Int} (hg : 1 ≤ g) (h : joOk 1 v s goal lo hi g) : joOk 2 v s goal lo hi g := by
  obtain ⟨h1, -, h3, -⟩ := h
  obtain ⟨h4, h5, h6⟩ := h3 rfl
  refine ⟨h1, by omega, by omega, fun _ => ⟨fun q => ?_, fun q => ?_⟩⟩
  · by_cases e : s = 0
    · rw [e, rW_small hg (by omega) (by omega)]; omega
    · have := h5 q (by omega); omega
  · by_cases e : s = 0
    · rw [e, show -(0 : Int) = 0 by omega, rW_small hg (by omega) (by omega)]; omega
    · have := h6 (by omega); omega
/-- one tick of braking -/
theorem joOk.slow {v s goal lo hi g d : Int} (hg : 1 ≤ g) (h : joOk 2 v s goal lo hi g) (hd : (g < s ∧ d = s - g) ∨ (s < -g ∧ d = s + g) ∨ (-g ≤ s ∧ s ≤ g ∧ d = 0)) : joOk 2 (v + d) d goal lo hi g := by
  obtain ⟨h1, -, -, h3⟩ := h
  obtain ⟨h5, h6⟩ := h3 rfl
  have z0 : rW g 0 = 0 := rW_small hg (by omega) (by omega)
  rcases hd with ⟨k1, k2⟩ | ⟨k1, k2⟩ | ⟨k1, k2, k3⟩
  · have e := rW_step hg k1
    have q := h5 (by omega)
    have l := rW_le hg (show 0 ≤ s - g by omega)
    rw [← k2] at e l
    refine ⟨by omega, by omega, by omega, fun _ => ⟨fun _ => by omega, fun q2 => by omega⟩⟩
  · have e := rW_step hg (show g < -s by omega)
    have q := h6 (by omega)
    have l := rW_le hg (show 0 ≤ -s - g by omega)
    rw [show -s - g = -d by omega] at e l
    refine ⟨by omega, by omega, by omega, fun _ => ⟨fun q2 => by omega, fun _ => by omega⟩⟩
  · subst k3
    refine ⟨by omega, by omega, by omega, fun _ => ⟨fun _ => by rw [z0]; omega, fun _ => by rw [show -(0 : Int) = 0 by omega, z0]; omega⟩⟩
theorem rW_bd {g d : Int} (hg : 1 ≤ g ∧ g ≤ 2000) (hd : 0 ≤ d ∧ d ≤ 2000) (z : Int) (hz : z = (d + g - 1) / g) : (0 ≤ z ∧ z ≤ 2000) ∧ (0 ≤ z * d ∧ z * d ≤ 4000000) ∧ (0 ≤ z * (z - 1) ∧ z * (z - 1) ≤ 4000000) ∧ ∀ q, q = z * (z - 1) / 2 → (0 ≤ q ∧ q ≤ 2000000) ∧ (0 ≤ g * q ∧ g * q ≤ 4000000000) ∧ rW g d = z * d - g * q := by
  have h1 : 0 ≤ z := by rw [hz]; exact Int.ediv_nonneg (by omega) (by omega)
  have h2 : z ≤ 2000 := by
    have : z < 2001 := by
      rw [hz]
      refine Int.ediv_lt_of_lt_mul (by omega) ?_
      have := Int.mul_le_mul_of_nonneg_left (show 1 ≤ g from hg.1) (show (0 : Int) ≤ 2001 by decide)
      by_cases e : d = 0
      · omega
      · have h3 : 2000 * 1 ≤ 2000 * g := Int.mul_le_mul_of_nonneg_left hg.1 (by decide)
        omega
    omega
  have m1 : z * d ≤ 2000 * 2000 := Int.mul_le_mul h2 hd.2 hd.1 (by decide)
  have m0 : 0 ≤ z * d := Int.mul_nonneg h1 hd.1
  have n0 : 0 ≤ z * (z - 1) := by
    by_cases e : z = 0
    · rw [e]; decide
    · exact Int.mul_nonneg h1 (by omega)
  have n1 : z * (z - 1) ≤ 4000000 := by
    by_cases e : z = 0
    · rw [e]; decide
    · have : z * (z - 1) ≤ 2000 * 2000 := Int.mul_le_mul h2 (by omega) (by omega) (by decide)
      omega
  refine ⟨⟨h1, h2⟩, ⟨m0, by omega⟩, ⟨n0, n1⟩, fun q hq => ?_⟩
  have q0 : 0 ≤ q := by omega
  have q1 : q ≤ 2000000 := by omega
  have g1 : g * q ≤ 2000 * 2000000 := Int.mul_le_mul hg.2 q1 q0 (by decide)
  have g0 : 0 ≤ g * q := Int.mul_nonneg (by omega) q0
  refine ⟨⟨q0, q1⟩, ⟨g0, by omega⟩, ?_⟩
  unfold rW
  rw [← hz, ← hq]
section E65
variable {fd : Nat} {lay : List eY} {code : Nat → Nat → eE} {I : Nat → xM} {d M nx a b p : Nat} {l : eL} {r : List eV} {w : eW} {Q : List eV → eW → Prop}
theorem e_Ok.ldivn {x y : Int} (h : ∀ z, z = x / y → e_Ok fd lay code I d M (nx, l, (4, z) :: r, w) Q) (hc : code M p = (0, ei_binL eG_div nx, a, b)) (hx : 0 ≤ x ∧ x ≤ 9223372036854775807) (hy : 0 < y) : e_Ok fd lay code I d M (p, l, (4, y) :: (4, x) :: r, w) Q := by
  refine e_Ok.step hc ?_ (h _ rfl)
  have e : eG_div x y = some (4, x / y) := by
    unfold eG_div
    rw [decide_eq_false (by omega), Int.tdiv_eq_ediv_of_nonneg hx.1]
    have h1 : 0 ≤ x / y := Int.ediv_nonneg hx.1 (by omega)
    have h2 : x / y ≤ x := Int.ediv_le_self y hx.1
    rw [e64_id (by omega) (by omega)]
    rfl
  show (match eG_div x y with | some z => _ | none => none) = _
  rw [e]
end E65
end
