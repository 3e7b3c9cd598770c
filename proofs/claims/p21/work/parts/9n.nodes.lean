noncomputable section
/-! numbers of nodes: a node's digits -/
def prd (f : Int → Int) : Nat → Int
  | 0 => 1
  | n + 1 => prd f n * f n
def dv (f : Int → Int) (x : Int) : Nat → Int
  | 0 => x
  | k + 1 => dv f x k / f k
theorem prd_pos {f : Int → Int} : ∀ {n : Nat}, (∀ k : Int, 0 ≤ k → k < n → 1 ≤ f k) → 1 ≤ prd f n
  | 0, _ => Int.le_refl 1
  | n + 1, h => by
    have h1 := prd_pos (n := n) (fun k g1 g2 => h k g1 (by omega))
    have h2 := h n (by omega) (by omega)
    show 1 ≤ prd f n * f n
    have := Int.mul_le_mul h1 h2 (by decide) (by omega)
    omega
theorem prd_le {f : Int → Int} {m : Nat} : ∀ {n : Nat}, m ≤ n → (∀ k : Int, 0 ≤ k → k < n → 1 ≤ f k) → prd f m ≤ prd f n
  | 0, hm, _ => by rw [Nat.le_zero.mp hm]; exact Int.le_refl _
  | n + 1, hm, h => by
    rcases Nat.lt_or_ge m (n + 1) with g | g
    · have h1 := prd_le (m := m) (n := n) (by omega) (fun k g1 g2 => h k g1 (by omega))
      have h0 := prd_pos (n := n) (fun k g1 g2 => h k g1 (by omega))
      have h2 := h n (by omega) (by omega)
      have : prd f n * 1 ≤ prd f n * f n := Int.mul_le_mul_of_nonneg_left h2 (by omega)
      show prd f m ≤ prd f n * f n
      omega
    · rw [show m = n + 1 by omega]; exact Int.le_refl _
theorem dv_eq {f : Int → Int} {x : Int} : ∀ {n : Nat}, (∀ k : Int, 0 ≤ k → k < n → 1 ≤ f k) → dv f x n = x / prd f n
  | 0, _ => by show x = x / 1; rw [Int.ediv_one]
  | n + 1, h => by
    have h0 := prd_pos (n := n) (fun k g1 g2 => h k g1 (by omega))
    show dv f x n / f n = x / (prd f n * f n)
    rw [dv_eq (n := n) (fun k g1 g2 => h k g1 (by omega)), Int.ediv_ediv_of_nonneg (by omega)]
/-- the node beside: one more in the digit j -/
theorem dv_up {f : Int → Int} {x : Int} {j : Nat} (h : ∀ k : Int, 0 ≤ k → k < j → 1 ≤ f k) : dv f (x + prd f j) j = dv f x j + 1 := by
  have h0 := prd_pos h
  rw [dv_eq h, dv_eq h, Int.add_ediv_of_dvd_right ⟨1, by omega⟩, Int.ediv_self (by omega)]
theorem dv_room {f : Int → Int} {x : Int} {j n : Nat} (hj : j < n) (h : ∀ k : Int, 0 ≤ k → k < n → 1 ≤ f k) (hx : 0 ≤ x ∧ x < prd f n) (hd : dv f x j % f j + 1 < f j) : x + prd f j < prd f n := by
  have hjj : ∀ k : Int, 0 ≤ k → k < j → 1 ≤ f k := fun k g1 g2 => h k g1 (by omega)
  have h0 := prd_pos hjj
  have hf := h j (by omega) (by omega)
  -- x lies below the next multiple of prd f (j + 1), which is at most prd f n
  have hM : prd f (j + 1) = prd f j * f j := rfl
  have hM1 : 1 ≤ prd f (j + 1) := prd_pos (fun k g1 g2 => h k g1 (by omega))
  rw [dv_eq hjj] at hd
  -- prd f n is a multiple of prd f (j + 1)
  have hdiv : ∀ m : Nat, j + 1 ≤ m → ∃ c, prd f m = prd f (j + 1) * c := by
    intro m
    induction m with
    | zero => intro g; omega
    | succ m ih =>
      intro g
      rcases Nat.lt_or_ge (j + 1) (m + 1) with q | q
      · obtain ⟨c, hc⟩ := ih (by omega)
        exact ⟨c * f m, by show prd f m * f m = _; rw [hc, Int.mul_assoc]⟩
      · exact ⟨1, by rw [show m + 1 = j + 1 by omega, Int.mul_one]⟩
  obtain ⟨c, hc⟩ := hdiv n hj
  -- q = x / prd f (j + 1) < c
  have e1 := Int.mul_ediv_add_emod x (prd f j)
  have e2 := Int.mul_ediv_add_emod (x / prd f j) (f j)
  have b1 := Int.emod_lt_of_pos x (show 0 < prd f j by omega)
  have b2 := Int.emod_nonneg x (show prd f j ≠ 0 by omega)
  have hq : x / prd f j / f j < c := by
    rw [Int.ediv_ediv_of_nonneg (by omega), ← hM]
    refine Int.ediv_lt_of_lt_mul (by omega) ?_
    rw [Int.mul_comm]
    omega
  have h3 : x / prd f j + 2 ≤ f j * c := by
    have : f j * (x / prd f j / f j + 1) ≤ f j * c := Int.mul_le_mul_of_nonneg_left (by omega) (by omega)
    rw [Int.mul_add, Int.mul_one] at this
    omega
  have h4 : prd f j * (x / prd f j + 2) ≤ prd f j * (f j * c) := Int.mul_le_mul_of_nonneg_left h3 (by omega)
  rw [← Int.mul_assoc, ← hM, ← hc, Int.mul_add] at h4
  omega
theorem dv_low {f : Int → Int} {x : Int} {j : Nat} (h : ∀ k : Int, 0 ≤ k → k < j → 1 ≤ f k) (hx : 0 ≤ x) (hf : 1 ≤ f j) (hd : 0 < dv f x j % f j) : 0 ≤ x - prd f j := by
  have h0 := prd_pos h
  rw [dv_eq h] at hd
  by_cases e : x < prd f j
  · rw [Int.ediv_eq_zero_of_lt hx e, Int.zero_emod] at hd
    omega
  · omega
end
