noncomputable section
/-! numbers of nodes, for the class's planner -/
def kpr (f : Int → Int) : Nat → Int
  | 0 => 1
  | n + 1 => kpr f n * f n
def kdv (f : Int → Int) (x : Int) : Nat → Int
  | 0 => x
  | k + 1 => kdv f x k / f k
theorem kprp {f : Int → Int} : ∀ {n : Nat}, (∀ k : Int, 0 ≤ k → k < n → 1 ≤ f k) → 1 ≤ kpr f n
  | 0, _ => Int.le_refl 1
  | n + 1, h => by
    have h1 := kprp (n := n) (fun k g1 g2 => h k g1 (by omega))
    have h2 := h n (by omega) (by omega)
    show 1 ≤ kpr f n * f n
    have := Int.mul_le_mul h1 h2 (by decide) (by omega)
    omega
theorem kprl {f : Int → Int} {m : Nat} : ∀ {n : Nat}, m ≤ n → (∀ k : Int, 0 ≤ k → k < n → 1 ≤ f k) → kpr f m ≤ kpr f n
  | 0, hm, _ => by rw [Nat.le_zero.mp hm]; exact Int.le_refl _
  | n + 1, hm, h => by
    rcases Nat.lt_or_ge m (n + 1) with g | g
    · have h1 := kprl (m := m) (n := n) (by omega) (fun k g1 g2 => h k g1 (by omega))
      have h0 := kprp (n := n) (fun k g1 g2 => h k g1 (by omega))
      have h2 := h n (by omega) (by omega)
      have : kpr f n * 1 ≤ kpr f n * f n := Int.mul_le_mul_of_nonneg_left h2 (by omega)
      show kpr f m ≤ kpr f n * f n
      omega
    · rw [show m = n + 1 by omega]; exact Int.le_refl _
theorem kdve {f : Int → Int} {x : Int} : ∀ {n : Nat}, (∀ k : Int, 0 ≤ k → k < n → 1 ≤ f k) → kdv f x n = x / kpr f n
  | 0, _ => by show x = x / 1; rw [Int.ediv_one]
  | n + 1, h => by
    have h0 := kprp (n := n) (fun k g1 g2 => h k g1 (by omega))
    show kdv f x n / f n = x / (kpr f n * f n)
    rw [kdve (n := n) (fun k g1 g2 => h k g1 (by omega)), Int.ediv_ediv_of_nonneg (by omega)]
/-- the node beside: one more in the digit j -/
theorem kdvu {f : Int → Int} {x : Int} {j : Nat} (h : ∀ k : Int, 0 ≤ k → k < j → 1 ≤ f k) : kdv f (x + kpr f j) j = kdv f x j + 1 := by
  have h0 := kprp h
  rw [kdve h, kdve h, Int.add_ediv_of_dvd_right ⟨1, by omega⟩, Int.ediv_self (by omega)]
theorem kdvr {f : Int → Int} {x : Int} {j n : Nat} (hj : j < n) (h : ∀ k : Int, 0 ≤ k → k < n → 1 ≤ f k) (hx : 0 ≤ x ∧ x < kpr f n) (hd : kdv f x j % f j + 1 < f j) : x + kpr f j < kpr f n := by
  have hjj : ∀ k : Int, 0 ≤ k → k < j → 1 ≤ f k := fun k g1 g2 => h k g1 (by omega)
  have h0 := kprp hjj
  have hf := h j (by omega) (by omega)
  -- x lies below the next multiple of kpr f (j + 1), which is at most kpr f n
  have hM : kpr f (j + 1) = kpr f j * f j := rfl
  have hM1 : 1 ≤ kpr f (j + 1) := kprp (fun k g1 g2 => h k g1 (by omega))
  rw [kdve hjj] at hd
  -- kpr f n is a multiple of kpr f (j + 1)
  have hdiv : ∀ m : Nat, j + 1 ≤ m → ∃ c, kpr f m = kpr f (j + 1) * c := by
    intro m
    induction m with
    | zero => intro g; omega
    | succ m ih =>
      intro g
      rcases Nat.lt_or_ge (j + 1) (m + 1) with q | q
      · obtain ⟨c, hc⟩ := ih (by omega)
        exact ⟨c * f m, by show kpr f m * f m = _; rw [hc, Int.mul_assoc]⟩
      · exact ⟨1, by rw [show m + 1 = j + 1 by omega, Int.mul_one]⟩
  obtain ⟨c, hc⟩ := hdiv n hj
  -- q = x / kpr f (j + 1) < c
  have e1 := Int.mul_ediv_add_emod x (kpr f j)
  have e2 := Int.mul_ediv_add_emod (x / kpr f j) (f j)
  have b1 := Int.emod_lt_of_pos x (show 0 < kpr f j by omega)
  have b2 := Int.emod_nonneg x (show kpr f j ≠ 0 by omega)
  have hq : x / kpr f j / f j < c := by
    rw [Int.ediv_ediv_of_nonneg (by omega), ← hM]
    refine Int.ediv_lt_of_lt_mul (by omega) ?_
    rw [Int.mul_comm]
    omega
  have h3 : x / kpr f j + 2 ≤ f j * c := by
    have : f j * (x / kpr f j / f j + 1) ≤ f j * c := Int.mul_le_mul_of_nonneg_left (by omega) (by omega)
    rw [Int.mul_add, Int.mul_one] at this
    omega
  have h4 : kpr f j * (x / kpr f j + 2) ≤ kpr f j * (f j * c) := Int.mul_le_mul_of_nonneg_left h3 (by omega)
  rw [← Int.mul_assoc, ← hM, ← hc, Int.mul_add] at h4
  omega
theorem kdvl {f : Int → Int} {x : Int} {j : Nat} (h : ∀ k : Int, 0 ≤ k → k < j → 1 ≤ f k) (hx : 0 ≤ x) (hf : 1 ≤ f j) (hd : 0 < kdv f x j % f j) : 0 ≤ x - kpr f j := by
  have h0 := kprp h
  rw [kdve h] at hd
  by_cases e : x < kpr f j
  · rw [Int.ediv_eq_zero_of_lt hx e, Int.zero_emod] at hd
    omega
  · omega
def kdg (f : Int → Int) (x : Int) (j : Nat) : Int := kdv f x j % f j
theorem kpm {f : Int → Int} {j : Nat} : ∀ {n : Nat}, j ≤ n → ∃ c, kpr f n = kpr f j * c
  | 0, h => ⟨1, by rw [show j = 0 by omega, Int.mul_one]⟩
  | n + 1, h => by
    rcases Nat.lt_or_ge j (n + 1) with g | g
    · obtain ⟨c, hc⟩ := kpm (f := f) (n := n) (by omega : j ≤ n)
      exact ⟨c * f n, by show kpr f n * f n = _; rw [hc, Int.mul_assoc]⟩
    · exact ⟨1, by rw [show n + 1 = j by omega, Int.mul_one]⟩
theorem kdgi {f : Int → Int} {x : Int} {j : Nat} (h : 1 ≤ f j) : 0 ≤ kdg f x j ∧ kdg f x j < f j := ⟨Int.emod_nonneg _ (by omega), Int.emod_lt_of_pos _ (by omega)⟩
theorem kdgu {f : Int → Int} {x : Int} {n j i : Nat} (hj : j < n) (hi : i < n) (h : ∀ k : Int, 0 ≤ k → k < n → 1 ≤ f k) (hd : kdg f x j + 1 < f j) : kdg f (x + kpr f j) i = if i = j then kdg f x j + 1 else kdg f x i := by
  have hpj : ∀ m : Nat, m ≤ n → ∀ k : Int, 0 ≤ k → k < m → 1 ≤ f k := fun m hm k g1 g2 => h k g1 (by omega)
  have hfj := h j (by omega) (by omega)
  have hfi := h i (by omega) (by omega)
  have up := kdvu (f := f) (x := x) (j := j) (hpj j (by omega))
  have b1 := kdgi (x := x) hfj
  rcases Nat.lt_trichotomy i j with g | g | g
  · rw [if_neg (by omega)]
    unfold kdg
    rw [kdve (hpj i (by omega)), kdve (hpj i (by omega))]
    obtain ⟨c, hc⟩ := kpm (f := f) (j := i + 1) (n := j) g
    have h0 := kprp (hpj i (by omega))
    rw [hc, show kpr f (i + 1) = kpr f i * f i from rfl, Int.mul_assoc, Int.add_mul_ediv_left _ _ (by omega), Int.add_mul_emod_self_left]
  · rw [if_pos g, g]
    unfold kdg
    rw [up]
    unfold kdg at hd b1
    have e := Int.mul_ediv_add_emod (kdv f x j) (f j)
    rw [show kdv f x j + 1 = (kdv f x j % f j + 1) + f j * (kdv f x j / f j) by omega, Int.add_mul_emod_self_left, Int.emod_eq_of_lt (by omega) hd]
  · rw [if_neg (by omega)]
    have hk : ∀ m : Nat, j + 1 ≤ m → kdv f (x + kpr f j) m = kdv f x m := by
      intro m
      induction m with
      | zero => intro g; omega
      | succ m ih =>
        intro g2
        show kdv f (x + kpr f j) m / f m = kdv f x m / f m
        rcases Nat.lt_or_ge j m with q | q
        · rw [ih (by omega)]
        · rw [show m = j by omega, up]
          unfold kdg at hd b1
          have e := Int.mul_ediv_add_emod (kdv f x j) (f j)
          rw [show kdv f x j + 1 = (kdv f x j % f j + 1) + f j * (kdv f x j / f j) by omega, Int.add_mul_ediv_left _ _ (by omega), Int.ediv_eq_zero_of_lt (by omega) hd, Int.zero_add]
    unfold kdg
    rw [hk i g]
def ksm (f d : Int → Int) : Nat → Int
  | 0 => 0
  | n + 1 => ksm f d n + kpr f n * d n
theorem ksmi {f d : Int → Int} : ∀ {n : Nat}, (∀ k : Int, 0 ≤ k → k < n → 0 ≤ d k ∧ d k < f k) → 0 ≤ ksm f d n ∧ ksm f d n < kpr f n
  | 0, _ => by show (0 : Int) ≤ 0 ∧ (0 : Int) < 1; omega
  | n + 1, h => by
    have h1 := ksmi (n := n) (fun k g1 g2 => h k g1 (by omega))
    have h2 := h n (by omega) (by omega)
    show 0 ≤ ksm f d n + kpr f n * d n ∧ ksm f d n + kpr f n * d n < kpr f n * f n
    have h3 : 0 ≤ kpr f n * d n := Int.mul_nonneg (by omega) h2.1
    have h4 : kpr f n * (d n + 1) ≤ kpr f n * f n := Int.mul_le_mul_of_nonneg_left (by omega) (by omega)
    rw [Int.mul_add, Int.mul_one] at h4
    omega
theorem ksmd {f d : Int → Int} {j : Nat} : ∀ {n : Nat}, j < n → (∀ k : Int, 0 ≤ k → k < n → 0 ≤ d k ∧ d k < f k) → kdg f (ksm f d n) j = d j
  | 0, h, _ => by omega
  | n + 1, hj, h => by
    have hp : ∀ m : Nat, m ≤ n + 1 → ∀ k : Int, 0 ≤ k → k < m → 1 ≤ f k := fun m hm k g1 g2 => by have := h k g1 (by omega); omega
    have h0 := kprp (hp j (by omega))
    have hs := ksmi (f := f) (d := d) (n := j) (fun k g1 g2 => h k g1 (by omega))
    have hd := h j (by omega) (by omega)
    rcases Nat.lt_or_ge j n with g | g
    · have ih := ksmd (n := n) g (fun k g1 g2 => h k g1 (by omega))
      unfold kdg at ih ⊢
      rw [kdve (hp j (by omega))] at ih ⊢
      show (ksm f d n + kpr f n * d n) / kpr f j % f j = d j
      obtain ⟨c, hc⟩ := kpm (f := f) (j := j + 1) (n := n) g
      rw [hc, show kpr f (j + 1) = kpr f j * f j from rfl, Int.mul_assoc (kpr f j), Int.mul_assoc (kpr f j), Int.add_mul_ediv_left _ _ (by omega), Int.mul_assoc, Int.add_mul_emod_self_left]
      exact ih
    · rw [show n = j by omega]
      unfold kdg
      rw [kdve (hp j (by omega))]
      show (ksm f d j + kpr f j * d j) / kpr f j % f j = d j
      rw [Int.add_mul_ediv_left _ _ (by omega), Int.ediv_eq_zero_of_lt hs.1 hs.2, Int.zero_add, Int.emod_eq_of_lt hd.1 hd.2]
def kln (f : Int → Int) (x y s : Int) : Prop := (s % 2 = 0 ∧ y = x + kpr f (s / 2).toNat ∧ kdg f x (s / 2).toNat + 1 < f (s / 2)) ∨ (s % 2 = 1 ∧ y = x - kpr f (s / 2).toNat ∧ 0 < kdg f x (s / 2).toNat)
theorem kln.in {f : Int → Int} {x y s : Int} {n : Nat} (h : kln f x y s) (hs : 0 ≤ s ∧ s < 2 * n) (hf : ∀ k : Int, 0 ≤ k → k < n → 1 ≤ f k) (hx : 0 ≤ x ∧ x < kpr f n) : 0 ≤ y ∧ y < kpr f n := by
  have e : (((s / 2).toNat : Nat) : Int) = s / 2 := by omega
  have hp := kprp (f := f) (n := (s / 2).toNat) (fun k g1 g2 => hf k g1 (by omega))
  rcases h with ⟨h1, rfl, h3⟩ | ⟨h1, rfl, h3⟩
  · rw [← e] at h3
    have := kdvr (f := f) (x := x) (j := (s / 2).toNat) (n := n) (by omega) hf hx h3
    omega
  · have := kdvl (f := f) (x := x) (j := (s / 2).toNat) (fun k g1 g2 => hf k g1 (by omega)) hx.1 (hf _ (by omega) (by omega)) h3
    omega
def kfl (s : Int) : Int := if s % 2 = 0 then s + 1 else s - 1
theorem kln.back {f : Int → Int} {x y s : Int} {n : Nat} (h : kln f x y s) (hs : 0 ≤ s ∧ s < 2 * n) (hf : ∀ k : Int, 0 ≤ k → k < n → 1 ≤ f k) : kln f y x (kfl s) := by
  have e : (((s / 2).toNat : Nat) : Int) = s / 2 := by omega
  have hfj := hf (s / 2) (by omega) (by omega)
  unfold kfl
  rcases h with ⟨h1, rfl, h3⟩ | ⟨h1, rfl, h3⟩
  · rw [if_pos h1]
    refine Or.inr ⟨by omega, ?_, ?_⟩
    · rw [show (s + 1) / 2 = s / 2 by omega]; omega
    · rw [show (s + 1) / 2 = s / 2 by omega, kdgu (n := n) (j := (s / 2).toNat) (by omega) (by omega) hf (by rw [e]; exact h3), if_pos rfl]
      have := kdgi (f := f) (x := x) (j := (s / 2).toNat) (by rw [e]; exact hfj)
      omega
  · rw [if_neg (by omega)]
    refine Or.inl ⟨by omega, ?_, ?_⟩
    · rw [show (s - 1) / 2 = s / 2 by omega]; omega
    · rw [show (s - 1) / 2 = s / 2 by omega]
      have hi := kdgi (f := f) (x := x) (j := (s / 2).toNat) (by rw [e]; exact hfj)
      have hp : ∀ k : Int, 0 ≤ k → k < ((s / 2).toNat : Nat) → 1 ≤ f k := fun k g1 g2 => hf k g1 (by omega)
      -- the digit of x - kpr is one less
      have up := kdvu (f := f) (x := x - kpr f (s / 2).toNat) (j := (s / 2).toNat) hp
      rw [Int.sub_add_cancel] at up
      unfold kdg at h3 hi ⊢
      rw [e] at h3 hi ⊢
      have q1 := Int.mul_ediv_add_emod (kdv f x (s / 2).toNat) (f (s / 2))
      rw [show kdv f (x - kpr f (s / 2).toNat) (s / 2).toNat = (kdv f x (s / 2).toNat % f (s / 2) - 1) + f (s / 2) * (kdv f x (s / 2).toNat / f (s / 2)) by omega, Int.add_mul_emod_self_left, Int.emod_eq_of_lt (by omega) (by omega)]
      omega
theorem kfli {s n : Int} (hs : 0 ≤ s ∧ s < 2 * n) : 0 ≤ kfl s ∧ kfl s < 2 * n := by unfold kfl; split <;> omega
theorem kln.dgt {f : Int → Int} {x y s : Int} {n i : Nat} (h : kln f x y s) (hs : 0 ≤ s ∧ s < 2 * n) (hi : i < n) (hf : ∀ k : Int, 0 ≤ k → k < n → 1 ≤ f k) : (s = 2 * i → kdg f y i = kdg f x i + 1) ∧ (s = 2 * i + 1 → kdg f y i = kdg f x i - 1) ∧ (s ≠ 2 * i → s ≠ 2 * i + 1 → kdg f y i = kdg f x i) := by
  have e : (((s / 2).toNat : Nat) : Int) = s / 2 := by omega
  have hb := h.back hs hf
  rcases h with ⟨h1, rfl, h3⟩ | ⟨h1, h2, h3⟩
  · rw [kdgu (n := n) (j := (s / 2).toNat) (by omega) hi hf (by rw [e]; exact h3)]
    refine ⟨fun g => ?_, fun g => by omega, fun g1 g2 => ?_⟩
    · rw [if_pos (by omega), show (s / 2).toNat = i by omega]
    · rw [if_neg (by omega)]
  · unfold kfl at hb
    rw [if_neg (by omega)] at hb
    rcases hb with ⟨b1, b2, b3⟩ | ⟨b1, -, -⟩
    · rw [show (s - 1) / 2 = s / 2 by omega] at b2 b3
      have u := kdgu (f := f) (x := y) (n := n) (j := (s / 2).toNat) (i := i) (by omega) hi hf (by rw [e]; exact b3)
      rw [← b2] at u
      refine ⟨fun g => by omega, fun g => ?_, fun g1 g2 => ?_⟩
      · rw [if_pos (by omega), show (s / 2).toNat = i by omega] at u; omega
      · rw [if_neg (by omega)] at u; omega
    · omega
/-! the planner: its plan, its search -/
theorem krd {x y : Int} (hx : -1000000 ≤ x ∧ x ≤ 1000000) (hy : 1 ≤ y) : (-1000000 ≤ x.tdiv y ∧ x.tdiv y ≤ 1000000) ∧ (-1000000 ≤ x.tdiv y * y ∧ x.tdiv y * y ≤ 1000000) := by
  by_cases h : 0 ≤ x
  · rw [Int.tdiv_eq_ediv_of_nonneg h]
    have h1 : 0 ≤ x / y := Int.ediv_nonneg h (by omega)
    have h2 : x / y ≤ x := Int.ediv_le_self y h
    have h3 : x / y * y ≤ x := Int.ediv_mul_le x (by omega)
    have h4 : 0 ≤ x / y * y := Int.mul_nonneg h1 (by omega)
    omega
  · have e : x.tdiv y = -((-x) / y) := by
      rw [← Int.tdiv_eq_ediv_of_nonneg (by omega), Int.neg_tdiv, Int.neg_neg]
    rw [e, Int.neg_mul]
    have h1 : 0 ≤ (-x) / y := Int.ediv_nonneg (by omega) (by omega)
    have h2 : (-x) / y ≤ -x := Int.ediv_le_self y (by omega)
    have h3 : (-x) / y * y ≤ -x := Int.ediv_mul_le (-x) (by omega)
    have h4 : 0 ≤ (-x) / y * y := Int.mul_nonneg h1 (by omega)
    omega
theorem kag {v lo hi n a first down up nodes q : Int} (hn : 1 ≤ n) (hv : lo ≤ v ∧ v ≤ hi) (hd : down = (v - lo) / n) (hu : up = (hi - v) / n) (hf : first = v - down * n) (hN : nodes = down + up + 1) (ha : lo ≤ a ∧ a ≤ hi) (hq : a - first = q * n) : 0 ≤ q ∧ q < nodes := by
  have e1 := Int.mul_ediv_add_emod (v - lo) n
  have e2 := Int.mul_ediv_add_emod (hi - v) n
  have b1 := Int.emod_lt_of_pos (v - lo) (show 0 < n by omega)
  have b2 := Int.emod_nonneg (v - lo) (show n ≠ 0 by omega)
  have b3 := Int.emod_lt_of_pos (hi - v) (show 0 < n by omega)
  have b4 := Int.emod_nonneg (hi - v) (show n ≠ 0 by omega)
  rw [← hd, Int.mul_comm] at e1
  rw [← hu, Int.mul_comm] at e2
  have h1 : -n < q * n := by omega
  have h2 : q * n < (down + up + 1) * n := by rw [Int.add_mul, Int.add_mul, Int.one_mul]; omega
  constructor
  · by_cases g : 0 ≤ q
    · exact g
    · exfalso
      have : q * n ≤ (-1) * n := Int.mul_le_mul_of_nonneg_right (by omega) (by omega)
      omega
  · rw [hN]
    exact Int.lt_of_mul_lt_mul_right h2 (by omega)
theorem kvg {v lo hi n first down up nodes d : Int} (hn : 1 ≤ n) (hv : lo ≤ v ∧ v ≤ hi) (hd : down = (v - lo) / n) (hu : up = (hi - v) / n) (hf : first = v - down * n) (hN : nodes = down + up + 1) (h : 0 ≤ d ∧ d < nodes) : lo ≤ first + n * d ∧ first + n * d ≤ hi := by
  have e1 := Int.mul_ediv_add_emod (v - lo) n
  have e2 := Int.mul_ediv_add_emod (hi - v) n
  have b2 := Int.emod_nonneg (v - lo) (show n ≠ 0 by omega)
  have b4 := Int.emod_nonneg (hi - v) (show n ≠ 0 by omega)
  rw [← hd, Int.mul_comm] at e1
  rw [← hu, Int.mul_comm] at e2
  have h1 : 0 ≤ n * d := Int.mul_nonneg (by omega) h.1
  have h2 : n * d ≤ n * (down + up) := Int.mul_le_mul_of_nonneg_left (by omega) (by omega)
  rw [Int.mul_add, Int.mul_comm n down, Int.mul_comm n up] at h2
  omega
theorem kpb {f : Int → Int} {m j : Int} (hm : 0 ≤ m) (hj : 0 ≤ j ∧ j ≤ m) (hN : ∀ k, 0 ≤ k → k < m → 1 ≤ f k ∧ f k ≤ 200001) (hP : kpr f m.toNat ≤ 1000) : 1 ≤ kpr f j.toNat ∧ kpr f j.toNat ≤ 1000 := by
  have h1 := kprp (f := f) (n := j.toNat) (fun k g1 g2 => (hN k g1 (by omega)).1)
  have h2 := kprl (f := f) (m := j.toNat) (n := m.toNat) (by omega) (fun k g1 g2 => (hN k g1 (by omega)).1)
  omega
section D9r
variable {fd : Nat} {lay : List eY} {code : Nat → Nat → eE} {I : Nat → xM} {d M p : Nat} {l : eL} {w : eW} {Q : List eV → eW → Prop} {a b : Nat}
theorem e_Ok.kremd {nx : Nat} {r : List eV} {x y : Int} (hc : code M p = (0, ei_bin eF_rem nx, a, b)) (hx : -1000000 ≤ x ∧ x ≤ 1000000) (hy : 1 ≤ y) (h : ∀ z, (z = 0 ↔ ∃ q, x = q * y) → -2147483648 ≤ z → z ≤ 2147483647 → e_Ok fd lay code I d M (nx, l, (0, z) :: r, w) Q) : e_Ok fd lay code I d M (p, l, (0, y) :: (0, x) :: r, w) Q := by
  have hb := krd hx hy
  have e : eF_rem x y = some (e32 (x - x.tdiv y * y)) := by
    unfold eF_rem
    rw [decide_eq_false (by omega), e32_id (z := x.tdiv y) (by omega) (by omega), e32_id (z := x.tdiv y * y) (by omega) (by omega)]
    rfl
  refine e_Ok.step hc ?_ (h (e32 (x - x.tdiv y * y)) ⟨fun q => ?_, fun q => ?_⟩ (e32_in _).1 (e32_in _).2)
  · show (match eF_rem x y with | some z => _ | none => none) = _
    rw [e]
  · rw [e32_id (by omega) (by omega)] at q
    exact ⟨x.tdiv y, by omega⟩
  · obtain ⟨q, rfl⟩ := q
    rw [Int.mul_tdiv_cancel q (by omega), Int.sub_self]
    exact e32_id (by decide) (by decide)
theorem e_Ok.divq {nx : Nat} {r : List eV} {x y q : Int} (hc : code M p = (0, ei_bin eF_div nx, a, b)) (hx : -1000000 ≤ x ∧ x ≤ 1000000) (hy : 1 ≤ y) (hq : x = q * y) (h : e_Ok fd lay code I d M (nx, l, (0, q) :: r, w) Q) : e_Ok fd lay code I d M (p, l, (0, y) :: (0, x) :: r, w) Q := by
  have hb := krd hx hy
  have e0 : x.tdiv y = q := by rw [hq]; exact Int.mul_tdiv_cancel q (by omega)
  have e : eF_div x y = some q := by
    unfold eF_div
    rw [decide_eq_false (by omega), e0, e32_id (by omega) (by omega)]
    rfl
  refine e_Ok.step hc ?_ h
  show (match eF_div x y with | some z => _ | none => none) = _
  rw [e]
end D9r
theorem kpr_cg {f g : Int → Int} : ∀ {n : Nat}, (∀ k : Int, 0 ≤ k → k < n → f k = g k) → kpr f n = kpr g n
  | 0, _ => rfl
  | n + 1, h => by
    show kpr f n * f n = kpr g n * g n
    rw [kpr_cg (n := n) (fun k g1 g2 => h k g1 (by omega)), h n (by omega) (by omega)]
theorem ksm_cg {f g d e : Int → Int} : ∀ {n : Nat}, (∀ k : Int, 0 ≤ k → k < n → f k = g k ∧ d k = e k) → ksm f d n = ksm g e n
  | 0, _ => rfl
  | n + 1, h => by
    show ksm f d n + kpr f n * d n = ksm g e n + kpr g n * e n
    rw [ksm_cg (n := n) (fun k g1 g2 => h k g1 (by omega)), (h n (by omega) (by omega)).2, kpr_cg (n := n) (fun k g1 g2 => (h k g1 (by omega)).1)]
end
