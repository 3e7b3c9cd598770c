noncomputable section
/-! names get their numbers -/
def cntN (w : eW) (k : Int) : Nat → Int
  | 0 => 0
  | m + 1 => cntN w k m + (if w 341 (m : Int) = k then 1 else 0)
/-- how many of the first m names are of the kind k -/
def cntK (w : eW) (k m : Int) : Int := cntN w k m.toNat
theorem cntK_zero (w : eW) (k : Int) : cntK w k 0 = 0 := rfl
theorem cntK_next (w : eW) (k : Int) {m : Int} (hm : 0 ≤ m) : cntK w k (m + 1) = cntK w k m + (if w 341 m = k then 1 else 0) := by
  unfold cntK
  rw [show (m + 1).toNat = m.toNat + 1 by omega]
  show cntN w k m.toNat + (if w 341 ((m.toNat : Nat) : Int) = k then 1 else 0) = _
  rw [show ((m.toNat : Nat) : Int) = m by omega]
theorem cntK_yes {w : eW} {k m : Int} (hm : 0 ≤ m) (h : w 341 m = k) : cntK w k (m + 1) = cntK w k m + 1 := by rw [cntK_next w k hm, if_pos h]
theorem cntK_no {w : eW} {k m : Int} (hm : 0 ≤ m) (h : w 341 m ≠ k) : cntK w k (m + 1) = cntK w k m := by rw [cntK_next w k hm, if_neg h]; omega
theorem cntN_nn (w : eW) (k : Int) : ∀ m, 0 ≤ cntN w k m
  | 0 => Int.le_refl 0
  | m + 1 => by
    have := cntN_nn w k m
    show 0 ≤ cntN w k m + (if w 341 (m : Int) = k then 1 else 0)
    by_cases c : w 341 (m : Int) = k
    · rw [if_pos c]; omega
    · rw [if_neg c]; omega
theorem cntK_nn (w : eW) (k m : Int) : 0 ≤ cntK w k m := cntN_nn w k _
theorem cntN_le (w : eW) (k : Int) (m : Nat) : ∀ j, cntN w k m ≤ cntN w k (m + j)
  | 0 => Int.le_refl _
  | j + 1 => by
    have := cntN_le w k m j
    show cntN w k m ≤ cntN w k (m + j) + (if w 341 ((m + j : Nat) : Int) = k then 1 else 0)
    by_cases c : w 341 ((m + j : Nat) : Int) = k
    · rw [if_pos c]; omega
    · rw [if_neg c]; omega
theorem cntK_le {w : eW} {k m m' : Int} (h0 : 0 ≤ m) (h : m ≤ m') : cntK w k m ≤ cntK w k m' := by
  unfold cntK
  rw [show m'.toNat = m.toNat + (m' - m).toNat by omega]
  exact cntN_le w k _ _
theorem cntK_lt {w : eW} {k m m' : Int} (h0 : 0 ≤ m) (h : m < m') (hk : w 341 m = k) : cntK w k m < cntK w k m' := by
  have h1 := cntK_yes h0 hk
  have h2 := cntK_le (w := w) (k := k) (m := m + 1) (m' := m') (by omega) (by omega)
  omega
theorem cntN_eq {w w' : eW} (e : ∀ m, w' 341 m = w 341 m) (k : Int) : ∀ m, cntN w' k m = cntN w k m
  | 0 => rfl
  | m + 1 => by
    show cntN w' k m + (if w' 341 (m : Int) = k then 1 else 0) = cntN w k m + (if w 341 (m : Int) = k then 1 else 0)
    rw [cntN_eq e k m, e]
theorem cntK_eq {w w' : eW} (e : ∀ m, w' 341 m = w 341 m) (k m : Int) : cntK w' k m = cntK w k m := cntN_eq e k _
def mRsv (c k : Int) : Prop := (c = 329 ∧ 40000 ≤ k) ∨ (c = 337 ∧ 128 ≤ k) ∨ ((c = 338 ∨ c = 339) ∧ k = 4) ∨ (c = 275 ∧ (k = 88 ∨ k = 89))
/-- the names up to i are known by their numbers -/
def RS (w v : eW) (n mm i : Int) : Prop := (v 339 4 = cntK w 0 i ∧ cntK w 0 i ≤ 32) ∧ (v 338 4 = cntK w 1 i ∧ cntK w 1 i ≤ 32) ∧ (∀ m, 0 ≤ m → m < i → w 341 m ≠ 4) ∧
  (∀ m, 0 ≤ m → m < i → w 341 m = 2 ∨ w 341 m = 3 → 0 ≤ v 329 (w 344 m + 40000) ∧ v 329 (w 344 m + 40000) < cntK w (w 341 m - 2) mm) ∧
  (∀ q, 0 ≤ q → q < cntK w 1 i → ∃ m, 0 ≤ m ∧ m < i ∧ w 341 m = 1 ∧ v 337 (q + 128) = w 344 m) ∧
  (∀ p, 0 ≤ p → p < n → ¬ (w 328 (p + 40000) = 2 ∨ w 328 (p + 40000) = 31 ∨ w 328 (p + 40000) = 38 ∨ w 328 (p + 40000) = 39 ∨ w 328 (p + 40000) = 44) → v 329 (p + 40000) = w 329 (p + 40000))
theorem RS.zero {w : eW} (n mm : Int) (h1 : w 339 4 = 0) (h2 : w 338 4 = 0) : RS w w n mm 0 := by
  refine ⟨⟨by rw [cntK_zero]; exact h1, by rw [cntK_zero]; decide⟩, ⟨by rw [cntK_zero]; exact h2, by rw [cntK_zero]; decide⟩, fun m g1 g2 => by omega, fun m g1 g2 => by omega, fun q g1 g2 => ?_, fun p _ _ _ => rfl⟩
  rw [cntK_zero] at g2
  omega
/-- a variable is told -/
theorem RS.var {w v v' : eW} {n mm i : Int} (h : RS w v n mm i) (hi : 0 ≤ i) (hk : w 341 i = 0) (hv : v' 339 4 = v 339 4 + 1) (h32 : v 339 4 ≠ 32) (ho : ∀ c k, c = 329 ∨ c = 337 ∨ c = 338 → v' c k = v c k) : RS w v' n mm (i + 1) := by
  obtain ⟨q1, q2, q3, q4, q5, q6⟩ := h
  unfold RS
  rw [cntK_yes hi hk, cntK_no (k := 1) hi (by omega), ho 338 4 (by omega)]
  refine ⟨by omega, q2, fun m g1 g2 => ?_, fun m g1 g2 g3 => ?_, fun q g1 g2 => ?_, fun p g1 g2 g3 => by rw [ho 329 _ (by omega)]; exact q6 p g1 g2 g3⟩
  · by_cases c : m = i
    · rw [c]; omega
    · exact q3 m g1 (by omega)
  · have c : m ≠ i := fun c => by rw [c] at g3; omega
    rw [ho 329 _ (by omega)]
    exact q4 m g1 (by omega) g3
  · obtain ⟨m, m1, m2, m3, m4⟩ := q5 q g1 g2
    exact ⟨m, m1, by omega, m3, by rw [ho 337 _ (by omega)]; exact m4⟩
/-- a routine is told -/
theorem RS.rou {w v v' : eW} {n mm i : Int} (h : RS w v n mm i) (hi : 0 ≤ i) (hk : w 341 i = 1) (hv : v' 338 4 = v 338 4 + 1) (h7 : v' 337 (v 338 4 + 128) = w 344 i) (h32 : v 338 4 ≠ 32) (ho : ∀ c k, c = 329 ∨ (c = 337 ∧ k ≠ v 338 4 + 128) ∨ c = 339 → v' c k = v c k) : RS w v' n mm (i + 1) := by
  obtain ⟨q1, q2, q3, q4, q5, q6⟩ := h
  have hn := cntK_nn w 1 i
  unfold RS
  rw [cntK_yes hi hk, cntK_no (k := 0) hi (by omega), ho 339 4 (by omega)]
  refine ⟨q1, by omega, fun m g1 g2 => ?_, fun m g1 g2 g3 => ?_, fun q g1 g2 => ?_, fun p g1 g2 g3 => by rw [ho 329 _ (by omega)]; exact q6 p g1 g2 g3⟩
  · by_cases c : m = i
    · rw [c]; omega
    · exact q3 m g1 (by omega)
  · have c : m ≠ i := fun c => by rw [c] at g3; omega
    rw [ho 329 _ (by omega)]
    exact q4 m g1 (by omega) g3
  · by_cases c : q = v 338 4
    · exact ⟨i, hi, by omega, hk, by rw [c]; exact h7⟩
    · obtain ⟨m, m1, m2, m3, m4⟩ := q5 q g1 (by omega)
      exact ⟨m, m1, by omega, m3, by rw [ho 337 _ (by omega)]; exact m4⟩
/-- a name that is used -/
theorem RS.use {w v v' : eW} {n mm i z : Int} (h : RS w v n mm i) (hi : 0 ≤ i ∧ i < mm) (hk : w 341 i = 2 ∨ w 341 i = 3) (hK : nK w n mm (fun _ => False)) (hw : e_up v 329 (w 344 i + 40000) z = v') (hz : 0 ≤ z ∧ z < cntK w (w 341 i - 2) mm) : RS w v' n mm (i + 1) := by
  obtain ⟨q1, q2, q3, q4, q5, q6⟩ := h
  have ho : ∀ c k, c ≠ 329 ∨ k ≠ w 344 i + 40000 → v' c k = v c k := fun c k g => by rw [← hw]; exact e_up_ne _ _ g
  have hv : v' 329 (w 344 i + 40000) = z := by rw [← hw]; exact e_up_eq _ _ _ _
  have hki := (hK i hi.1 hi.2 hk).resolve_left (fun y => y)
  unfold RS
  rw [cntK_no (k := 0) hi.1 (by omega), cntK_no (k := 1) hi.1 (by omega), ho 339 4 (by omega), ho 338 4 (by omega)]
  refine ⟨q1, q2, fun m g1 g2 => ?_, fun m g1 g2 g3 => ?_, fun q g1 g2 => ?_, fun p g1 g2 g3 => ?_⟩
  · by_cases c : m = i
    · rw [c]; omega
    · exact q3 m g1 (by omega)
  · by_cases c : w 344 m = w 344 i
    · rw [c, hv]
      have hkm := (hK m g1 (by omega) g3).resolve_left (fun y => y)
      obtain ⟨a1, a2, a3⟩ := hki
      obtain ⟨b1, b2, b3⟩ := hkm
      rw [c] at b2 b3
      have e : w 341 m = w 341 i := by
        rcases hk with hk | hk <;> rcases g3 with g3 | g3
        · omega
        · have := a2 hk; have := b3 g3; omega
        · have := a3 hk; have := b2 g3; omega
        · omega
      rw [e]
      exact hz
    · have c2 : m ≠ i := fun c2 => c (by rw [c2])
      rw [ho 329 _ (Or.inr (by omega))]
      exact q4 m g1 (by omega) g3
  · obtain ⟨m, m1, m2, m3, m4⟩ := q5 q g1 g2
    exact ⟨m, m1, by omega, m3, by rw [ho 337 _ (by omega)]; exact m4⟩
  · rw [ho 329 _ (Or.inr (fun c => g3 (by
      have e : p = w 344 i := by omega
      rw [e]
      rcases hk with hk | hk
      · have := hki.2.1 hk; omega
      · have := hki.2.2 hk; omega)))]
    exact q6 p g1 g2 g3
/-- all names are known: what the program needs -/
theorem RS.all {w v : eW} {N n mm : Int} (h : RS w v n mm mm) (hN : NM w N n mm) {p : Int} (h1 : 0 ≤ p) (h2 : p < n) : (w 328 (p + 40000) = 2 ∨ w 328 (p + 40000) = 31 → 0 ≤ v 329 (p + 40000) ∧ v 329 (p + 40000) ≤ 31) ∧ (w 328 (p + 40000) = 38 ∨ w 328 (p + 40000) = 39 ∨ w 328 (p + 40000) = 44 → 0 ≤ v 329 (p + 40000) ∧ v 329 (p + 40000) < v 338 4) := by
  obtain ⟨q1, q2, q3, q4, q5, q6⟩ := h
  obtain ⟨r1, r2, -⟩ := hN.2 p h1 h2
  refine ⟨fun g => ?_, fun g => ?_⟩
  · obtain ⟨m, m1, m2, m3, m4⟩ := r1 g
    have := q4 m m1 m2 (Or.inl m3)
    rw [m4, m3, show (2 : Int) - 2 = 0 by decide] at this
    omega
  · obtain ⟨m, m1, m2, m3, m4⟩ := r2 g
    have := q4 m m1 m2 (Or.inr m3)
    rw [m4, m3, show (3 : Int) - 2 = 1 by decide] at this
    omega
end
